/-! a text's commands, one behind another -/
theorem doC_t {txt : Nat → Nat} {n a : Nat} {S : St} (h : (okP txt n a).1 = true) : doC txt n a S = prf (txt a) (rW1 txt n a) (rW2 txt n a) (txt (a + 1) - 48) S := by unfold doC; rw [h]; rfl
theorem doC_f {txt : Nat → Nat} {n a : Nat} {S : St} (h : (okP txt n a).1 = false) : doC txt n a S = (1, (okP txt n a).2 - a, S) := by unfold doC; rw [h]; rfl
theorem rW2_vw {txt : Nat → Nat} {n a : Nat} (ha : a < n) (hk : txt a = 43) (q : (okP txt n a).1 = true) : vw 13 (rW2 txt n a) := by
  refine rd_vw ?_
  rw [okP_43 hk] at q
  cases hp : psB txt n (rd txt n 13 (a + 1)).2.2 62 with
  | true => have := (of_decide_eq_true hp).1; omega
  | false => rw [hp] at q; cases q
theorem addC_0 {S : St} {a b : Nat} (h : (addC S a b).1 = 0) : (addC S a b).2.1 = 0 := by
  revert h
  unfold addC
  repeat' split
  all_goals (intro h; first | rfl | (cases h))
theorem doC_c0 {txt : Nat → Nat} {n a : Nat} {S : St} (h : (doC txt n a S).1 = 0) : (doC txt n a S).2.1 = 0 := by
  revert h
  unfold doC prf
  rw [sl_eq]
  by_cases h1 : (okP txt n a).1 = true
  · rw [if_pos h1]
    by_cases h2 : txt a = 43
    · rw [if_pos h2]; exact addC_0
    · rw [if_neg h2]
      repeat' split
      all_goals (intro h; first | rfl | (cases h))
  · rw [if_neg h1]; intro h; cases h
theorem prf_lt {k a b d : Nat} {S : St} : (prf k a b d S).1 ≤ 3 := by
  unfold prf
  rw [sl_eq]
  unfold addC
  repeat (first | (split; skip) | (show _ ≤ 3; first | decide | omega))

theorem hi_X5_run_X5 : ∀ w ∈ u_ws RX5 TX5 4, w ∈ wsX5_run := by decide +kernel
theorem hi_X5_run_X8 : ∀ w ∈ u_ws RX8 TX8 7, w ∈ wsX5_run := by decide +kernel
set_option maxHeartbeats 8000000 in
set_option maxRecDepth 100000 in
theorem k_X5_run (lY : Launch) (D : va_G) (cA : Nat → ClassId) (Bs Bt B Bd : Nat → Nat) (dn ps rn cs : Int32) (txt : Nat → Nat) (n : Nat) (CH : Nat → Int32) (at1 kd fw sw dg : Int32) (S : St) (L R LL RL TM WW NN : Nat → Int32) (WD RD : Nat → Int32) (oc ns rs : Int32) (hI : IV S) (hr : rRu S L R LL RL TM) (ho : rSo S WW NN) (ht : rTx txt n CH) : MetV lY D cA yX5_run wsX5_run 5 127 0 0 [.ref (Bs 0), .ref (Bt 0), .ref (B 0), .ref (Bd 0)] (gSc cA Bs dn ps rn cs ++ gTx cA Bt CH (nI n) at1 kd fw sw dg ++ gSa cA B (nI (S 0)) (nI (S 2)) (nI (S 4)) (nI (S 5)) L R LL RL TM (nI (S 1)) WW NN (nI (S 3)) ++ gRd cA Bd WD RD oc ns rs) (fun wY => ∃ (L' : Nat → Int32) (R' : Nat → Int32) (LL' : Nat → Int32) (RL' : Nat → Int32) (TM' : Nat → Int32) (WW' : Nat → Int32) (NN' : Nat → Int32) (WD' : Nat → Int32) (RD' : Nat → Int32) (oc' : Int32) (ns' : Int32) (rs' : Int32) (at2 : Int32) (kd2 : Int32) (fw2 : Int32) (sw2 : Int32) (dg2 : Int32), wY = gSc cA Bs (nI ((runT txt n S).2.2.2.1)) (nI ((runT txt n S).2.2.1)) (nI ((runT txt n S).1)) (nI ((runT txt n S).2.1)) ++ gTx cA Bt CH (nI n) at2 kd2 fw2 sw2 dg2 ++ gSa cA B (nI (((runT txt n S).2.2.2.2) 0)) (nI (((runT txt n S).2.2.2.2) 2)) (nI (((runT txt n S).2.2.2.2) 4)) (nI (((runT txt n S).2.2.2.2) 5)) L' R' LL' RL' TM' (nI (((runT txt n S).2.2.2.2) 1)) WW' NN' (nI (((runT txt n S).2.2.2.2) 3)) ++ gRd cA Bd WD' RD' oc' ns' rs' ∧ (rRu ((runT txt n S).2.2.2.2) L' R' LL' RL' TM') ∧ (rSo ((runT txt n S).2.2.2.2) WW' NN')) := by
  refine MetV.of (cc := cX5_run) (maxL := 5) (by decide) rfl (Nat.le_of_ble_eq_true rfl) ?_
  intro pY eY sY mY aY bY tY cY QY AY ls h0 hP hK hN hD hA hS hl hin hret
  obtain ⟨hx, hb, hml, hown, hts⟩ := id h0
  have hl : lv_has ls 5 [(0, .ref (Bs 0)), (1, .ref (Bt 0)), (2, .ref (B 0)), (3, .ref (Bd 0))] := hl
  have hP : va_P D vwCl (gSc cA Bs dn ps rn cs ++ gTx cA Bt CH (nI n) at1 kd fw sw dg ++ gSa cA B (nI (S 0)) (nI (S 2)) (nI (S 4)) (nI (S 5)) L R LL RL TM (nI (S 1)) WW NN (nI (S 3)) ++ gRd cA Bd WD RD oc ns rs) sY.heap := hP
  have hD : va_D AY (gSc cA Bs dn ps rn cs ++ gTx cA Bt CH (nI n) at1 kd fw sw dg ++ gSa cA B (nI (S 0)) (nI (S 2)) (nI (S 4)) (nI (S 5)) L R LL RL TM (nI (S 1)) WW NN (nI (S 3)) ++ gRd cA Bd WD RD oc ns rs) := hD
  have hn80 := ht.1
  refine lv_aload_n hx hb dX5_run_0 rfl (lv_at hl 0 rfl) ?_
  refine lv_iconst (v := nI 0) hx hb dX5_run_1 (by decide +kernel) ?_
  refine va_put (D := D) (ci := 5) (v := .int (nI 0)) (ty := .int) (C := RX5) (T := TX5) (N := 4) hx hb hts hi_X5_run_X5 tyX5 tyX5_ok nmX5 hown hK hP hD hS 0 rfl rfl 0 (by decide) (hts (.fieldLink RX5 9 "FallingWords$Script" "done" "I") (by decide +kernel)) (fun _ h9 => h9) rfl (by decide +kernel) rfl rfl (Nat.le_of_ble_eq_true rfl) dX5_run_2 (fun H locs hP hD hS => ?_)
  have hP : va_P D vwCl (gSc cA Bs (nI 0) ps rn cs ++ gTx cA Bt CH (nI n) at1 kd fw sw dg ++ gSa cA B (nI (S 0)) (nI (S 2)) (nI (S 4)) (nI (S 5)) L R LL RL TM (nI (S 1)) WW NN (nI (S 3)) ++ gRd cA Bd WD RD oc ns rs) H := hP
  have hD : va_D AY (gSc cA Bs (nI 0) ps rn cs ++ gTx cA Bt CH (nI n) at1 kd fw sw dg ++ gSa cA B (nI (S 0)) (nI (S 2)) (nI (S 4)) (nI (S 5)) L R LL RL TM (nI (S 1)) WW NN (nI (S 3)) ++ gRd cA Bd WD RD oc ns rs) := hD
  refine lv_aload_n hx hb dX5_run_5 rfl (lv_at hl 0 rfl) ?_
  refine lv_iconst (v := nI 0) hx hb dX5_run_6 (by decide +kernel) ?_
  refine va_put (D := D) (ci := 5) (v := .int (nI 0)) (ty := .int) (C := RX5) (T := TX5) (N := 4) hx hb hts hi_X5_run_X5 tyX5 tyX5_ok nmX5 hown hK hP hD hS 0 rfl rfl 1 (by decide) (hts (.fieldLink RX5 15 "FallingWords$Script" "position" "I") (by decide +kernel)) (fun _ h9 => h9) rfl (by decide +kernel) rfl rfl (Nat.le_of_ble_eq_true rfl) dX5_run_7 (fun H locs hP hD hS => ?_)
  have hP : va_P D vwCl (gSc cA Bs (nI 0) (nI 0) rn cs ++ gTx cA Bt CH (nI n) at1 kd fw sw dg ++ gSa cA B (nI (S 0)) (nI (S 2)) (nI (S 4)) (nI (S 5)) L R LL RL TM (nI (S 1)) WW NN (nI (S 3)) ++ gRd cA Bd WD RD oc ns rs) H := hP
  have hD : va_D AY (gSc cA Bs (nI 0) (nI 0) rn cs ++ gTx cA Bt CH (nI n) at1 kd fw sw dg ++ gSa cA B (nI (S 0)) (nI (S 2)) (nI (S 4)) (nI (S 5)) L R LL RL TM (nI (S 1)) WW NN (nI (S 3)) ++ gRd cA Bd WD RD oc ns rs) := hD
  refine lv_aload_n hx hb dX5_run_10 rfl (lv_at hl 0 rfl) ?_
  refine lv_iconst (v := nI 0) hx hb dX5_run_11 (by decide +kernel) ?_
  refine va_put (D := D) (ci := 5) (v := .int (nI 0)) (ty := .int) (C := RX5) (T := TX5) (N := 4) hx hb hts hi_X5_run_X5 tyX5 tyX5_ok nmX5 hown hK hP hD hS 0 rfl rfl 2 (by decide) (hts (.fieldLink RX5 18 "FallingWords$Script" "reason" "I") (by decide +kernel)) (fun _ h9 => h9) rfl (by decide +kernel) rfl rfl (Nat.le_of_ble_eq_true rfl) dX5_run_12 (fun H locs hP hD hS => ?_)
  have hP : va_P D vwCl (gSc cA Bs (nI 0) (nI 0) (nI 0) cs ++ gTx cA Bt CH (nI n) at1 kd fw sw dg ++ gSa cA B (nI (S 0)) (nI (S 2)) (nI (S 4)) (nI (S 5)) L R LL RL TM (nI (S 1)) WW NN (nI (S 3)) ++ gRd cA Bd WD RD oc ns rs) H := hP
  have hD : va_D AY (gSc cA Bs (nI 0) (nI 0) (nI 0) cs ++ gTx cA Bt CH (nI n) at1 kd fw sw dg ++ gSa cA B (nI (S 0)) (nI (S 2)) (nI (S 4)) (nI (S 5)) L R LL RL TM (nI (S 1)) WW NN (nI (S 3)) ++ gRd cA Bd WD RD oc ns rs) := hD
  refine lv_aload_n hx hb dX5_run_15 rfl (lv_at hl 0 rfl) ?_
  refine lv_iconst (v := nI 0) hx hb dX5_run_16 (by decide +kernel) ?_
  refine va_put (D := D) (ci := 5) (v := .int (nI 0)) (ty := .int) (C := RX5) (T := TX5) (N := 4) hx hb hts hi_X5_run_X5 tyX5 tyX5_ok nmX5 hown hK hP hD hS 0 rfl rfl 3 (by decide) (hts (.fieldLink RX5 21 "FallingWords$Script" "cause" "I") (by decide +kernel)) (fun _ h9 => h9) rfl (by decide +kernel) rfl rfl (Nat.le_of_ble_eq_true rfl) dX5_run_17 (fun H locs hP hD hS => ?_)
  have hP : va_P D vwCl (gSc cA Bs (nI 0) (nI 0) (nI 0) (nI 0) ++ gTx cA Bt CH (nI n) at1 kd fw sw dg ++ gSa cA B (nI (S 0)) (nI (S 2)) (nI (S 4)) (nI (S 5)) L R LL RL TM (nI (S 1)) WW NN (nI (S 3)) ++ gRd cA Bd WD RD oc ns rs) H := hP
  have hD : va_D AY (gSc cA Bs (nI 0) (nI 0) (nI 0) (nI 0) ++ gTx cA Bt CH (nI n) at1 kd fw sw dg ++ gSa cA B (nI (S 0)) (nI (S 2)) (nI (S 4)) (nI (S 5)) L R LL RL TM (nI (S 1)) WW NN (nI (S 3)) ++ gRd cA Bd WD RD oc ns rs) := hD
  refine lv_iconst (v := nI 0) hx hb dX5_run_20 (by decide +kernel) ?_
  refine lv_istore (lv' := [(4, .int (nI 0)), (0, .ref (Bs 0)), (1, .ref (Bt 0)), (2, .ref (B 0)), (3, .ref (Bd 0))]) hx hb dX5_run_21 hl (by decide) rfl (fun ls hl => ?_)
  have L23 : ∀ (nY : Nat), ∀ (i : Nat) (a : Nat) (T : St) (c : Nat) (f : Nat) (L1 : Nat → Int32) (R1 : Nat → Int32) (LL1 : Nat → Int32) (RL1 : Nat → Int32) (TM1 : Nat → Int32) (WW1 : Nat → Int32) (NN1 : Nat → Int32) (WD1 : Nat → Int32) (RD1 : Nat → Int32) (oc1 : Int32) (ns1 : Int32) (rs1 : Int32) (at3 : Int32) (kd3 : Int32) (fw3 : Int32) (sw3 : Int32) (dg3 : Int32), (i ≤ 80) → (i ≤ a) → (a ≤ n) → (c ≤ a) → (n - a < f) → (IV T) → (rRu T L1 R1 LL1 RL1 TM1) → (rSo T WW1 NN1) → (runF txt n f a T c = runT txt n S) → (80 - i < nY) → ∀ (H : Heap) (locs : List Loc) (ls : Array Slot), va_P D vwCl (gSc cA Bs (nI c) (nI a) (nI 0) (nI 0) ++ gTx cA Bt CH (nI n) at3 kd3 fw3 sw3 dg3 ++ gSa cA B (nI (T 0)) (nI (T 2)) (nI (T 4)) (nI (T 5)) L1 R1 LL1 RL1 TM1 (nI (T 1)) WW1 NN1 (nI (T 3)) ++ gRd cA Bd WD1 RD1 oc1 ns1 rs1) H → va_D AY (gSc cA Bs (nI c) (nI a) (nI 0) (nI 0) ++ gTx cA Bt CH (nI n) at3 kd3 fw3 sw3 dg3 ++ gSa cA B (nI (T 0)) (nI (T 2)) (nI (T 4)) (nI (T 5)) L1 R1 LL1 RL1 TM1 (nI (T 1)) WW1 NN1 (nI (T 3)) ++ gRd cA Bd WD1 RD1 oc1 ns1 rs1) → va_S AY sY.heap H locs → lv_has ls 5 [(0, .ref (Bs 0)), (1, .ref (Bt 0)), (2, .ref (B 0)), (3, .ref (Bd 0)), (4, .int (nI i))] → W pY lY eY { frames := 5, cells := 0, slots := 0, locals := 127 } sY mY aY bY tY cY H locs 0 0 QY (F0 mY 23 ls []) := by
    intro nY23
    induction nY23 with
    | zero => intro i a T c f L1 R1 LL1 RL1 TM1 WW1 NN1 WD1 RD1 oc1 ns1 rs1 at3 kd3 fw3 sw3 dg3 hi hia han hca hf hTI hr1 ho1 hrun hm23; exact absurd hm23 (Nat.not_lt_zero _)
    | succ nY23 ih23 =>
      intro i a T c f L1 R1 LL1 RL1 TM1 WW1 NN1 WD1 RD1 oc1 ns1 rs1 at3 kd3 fw3 sw3 dg3 hi hia han hca hf hTI hr1 ho1 hrun hm23 H locs ls hP hD hS hl
      refine lv_iload hx hb dX5_run_23 (lv_at hl 4 rfl) ?_
      refine lv_bipush (v := nI 80) hx hb dX5_run_25 (by decide +kernel) ?_
      refine xc_ge (tgt := 108) hx hb dX5_run_27 (by decide) (by omega) (by omega) (fun c27 => ?_) (fun c27 => ?_)
      · have hR : runT txt n S = (0, 0, a, c, T) := by rw [← hrun, show f = (f - 1) + 1 by omega, runF, if_neg (by omega)]
        exact hret _ _ _ _ _ dX5_run_108 ⟨L1, R1, LL1, RL1, TM1, WW1, NN1, WD1, RD1, oc1, ns1, rs1, at3, kd3, fw3, sw3, dg3, (by rw [hR]), (by rw [hR]; exact hr1), (by rw [hR]; exact ho1)⟩ hP hD hS
      · refine lv_aload_n hx hb dX5_run_30 rfl (lv_at hl 0 rfl) ?_
        refine va_get (D := D) (ci := 5) (v := .int (nI a)) (C := RX5) (T := TX5) (N := 4) hx hb hts hi_X5_run_X5 hown hK hP 0 rfl rfl 1 (by decide) (hts (.fieldLink RX5 15 "FallingWords$Script" "position" "I") (by decide +kernel)) (fun _ h9 => h9) rfl dX5_run_31 ?_
        refine lv_aload_n hx hb dX5_run_34 rfl (lv_at hl 1 rfl) ?_
        refine va_getN (D := D) (ci := 8) (v := .int (nI n)) (C := RX8) (T := TX8) (N := 7) hx hb hts hi_X5_run_X8 hown hK hP 1 rfl rfl 1 (by decide) (hN.fl (w := .fieldLinkNest RX5 24 "FallingWords$Text" "size" "I" "FallingWords") (by decide +kernel)) (fun _ h9 => h9) rfl dX5_run_35 ?_
        refine xc_ge (tgt := 108) hx hb dX5_run_38 (by decide) (by omega) (by omega) (fun c38 => ?_) (fun c38 => ?_)
        · have hR : runT txt n S = (0, 0, a, c, T) := by rw [← hrun, show f = (f - 1) + 1 by omega, runF, if_neg (by omega)]
          exact hret _ _ _ _ _ dX5_run_108 ⟨L1, R1, LL1, RL1, TM1, WW1, NN1, WD1, RD1, oc1, ns1, rs1, at3, kd3, fw3, sw3, dg3, (by rw [hR]), (by rw [hR]; exact hr1), (by rw [hR]; exact ho1)⟩ hP hD hS
        · have hpn : a < n := by omega
          obtain ⟨q1, q2, q3⟩ := okP_le (txt := txt) hpn
          have h127 := (ht.2 a hpn).2
          refine lv_aload_n hx hb dX5_run_41 rfl (lv_at hl 1 rfl) ?_
          have L76 :  ∀ (fw4 : Int32) (sw4 : Int32) (dg4 : Int32) (L2 : Nat → Int32) (R2 : Nat → Int32) (LL2 : Nat → Int32) (RL2 : Nat → Int32) (TM2 : Nat → Int32) (WW2 : Nat → Int32) (NN2 : Nat → Int32) (WD2 : Nat → Int32) (RD2 : Nat → Int32) (oc2 : Int32) (ns2 : Int32) (rs2 : Int32), (rRu (doC txt n a T).2.2 L2 R2 LL2 RL2 TM2) → (rSo (doC txt n a T).2.2 WW2 NN2) → ((doC txt n a T).1 = 0 → (okP txt n a).1 = true) → ((doC txt n a T).1 ≤ 3) → ∀ (H : Heap) (locs : List Loc) (ls : Array Slot), va_P D vwCl (gSc cA Bs (nI c) (nI a) (nI ((doC txt n a T).1)) (nI ((doC txt n a T).2.1)) ++ gTx cA Bt CH (nI n) (nI ((okP txt n a).2)) (nI (txt a)) fw4 sw4 dg4 ++ gSa cA B (nI (((doC txt n a T).2.2) 0)) (nI (((doC txt n a T).2.2) 2)) (nI (((doC txt n a T).2.2) 4)) (nI (((doC txt n a T).2.2) 5)) L2 R2 LL2 RL2 TM2 (nI (((doC txt n a T).2.2) 1)) WW2 NN2 (nI (((doC txt n a T).2.2) 3)) ++ gRd cA Bd WD2 RD2 oc2 ns2 rs2) H → va_D AY (gSc cA Bs (nI c) (nI a) (nI ((doC txt n a T).1)) (nI ((doC txt n a T).2.1)) ++ gTx cA Bt CH (nI n) (nI ((okP txt n a).2)) (nI (txt a)) fw4 sw4 dg4 ++ gSa cA B (nI (((doC txt n a T).2.2) 0)) (nI (((doC txt n a T).2.2) 2)) (nI (((doC txt n a T).2.2) 4)) (nI (((doC txt n a T).2.2) 5)) L2 R2 LL2 RL2 TM2 (nI (((doC txt n a T).2.2) 1)) WW2 NN2 (nI (((doC txt n a T).2.2) 3)) ++ gRd cA Bd WD2 RD2 oc2 ns2 rs2) → va_S AY sY.heap H locs → lv_has ls 5 [(0, .ref (Bs 0)), (1, .ref (Bt 0)), (2, .ref (B 0)), (3, .ref (Bd 0)), (4, .int (nI i))] → W pY lY eY { frames := 5, cells := 0, slots := 0, locals := 127 } sY mY aY bY tY cY H locs 0 0 QY (F0 mY 76 ls []) := by
            intro fw4 sw4 dg4 L2 R2 LL2 RL2 TM2 WW2 NN2 WD2 RD2 oc2 ns2 rs2 hr2 ho2 hok hle3 H locs ls hP hD hS hl
            refine lv_aload_n hx hb dX5_run_76 rfl (lv_at hl 0 rfl) ?_
            refine va_get (D := D) (ci := 5) (v := .int (nI ((doC txt n a T).1))) (C := RX5) (T := TX5) (N := 4) hx hb hts hi_X5_run_X5 hown hK hP 0 rfl rfl 2 (by decide) (hts (.fieldLink RX5 18 "FallingWords$Script" "reason" "I") (by decide +kernel)) (fun _ h9 => h9) rfl dX5_run_77 ?_
            refine x0_eq (tgt := 84) hx hb dX5_run_80 (by decide) (by omega) (fun c80 => ?_) (fun c80 => ?_)
            · have hz0 : (doC txt n a T).1 = 0 := c80
              have hok2 := q3 (hok hz0)
              rw [c80, doC_c0 c80] at hP hD
              have hP : va_P D vwCl (gSc cA Bs (nI c) (nI a) (nI 0) (nI 0) ++ gTx cA Bt CH (nI n) (nI ((okP txt n a).2)) (nI (txt a)) fw4 sw4 dg4 ++ gSa cA B (nI (((doC txt n a T).2.2) 0)) (nI (((doC txt n a T).2.2) 2)) (nI (((doC txt n a T).2.2) 4)) (nI (((doC txt n a T).2.2) 5)) L2 R2 LL2 RL2 TM2 (nI (((doC txt n a T).2.2) 1)) WW2 NN2 (nI (((doC txt n a T).2.2) 3)) ++ gRd cA Bd WD2 RD2 oc2 ns2 rs2) H := hP
              have hD : va_D AY (gSc cA Bs (nI c) (nI a) (nI 0) (nI 0) ++ gTx cA Bt CH (nI n) (nI ((okP txt n a).2)) (nI (txt a)) fw4 sw4 dg4 ++ gSa cA B (nI (((doC txt n a T).2.2) 0)) (nI (((doC txt n a T).2.2) 2)) (nI (((doC txt n a T).2.2) 4)) (nI (((doC txt n a T).2.2) 5)) L2 R2 LL2 RL2 TM2 (nI (((doC txt n a T).2.2) 1)) WW2 NN2 (nI (((doC txt n a T).2.2) 3)) ++ gRd cA Bd WD2 RD2 oc2 ns2 rs2) := hD
              refine lv_aload_n hx hb dX5_run_84 rfl (lv_at hl 0 rfl) ?_
              refine lv_dup hx hb dX5_run_85 rfl ?_
              refine va_get (D := D) (ci := 5) (v := .int (nI c)) (C := RX5) (T := TX5) (N := 4) hx hb hts hi_X5_run_X5 hown hK hP 0 rfl rfl 0 (by decide) (hts (.fieldLink RX5 9 "FallingWords$Script" "done" "I") (by decide +kernel)) (fun _ h9 => h9) rfl dX5_run_86 ?_
              refine lv_iconst (v := nI 1) hx hb dX5_run_89 (by decide +kernel) ?_
              refine lv_iadd hx hb dX5_run_90 ?_
              refine xt (show (nI c) + (nI 1) = nI (c + 1) from nI_add _ _) ?_
              refine va_put (D := D) (ci := 5) (v := .int (nI (c + 1))) (ty := .int) (C := RX5) (T := TX5) (N := 4) hx hb hts hi_X5_run_X5 tyX5 tyX5_ok nmX5 hown hK hP hD hS 0 rfl rfl 0 (by decide) (hts (.fieldLink RX5 9 "FallingWords$Script" "done" "I") (by decide +kernel)) (fun _ h9 => h9) rfl (by decide +kernel) rfl rfl (Nat.le_of_ble_eq_true rfl) dX5_run_91 (fun H locs hP hD hS => ?_)
              have hP : va_P D vwCl (gSc cA Bs (nI (c + 1)) (nI a) (nI 0) (nI 0) ++ gTx cA Bt CH (nI n) (nI ((okP txt n a).2)) (nI (txt a)) fw4 sw4 dg4 ++ gSa cA B (nI (((doC txt n a T).2.2) 0)) (nI (((doC txt n a T).2.2) 2)) (nI (((doC txt n a T).2.2) 4)) (nI (((doC txt n a T).2.2) 5)) L2 R2 LL2 RL2 TM2 (nI (((doC txt n a T).2.2) 1)) WW2 NN2 (nI (((doC txt n a T).2.2) 3)) ++ gRd cA Bd WD2 RD2 oc2 ns2 rs2) H := hP
              have hD : va_D AY (gSc cA Bs (nI (c + 1)) (nI a) (nI 0) (nI 0) ++ gTx cA Bt CH (nI n) (nI ((okP txt n a).2)) (nI (txt a)) fw4 sw4 dg4 ++ gSa cA B (nI (((doC txt n a T).2.2) 0)) (nI (((doC txt n a T).2.2) 2)) (nI (((doC txt n a T).2.2) 4)) (nI (((doC txt n a T).2.2) 5)) L2 R2 LL2 RL2 TM2 (nI (((doC txt n a T).2.2) 1)) WW2 NN2 (nI (((doC txt n a T).2.2) 3)) ++ gRd cA Bd WD2 RD2 oc2 ns2 rs2) := hD
              refine lv_aload_n hx hb dX5_run_94 rfl (lv_at hl 0 rfl) ?_
              refine lv_aload_n hx hb dX5_run_95 rfl (lv_at hl 1 rfl) ?_
              refine va_getN (D := D) (ci := 8) (v := .int (nI ((okP txt n a).2))) (C := RX8) (T := TX8) (N := 7) hx hb hts hi_X5_run_X8 hown hK hP 1 rfl rfl 2 (by decide) (hN.fl (w := .fieldLinkNest RX5 37 "FallingWords$Text" "at" "I" "FallingWords") (by decide +kernel)) (fun _ h9 => h9) rfl dX5_run_96 ?_
              refine va_put (D := D) (ci := 5) (v := .int (nI ((okP txt n a).2))) (ty := .int) (C := RX5) (T := TX5) (N := 4) hx hb hts hi_X5_run_X5 tyX5 tyX5_ok nmX5 hown hK hP hD hS 0 rfl rfl 1 (by decide) (hts (.fieldLink RX5 15 "FallingWords$Script" "position" "I") (by decide +kernel)) (fun _ h9 => h9) rfl (by decide +kernel) rfl rfl (Nat.le_of_ble_eq_true rfl) dX5_run_99 (fun H locs hP hD hS => ?_)
              have hP : va_P D vwCl (gSc cA Bs (nI (c + 1)) (nI ((okP txt n a).2)) (nI 0) (nI 0) ++ gTx cA Bt CH (nI n) (nI ((okP txt n a).2)) (nI (txt a)) fw4 sw4 dg4 ++ gSa cA B (nI (((doC txt n a T).2.2) 0)) (nI (((doC txt n a T).2.2) 2)) (nI (((doC txt n a T).2.2) 4)) (nI (((doC txt n a T).2.2) 5)) L2 R2 LL2 RL2 TM2 (nI (((doC txt n a T).2.2) 1)) WW2 NN2 (nI (((doC txt n a T).2.2) 3)) ++ gRd cA Bd WD2 RD2 oc2 ns2 rs2) H := hP
              have hD : va_D AY (gSc cA Bs (nI (c + 1)) (nI ((okP txt n a).2)) (nI 0) (nI 0) ++ gTx cA Bt CH (nI n) (nI ((okP txt n a).2)) (nI (txt a)) fw4 sw4 dg4 ++ gSa cA B (nI (((doC txt n a T).2.2) 0)) (nI (((doC txt n a T).2.2) 2)) (nI (((doC txt n a T).2.2) 4)) (nI (((doC txt n a T).2.2) 5)) L2 R2 LL2 RL2 TM2 (nI (((doC txt n a T).2.2) 1)) WW2 NN2 (nI (((doC txt n a T).2.2) 3)) ++ gRd cA Bd WD2 RD2 oc2 ns2 rs2) := hD
              refine lv_iinc (v := nI (i + 1)) (lv' := [(4, .int (nI (i + 1))), (0, .ref (Bs 0)), (1, .ref (Bt 0)), (2, .ref (B 0)), (3, .ref (Bd 0))]) hx hb dX5_run_102 hl (k := 4) rfl (show nI i + Int32.ofInt 1 = nI (i + 1) from nI_add i 1) (by decide) rfl (fun ls hl => ?_)
              refine lv_goto (tgt := 23) hx hb dX5_run_105 (by decide) ?_
              exact ih23 (i + 1) ((okP txt n a).2) ((doC txt n a T).2.2) (c + 1) (f - 1) L2 R2 LL2 RL2 TM2 WW2 NN2 WD2 RD2 oc2 ns2 rs2 (nI ((okP txt n a).2)) (nI (txt a)) fw4 sw4 dg4 (by omega) (by omega) (by omega) (by omega) (by omega) (IV_doC hTI hpn) (hr2) (ho2) (by rw [← hrun, show f = (f - 1) + 1 by omega, runF, if_pos hpn, if_pos hz0, show f - 1 + 1 - 1 = f - 1 by omega]) (by omega) _ _ _ hP hD hS (lv_sub hl [1, 2, 3, 4, 0] rfl)
            · have hR : runT txt n S = ((doC txt n a T).1, (doC txt n a T).2.1, a, c, (doC txt n a T).2.2) := by rw [← hrun, show f = (f - 1) + 1 by omega, runF, if_pos hpn, if_neg c80]
              exact hret _ _ _ _ _ dX5_run_83 ⟨L2, R2, LL2, RL2, TM2, WW2, NN2, WD2, RD2, oc2, ns2, rs2, ((nI ((okP txt n a).2))), ((nI (txt a))), fw4, sw4, dg4, (by rw [hR]), (by rw [hR]; exact hr2), (by rw [hR]; exact ho2)⟩ hP hD hS
          refine lv_aload_n hx hb dX5_run_42 rfl (lv_at hl 0 rfl) ?_
          refine va_get (D := D) (ci := 5) (v := .int (nI a)) (C := RX5) (T := TX5) (N := 4) hx hb hts hi_X5_run_X5 hown hK hP 0 rfl rfl 1 (by decide) (hts (.fieldLink RX5 15 "FallingWords$Script" "position" "I") (by decide +kernel)) (fun _ h9 => h9) rfl dX5_run_43 ?_
          refine ci_VN (As := [.int (nI a)]) (rest := []) h0 hK hN hP hD hS hA hl.1 (k_X8_readCommand lY D cA Bt txt n a CH at3 kd3 fw3 sw3 dg3 (ht) (hpn)) [1, 2] rfl (by decide) ⟨(va_cnB 1 hts gX5_run_X8_readCommand_n29 rfl rfl rfl (hN (.methodLinkNest RX5 29 yX8_readCommand "FallingWords") (by decide +kernel)) (hts (.initialized RX8) (by decide +kernel)) (by decide +kernel) ⟨Nat.le_of_ble_eq_true rfl, Nat.le_of_ble_eq_true rfl⟩), hts (.instanceMethod yX8_readCommand) (by decide +kernel), hts (.selects RX8 yX8_readCommand yX8_readCommand) (by decide +kernel)⟩ (cl_recv (ci := 8) (q := (RX8, TX8, 7)) (q0 := 1) hP hK rfl rfl) rfl rfl (Nat.le_of_ble_eq_true rfl) dX5_run_46 ⟨Nat.zero_le _, Nat.zero_le _⟩ (fun rY wY H locs hwY hJ hS => ?_)
          obtain ⟨fw2_46, sw2_46, dg2_46, e1Y, e2Y, f1_46, f2_46, f3_46, f4_46⟩ := hwY
          have e3Y := e1Y.symm
          clear e1Y
          subst e3Y
          have e3Y := e2Y.symm
          clear e2Y
          subst e3Y
          obtain ⟨hP, hD⟩ := hJ rfl
          have hP : va_P D vwCl (gSc cA Bs (nI c) (nI a) (nI 0) (nI 0) ++ gTx cA Bt CH (nI n) (nI ((okP txt n a).2)) (nI (txt a)) fw2_46 sw2_46 dg2_46 ++ gSa cA B (nI (T 0)) (nI (T 2)) (nI (T 4)) (nI (T 5)) L1 R1 LL1 RL1 TM1 (nI (T 1)) WW1 NN1 (nI (T 3)) ++ gRd cA Bd WD1 RD1 oc1 ns1 rs1) H := hP
          have hD : va_D AY (gSc cA Bs (nI c) (nI a) (nI 0) (nI 0) ++ gTx cA Bt CH (nI n) (nI ((okP txt n a).2)) (nI (txt a)) fw2_46 sw2_46 dg2_46 ++ gSa cA B (nI (T 0)) (nI (T 2)) (nI (T 4)) (nI (T 5)) L1 R1 LL1 RL1 TM1 (nI (T 1)) WW1 NN1 (nI (T 3)) ++ gRd cA Bd WD1 RD1 oc1 ns1 rs1) := hD
          refine xb_eq (tgt := 62) hx hb dX5_run_49 (by decide) (fun c49 => ?_) (fun c49 => ?_)
          · have hD1 := doC_f (S := T) c49
            refine lv_aload_n hx hb dX5_run_62 rfl (lv_at hl 0 rfl) ?_
            refine lv_iconst (v := nI 1) hx hb dX5_run_63 (by decide +kernel) ?_
            refine lv_aload_n hx hb dX5_run_64 rfl (lv_at hl 1 rfl) ?_
            refine va_getN (D := D) (ci := 8) (v := .int (nI ((okP txt n a).2))) (C := RX8) (T := TX8) (N := 7) hx hb hts hi_X5_run_X8 hown hK hP 1 rfl rfl 2 (by decide) (hN.fl (w := .fieldLinkNest RX5 37 "FallingWords$Text" "at" "I" "FallingWords") (by decide +kernel)) (fun _ h9 => h9) rfl dX5_run_65 ?_
            refine lv_aload_n hx hb dX5_run_68 rfl (lv_at hl 0 rfl) ?_
            refine va_get (D := D) (ci := 5) (v := .int (nI a)) (C := RX5) (T := TX5) (N := 4) hx hb hts hi_X5_run_X5 hown hK hP 0 rfl rfl 1 (by decide) (hts (.fieldLink RX5 15 "FallingWords$Script" "position" "I") (by decide +kernel)) (fun _ h9 => h9) rfl dX5_run_69 ?_
            refine lv_isub hx hb dX5_run_72 ?_
            refine xt (show (nI ((okP txt n a).2)) - (nI a) = nI ((okP txt n a).2 - a) from pk_sub (by omega)) ?_
            refine cv_V (As := [.int (nI 1), .int (nI ((okP txt n a).2 - a))]) (rest := []) h0 hK hN hP hD hS hA hl.1 (k_X5_failWith lY D cA Bs (nI c) (nI a) (nI 0) (nI 0) (nI 1) (nI ((okP txt n a).2 - a)) ) [0] rfl (by decide) (cwV 2 hts gX5_run_X5_failWith rfl rfl rfl (by decide +kernel) ⟨Nat.le_of_ble_eq_true rfl, Nat.le_of_ble_eq_true rfl⟩) (cl_recv (ci := 5) (q := (RX5, TX5, 4)) (q0 := 0) hP hK rfl rfl) rfl rfl (Nat.le_of_ble_eq_true rfl) dX5_run_73 ⟨Nat.zero_le _, Nat.zero_le _⟩ (fun wY H locs hwY hJ hS => ?_)
            have e2Y := hwY
            have e3Y := e2Y.symm
            clear e2Y
            subst e3Y
            obtain ⟨hP, hD⟩ := hJ rfl
            have hP : va_P D vwCl (gSc cA Bs (nI c) (nI a) (nI 1) (nI ((okP txt n a).2 - a)) ++ gTx cA Bt CH (nI n) (nI ((okP txt n a).2)) (nI (txt a)) fw2_46 sw2_46 dg2_46 ++ gSa cA B (nI (T 0)) (nI (T 2)) (nI (T 4)) (nI (T 5)) L1 R1 LL1 RL1 TM1 (nI (T 1)) WW1 NN1 (nI (T 3)) ++ gRd cA Bd WD1 RD1 oc1 ns1 rs1) H := hP
            have hD : va_D AY (gSc cA Bs (nI c) (nI a) (nI 1) (nI ((okP txt n a).2 - a)) ++ gTx cA Bt CH (nI n) (nI ((okP txt n a).2)) (nI (txt a)) fw2_46 sw2_46 dg2_46 ++ gSa cA B (nI (T 0)) (nI (T 2)) (nI (T 4)) (nI (T 5)) L1 R1 LL1 RL1 TM1 (nI (T 1)) WW1 NN1 (nI (T 3)) ++ gRd cA Bd WD1 RD1 oc1 ns1 rs1) := hD
            rw [show nI 1 = nI (doC txt n a T).1 by rw [hD1], show nI ((okP txt n a).2 - a) = nI (doC txt n a T).2.1 by rw [hD1], show nI (T 0) = nI ((doC txt n a T).2.2 0) by rw [hD1], show nI (T 1) = nI ((doC txt n a T).2.2 1) by rw [hD1], show nI (T 2) = nI ((doC txt n a T).2.2 2) by rw [hD1], show nI (T 3) = nI ((doC txt n a T).2.2 3) by rw [hD1], show nI (T 4) = nI ((doC txt n a T).2.2 4) by rw [hD1], show nI (T 5) = nI ((doC txt n a T).2.2 5) by rw [hD1]] at hP hD
            have hP : va_P D vwCl (gSc cA Bs (nI c) (nI a) (nI ((doC txt n a T).1)) (nI ((doC txt n a T).2.1)) ++ gTx cA Bt CH (nI n) (nI ((okP txt n a).2)) (nI (txt a)) fw2_46 sw2_46 dg2_46 ++ gSa cA B (nI (((doC txt n a T).2.2) 0)) (nI (((doC txt n a T).2.2) 2)) (nI (((doC txt n a T).2.2) 4)) (nI (((doC txt n a T).2.2) 5)) L1 R1 LL1 RL1 TM1 (nI (((doC txt n a T).2.2) 1)) WW1 NN1 (nI (((doC txt n a T).2.2) 3)) ++ gRd cA Bd WD1 RD1 oc1 ns1 rs1) H := hP
            have hD : va_D AY (gSc cA Bs (nI c) (nI a) (nI ((doC txt n a T).1)) (nI ((doC txt n a T).2.1)) ++ gTx cA Bt CH (nI n) (nI ((okP txt n a).2)) (nI (txt a)) fw2_46 sw2_46 dg2_46 ++ gSa cA B (nI (((doC txt n a T).2.2) 0)) (nI (((doC txt n a T).2.2) 2)) (nI (((doC txt n a T).2.2) 4)) (nI (((doC txt n a T).2.2) 5)) L1 R1 LL1 RL1 TM1 (nI (((doC txt n a T).2.2) 1)) WW1 NN1 (nI (((doC txt n a T).2.2) 3)) ++ gRd cA Bd WD1 RD1 oc1 ns1 rs1) := hD
            exact L76 fw2_46 sw2_46 dg2_46 L1 R1 LL1 RL1 TM1 WW1 NN1 WD1 RD1 oc1 ns1 rs1 (by rw [hD1]; exact hr1) (by rw [hD1]; exact ho1) (fun h => by rw [hD1] at h; cases h) (by rw [hD1]; show 1 ≤ 3; decide) _ _ _ hP hD hS hl
          · have hD1 := doC_t (S := T) c49
            have hk4 := f4_46 c49
            have hv1 : vw 13 (rW1 txt n a) := rd_vw (by omega)
            refine lv_aload_n hx hb dX5_run_52 rfl (lv_at hl 0 rfl) ?_
            refine lv_aload_n hx hb dX5_run_53 rfl (lv_at hl 1 rfl) ?_
            refine lv_aload_n hx hb dX5_run_54 rfl (lv_at hl 2 rfl) ?_
            refine lv_aload_n hx hb dX5_run_55 rfl (lv_at hl 3 rfl) ?_
            refine cv_V (As := [.ref (Bt 0), .ref (B 0), .ref (Bd 0)]) (rest := []) h0 hK hN hP hD hS hA hl.1 (k_X5_perform lY D cA Bs Bt B Bd (nI c) (nI a) CH (nI n) (nI ((okP txt n a).2)) fw2_46 sw2_46 dg2_46 T L1 R1 LL1 RL1 TM1 WW1 NN1 WD1 RD1 oc1 ns1 rs1 (txt a) (rW1 txt n a) (rW2 txt n a) (txt (a + 1) - 48) (hTI) (hr1) (ho1) (fun h => ⟨(f1_46 h c49).1, (f1_46 h c49).2, hv1, rW2_vw hpn h c49⟩) (fun h => ⟨f2_46 h, hv1⟩) (fun h => f3_46 h c49) (hk4)) [0, 1, 2, 3, 4, 5, 6, 7, 8, 9, 10, 11, 12, 13, 14, 15] rfl (by decide) (cwV 3 hts gX5_run_X5_perform rfl rfl rfl (by decide +kernel) ⟨Nat.le_of_ble_eq_true rfl, Nat.le_of_ble_eq_true rfl⟩) (cl_recv (ci := 5) (q := (RX5, TX5, 4)) (q0 := 0) hP hK rfl rfl) rfl rfl (Nat.le_of_ble_eq_true rfl) dX5_run_56 ⟨Nat.zero_le _, Nat.zero_le _⟩ (fun wY H locs hwY hJ hS => ?_)
            obtain ⟨L'_56, R'_56, LL'_56, RL'_56, TM'_56, WW'_56, NN'_56, WD'_56, RD'_56, oc'_56, ns'_56, rs'_56, e2Y, fr_56, fo_56⟩ := hwY
            have e3Y := e2Y.symm
            clear e2Y
            subst e3Y
            obtain ⟨hP, hD⟩ := hJ rfl
            have hP : va_P D vwCl (gSc cA Bs (nI c) (nI a) (nI ((prf (txt a) (rW1 txt n a) (rW2 txt n a) (txt (a + 1) - 48) T).1)) (nI ((prf (txt a) (rW1 txt n a) (rW2 txt n a) (txt (a + 1) - 48) T).2.1)) ++ gTx cA Bt CH (nI n) (nI ((okP txt n a).2)) (nI (txt a)) fw2_46 sw2_46 dg2_46 ++ gSa cA B (nI (((prf (txt a) (rW1 txt n a) (rW2 txt n a) (txt (a + 1) - 48) T).2.2) 0)) (nI (((prf (txt a) (rW1 txt n a) (rW2 txt n a) (txt (a + 1) - 48) T).2.2) 2)) (nI (((prf (txt a) (rW1 txt n a) (rW2 txt n a) (txt (a + 1) - 48) T).2.2) 4)) (nI (((prf (txt a) (rW1 txt n a) (rW2 txt n a) (txt (a + 1) - 48) T).2.2) 5)) L'_56 R'_56 LL'_56 RL'_56 TM'_56 (nI (((prf (txt a) (rW1 txt n a) (rW2 txt n a) (txt (a + 1) - 48) T).2.2) 1)) WW'_56 NN'_56 (nI (((prf (txt a) (rW1 txt n a) (rW2 txt n a) (txt (a + 1) - 48) T).2.2) 3)) ++ gRd cA Bd WD'_56 RD'_56 oc'_56 ns'_56 rs'_56) H := hP
            have hD : va_D AY (gSc cA Bs (nI c) (nI a) (nI ((prf (txt a) (rW1 txt n a) (rW2 txt n a) (txt (a + 1) - 48) T).1)) (nI ((prf (txt a) (rW1 txt n a) (rW2 txt n a) (txt (a + 1) - 48) T).2.1)) ++ gTx cA Bt CH (nI n) (nI ((okP txt n a).2)) (nI (txt a)) fw2_46 sw2_46 dg2_46 ++ gSa cA B (nI (((prf (txt a) (rW1 txt n a) (rW2 txt n a) (txt (a + 1) - 48) T).2.2) 0)) (nI (((prf (txt a) (rW1 txt n a) (rW2 txt n a) (txt (a + 1) - 48) T).2.2) 2)) (nI (((prf (txt a) (rW1 txt n a) (rW2 txt n a) (txt (a + 1) - 48) T).2.2) 4)) (nI (((prf (txt a) (rW1 txt n a) (rW2 txt n a) (txt (a + 1) - 48) T).2.2) 5)) L'_56 R'_56 LL'_56 RL'_56 TM'_56 (nI (((prf (txt a) (rW1 txt n a) (rW2 txt n a) (txt (a + 1) - 48) T).2.2) 1)) WW'_56 NN'_56 (nI (((prf (txt a) (rW1 txt n a) (rW2 txt n a) (txt (a + 1) - 48) T).2.2) 3)) ++ gRd cA Bd WD'_56 RD'_56 oc'_56 ns'_56 rs'_56) := hD
            rw [← hD1] at hP hD fr_56 fo_56
            have hP : va_P D vwCl (gSc cA Bs (nI c) (nI a) (nI ((doC txt n a T).1)) (nI ((doC txt n a T).2.1)) ++ gTx cA Bt CH (nI n) (nI ((okP txt n a).2)) (nI (txt a)) fw2_46 sw2_46 dg2_46 ++ gSa cA B (nI (((doC txt n a T).2.2) 0)) (nI (((doC txt n a T).2.2) 2)) (nI (((doC txt n a T).2.2) 4)) (nI (((doC txt n a T).2.2) 5)) L'_56 R'_56 LL'_56 RL'_56 TM'_56 (nI (((doC txt n a T).2.2) 1)) WW'_56 NN'_56 (nI (((doC txt n a T).2.2) 3)) ++ gRd cA Bd WD'_56 RD'_56 oc'_56 ns'_56 rs'_56) H := hP
            have hD : va_D AY (gSc cA Bs (nI c) (nI a) (nI ((doC txt n a T).1)) (nI ((doC txt n a T).2.1)) ++ gTx cA Bt CH (nI n) (nI ((okP txt n a).2)) (nI (txt a)) fw2_46 sw2_46 dg2_46 ++ gSa cA B (nI (((doC txt n a T).2.2) 0)) (nI (((doC txt n a T).2.2) 2)) (nI (((doC txt n a T).2.2) 4)) (nI (((doC txt n a T).2.2) 5)) L'_56 R'_56 LL'_56 RL'_56 TM'_56 (nI (((doC txt n a T).2.2) 1)) WW'_56 NN'_56 (nI (((doC txt n a T).2.2) 3)) ++ gRd cA Bd WD'_56 RD'_56 oc'_56 ns'_56 rs'_56) := hD
            refine lv_goto (tgt := 76) hx hb dX5_run_59 (by decide) ?_
            exact L76 fw2_46 sw2_46 dg2_46 L'_56 R'_56 LL'_56 RL'_56 TM'_56 WW'_56 NN'_56 WD'_56 RD'_56 oc'_56 ns'_56 rs'_56 (fr_56) (fo_56) (fun _ => c49) (by rw [hD1]; exact prf_lt) _ _ _ hP hD hS hl
  exact L23 _ 0 0 S 0 81 L R LL RL TM WW NN WD RD oc ns rs at1 kd fw sw dg (by omega) (by omega) (by omega) (by omega) (by omega) (hI) (hr) (ho) (by unfold runT; rw [sl_eq]) (Nat.lt_succ_self _) _ _ _ hP hD hS (lv_sub hl [1, 2, 3, 4, 0] rfl)
