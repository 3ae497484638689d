theorem hi_X5_failWith_X5 : ∀ w ∈ u_ws RX5 TX5 4, w ∈ wsX5_failWith := by decide +kernel
set_option maxHeartbeats 1000000 in
set_option maxRecDepth 100000 in
theorem k_X5_failWith (lY : Launch) (D : va_G) (cA : Nat → ClassId) (Bs : Nat → Nat) (dn ps rn cs r2 c2 : Int32)  : MetV lY D cA yX5_failWith wsX5_failWith 0 0 0 0 [.ref (Bs 0), .int r2, .int c2] (gSc cA Bs dn ps rn cs) (fun wY => wY = gSc cA Bs dn ps r2 c2) := by
  refine MetV.of (cc := cX5_failWith) (maxL := 3) (by decide) rfl (Nat.le_of_ble_eq_true rfl) ?_
  intro pY eY sY mY aY bY tY cY QY AY ls h0 hP hK hN hD hA hS hl hin hret
  obtain ⟨hx, hb, hml, hown, hts⟩ := id h0
  have hl : lv_has ls 3 [(0, .ref (Bs 0)), (1, .int r2), (2, .int c2)] := hl
  have hP : va_P D vwCl (gSc cA Bs dn ps rn cs) sY.heap := hP
  have hD : va_D AY (gSc cA Bs dn ps rn cs) := hD
  refine lv_aload_n hx hb dX5_failWith_0 rfl (lv_at hl 0 rfl) ?_
  refine lv_iload_n hx hb dX5_failWith_1 rfl (lv_at hl 1 rfl) ?_
  refine va_put (D := D) (ci := 5) (v := .int r2) (ty := .int) (C := RX5) (T := TX5) (N := 4) hx hb hts hi_X5_failWith_X5 tyX5 tyX5_ok nmX5 hown hK hP hD hS 0 rfl rfl 2 (by decide) (hts (.fieldLink RX5 18 "FallingWords$Script" "reason" "I") (by decide +kernel)) (fun _ h9 => h9) rfl (by decide +kernel) rfl rfl (Nat.le_of_ble_eq_true rfl) dX5_failWith_2 (fun H locs hP hD hS => ?_)
  have hP : va_P D vwCl (gSc cA Bs dn ps r2 cs) H := hP
  have hD : va_D AY (gSc cA Bs dn ps r2 cs) := hD
  refine lv_aload_n hx hb dX5_failWith_5 rfl (lv_at hl 0 rfl) ?_
  refine lv_iload_n hx hb dX5_failWith_6 rfl (lv_at hl 2 rfl) ?_
  refine va_put (D := D) (ci := 5) (v := .int c2) (ty := .int) (C := RX5) (T := TX5) (N := 4) hx hb hts hi_X5_failWith_X5 tyX5 tyX5_ok nmX5 hown hK hP hD hS 0 rfl rfl 3 (by decide) (hts (.fieldLink RX5 21 "FallingWords$Script" "cause" "I") (by decide +kernel)) (fun _ h9 => h9) rfl (by decide +kernel) rfl rfl (Nat.le_of_ble_eq_true rfl) dX5_failWith_7 (fun H locs hP hD hS => ?_)
  have hP : va_P D vwCl (gSc cA Bs dn ps r2 c2) H := hP
  have hD : va_D AY (gSc cA Bs dn ps r2 c2) := hD
  exact hret _ _ _ _ _ dX5_failWith_10 rfl hP hD hS

theorem hi_X5_addRule_X6 : ∀ w ∈ u_ws RX6 TX6 6, w ∈ wsX5_addRule := by decide +kernel
set_option maxHeartbeats 1000000 in
set_option maxRecDepth 100000 in
theorem k_X5_addRule (lY : Launch) (D : va_G) (cA : Nat → ClassId) (Bs B : Nat → Nat) (dn ps : Int32) (S : St) (L R LL RL TM WW NN : Nat → Int32) (a b : Nat) (hI : IV S) (hr : rRu S L R LL RL TM) (ho : rSo S WW NN) (ha : vw 13 a) (hb2 : vw 13 b) : MetV lY D cA yX5_addRule wsX5_addRule 3 66 0 0 [.ref (Bs 0), .int (nI a), .int (nI b), .ref (B 0)] (gSc cA Bs dn ps (nI 0) (nI 0) ++ gSa cA B (nI (S 0)) (nI (S 2)) (nI (S 4)) (nI (S 5)) L R LL RL TM (nI (S 1)) WW NN (nI (S 3))) (fun wY => ∃ (L' : Nat → Int32) (R' : Nat → Int32) (LL' : Nat → Int32) (RL' : Nat → Int32) (TM' : Nat → Int32) (WW' : Nat → Int32) (NN' : Nat → Int32), wY = gSc cA Bs dn ps (nI ((addC S a b).1)) (nI ((addC S a b).2.1)) ++ gSa cA B (nI (((addC S a b).2.2) 0)) (nI (((addC S a b).2.2) 2)) (nI (((addC S a b).2.2) 4)) (nI (((addC S a b).2.2) 5)) L' R' LL' RL' TM' (nI (((addC S a b).2.2) 1)) WW' NN' (nI (((addC S a b).2.2) 3)) ∧ (rRu ((addC S a b).2.2) L' R' LL' RL' TM') ∧ (rSo ((addC S a b).2.2) WW' NN')) := by
  refine MetV.of (cc := cX5_addRule) (maxL := 6) (by decide) rfl (Nat.le_of_ble_eq_true rfl) ?_
  intro pY eY sY mY aY bY tY cY QY AY ls h0 hP hK hN hD hA hS hl hin hret
  obtain ⟨hx, hb, hml, hown, hts⟩ := id h0
  have hl : lv_has ls 6 [(0, .ref (Bs 0)), (1, .int (nI a)), (2, .int (nI b)), (3, .ref (B 0))] := hl
  have hP : va_P D vwCl (gSc cA Bs dn ps (nI 0) (nI 0) ++ gSa cA B (nI (S 0)) (nI (S 2)) (nI (S 4)) (nI (S 5)) L R LL RL TM (nI (S 1)) WW NN (nI (S 3))) sY.heap := hP
  have hD : va_D AY (gSc cA Bs dn ps (nI 0) (nI 0) ++ gSa cA B (nI (S 0)) (nI (S 2)) (nI (S 4)) (nI (S 5)) L R LL RL TM (nI (S 1)) WW NN (nI (S 3))) := hD
  have h10 := hI.1.1
  have hBa := vw_B ha (by decide)
  have hBb := vw_B hb2 (by decide)
  have hla := ha.2
  have hlb := hb2.2
  refine lv_iload_n hx hb dX5_addRule_0 rfl (lv_at hl 1 rfl) ?_
  refine ci_SN (As := [.int (nI a)]) (rest := []) h0 hK hN hP hD hS hA hl.1 (k_X9_lengthOf lY D cA a (ha.1) (ha.2)) [] rfl (by decide) ⟨(va_cnB 1 hts gX5_addRule_X9_lengthOf_n80 rfl rfl rfl (hN (.methodLinkNest RX5 80 yX9_lengthOf "FallingWords") (by decide +kernel)) (hts (.initialized RX9) (by decide +kernel)) (by decide +kernel) ⟨Nat.le_of_ble_eq_true rfl, Nat.le_of_ble_eq_true rfl⟩), hts (.static yX9_lengthOf) (by decide +kernel), trivial⟩ rfl rfl (Nat.le_of_ble_eq_true rfl) dX5_addRule_1 ⟨Nat.zero_le _, Nat.zero_le _⟩ (fun rY wY H locs hwY hJ hS => ?_)
  obtain ⟨e1Y, e2Y⟩ := hwY
  have e3Y := e1Y.symm
  clear e1Y
  subst e3Y
  have e3Y := e2Y.symm
  clear e2Y
  subst e3Y
  obtain ⟨hP, hD⟩ := hJ rfl
  have hP : va_P D vwCl (gSc cA Bs dn ps (nI 0) (nI 0) ++ gSa cA B (nI (S 0)) (nI (S 2)) (nI (S 4)) (nI (S 5)) L R LL RL TM (nI (S 1)) WW NN (nI (S 3))) H := hP
  have hD : va_D AY (gSc cA Bs dn ps (nI 0) (nI 0) ++ gSa cA B (nI (S 0)) (nI (S 2)) (nI (S 4)) (nI (S 5)) L R LL RL TM (nI (S 1)) WW NN (nI (S 3))) := hD
  refine lv_istore (lv' := [(4, .int (nI (len a))), (0, .ref (Bs 0)), (1, .int (nI a)), (2, .int (nI b)), (3, .ref (B 0))]) hx hb dX5_addRule_4 hl (by decide) rfl (fun ls hl => ?_)
  refine lv_iload_n hx hb dX5_addRule_6 rfl (lv_at hl 3 rfl) ?_
  refine ci_SN (As := [.int (nI b)]) (rest := []) h0 hK hN hP hD hS hA hl.1 (k_X9_lengthOf lY D cA b (hb2.1) (hb2.2)) [] rfl (by decide) ⟨(va_cnB 1 hts gX5_addRule_X9_lengthOf_n80 rfl rfl rfl (hN (.methodLinkNest RX5 80 yX9_lengthOf "FallingWords") (by decide +kernel)) (hts (.initialized RX9) (by decide +kernel)) (by decide +kernel) ⟨Nat.le_of_ble_eq_true rfl, Nat.le_of_ble_eq_true rfl⟩), hts (.static yX9_lengthOf) (by decide +kernel), trivial⟩ rfl rfl (Nat.le_of_ble_eq_true rfl) dX5_addRule_7 ⟨Nat.zero_le _, Nat.zero_le _⟩ (fun rY wY H locs hwY hJ hS => ?_)
  obtain ⟨e1Y, e2Y⟩ := hwY
  have e3Y := e1Y.symm
  clear e1Y
  subst e3Y
  have e3Y := e2Y.symm
  clear e2Y
  subst e3Y
  obtain ⟨hP, hD⟩ := hJ rfl
  have hP : va_P D vwCl (gSc cA Bs dn ps (nI 0) (nI 0) ++ gSa cA B (nI (S 0)) (nI (S 2)) (nI (S 4)) (nI (S 5)) L R LL RL TM (nI (S 1)) WW NN (nI (S 3))) H := hP
  have hD : va_D AY (gSc cA Bs dn ps (nI 0) (nI 0) ++ gSa cA B (nI (S 0)) (nI (S 2)) (nI (S 4)) (nI (S 5)) L R LL RL TM (nI (S 1)) WW NN (nI (S 3))) := hD
  refine lv_istore (lv' := [(5, .int (nI (len b))), (4, .int (nI (len a))), (0, .ref (Bs 0)), (1, .int (nI a)), (2, .int (nI b)), (3, .ref (B 0))]) hx hb dX5_addRule_10 hl (by decide) rfl (fun ls hl => ?_)
  have L29 :  (len a = 0 ∨ 4 < len a ∨ 4 < len b) → ∀ (H : Heap) (locs : List Loc) (ls : Array Slot), va_P D vwCl (gSc cA Bs dn ps (nI 0) (nI 0) ++ gSa cA B (nI (S 0)) (nI (S 2)) (nI (S 4)) (nI (S 5)) L R LL RL TM (nI (S 1)) WW NN (nI (S 3))) H → va_D AY (gSc cA Bs dn ps (nI 0) (nI 0) ++ gSa cA B (nI (S 0)) (nI (S 2)) (nI (S 4)) (nI (S 5)) L R LL RL TM (nI (S 1)) WW NN (nI (S 3))) → va_S AY sY.heap H locs → lv_has ls 6 [(5, .int (nI (len b))), (4, .int (nI (len a))), (0, .ref (Bs 0)), (1, .int (nI a)), (2, .int (nI b)), (3, .ref (B 0))] → W pY lY eY { frames := 3, cells := 0, slots := 0, locals := 66 } sY mY aY bY tY cY H locs 0 0 QY (F0 mY 29 ls []) := by
    intro hbad H locs ls hP hD hS hl
    refine lv_aload_n hx hb dX5_addRule_29 rfl (lv_at hl 2 rfl) ?_
    refine lv_iconst (v := nI 2) hx hb dX5_addRule_30 (by decide +kernel) ?_
    refine lv_iconst (v := nI 0) hx hb dX5_addRule_31 (by decide +kernel) ?_
    refine cv_V (As := [.int (nI 2), .int (nI 0)]) (rest := []) h0 hK hN hP hD hS hA hl.1 (k_X5_failWith lY D cA Bs dn ps (nI 0) (nI 0) (nI 2) (nI 0) ) [0] rfl (by decide) (cwV 2 hts gX5_addRule_X5_failWith rfl rfl rfl (by decide +kernel) ⟨Nat.le_of_ble_eq_true rfl, Nat.le_of_ble_eq_true rfl⟩) (cl_recv (ci := 5) (q := (RX5, TX5, 4)) (q0 := 0) hP hK rfl rfl) rfl rfl (Nat.le_of_ble_eq_true rfl) dX5_addRule_32 ⟨Nat.zero_le _, Nat.zero_le _⟩ (fun wY H locs hwY hJ hS => ?_)
    have e2Y := hwY
    have e3Y := e2Y.symm
    clear e2Y
    subst e3Y
    obtain ⟨hP, hD⟩ := hJ rfl
    have hP : va_P D vwCl (gSc cA Bs dn ps (nI 2) (nI 0) ++ gSa cA B (nI (S 0)) (nI (S 2)) (nI (S 4)) (nI (S 5)) L R LL RL TM (nI (S 1)) WW NN (nI (S 3))) H := hP
    have hD : va_D AY (gSc cA Bs dn ps (nI 2) (nI 0) ++ gSa cA B (nI (S 0)) (nI (S 2)) (nI (S 4)) (nI (S 5)) L R LL RL TM (nI (S 1)) WW NN (nI (S 3))) := hD
    refine lv_goto (tgt := 105) hx hb dX5_addRule_35 (by decide) ?_
    have hR : addC S a b = (2, 0, S) := if_pos hbad
    exact hret _ _ _ _ _ dX5_addRule_105 ⟨L, R, LL, RL, TM, WW, NN, (by rw [hR]), (by rw [hR]; exact hr), (by rw [hR]; exact ho)⟩ hP hD hS
  have L50 :  (len a < len b ∨ a = b) → (¬ (len a = 0 ∨ 4 < len a ∨ 4 < len b)) → ∀ (H : Heap) (locs : List Loc) (ls : Array Slot), va_P D vwCl (gSc cA Bs dn ps (nI 0) (nI 0) ++ gSa cA B (nI (S 0)) (nI (S 2)) (nI (S 4)) (nI (S 5)) L R LL RL TM (nI (S 1)) WW NN (nI (S 3))) H → va_D AY (gSc cA Bs dn ps (nI 0) (nI 0) ++ gSa cA B (nI (S 0)) (nI (S 2)) (nI (S 4)) (nI (S 5)) L R LL RL TM (nI (S 1)) WW NN (nI (S 3))) → va_S AY sY.heap H locs → lv_has ls 6 [(5, .int (nI (len b))), (4, .int (nI (len a))), (0, .ref (Bs 0)), (1, .int (nI a)), (2, .int (nI b)), (3, .ref (B 0))] → W pY lY eY { frames := 3, cells := 0, slots := 0, locals := 66 } sY mY aY bY tY cY H locs 0 0 QY (F0 mY 50 ls []) := by
    intro hbad2 hgood H locs ls hP hD hS hl
    refine lv_aload_n hx hb dX5_addRule_50 rfl (lv_at hl 2 rfl) ?_
    refine lv_iconst (v := nI 3) hx hb dX5_addRule_51 (by decide +kernel) ?_
    refine lv_iconst (v := nI 1) hx hb dX5_addRule_52 (by decide +kernel) ?_
    refine cv_V (As := [.int (nI 3), .int (nI 1)]) (rest := []) h0 hK hN hP hD hS hA hl.1 (k_X5_failWith lY D cA Bs dn ps (nI 0) (nI 0) (nI 3) (nI 1) ) [0] rfl (by decide) (cwV 2 hts gX5_addRule_X5_failWith rfl rfl rfl (by decide +kernel) ⟨Nat.le_of_ble_eq_true rfl, Nat.le_of_ble_eq_true rfl⟩) (cl_recv (ci := 5) (q := (RX5, TX5, 4)) (q0 := 0) hP hK rfl rfl) rfl rfl (Nat.le_of_ble_eq_true rfl) dX5_addRule_53 ⟨Nat.zero_le _, Nat.zero_le _⟩ (fun wY H locs hwY hJ hS => ?_)
    have e2Y := hwY
    have e3Y := e2Y.symm
    clear e2Y
    subst e3Y
    obtain ⟨hP, hD⟩ := hJ rfl
    have hP : va_P D vwCl (gSc cA Bs dn ps (nI 3) (nI 1) ++ gSa cA B (nI (S 0)) (nI (S 2)) (nI (S 4)) (nI (S 5)) L R LL RL TM (nI (S 1)) WW NN (nI (S 3))) H := hP
    have hD : va_D AY (gSc cA Bs dn ps (nI 3) (nI 1) ++ gSa cA B (nI (S 0)) (nI (S 2)) (nI (S 4)) (nI (S 5)) L R LL RL TM (nI (S 1)) WW NN (nI (S 3))) := hD
    refine lv_goto (tgt := 105) hx hb dX5_addRule_56 (by decide) ?_
    have hR : addC S a b = (3, 1, S) := by unfold addC; rw [if_neg hgood, if_pos hbad2]
    exact hret _ _ _ _ _ dX5_addRule_105 ⟨L, R, LL, RL, TM, WW, NN, (by rw [hR]), (by rw [hR]; exact hr), (by rw [hR]; exact ho)⟩ hP hD hS
  refine lv_iload hx hb dX5_addRule_12 (lv_at hl 1 rfl) ?_
  refine x0_eq (tgt := 29) hx hb dX5_addRule_14 (by decide) (by omega) (fun c14 => ?_) (fun c14 => ?_)
  · exact L29  (by omega) _ _ _ hP hD hS hl
  · refine lv_iload hx hb dX5_addRule_17 (lv_at hl 1 rfl) ?_
    refine lv_iconst (v := nI 4) hx hb dX5_addRule_19 (by decide +kernel) ?_
    refine xc_gt (tgt := 29) hx hb dX5_addRule_20 (by decide) (by omega) (by omega) (fun c20 => ?_) (fun c20 => ?_)
    · exact L29  (by omega) _ _ _ hP hD hS hl
    · refine lv_iload hx hb dX5_addRule_23 (lv_at hl 0 rfl) ?_
      refine lv_iconst (v := nI 4) hx hb dX5_addRule_25 (by decide +kernel) ?_
      refine xc_le (tgt := 38) hx hb dX5_addRule_26 (by decide) (by omega) (by omega) (fun c26 => ?_) (fun c26 => ?_)
      · refine lv_iload hx hb dX5_addRule_38 (lv_at hl 0 rfl) ?_
        refine lv_iload hx hb dX5_addRule_40 (lv_at hl 1 rfl) ?_
        refine xc_gt (tgt := 50) hx hb dX5_addRule_42 (by decide) (by omega) (by omega) (fun c42 => ?_) (fun c42 => ?_)
        · exact L50  (by omega) (by omega) _ _ _ hP hD hS hl
        · refine lv_iload_n hx hb dX5_addRule_45 rfl (lv_at hl 3 rfl) ?_
          refine lv_iload_n hx hb dX5_addRule_46 rfl (lv_at hl 4 rfl) ?_
          refine xc_ne (tgt := 59) hx hb dX5_addRule_47 (by decide) (by omega) (by omega) (fun c47 => ?_) (fun c47 => ?_)
          · refine lv_aload_n hx hb dX5_addRule_59 rfl (lv_at hl 5 rfl) ?_
            refine va_getN (D := D) (ci := 6) (v := .ref (B 1)) (C := RX6) (T := TX6) (N := 6) hx hb hts hi_X5_addRule_X6 hown hK hP 1 rfl rfl 0 (by decide) (hN.fl (w := .fieldLinkNest RX5 86 "FallingWords$State" "rules" "LFallingWords$Rules;" "FallingWords") (by decide +kernel)) (fun _ h9 => h9) rfl dX5_addRule_60 ?_
            refine lv_iload_n hx hb dX5_addRule_63 rfl (lv_at hl 3 rfl) ?_
            refine lv_iload_n hx hb dX5_addRule_64 rfl (lv_at hl 4 rfl) ?_
            refine ci_VN (As := [.int (nI a), .int (nI b)]) (rest := []) h0 hK hN hP hD hS hA hl.1 (k_X4_hasSides lY D cA (fun i => B (i + 1)) S L R LL RL TM a b (h10) (hr) (by omega) (by omega) (hsd_b hI.1)) [2, 3, 4, 5, 6, 7] rfl (by decide) ⟨(va_cnB 2 hts gX5_addRule_X4_hasSides_n90 rfl rfl rfl (hN (.methodLinkNest RX5 90 yX4_hasSides "FallingWords") (by decide +kernel)) (hts (.initialized RX4) (by decide +kernel)) (by decide +kernel) ⟨Nat.le_of_ble_eq_true rfl, Nat.le_of_ble_eq_true rfl⟩), hts (.instanceMethod yX4_hasSides) (by decide +kernel), hts (.selects RX4 yX4_hasSides yX4_hasSides) (by decide +kernel)⟩ (cl_recv (ci := 4) (q := (RX4, TX4, 6)) (q0 := 2) hP hK rfl rfl) rfl rfl (Nat.le_of_ble_eq_true rfl) dX5_addRule_65 ⟨Nat.zero_le _, Nat.zero_le _⟩ (fun rY wY H locs hwY hJ hS => ?_)
            obtain ⟨e1Y, e2Y⟩ := hwY
            have e3Y := e1Y.symm
            clear e1Y
            subst e3Y
            have e3Y := e2Y.symm
            clear e2Y
            subst e3Y
            obtain ⟨hP, hD⟩ := hJ rfl
            have hP : va_P D vwCl (gSc cA Bs dn ps (nI 0) (nI 0) ++ gSa cA B (nI (S 0)) (nI (S 2)) (nI (S 4)) (nI (S 5)) L R LL RL TM (nI (S 1)) WW NN (nI (S 3))) H := hP
            have hD : va_D AY (gSc cA Bs dn ps (nI 0) (nI 0) ++ gSa cA B (nI (S 0)) (nI (S 2)) (nI (S 4)) (nI (S 5)) L R LL RL TM (nI (S 1)) WW NN (nI (S 3))) := hD
            refine xb_eq (tgt := 80) hx hb dX5_addRule_68 (by decide) (fun c68 => ?_) (fun c68 => ?_)
            · refine lv_aload_n hx hb dX5_addRule_80 rfl (lv_at hl 5 rfl) ?_
              refine va_getN (D := D) (ci := 6) (v := .ref (B 1)) (C := RX6) (T := TX6) (N := 6) hx hb hts hi_X5_addRule_X6 hown hK hP 1 rfl rfl 0 (by decide) (hN.fl (w := .fieldLinkNest RX5 86 "FallingWords$State" "rules" "LFallingWords$Rules;" "FallingWords") (by decide +kernel)) (fun _ h9 => h9) rfl dX5_addRule_81 ?_
              refine ci_VN (As := []) (rest := []) h0 hK hN hP hD hS hA hl.1 (k_X4_isFull lY D cA (fun i => B (i + 1)) S L R LL RL TM (h10)) [2, 3, 4, 5, 6, 7] rfl (by decide) ⟨(va_cnB 0 hts gX5_addRule_X4_isFull_n96 rfl rfl rfl (hN (.methodLinkNest RX5 96 yX4_isFull "FallingWords") (by decide +kernel)) (hts (.initialized RX4) (by decide +kernel)) (by decide +kernel) ⟨Nat.le_of_ble_eq_true rfl, Nat.le_of_ble_eq_true rfl⟩), hts (.instanceMethod yX4_isFull) (by decide +kernel), hts (.selects RX4 yX4_isFull yX4_isFull) (by decide +kernel)⟩ (cl_recv (ci := 4) (q := (RX4, TX4, 6)) (q0 := 2) hP hK rfl rfl) rfl rfl (Nat.le_of_ble_eq_true rfl) dX5_addRule_84 ⟨Nat.zero_le _, Nat.zero_le _⟩ (fun rY wY H locs hwY hJ hS => ?_)
              obtain ⟨e1Y, e2Y⟩ := hwY
              have e3Y := e1Y.symm
              clear e1Y
              subst e3Y
              have e3Y := e2Y.symm
              clear e2Y
              subst e3Y
              obtain ⟨hP, hD⟩ := hJ rfl
              have hP : va_P D vwCl (gSc cA Bs dn ps (nI 0) (nI 0) ++ gSa cA B (nI (S 0)) (nI (S 2)) (nI (S 4)) (nI (S 5)) L R LL RL TM (nI (S 1)) WW NN (nI (S 3))) H := hP
              have hD : va_D AY (gSc cA Bs dn ps (nI 0) (nI 0) ++ gSa cA B (nI (S 0)) (nI (S 2)) (nI (S 4)) (nI (S 5)) L R LL RL TM (nI (S 1)) WW NN (nI (S 3))) := hD
              refine xb_eq (tgt := 99) hx hb dX5_addRule_87 (by decide) (fun c87 => ?_) (fun c87 => ?_)
              · refine lv_aload_n hx hb dX5_addRule_99 rfl (lv_at hl 5 rfl) ?_
                refine lv_iload_n hx hb dX5_addRule_100 rfl (lv_at hl 3 rfl) ?_
                refine lv_iload_n hx hb dX5_addRule_101 rfl (lv_at hl 4 rfl) ?_
                refine cv_VN (As := [.int (nI a), .int (nI b)]) (rest := []) h0 hK hN hP hD hS hA hl.1 (k_X6_addRule lY D cA B S L R LL RL TM WW NN a b (hI) (hr) (ho) (by have := of_decide_eq_false c87; omega) (⟨ha.1, by omega⟩) (⟨hb2.1, by omega⟩)) [1, 2, 3, 4, 5, 6, 7, 8, 9, 10] rfl (by decide) ⟨(va_cnB 2 hts gX5_addRule_X6_addRule_n100 rfl rfl rfl (hN (.methodLinkNest RX5 100 yX6_addRule "FallingWords") (by decide +kernel)) (hts (.initialized RX6) (by decide +kernel)) (by decide +kernel) ⟨Nat.le_of_ble_eq_true rfl, Nat.le_of_ble_eq_true rfl⟩), hts (.instanceMethod yX6_addRule) (by decide +kernel), hts (.selects RX6 yX6_addRule yX6_addRule) (by decide +kernel)⟩ (cl_recv (ci := 6) (q := (RX6, TX6, 6)) (q0 := 1) hP hK rfl rfl) rfl rfl (Nat.le_of_ble_eq_true rfl) dX5_addRule_102 ⟨Nat.zero_le _, Nat.zero_le _⟩ (fun wY H locs hwY hJ hS => ?_)
                obtain ⟨L'_102, R'_102, LL'_102, RL'_102, TM'_102, WW'_102, NN'_102, e2Y, fr_102, fo_102⟩ := hwY
                have e3Y := e2Y.symm
                clear e2Y
                subst e3Y
                obtain ⟨hP, hD⟩ := hJ rfl
                have hP : va_P D vwCl (gSc cA Bs dn ps (nI 0) (nI 0) ++ gSa cA B (nI ((addS S a b) 0)) (nI ((addS S a b) 2)) (nI ((addS S a b) 4)) (nI ((addS S a b) 5)) L'_102 R'_102 LL'_102 RL'_102 TM'_102 (nI ((addS S a b) 1)) WW'_102 NN'_102 (nI ((addS S a b) 3))) H := hP
                have hD : va_D AY (gSc cA Bs dn ps (nI 0) (nI 0) ++ gSa cA B (nI ((addS S a b) 0)) (nI ((addS S a b) 2)) (nI ((addS S a b) 4)) (nI ((addS S a b) 5)) L'_102 R'_102 LL'_102 RL'_102 TM'_102 (nI ((addS S a b) 1)) WW'_102 NN'_102 (nI ((addS S a b) 3))) := hD
                have hR : addC S a b = (0, 0, addS S a b) := by unfold addC; rw [if_neg (by omega), if_neg (by omega), c68, if_neg (by decide), if_neg (of_decide_eq_false c87)]
                exact hret _ _ _ _ _ dX5_addRule_105 ⟨L'_102, R'_102, LL'_102, RL'_102, TM'_102, WW'_102, NN'_102, (by rw [hR]), (by rw [hR]; exact fr_102), (by rw [hR]; exact fo_102)⟩ hP hD hS
              · refine lv_aload_n hx hb dX5_addRule_90 rfl (lv_at hl 2 rfl) ?_
                refine lv_iconst (v := nI 3) hx hb dX5_addRule_91 (by decide +kernel) ?_
                refine lv_iconst (v := nI 3) hx hb dX5_addRule_92 (by decide +kernel) ?_
                refine cv_V (As := [.int (nI 3), .int (nI 3)]) (rest := []) h0 hK hN hP hD hS hA hl.1 (k_X5_failWith lY D cA Bs dn ps (nI 0) (nI 0) (nI 3) (nI 3) ) [0] rfl (by decide) (cwV 2 hts gX5_addRule_X5_failWith rfl rfl rfl (by decide +kernel) ⟨Nat.le_of_ble_eq_true rfl, Nat.le_of_ble_eq_true rfl⟩) (cl_recv (ci := 5) (q := (RX5, TX5, 4)) (q0 := 0) hP hK rfl rfl) rfl rfl (Nat.le_of_ble_eq_true rfl) dX5_addRule_93 ⟨Nat.zero_le _, Nat.zero_le _⟩ (fun wY H locs hwY hJ hS => ?_)
                have e2Y := hwY
                have e3Y := e2Y.symm
                clear e2Y
                subst e3Y
                obtain ⟨hP, hD⟩ := hJ rfl
                have hP : va_P D vwCl (gSc cA Bs dn ps (nI 3) (nI 3) ++ gSa cA B (nI (S 0)) (nI (S 2)) (nI (S 4)) (nI (S 5)) L R LL RL TM (nI (S 1)) WW NN (nI (S 3))) H := hP
                have hD : va_D AY (gSc cA Bs dn ps (nI 3) (nI 3) ++ gSa cA B (nI (S 0)) (nI (S 2)) (nI (S 4)) (nI (S 5)) L R LL RL TM (nI (S 1)) WW NN (nI (S 3))) := hD
                refine lv_goto (tgt := 105) hx hb dX5_addRule_96 (by decide) ?_
                have hR : addC S a b = (3, 3, S) := by unfold addC; rw [if_neg (by omega), if_neg (by omega), c68, if_neg (by decide), if_pos (of_decide_eq_true c87)]
                exact hret _ _ _ _ _ dX5_addRule_105 ⟨L, R, LL, RL, TM, WW, NN, (by rw [hR]), (by rw [hR]; exact hr), (by rw [hR]; exact ho)⟩ hP hD hS
            · refine lv_aload_n hx hb dX5_addRule_71 rfl (lv_at hl 2 rfl) ?_
              refine lv_iconst (v := nI 3) hx hb dX5_addRule_72 (by decide +kernel) ?_
              refine lv_iconst (v := nI 2) hx hb dX5_addRule_73 (by decide +kernel) ?_
              refine cv_V (As := [.int (nI 3), .int (nI 2)]) (rest := []) h0 hK hN hP hD hS hA hl.1 (k_X5_failWith lY D cA Bs dn ps (nI 0) (nI 0) (nI 3) (nI 2) ) [0] rfl (by decide) (cwV 2 hts gX5_addRule_X5_failWith rfl rfl rfl (by decide +kernel) ⟨Nat.le_of_ble_eq_true rfl, Nat.le_of_ble_eq_true rfl⟩) (cl_recv (ci := 5) (q := (RX5, TX5, 4)) (q0 := 0) hP hK rfl rfl) rfl rfl (Nat.le_of_ble_eq_true rfl) dX5_addRule_74 ⟨Nat.zero_le _, Nat.zero_le _⟩ (fun wY H locs hwY hJ hS => ?_)
              have e2Y := hwY
              have e3Y := e2Y.symm
              clear e2Y
              subst e3Y
              obtain ⟨hP, hD⟩ := hJ rfl
              have hP : va_P D vwCl (gSc cA Bs dn ps (nI 3) (nI 2) ++ gSa cA B (nI (S 0)) (nI (S 2)) (nI (S 4)) (nI (S 5)) L R LL RL TM (nI (S 1)) WW NN (nI (S 3))) H := hP
              have hD : va_D AY (gSc cA Bs dn ps (nI 3) (nI 2) ++ gSa cA B (nI (S 0)) (nI (S 2)) (nI (S 4)) (nI (S 5)) L R LL RL TM (nI (S 1)) WW NN (nI (S 3))) := hD
              refine lv_goto (tgt := 105) hx hb dX5_addRule_77 (by decide) ?_
              have hR : addC S a b = (3, 2, S) := by unfold addC; rw [if_neg (by omega), if_neg (by omega), c68]; rfl
              exact hret _ _ _ _ _ dX5_addRule_105 ⟨L, R, LL, RL, TM, WW, NN, (by rw [hR]), (by rw [hR]; exact hr), (by rw [hR]; exact ho)⟩ hP hD hS
          · exact L50  (by omega) (by omega) _ _ _ hP hD hS hl
      · exact L29  (by omega) _ _ _ hP hD hS hl

theorem hi_X5_removeRule_X6 : ∀ w ∈ u_ws RX6 TX6 6, w ∈ wsX5_removeRule := by decide +kernel
set_option maxHeartbeats 1000000 in
set_option maxRecDepth 100000 in
theorem k_X5_removeRule (lY : Launch) (D : va_G) (cA : Nat → ClassId) (Bs B : Nat → Nat) (dn ps : Int32) (S : St) (L R LL RL TM WW NN : Nat → Int32) (d : Nat) (hI : IV S) (hr : rRu S L R LL RL TM) (ho : rSo S WW NN) (hd : d < 10) : MetV lY D cA yX5_removeRule wsX5_removeRule 3 64 0 0 [.ref (Bs 0), .int (nI d), .ref (B 0)] (gSc cA Bs dn ps (nI 0) (nI 0) ++ gSa cA B (nI (S 0)) (nI (S 2)) (nI (S 4)) (nI (S 5)) L R LL RL TM (nI (S 1)) WW NN (nI (S 3))) (fun wY => ∃ (L' : Nat → Int32) (R' : Nat → Int32) (LL' : Nat → Int32) (RL' : Nat → Int32) (TM' : Nat → Int32) (WW' : Nat → Int32) (NN' : Nat → Int32), wY = gSc cA Bs dn ps (nI ((prf 45 0 0 d S).1)) (nI ((prf 45 0 0 d S).2.1)) ++ gSa cA B (nI (((prf 45 0 0 d S).2.2) 0)) (nI (((prf 45 0 0 d S).2.2) 2)) (nI (((prf 45 0 0 d S).2.2) 4)) (nI (((prf 45 0 0 d S).2.2) 5)) L' R' LL' RL' TM' (nI (((prf 45 0 0 d S).2.2) 1)) WW' NN' (nI (((prf 45 0 0 d S).2.2) 3)) ∧ (rRu ((prf 45 0 0 d S).2.2) L' R' LL' RL' TM') ∧ (rSo ((prf 45 0 0 d S).2.2) WW' NN')) := by
  refine MetV.of (cc := cX5_removeRule) (maxL := 3) (by decide) rfl (Nat.le_of_ble_eq_true rfl) ?_
  intro pY eY sY mY aY bY tY cY QY AY ls h0 hP hK hN hD hA hS hl hin hret
  obtain ⟨hx, hb, hml, hown, hts⟩ := id h0
  have hl : lv_has ls 3 [(0, .ref (Bs 0)), (1, .int (nI d)), (2, .ref (B 0))] := hl
  have hP : va_P D vwCl (gSc cA Bs dn ps (nI 0) (nI 0) ++ gSa cA B (nI (S 0)) (nI (S 2)) (nI (S 4)) (nI (S 5)) L R LL RL TM (nI (S 1)) WW NN (nI (S 3))) sY.heap := hP
  have hD : va_D AY (gSc cA Bs dn ps (nI 0) (nI 0) ++ gSa cA B (nI (S 0)) (nI (S 2)) (nI (S 4)) (nI (S 5)) L R LL RL TM (nI (S 1)) WW NN (nI (S 3))) := hD
  refine lv_aload_n hx hb dX5_removeRule_0 rfl (lv_at hl 2 rfl) ?_
  refine va_getN (D := D) (ci := 6) (v := .ref (B 1)) (C := RX6) (T := TX6) (N := 6) hx hb hts hi_X5_removeRule_X6 hown hK hP 1 rfl rfl 0 (by decide) (hN.fl (w := .fieldLinkNest RX5 86 "FallingWords$State" "rules" "LFallingWords$Rules;" "FallingWords") (by decide +kernel)) (fun _ h9 => h9) rfl dX5_removeRule_1 ?_
  refine lv_iload_n hx hb dX5_removeRule_4 rfl (lv_at hl 1 rfl) ?_
  refine ci_VN (As := [.int (nI d)]) (rest := []) h0 hK hN hP hD hS hA hl.1 (k_X4_contains lY D cA (fun i => B (i + 1)) S L R LL RL TM (nI d) (hI.1.1)) [2, 3, 4, 5, 6, 7] rfl (by decide) ⟨(va_cnB 1 hts gX5_removeRule_X4_contains_n102 rfl rfl rfl (hN (.methodLinkNest RX5 102 yX4_contains "FallingWords") (by decide +kernel)) (hts (.initialized RX4) (by decide +kernel)) (by decide +kernel) ⟨Nat.le_of_ble_eq_true rfl, Nat.le_of_ble_eq_true rfl⟩), hts (.instanceMethod yX4_contains) (by decide +kernel), hts (.selects RX4 yX4_contains yX4_contains) (by decide +kernel)⟩ (cl_recv (ci := 4) (q := (RX4, TX4, 6)) (q0 := 2) hP hK rfl rfl) rfl rfl (Nat.le_of_ble_eq_true rfl) dX5_removeRule_5 ⟨Nat.zero_le _, Nat.zero_le _⟩ (fun rY wY H locs hwY hJ hS => ?_)
  obtain ⟨e1Y, e2Y⟩ := hwY
  have e3Y := e1Y.symm
  clear e1Y
  subst e3Y
  have e3Y := e2Y.symm
  clear e2Y
  subst e3Y
  obtain ⟨hP, hD⟩ := hJ rfl
  have hP : va_P D vwCl (gSc cA Bs dn ps (nI 0) (nI 0) ++ gSa cA B (nI (S 0)) (nI (S 2)) (nI (S 4)) (nI (S 5)) L R LL RL TM (nI (S 1)) WW NN (nI (S 3))) H := hP
  have hD : va_D AY (gSc cA Bs dn ps (nI 0) (nI 0) ++ gSa cA B (nI (S 0)) (nI (S 2)) (nI (S 4)) (nI (S 5)) L R LL RL TM (nI (S 1)) WW NN (nI (S 3))) := hD
  refine xt (show bI (inR S (nI d)) = bI (decide (d < S 1)) from congrArg bI (inR_nI (by omega))) ?_
  refine xb_eq (tgt := 19) hx hb dX5_removeRule_8 (by decide) (fun c8 => ?_) (fun c8 => ?_)
  · refine lv_aload_n hx hb dX5_removeRule_19 rfl (lv_at hl 0 rfl) ?_
    refine lv_iconst (v := nI 2) hx hb dX5_removeRule_20 (by decide +kernel) ?_
    refine lv_iconst (v := nI 0) hx hb dX5_removeRule_21 (by decide +kernel) ?_
    refine cv_V (As := [.int (nI 2), .int (nI 0)]) (rest := []) h0 hK hN hP hD hS hA hl.1 (k_X5_failWith lY D cA Bs dn ps (nI 0) (nI 0) (nI 2) (nI 0) ) [0] rfl (by decide) (cwV 2 hts gX5_removeRule_X5_failWith rfl rfl rfl (by decide +kernel) ⟨Nat.le_of_ble_eq_true rfl, Nat.le_of_ble_eq_true rfl⟩) (cl_recv (ci := 5) (q := (RX5, TX5, 4)) (q0 := 0) hP hK rfl rfl) rfl rfl (Nat.le_of_ble_eq_true rfl) dX5_removeRule_22 ⟨Nat.zero_le _, Nat.zero_le _⟩ (fun wY H locs hwY hJ hS => ?_)
    have e2Y := hwY
    have e3Y := e2Y.symm
    clear e2Y
    subst e3Y
    obtain ⟨hP, hD⟩ := hJ rfl
    have hP : va_P D vwCl (gSc cA Bs dn ps (nI 2) (nI 0) ++ gSa cA B (nI (S 0)) (nI (S 2)) (nI (S 4)) (nI (S 5)) L R LL RL TM (nI (S 1)) WW NN (nI (S 3))) H := hP
    have hD : va_D AY (gSc cA Bs dn ps (nI 2) (nI 0) ++ gSa cA B (nI (S 0)) (nI (S 2)) (nI (S 4)) (nI (S 5)) L R LL RL TM (nI (S 1)) WW NN (nI (S 3))) := hD
    have hR : prf 45 0 0 d S = (2, 0, S) := (prf_45 rfl).trans (if_neg (of_decide_eq_false c8))
    exact hret _ _ _ _ _ dX5_removeRule_25 ⟨L, R, LL, RL, TM, WW, NN, (by rw [hR]), (by rw [hR]; exact hr), (by rw [hR]; exact ho)⟩ hP hD hS
  · refine lv_aload_n hx hb dX5_removeRule_11 rfl (lv_at hl 2 rfl) ?_
    refine lv_iload_n hx hb dX5_removeRule_12 rfl (lv_at hl 1 rfl) ?_
    refine cv_VN (As := [.int (nI d)]) (rest := []) h0 hK hN hP hD hS hA hl.1 (k_X6_removeRule lY D cA B S L R LL RL TM WW NN d (hI) (hr) (ho) (of_decide_eq_true c8)) [1, 2, 3, 4, 5, 6, 7, 8, 9, 10] rfl (by decide) ⟨(va_cnB 1 hts gX5_removeRule_X6_removeRule_n105 rfl rfl rfl (hN (.methodLinkNest RX5 105 yX6_removeRule "FallingWords") (by decide +kernel)) (hts (.initialized RX6) (by decide +kernel)) (by decide +kernel) ⟨Nat.le_of_ble_eq_true rfl, Nat.le_of_ble_eq_true rfl⟩), hts (.instanceMethod yX6_removeRule) (by decide +kernel), hts (.selects RX6 yX6_removeRule yX6_removeRule) (by decide +kernel)⟩ (cl_recv (ci := 6) (q := (RX6, TX6, 6)) (q0 := 1) hP hK rfl rfl) rfl rfl (Nat.le_of_ble_eq_true rfl) dX5_removeRule_13 ⟨Nat.zero_le _, Nat.zero_le _⟩ (fun wY H locs hwY hJ hS => ?_)
    obtain ⟨L'_13, R'_13, LL'_13, RL'_13, TM'_13, WW'_13, NN'_13, e2Y, fr_13, fo_13⟩ := hwY
    have e3Y := e2Y.symm
    clear e2Y
    subst e3Y
    obtain ⟨hP, hD⟩ := hJ rfl
    have hP : va_P D vwCl (gSc cA Bs dn ps (nI 0) (nI 0) ++ gSa cA B (nI ((dropS S d) 0)) (nI ((dropS S d) 2)) (nI ((dropS S d) 4)) (nI ((dropS S d) 5)) L'_13 R'_13 LL'_13 RL'_13 TM'_13 (nI ((dropS S d) 1)) WW'_13 NN'_13 (nI ((dropS S d) 3))) H := hP
    have hD : va_D AY (gSc cA Bs dn ps (nI 0) (nI 0) ++ gSa cA B (nI ((dropS S d) 0)) (nI ((dropS S d) 2)) (nI ((dropS S d) 4)) (nI ((dropS S d) 5)) L'_13 R'_13 LL'_13 RL'_13 TM'_13 (nI ((dropS S d) 1)) WW'_13 NN'_13 (nI ((dropS S d) 3))) := hD
    refine lv_goto (tgt := 25) hx hb dX5_removeRule_16 (by decide) ?_
    have hR : prf 45 0 0 d S = (0, 0, dropS S d) := (prf_45 rfl).trans (if_pos (of_decide_eq_true c8))
    exact hret _ _ _ _ _ dX5_removeRule_25 ⟨L'_13, R'_13, LL'_13, RL'_13, TM'_13, WW'_13, NN'_13, (by rw [hR]), (by rw [hR]; exact fr_13), (by rw [hR]; exact fo_13)⟩ hP hD hS

theorem hi_X5_setWord_X6 : ∀ w ∈ u_ws RX6 TX6 6, w ∈ wsX5_setWord := by decide +kernel
set_option maxHeartbeats 1000000 in
set_option maxRecDepth 100000 in
theorem k_X5_setWord (lY : Launch) (D : va_G) (cA : Nat → ClassId) (Bs B : Nat → Nat) (dn ps : Int32) (S : St) (L R LL RL TM WW NN : Nat → Int32) (a : Nat) (hI : IV S) (hr : rRu S L R LL RL TM) (ho : rSo S WW NN) (ha : vw 13 a) : MetV lY D cA yX5_setWord wsX5_setWord 1 22 0 0 [.ref (Bs 0), .int (nI a), .ref (B 0)] (gSc cA Bs dn ps (nI 0) (nI 0) ++ gSa cA B (nI (S 0)) (nI (S 2)) (nI (S 4)) (nI (S 5)) L R LL RL TM (nI (S 1)) WW NN (nI (S 3))) (fun wY => ∃ (L' : Nat → Int32) (R' : Nat → Int32) (LL' : Nat → Int32) (RL' : Nat → Int32) (TM' : Nat → Int32) (WW' : Nat → Int32) (NN' : Nat → Int32), wY = gSc cA Bs dn ps (nI ((prf 61 a 0 0 S).1)) (nI ((prf 61 a 0 0 S).2.1)) ++ gSa cA B (nI (((prf 61 a 0 0 S).2.2) 0)) (nI (((prf 61 a 0 0 S).2.2) 2)) (nI (((prf 61 a 0 0 S).2.2) 4)) (nI (((prf 61 a 0 0 S).2.2) 5)) L' R' LL' RL' TM' (nI (((prf 61 a 0 0 S).2.2) 1)) WW' NN' (nI (((prf 61 a 0 0 S).2.2) 3)) ∧ (rRu ((prf 61 a 0 0 S).2.2) L' R' LL' RL' TM') ∧ (rSo ((prf 61 a 0 0 S).2.2) WW' NN')) := by
  refine MetV.of (cc := cX5_setWord) (maxL := 3) (by decide) rfl (Nat.le_of_ble_eq_true rfl) ?_
  intro pY eY sY mY aY bY tY cY QY AY ls h0 hP hK hN hD hA hS hl hin hret
  obtain ⟨hx, hb, hml, hown, hts⟩ := id h0
  have hl : lv_has ls 3 [(0, .ref (Bs 0)), (1, .int (nI a)), (2, .ref (B 0))] := hl
  have hP : va_P D vwCl (gSc cA Bs dn ps (nI 0) (nI 0) ++ gSa cA B (nI (S 0)) (nI (S 2)) (nI (S 4)) (nI (S 5)) L R LL RL TM (nI (S 1)) WW NN (nI (S 3))) sY.heap := hP
  have hD : va_D AY (gSc cA Bs dn ps (nI 0) (nI 0) ++ gSa cA B (nI (S 0)) (nI (S 2)) (nI (S 4)) (nI (S 5)) L R LL RL TM (nI (S 1)) WW NN (nI (S 3))) := hD
  have hla := ha.2
  refine lv_iload_n hx hb dX5_setWord_0 rfl (lv_at hl 1 rfl) ?_
  refine ci_SN (As := [.int (nI a)]) (rest := []) h0 hK hN hP hD hS hA hl.1 (k_X9_lengthOf lY D cA a (ha.1) (ha.2)) [] rfl (by decide) ⟨(va_cnB 1 hts gX5_setWord_X9_lengthOf_n80 rfl rfl rfl (hN (.methodLinkNest RX5 80 yX9_lengthOf "FallingWords") (by decide +kernel)) (hts (.initialized RX9) (by decide +kernel)) (by decide +kernel) ⟨Nat.le_of_ble_eq_true rfl, Nat.le_of_ble_eq_true rfl⟩), hts (.static yX9_lengthOf) (by decide +kernel), trivial⟩ rfl rfl (Nat.le_of_ble_eq_true rfl) dX5_setWord_1 ⟨Nat.zero_le _, Nat.zero_le _⟩ (fun rY wY H locs hwY hJ hS => ?_)
  obtain ⟨e1Y, e2Y⟩ := hwY
  have e3Y := e1Y.symm
  clear e1Y
  subst e3Y
  have e3Y := e2Y.symm
  clear e2Y
  subst e3Y
  obtain ⟨hP, hD⟩ := hJ rfl
  have hP : va_P D vwCl (gSc cA Bs dn ps (nI 0) (nI 0) ++ gSa cA B (nI (S 0)) (nI (S 2)) (nI (S 4)) (nI (S 5)) L R LL RL TM (nI (S 1)) WW NN (nI (S 3))) H := hP
  have hD : va_D AY (gSc cA Bs dn ps (nI 0) (nI 0) ++ gSa cA B (nI (S 0)) (nI (S 2)) (nI (S 4)) (nI (S 5)) L R LL RL TM (nI (S 1)) WW NN (nI (S 3))) := hD
  refine lv_bipush (v := nI 12) hx hb dX5_setWord_4 (by decide +kernel) ?_
  refine xc_gt (tgt := 17) hx hb dX5_setWord_6 (by decide) (by omega) (by omega) (fun c6 => ?_) (fun c6 => ?_)
  · refine lv_aload_n hx hb dX5_setWord_17 rfl (lv_at hl 0 rfl) ?_
    refine lv_iconst (v := nI 2) hx hb dX5_setWord_18 (by decide +kernel) ?_
    refine lv_iconst (v := nI 0) hx hb dX5_setWord_19 (by decide +kernel) ?_
    refine cv_V (As := [.int (nI 2), .int (nI 0)]) (rest := []) h0 hK hN hP hD hS hA hl.1 (k_X5_failWith lY D cA Bs dn ps (nI 0) (nI 0) (nI 2) (nI 0) ) [0] rfl (by decide) (cwV 2 hts gX5_setWord_X5_failWith rfl rfl rfl (by decide +kernel) ⟨Nat.le_of_ble_eq_true rfl, Nat.le_of_ble_eq_true rfl⟩) (cl_recv (ci := 5) (q := (RX5, TX5, 4)) (q0 := 0) hP hK rfl rfl) rfl rfl (Nat.le_of_ble_eq_true rfl) dX5_setWord_20 ⟨Nat.zero_le _, Nat.zero_le _⟩ (fun wY H locs hwY hJ hS => ?_)
    have e2Y := hwY
    have e3Y := e2Y.symm
    clear e2Y
    subst e3Y
    obtain ⟨hP, hD⟩ := hJ rfl
    have hP : va_P D vwCl (gSc cA Bs dn ps (nI 2) (nI 0) ++ gSa cA B (nI (S 0)) (nI (S 2)) (nI (S 4)) (nI (S 5)) L R LL RL TM (nI (S 1)) WW NN (nI (S 3))) H := hP
    have hD : va_D AY (gSc cA Bs dn ps (nI 2) (nI 0) ++ gSa cA B (nI (S 0)) (nI (S 2)) (nI (S 4)) (nI (S 5)) L R LL RL TM (nI (S 1)) WW NN (nI (S 3))) := hD
    have hR : prf 61 a 0 0 S = (2, 0, S) := (prf_61 rfl).trans (if_neg (by omega))
    exact hret _ _ _ _ _ dX5_setWord_23 ⟨L, R, LL, RL, TM, WW, NN, (by rw [hR]), (by rw [hR]; exact hr), (by rw [hR]; exact ho)⟩ hP hD hS
  · refine lv_aload_n hx hb dX5_setWord_9 rfl (lv_at hl 2 rfl) ?_
    refine lv_iload_n hx hb dX5_setWord_10 rfl (lv_at hl 1 rfl) ?_
    refine va_putN (D := D) (ci := 6) (v := .int (nI a)) (ty := .int) (C := RX6) (T := TX6) (N := 6) hx hb hts hi_X5_setWord_X6 tyX6 tyX6_ok nmX6 hown hK hP hD hS 1 rfl rfl 2 (by decide) (hN.fl (w := .fieldLinkNest RX5 108 "FallingWords$State" "word" "I" "FallingWords") (by decide +kernel)) (fun _ h9 => h9) rfl (by decide +kernel) rfl rfl (Nat.le_of_ble_eq_true rfl) dX5_setWord_11 (fun H locs hP hD hS => ?_)
    have hP : va_P D vwCl (gSc cA Bs dn ps (nI 0) (nI 0) ++ gSa cA B (nI a) (nI (S 2)) (nI (S 4)) (nI (S 5)) L R LL RL TM (nI (S 1)) WW NN (nI (S 3))) H := hP
    have hD : va_D AY (gSc cA Bs dn ps (nI 0) (nI 0) ++ gSa cA B (nI a) (nI (S 2)) (nI (S 4)) (nI (S 5)) L R LL RL TM (nI (S 1)) WW NN (nI (S 3))) := hD
    refine lv_goto (tgt := 23) hx hb dX5_setWord_14 (by decide) ?_
    have hR : prf 61 a 0 0 S = (0, 0, upN S 0 a) := (prf_61 rfl).trans (if_pos (by omega))
    have q0 : (upN S 0 a) 0 = a := by unfold upN; (try dsimp only); repeat first | rw [if_pos (by omega)] | rw [if_neg (by omega)]
    have q1 : (upN S 0 a) 1 = S 1 := by unfold upN; (try dsimp only); repeat first | rw [if_pos (by omega)] | rw [if_neg (by omega)]
    have q2 : (upN S 0 a) 2 = S 2 := by unfold upN; (try dsimp only); repeat first | rw [if_pos (by omega)] | rw [if_neg (by omega)]
    have q3 : (upN S 0 a) 3 = S 3 := by unfold upN; (try dsimp only); repeat first | rw [if_pos (by omega)] | rw [if_neg (by omega)]
    have q4 : (upN S 0 a) 4 = S 4 := by unfold upN; (try dsimp only); repeat first | rw [if_pos (by omega)] | rw [if_neg (by omega)]
    have q5 : (upN S 0 a) 5 = S 5 := by unfold upN; (try dsimp only); repeat first | rw [if_pos (by omega)] | rw [if_neg (by omega)]
    exact hret _ _ _ _ _ dX5_setWord_23 ⟨L, R, LL, RL, TM, WW, NN, (by rw [hR]; dsimp only; rw [q0, q1, q2, q3, q4, q5]), (by rw [hR]; exact rRu_to (S2 := upN S 0 a) hr (fun j h1 h2 => upN_n (by omega)) q1 hI.1.1), (by rw [hR]; exact rSo_to (S2 := upN S 0 a) ho (fun j h1 => upN_n (by omega)) q3)⟩ hP hD hS

set_option maxHeartbeats 1000000 in
set_option maxRecDepth 100000 in
theorem k_X5_setChoosing (lY : Launch) (D : va_G) (cA : Nat → ClassId) (Bs B : Nat → Nat) (dn ps : Int32) (S : St) (L R LL RL TM WW NN : Nat → Int32) (d : Nat) (hI : IV S) (hr : rRu S L R LL RL TM) (ho : rSo S WW NN) (hd : d < 10) : MetV lY D cA yX5_setChoosing wsX5_setChoosing 1 22 0 0 [.ref (Bs 0), .int (nI d), .ref (B 0)] (gSc cA Bs dn ps (nI 0) (nI 0) ++ gSa cA B (nI (S 0)) (nI (S 2)) (nI (S 4)) (nI (S 5)) L R LL RL TM (nI (S 1)) WW NN (nI (S 3))) (fun wY => ∃ (L' : Nat → Int32) (R' : Nat → Int32) (LL' : Nat → Int32) (RL' : Nat → Int32) (TM' : Nat → Int32) (WW' : Nat → Int32) (NN' : Nat → Int32), wY = gSc cA Bs dn ps (nI ((prf 119 0 0 d S).1)) (nI ((prf 119 0 0 d S).2.1)) ++ gSa cA B (nI (((prf 119 0 0 d S).2.2) 0)) (nI (((prf 119 0 0 d S).2.2) 2)) (nI (((prf 119 0 0 d S).2.2) 4)) (nI (((prf 119 0 0 d S).2.2) 5)) L' R' LL' RL' TM' (nI (((prf 119 0 0 d S).2.2) 1)) WW' NN' (nI (((prf 119 0 0 d S).2.2) 3)) ∧ (rRu ((prf 119 0 0 d S).2.2) L' R' LL' RL' TM') ∧ (rSo ((prf 119 0 0 d S).2.2) WW' NN')) := by
  refine MetV.of (cc := cX5_setChoosing) (maxL := 3) (by decide) rfl (Nat.le_of_ble_eq_true rfl) ?_
  intro pY eY sY mY aY bY tY cY QY AY ls h0 hP hK hN hD hA hS hl hin hret
  obtain ⟨hx, hb, hml, hown, hts⟩ := id h0
  have hl : lv_has ls 3 [(0, .ref (Bs 0)), (1, .int (nI d)), (2, .ref (B 0))] := hl
  have hP : va_P D vwCl (gSc cA Bs dn ps (nI 0) (nI 0) ++ gSa cA B (nI (S 0)) (nI (S 2)) (nI (S 4)) (nI (S 5)) L R LL RL TM (nI (S 1)) WW NN (nI (S 3))) sY.heap := hP
  have hD : va_D AY (gSc cA Bs dn ps (nI 0) (nI 0) ++ gSa cA B (nI (S 0)) (nI (S 2)) (nI (S 4)) (nI (S 5)) L R LL RL TM (nI (S 1)) WW NN (nI (S 3))) := hD
  refine lv_iload_n hx hb dX5_setChoosing_0 rfl (lv_at hl 1 rfl) ?_
  refine lv_iconst (v := nI 2) hx hb dX5_setChoosing_1 (by decide +kernel) ?_
  refine xc_gt (tgt := 13) hx hb dX5_setChoosing_2 (by decide) (by omega) (by omega) (fun c2 => ?_) (fun c2 => ?_)
  · refine lv_aload_n hx hb dX5_setChoosing_13 rfl (lv_at hl 0 rfl) ?_
    refine lv_iconst (v := nI 2) hx hb dX5_setChoosing_14 (by decide +kernel) ?_
    refine lv_iconst (v := nI 0) hx hb dX5_setChoosing_15 (by decide +kernel) ?_
    refine cv_V (As := [.int (nI 2), .int (nI 0)]) (rest := []) h0 hK hN hP hD hS hA hl.1 (k_X5_failWith lY D cA Bs dn ps (nI 0) (nI 0) (nI 2) (nI 0) ) [0] rfl (by decide) (cwV 2 hts gX5_setChoosing_X5_failWith rfl rfl rfl (by decide +kernel) ⟨Nat.le_of_ble_eq_true rfl, Nat.le_of_ble_eq_true rfl⟩) (cl_recv (ci := 5) (q := (RX5, TX5, 4)) (q0 := 0) hP hK rfl rfl) rfl rfl (Nat.le_of_ble_eq_true rfl) dX5_setChoosing_16 ⟨Nat.zero_le _, Nat.zero_le _⟩ (fun wY H locs hwY hJ hS => ?_)
    have e2Y := hwY
    have e3Y := e2Y.symm
    clear e2Y
    subst e3Y
    obtain ⟨hP, hD⟩ := hJ rfl
    have hP : va_P D vwCl (gSc cA Bs dn ps (nI 2) (nI 0) ++ gSa cA B (nI (S 0)) (nI (S 2)) (nI (S 4)) (nI (S 5)) L R LL RL TM (nI (S 1)) WW NN (nI (S 3))) H := hP
    have hD : va_D AY (gSc cA Bs dn ps (nI 2) (nI 0) ++ gSa cA B (nI (S 0)) (nI (S 2)) (nI (S 4)) (nI (S 5)) L R LL RL TM (nI (S 1)) WW NN (nI (S 3))) := hD
    have hR : prf 119 0 0 d S = (2, 0, S) := (prf_119 rfl).trans (if_neg (by omega))
    exact hret _ _ _ _ _ dX5_setChoosing_19 ⟨L, R, LL, RL, TM, WW, NN, (by rw [hR]), (by rw [hR]; exact hr), (by rw [hR]; exact ho)⟩ hP hD hS
  · refine lv_aload_n hx hb dX5_setChoosing_5 rfl (lv_at hl 2 rfl) ?_
    refine lv_iload_n hx hb dX5_setChoosing_6 rfl (lv_at hl 1 rfl) ?_
    refine cv_VN (As := [.int (nI d)]) (rest := []) h0 hK hN hP hD hS hA hl.1 (k_X6_setChoosing lY D cA B S L R LL RL TM WW NN d (hI) (hr) (ho)) [1, 2, 3, 4, 5, 6, 7, 8, 9, 10] rfl (by decide) ⟨(va_cnB 1 hts gX5_setChoosing_X6_setChoosing_n111 rfl rfl rfl (hN (.methodLinkNest RX5 111 yX6_setChoosing "FallingWords") (by decide +kernel)) (hts (.initialized RX6) (by decide +kernel)) (by decide +kernel) ⟨Nat.le_of_ble_eq_true rfl, Nat.le_of_ble_eq_true rfl⟩), hts (.instanceMethod yX6_setChoosing) (by decide +kernel), hts (.selects RX6 yX6_setChoosing yX6_setChoosing) (by decide +kernel)⟩ (cl_recv (ci := 6) (q := (RX6, TX6, 6)) (q0 := 1) hP hK rfl rfl) rfl rfl (Nat.le_of_ble_eq_true rfl) dX5_setChoosing_7 ⟨Nat.zero_le _, Nat.zero_le _⟩ (fun wY H locs hwY hJ hS => ?_)
    obtain ⟨L'_7, R'_7, LL'_7, RL'_7, TM'_7, WW'_7, NN'_7, e2Y, fr_7, fo_7⟩ := hwY
    have e3Y := e2Y.symm
    clear e2Y
    subst e3Y
    obtain ⟨hP, hD⟩ := hJ rfl
    have hP : va_P D vwCl (gSc cA Bs dn ps (nI 0) (nI 0) ++ gSa cA B (nI ((wayS S d) 0)) (nI ((wayS S d) 2)) (nI ((wayS S d) 4)) (nI ((wayS S d) 5)) L'_7 R'_7 LL'_7 RL'_7 TM'_7 (nI ((wayS S d) 1)) WW'_7 NN'_7 (nI ((wayS S d) 3))) H := hP
    have hD : va_D AY (gSc cA Bs dn ps (nI 0) (nI 0) ++ gSa cA B (nI ((wayS S d) 0)) (nI ((wayS S d) 2)) (nI ((wayS S d) 4)) (nI ((wayS S d) 5)) L'_7 R'_7 LL'_7 RL'_7 TM'_7 (nI ((wayS S d) 1)) WW'_7 NN'_7 (nI ((wayS S d) 3))) := hD
    refine lv_goto (tgt := 19) hx hb dX5_setChoosing_10 (by decide) ?_
    have hR : prf 119 0 0 d S = (0, 0, wayS S d) := (prf_119 rfl).trans (if_pos (by omega))
    exact hret _ _ _ _ _ dX5_setChoosing_19 ⟨L'_7, R'_7, LL'_7, RL'_7, TM'_7, WW'_7, NN'_7, (by rw [hR]), (by rw [hR]; exact fr_7), (by rw [hR]; exact fo_7)⟩ hP hD hS

theorem hi_X5_perform_X8 : ∀ w ∈ u_ws RX8 TX8 7, w ∈ wsX5_perform := by decide +kernel
set_option maxHeartbeats 1000000 in
set_option maxRecDepth 100000 in
theorem k_X5_perform (lY : Launch) (D : va_G) (cA : Nat → ClassId) (Bs Bt B Bd : Nat → Nat) (dn ps : Int32) (CH : Nat → Int32) (sz at1 fw sw dg : Int32) (S : St) (L R LL RL TM WW NN : Nat → Int32) (WD RD : Nat → Int32) (oc ns rs : Int32) (k a b d : Nat) (hI : IV S) (hr : rRu S L R LL RL TM) (ho : rSo S WW NN) (h43 : k = 43 → fw = nI a ∧ sw = nI b ∧ vw 13 a ∧ vw 13 b) (h61 : k = 61 → fw = nI a ∧ vw 13 a) (hdg : (k = 45 ∨ k = 119) → dg = nI d ∧ d < 10) (hk : k = 43 ∨ k = 45 ∨ k = 61 ∨ k = 110 ∨ k = 115 ∨ k = 119) : MetV lY D cA yX5_perform wsX5_perform 4 104 0 0 [.ref (Bs 0), .ref (Bt 0), .ref (B 0), .ref (Bd 0)] (gSc cA Bs dn ps (nI 0) (nI 0) ++ gTx cA Bt CH sz at1 (nI k) fw sw dg ++ gSa cA B (nI (S 0)) (nI (S 2)) (nI (S 4)) (nI (S 5)) L R LL RL TM (nI (S 1)) WW NN (nI (S 3)) ++ gRd cA Bd WD RD oc ns rs) (fun wY => ∃ (L' : Nat → Int32) (R' : Nat → Int32) (LL' : Nat → Int32) (RL' : Nat → Int32) (TM' : Nat → Int32) (WW' : Nat → Int32) (NN' : Nat → Int32) (WD' : Nat → Int32) (RD' : Nat → Int32) (oc' : Int32) (ns' : Int32) (rs' : Int32), wY = gSc cA Bs dn ps (nI ((prf k a b d S).1)) (nI ((prf k a b d S).2.1)) ++ gTx cA Bt CH sz at1 (nI k) fw sw dg ++ gSa cA B (nI (((prf k a b d S).2.2) 0)) (nI (((prf k a b d S).2.2) 2)) (nI (((prf k a b d S).2.2) 4)) (nI (((prf k a b d S).2.2) 5)) L' R' LL' RL' TM' (nI (((prf k a b d S).2.2) 1)) WW' NN' (nI (((prf k a b d S).2.2) 3)) ++ gRd cA Bd WD' RD' oc' ns' rs' ∧ (rRu ((prf k a b d S).2.2) L' R' LL' RL' TM') ∧ (rSo ((prf k a b d S).2.2) WW' NN')) := by
  refine MetV.of (cc := cX5_perform) (maxL := 4) (by decide) rfl (Nat.le_of_ble_eq_true rfl) ?_
  intro pY eY sY mY aY bY tY cY QY AY ls h0 hP hK hN hD hA hS hl hin hret
  obtain ⟨hx, hb, hml, hown, hts⟩ := id h0
  have hl : lv_has ls 4 [(0, .ref (Bs 0)), (1, .ref (Bt 0)), (2, .ref (B 0)), (3, .ref (Bd 0))] := hl
  have hP : va_P D vwCl (gSc cA Bs dn ps (nI 0) (nI 0) ++ gTx cA Bt CH sz at1 (nI k) fw sw dg ++ gSa cA B (nI (S 0)) (nI (S 2)) (nI (S 4)) (nI (S 5)) L R LL RL TM (nI (S 1)) WW NN (nI (S 3)) ++ gRd cA Bd WD RD oc ns rs) sY.heap := hP
  have hD : va_D AY (gSc cA Bs dn ps (nI 0) (nI 0) ++ gTx cA Bt CH sz at1 (nI k) fw sw dg ++ gSa cA B (nI (S 0)) (nI (S 2)) (nI (S 4)) (nI (S 5)) L R LL RL TM (nI (S 1)) WW NN (nI (S 3)) ++ gRd cA Bd WD RD oc ns rs) := hD
  refine lv_aload_n hx hb dX5_perform_0 rfl (lv_at hl 1 rfl) ?_
  refine va_getN (D := D) (ci := 8) (v := .int (nI k)) (C := RX8) (T := TX8) (N := 7) hx hb hts hi_X5_perform_X8 hown hK hP 1 rfl rfl 3 (by decide) (hN.fl (w := .fieldLinkNest RX5 44 "FallingWords$Text" "kind" "I" "FallingWords") (by decide +kernel)) (fun _ h9 => h9) rfl dX5_perform_1 ?_
  by_cases s4_43 : k = 43
  · have e4 : (nI k : Int32).toInt = 43 := by rw [s4_43]; rfl
    refine lv_lookup (off := 52) (tgt := 56) hx hb dX5_perform_4 (by decide) (by rw [e4]; decide) (by decide) ?_
    obtain ⟨rfl, rfl, va1, vb1⟩ := h43 s4_43
    have hP : va_P D vwCl (gSc cA Bs dn ps (nI 0) (nI 0) ++ gTx cA Bt CH sz at1 (nI k) (nI a) (nI b) dg ++ gSa cA B (nI (S 0)) (nI (S 2)) (nI (S 4)) (nI (S 5)) L R LL RL TM (nI (S 1)) WW NN (nI (S 3)) ++ gRd cA Bd WD RD oc ns rs) sY.heap := hP
    have hD : va_D AY (gSc cA Bs dn ps (nI 0) (nI 0) ++ gTx cA Bt CH sz at1 (nI k) (nI a) (nI b) dg ++ gSa cA B (nI (S 0)) (nI (S 2)) (nI (S 4)) (nI (S 5)) L R LL RL TM (nI (S 1)) WW NN (nI (S 3)) ++ gRd cA Bd WD RD oc ns rs) := hD
    refine lv_aload_n hx hb dX5_perform_56 rfl (lv_at hl 0 rfl) ?_
    refine lv_aload_n hx hb dX5_perform_57 rfl (lv_at hl 1 rfl) ?_
    refine va_getN (D := D) (ci := 8) (v := .int (nI a)) (C := RX8) (T := TX8) (N := 7) hx hb hts hi_X5_perform_X8 hown hK hP 1 rfl rfl 4 (by decide) (hN.fl (w := .fieldLinkNest RX5 47 "FallingWords$Text" "firstWord" "I" "FallingWords") (by decide +kernel)) (fun _ h9 => h9) rfl dX5_perform_58 ?_
    refine lv_aload_n hx hb dX5_perform_61 rfl (lv_at hl 1 rfl) ?_
    refine va_getN (D := D) (ci := 8) (v := .int (nI b)) (C := RX8) (T := TX8) (N := 7) hx hb hts hi_X5_perform_X8 hown hK hP 1 rfl rfl 5 (by decide) (hN.fl (w := .fieldLinkNest RX5 50 "FallingWords$Text" "secondWord" "I" "FallingWords") (by decide +kernel)) (fun _ h9 => h9) rfl dX5_perform_62 ?_
    refine lv_aload_n hx hb dX5_perform_65 rfl (lv_at hl 2 rfl) ?_
    refine cv_V (As := [.int (nI a), .int (nI b), .ref (B 0)]) (rest := []) h0 hK hN hP hD hS hA hl.1 (k_X5_addRule lY D cA Bs B dn ps S L R LL RL TM WW NN a b (hI) (hr) (ho) (va1) (vb1)) [0, 3, 4, 5, 6, 7, 8, 9, 10, 11, 12] rfl (by decide) (cwV 3 hts gX5_perform_X5_addRule rfl rfl rfl (by decide +kernel) ⟨Nat.le_of_ble_eq_true rfl, Nat.le_of_ble_eq_true rfl⟩) (cl_recv (ci := 5) (q := (RX5, TX5, 4)) (q0 := 0) hP hK rfl rfl) rfl rfl (Nat.le_of_ble_eq_true rfl) dX5_perform_66 ⟨Nat.zero_le _, Nat.zero_le _⟩ (fun wY H locs hwY hJ hS => ?_)
    obtain ⟨L'_66, R'_66, LL'_66, RL'_66, TM'_66, WW'_66, NN'_66, e2Y, fr_66, fo_66⟩ := hwY
    have e3Y := e2Y.symm
    clear e2Y
    subst e3Y
    obtain ⟨hP, hD⟩ := hJ rfl
    have hP : va_P D vwCl (gSc cA Bs dn ps (nI ((addC S a b).1)) (nI ((addC S a b).2.1)) ++ gTx cA Bt CH sz at1 (nI k) (nI a) (nI b) dg ++ gSa cA B (nI (((addC S a b).2.2) 0)) (nI (((addC S a b).2.2) 2)) (nI (((addC S a b).2.2) 4)) (nI (((addC S a b).2.2) 5)) L'_66 R'_66 LL'_66 RL'_66 TM'_66 (nI (((addC S a b).2.2) 1)) WW'_66 NN'_66 (nI (((addC S a b).2.2) 3)) ++ gRd cA Bd WD RD oc ns rs) H := hP
    have hD : va_D AY (gSc cA Bs dn ps (nI ((addC S a b).1)) (nI ((addC S a b).2.1)) ++ gTx cA Bt CH sz at1 (nI k) (nI a) (nI b) dg ++ gSa cA B (nI (((addC S a b).2.2) 0)) (nI (((addC S a b).2.2) 2)) (nI (((addC S a b).2.2) 4)) (nI (((addC S a b).2.2) 5)) L'_66 R'_66 LL'_66 RL'_66 TM'_66 (nI (((addC S a b).2.2) 1)) WW'_66 NN'_66 (nI (((addC S a b).2.2) 3)) ++ gRd cA Bd WD RD oc ns rs) := hD
    refine lv_goto (tgt := 138) hx hb dX5_perform_69 (by decide) ?_
    have hR : prf k a b d S = addC S a b := prf_43 s4_43
    exact hret _ _ _ _ _ dX5_perform_138 ⟨L'_66, R'_66, LL'_66, RL'_66, TM'_66, WW'_66, NN'_66, WD, RD, oc, ns, rs, (by rw [hR]), (by rw [hR]; exact fr_66), (by rw [hR]; exact fo_66)⟩ hP hD hS
  by_cases s4_45 : k = 45
  · have e4 : (nI k : Int32).toInt = 45 := by rw [s4_45]; rfl
    refine lv_lookup (off := 68) (tgt := 72) hx hb dX5_perform_4 (by decide) (by rw [e4]; decide) (by decide) ?_
    obtain ⟨rfl, hd10⟩ := hdg (Or.inl s4_45)
    have hP : va_P D vwCl (gSc cA Bs dn ps (nI 0) (nI 0) ++ gTx cA Bt CH sz at1 (nI k) fw sw (nI d) ++ gSa cA B (nI (S 0)) (nI (S 2)) (nI (S 4)) (nI (S 5)) L R LL RL TM (nI (S 1)) WW NN (nI (S 3)) ++ gRd cA Bd WD RD oc ns rs) sY.heap := hP
    have hD : va_D AY (gSc cA Bs dn ps (nI 0) (nI 0) ++ gTx cA Bt CH sz at1 (nI k) fw sw (nI d) ++ gSa cA B (nI (S 0)) (nI (S 2)) (nI (S 4)) (nI (S 5)) L R LL RL TM (nI (S 1)) WW NN (nI (S 3)) ++ gRd cA Bd WD RD oc ns rs) := hD
    refine lv_aload_n hx hb dX5_perform_72 rfl (lv_at hl 0 rfl) ?_
    refine lv_aload_n hx hb dX5_perform_73 rfl (lv_at hl 1 rfl) ?_
    refine va_getN (D := D) (ci := 8) (v := .int (nI d)) (C := RX8) (T := TX8) (N := 7) hx hb hts hi_X5_perform_X8 hown hK hP 1 rfl rfl 6 (by decide) (hN.fl (w := .fieldLinkNest RX5 57 "FallingWords$Text" "digit" "I" "FallingWords") (by decide +kernel)) (fun _ h9 => h9) rfl dX5_perform_74 ?_
    refine lv_aload_n hx hb dX5_perform_77 rfl (lv_at hl 2 rfl) ?_
    refine cv_V (As := [.int (nI d), .ref (B 0)]) (rest := []) h0 hK hN hP hD hS hA hl.1 (k_X5_removeRule lY D cA Bs B dn ps S L R LL RL TM WW NN d (hI) (hr) (ho) (hd10)) [0, 3, 4, 5, 6, 7, 8, 9, 10, 11, 12] rfl (by decide) (cwV 2 hts gX5_perform_X5_removeRule rfl rfl rfl (by decide +kernel) ⟨Nat.le_of_ble_eq_true rfl, Nat.le_of_ble_eq_true rfl⟩) (cl_recv (ci := 5) (q := (RX5, TX5, 4)) (q0 := 0) hP hK rfl rfl) rfl rfl (Nat.le_of_ble_eq_true rfl) dX5_perform_78 ⟨Nat.zero_le _, Nat.zero_le _⟩ (fun wY H locs hwY hJ hS => ?_)
    obtain ⟨L'_78, R'_78, LL'_78, RL'_78, TM'_78, WW'_78, NN'_78, e2Y, fr_78, fo_78⟩ := hwY
    have e3Y := e2Y.symm
    clear e2Y
    subst e3Y
    obtain ⟨hP, hD⟩ := hJ rfl
    have hP : va_P D vwCl (gSc cA Bs dn ps (nI ((prf 45 0 0 d S).1)) (nI ((prf 45 0 0 d S).2.1)) ++ gTx cA Bt CH sz at1 (nI k) fw sw (nI d) ++ gSa cA B (nI (((prf 45 0 0 d S).2.2) 0)) (nI (((prf 45 0 0 d S).2.2) 2)) (nI (((prf 45 0 0 d S).2.2) 4)) (nI (((prf 45 0 0 d S).2.2) 5)) L'_78 R'_78 LL'_78 RL'_78 TM'_78 (nI (((prf 45 0 0 d S).2.2) 1)) WW'_78 NN'_78 (nI (((prf 45 0 0 d S).2.2) 3)) ++ gRd cA Bd WD RD oc ns rs) H := hP
    have hD : va_D AY (gSc cA Bs dn ps (nI ((prf 45 0 0 d S).1)) (nI ((prf 45 0 0 d S).2.1)) ++ gTx cA Bt CH sz at1 (nI k) fw sw (nI d) ++ gSa cA B (nI (((prf 45 0 0 d S).2.2) 0)) (nI (((prf 45 0 0 d S).2.2) 2)) (nI (((prf 45 0 0 d S).2.2) 4)) (nI (((prf 45 0 0 d S).2.2) 5)) L'_78 R'_78 LL'_78 RL'_78 TM'_78 (nI (((prf 45 0 0 d S).2.2) 1)) WW'_78 NN'_78 (nI (((prf 45 0 0 d S).2.2) 3)) ++ gRd cA Bd WD RD oc ns rs) := hD
    refine lv_goto (tgt := 138) hx hb dX5_perform_81 (by decide) ?_
    have hR : prf k a b d S = prf 45 0 0 d S := (prf_45 s4_45).trans (prf_45 rfl).symm
    exact hret _ _ _ _ _ dX5_perform_138 ⟨L'_78, R'_78, LL'_78, RL'_78, TM'_78, WW'_78, NN'_78, WD, RD, oc, ns, rs, (by rw [hR]), (by rw [hR]; exact fr_78), (by rw [hR]; exact fo_78)⟩ hP hD hS
  by_cases s4_61 : k = 61
  · have e4 : (nI k : Int32).toInt = 61 := by rw [s4_61]; rfl
    refine lv_lookup (off := 80) (tgt := 84) hx hb dX5_perform_4 (by decide) (by rw [e4]; decide) (by decide) ?_
    obtain ⟨rfl, va1⟩ := h61 s4_61
    have hP : va_P D vwCl (gSc cA Bs dn ps (nI 0) (nI 0) ++ gTx cA Bt CH sz at1 (nI k) (nI a) sw dg ++ gSa cA B (nI (S 0)) (nI (S 2)) (nI (S 4)) (nI (S 5)) L R LL RL TM (nI (S 1)) WW NN (nI (S 3)) ++ gRd cA Bd WD RD oc ns rs) sY.heap := hP
    have hD : va_D AY (gSc cA Bs dn ps (nI 0) (nI 0) ++ gTx cA Bt CH sz at1 (nI k) (nI a) sw dg ++ gSa cA B (nI (S 0)) (nI (S 2)) (nI (S 4)) (nI (S 5)) L R LL RL TM (nI (S 1)) WW NN (nI (S 3)) ++ gRd cA Bd WD RD oc ns rs) := hD
    refine lv_aload_n hx hb dX5_perform_84 rfl (lv_at hl 0 rfl) ?_
    refine lv_aload_n hx hb dX5_perform_85 rfl (lv_at hl 1 rfl) ?_
    refine va_getN (D := D) (ci := 8) (v := .int (nI a)) (C := RX8) (T := TX8) (N := 7) hx hb hts hi_X5_perform_X8 hown hK hP 1 rfl rfl 4 (by decide) (hN.fl (w := .fieldLinkNest RX5 47 "FallingWords$Text" "firstWord" "I" "FallingWords") (by decide +kernel)) (fun _ h9 => h9) rfl dX5_perform_86 ?_
    refine lv_aload_n hx hb dX5_perform_89 rfl (lv_at hl 2 rfl) ?_
    refine cv_V (As := [.int (nI a), .ref (B 0)]) (rest := []) h0 hK hN hP hD hS hA hl.1 (k_X5_setWord lY D cA Bs B dn ps S L R LL RL TM WW NN a (hI) (hr) (ho) (va1)) [0, 3, 4, 5, 6, 7, 8, 9, 10, 11, 12] rfl (by decide) (cwV 2 hts gX5_perform_X5_setWord rfl rfl rfl (by decide +kernel) ⟨Nat.le_of_ble_eq_true rfl, Nat.le_of_ble_eq_true rfl⟩) (cl_recv (ci := 5) (q := (RX5, TX5, 4)) (q0 := 0) hP hK rfl rfl) rfl rfl (Nat.le_of_ble_eq_true rfl) dX5_perform_90 ⟨Nat.zero_le _, Nat.zero_le _⟩ (fun wY H locs hwY hJ hS => ?_)
    obtain ⟨L'_90, R'_90, LL'_90, RL'_90, TM'_90, WW'_90, NN'_90, e2Y, fr_90, fo_90⟩ := hwY
    have e3Y := e2Y.symm
    clear e2Y
    subst e3Y
    obtain ⟨hP, hD⟩ := hJ rfl
    have hP : va_P D vwCl (gSc cA Bs dn ps (nI ((prf 61 a 0 0 S).1)) (nI ((prf 61 a 0 0 S).2.1)) ++ gTx cA Bt CH sz at1 (nI k) (nI a) sw dg ++ gSa cA B (nI (((prf 61 a 0 0 S).2.2) 0)) (nI (((prf 61 a 0 0 S).2.2) 2)) (nI (((prf 61 a 0 0 S).2.2) 4)) (nI (((prf 61 a 0 0 S).2.2) 5)) L'_90 R'_90 LL'_90 RL'_90 TM'_90 (nI (((prf 61 a 0 0 S).2.2) 1)) WW'_90 NN'_90 (nI (((prf 61 a 0 0 S).2.2) 3)) ++ gRd cA Bd WD RD oc ns rs) H := hP
    have hD : va_D AY (gSc cA Bs dn ps (nI ((prf 61 a 0 0 S).1)) (nI ((prf 61 a 0 0 S).2.1)) ++ gTx cA Bt CH sz at1 (nI k) (nI a) sw dg ++ gSa cA B (nI (((prf 61 a 0 0 S).2.2) 0)) (nI (((prf 61 a 0 0 S).2.2) 2)) (nI (((prf 61 a 0 0 S).2.2) 4)) (nI (((prf 61 a 0 0 S).2.2) 5)) L'_90 R'_90 LL'_90 RL'_90 TM'_90 (nI (((prf 61 a 0 0 S).2.2) 1)) WW'_90 NN'_90 (nI (((prf 61 a 0 0 S).2.2) 3)) ++ gRd cA Bd WD RD oc ns rs) := hD
    refine lv_goto (tgt := 138) hx hb dX5_perform_93 (by decide) ?_
    have hR : prf k a b d S = prf 61 a 0 0 S := (prf_61 s4_61).trans (prf_61 rfl).symm
    exact hret _ _ _ _ _ dX5_perform_138 ⟨L'_90, R'_90, LL'_90, RL'_90, TM'_90, WW'_90, NN'_90, WD, RD, oc, ns, rs, (by rw [hR]), (by rw [hR]; exact fr_90), (by rw [hR]; exact fo_90)⟩ hP hD hS
  by_cases s4_110 : k = 110
  · have e4 : (nI k : Int32).toInt = 110 := by rw [s4_110]; rfl
    refine lv_lookup (off := 108) (tgt := 112) hx hb dX5_perform_4 (by decide) (by rw [e4]; decide) (by decide) ?_
    refine lv_aload_n hx hb dX5_perform_112 rfl (lv_at hl 2 rfl) ?_
    refine lv_aload_n hx hb dX5_perform_113 rfl (lv_at hl 3 rfl) ?_
    refine ci_VN (As := [.ref (Bd 0)]) (rest := []) h0 hK hN hP hD hS hA hl.1 (k_X6_reduce lY D cA B Bd S L R LL RL TM WW NN WD RD oc ns rs (hI) (hr) (ho)) [3, 4, 5, 6, 7, 8, 9, 10, 11, 12, 13, 14, 15] rfl (by decide) ⟨(va_cnB 1 hts gX5_perform_X6_reduce_n73 rfl rfl rfl (hN (.methodLinkNest RX5 73 yX6_reduce "FallingWords") (by decide +kernel)) (hts (.initialized RX6) (by decide +kernel)) (by decide +kernel) ⟨Nat.le_of_ble_eq_true rfl, Nat.le_of_ble_eq_true rfl⟩), hts (.instanceMethod yX6_reduce) (by decide +kernel), hts (.selects RX6 yX6_reduce yX6_reduce) (by decide +kernel)⟩ (cl_recv (ci := 6) (q := (RX6, TX6, 6)) (q0 := 3) hP hK rfl rfl) rfl rfl (Nat.le_of_ble_eq_true rfl) dX5_perform_114 ⟨Nat.zero_le _, Nat.zero_le _⟩ (fun rY wY H locs hwY hJ hS => ?_)
    obtain ⟨L'_114, R'_114, LL'_114, RL'_114, TM'_114, WW'_114, NN'_114, WD'_114, RD'_114, oc'_114, ns'_114, rs'_114, e1Y, e2Y, fr_114, fo_114⟩ := hwY
    have e3Y := e1Y.symm
    clear e1Y
    subst e3Y
    have e3Y := e2Y.symm
    clear e2Y
    subst e3Y
    obtain ⟨hP, hD⟩ := hJ rfl
    have hP : va_P D vwCl (gSc cA Bs dn ps (nI 0) (nI 0) ++ gTx cA Bt CH sz at1 (nI k) fw sw dg ++ gSa cA B (nI (((normR S).2) 0)) (nI (((normR S).2) 2)) (nI (((normR S).2) 4)) (nI (((normR S).2) 5)) L'_114 R'_114 LL'_114 RL'_114 TM'_114 (nI (((normR S).2) 1)) WW'_114 NN'_114 (nI (((normR S).2) 3)) ++ gRd cA Bd WD'_114 RD'_114 oc'_114 ns'_114 rs'_114) H := hP
    have hD : va_D AY (gSc cA Bs dn ps (nI 0) (nI 0) ++ gTx cA Bt CH sz at1 (nI k) fw sw dg ++ gSa cA B (nI (((normR S).2) 0)) (nI (((normR S).2) 2)) (nI (((normR S).2) 4)) (nI (((normR S).2) 5)) L'_114 R'_114 LL'_114 RL'_114 TM'_114 (nI (((normR S).2) 1)) WW'_114 NN'_114 (nI (((normR S).2) 3)) ++ gRd cA Bd WD'_114 RD'_114 oc'_114 ns'_114 rs'_114) := hD
    refine xz_ge (tgt := 138) hx hb dX5_perform_117 (by decide) (fun c117 => ?_) (fun c117 => ?_)
    · have hR : prf k a b d S = (0, 0, (normR S).2) := (prf_110 s4_110).trans (if_neg (by omega))
      exact hret _ _ _ _ _ dX5_perform_138 ⟨L'_114, R'_114, LL'_114, RL'_114, TM'_114, WW'_114, NN'_114, WD'_114, RD'_114, oc'_114, ns'_114, rs'_114, (by rw [hR]), (by rw [hR]; exact fr_114), (by rw [hR]; exact fo_114)⟩ hP hD hS
    · refine lv_aload_n hx hb dX5_perform_120 rfl (lv_at hl 0 rfl) ?_
      refine lv_iconst (v := nI 3) hx hb dX5_perform_121 (by decide +kernel) ?_
      refine lv_iconst (v := nI 5) hx hb dX5_perform_122 (by decide +kernel) ?_
      refine cv_V (As := [.int (nI 3), .int (nI 5)]) (rest := []) h0 hK hN hP hD hS hA hl.1 (k_X5_failWith lY D cA Bs dn ps (nI 0) (nI 0) (nI 3) (nI 5) ) [0] rfl (by decide) (cwV 2 hts gX5_perform_X5_failWith rfl rfl rfl (by decide +kernel) ⟨Nat.le_of_ble_eq_true rfl, Nat.le_of_ble_eq_true rfl⟩) (cl_recv (ci := 5) (q := (RX5, TX5, 4)) (q0 := 0) hP hK rfl rfl) rfl rfl (Nat.le_of_ble_eq_true rfl) dX5_perform_123 ⟨Nat.zero_le _, Nat.zero_le _⟩ (fun wY H locs hwY hJ hS => ?_)
      have e2Y := hwY
      have e3Y := e2Y.symm
      clear e2Y
      subst e3Y
      obtain ⟨hP, hD⟩ := hJ rfl
      have hP : va_P D vwCl (gSc cA Bs dn ps (nI 3) (nI 5) ++ gTx cA Bt CH sz at1 (nI k) fw sw dg ++ gSa cA B (nI (((normR S).2) 0)) (nI (((normR S).2) 2)) (nI (((normR S).2) 4)) (nI (((normR S).2) 5)) L'_114 R'_114 LL'_114 RL'_114 TM'_114 (nI (((normR S).2) 1)) WW'_114 NN'_114 (nI (((normR S).2) 3)) ++ gRd cA Bd WD'_114 RD'_114 oc'_114 ns'_114 rs'_114) H := hP
      have hD : va_D AY (gSc cA Bs dn ps (nI 3) (nI 5) ++ gTx cA Bt CH sz at1 (nI k) fw sw dg ++ gSa cA B (nI (((normR S).2) 0)) (nI (((normR S).2) 2)) (nI (((normR S).2) 4)) (nI (((normR S).2) 5)) L'_114 R'_114 LL'_114 RL'_114 TM'_114 (nI (((normR S).2) 1)) WW'_114 NN'_114 (nI (((normR S).2) 3)) ++ gRd cA Bd WD'_114 RD'_114 oc'_114 ns'_114 rs'_114) := hD
      refine lv_goto (tgt := 138) hx hb dX5_perform_126 (by decide) ?_
      have hS2 : (normR S).2 = S := normR_er hI c117
      have hR : prf k a b d S = (3, 5, S) := (prf_110 s4_110).trans (if_pos c117)
      exact hret _ _ _ _ _ dX5_perform_138 ⟨L'_114, R'_114, LL'_114, RL'_114, TM'_114, WW'_114, NN'_114, WD'_114, RD'_114, oc'_114, ns'_114, rs'_114, (by rw [hR, hS2]), (by rw [hR]; rw [hS2] at fr_114; exact fr_114), (by rw [hR]; rw [hS2] at fo_114; exact fo_114)⟩ hP hD hS
  by_cases s4_115 : k = 115
  · have e4 : (nI k : Int32).toInt = 115 := by rw [s4_115]; rfl
    refine lv_lookup (off := 92) (tgt := 96) hx hb dX5_perform_4 (by decide) (by rw [e4]; decide) (by decide) ?_
    refine lv_aload_n hx hb dX5_perform_96 rfl (lv_at hl 2 rfl) ?_
    refine ci_VN (As := []) (rest := []) h0 hK hN hP hD hS hA hl.1 (k_X6_takeStep lY D cA B S L R LL RL TM WW NN (hI) (hr) (ho)) [3, 4, 5, 6, 7, 8, 9, 10, 11, 12] rfl (by decide) ⟨(va_cnB 0 hts gX5_perform_X6_takeStep_n67 rfl rfl rfl (hN (.methodLinkNest RX5 67 yX6_takeStep "FallingWords") (by decide +kernel)) (hts (.initialized RX6) (by decide +kernel)) (by decide +kernel) ⟨Nat.le_of_ble_eq_true rfl, Nat.le_of_ble_eq_true rfl⟩), hts (.instanceMethod yX6_takeStep) (by decide +kernel), hts (.selects RX6 yX6_takeStep yX6_takeStep) (by decide +kernel)⟩ (cl_recv (ci := 6) (q := (RX6, TX6, 6)) (q0 := 3) hP hK rfl rfl) rfl rfl (Nat.le_of_ble_eq_true rfl) dX5_perform_97 ⟨Nat.zero_le _, Nat.zero_le _⟩ (fun rY wY H locs hwY hJ hS => ?_)
    obtain ⟨L'_97, R'_97, LL'_97, RL'_97, TM'_97, WW'_97, NN'_97, e1Y, e2Y, fr_97, fo_97⟩ := hwY
    have e3Y := e1Y.symm
    clear e1Y
    subst e3Y
    have e3Y := e2Y.symm
    clear e2Y
    subst e3Y
    obtain ⟨hP, hD⟩ := hJ rfl
    have hP : va_P D vwCl (gSc cA Bs dn ps (nI 0) (nI 0) ++ gTx cA Bt CH sz at1 (nI k) fw sw dg ++ gSa cA B (nI (((stepR S).2) 0)) (nI (((stepR S).2) 2)) (nI (((stepR S).2) 4)) (nI (((stepR S).2) 5)) L'_97 R'_97 LL'_97 RL'_97 TM'_97 (nI (((stepR S).2) 1)) WW'_97 NN'_97 (nI (((stepR S).2) 3)) ++ gRd cA Bd WD RD oc ns rs) H := hP
    have hD : va_D AY (gSc cA Bs dn ps (nI 0) (nI 0) ++ gTx cA Bt CH sz at1 (nI k) fw sw dg ++ gSa cA B (nI (((stepR S).2) 0)) (nI (((stepR S).2) 2)) (nI (((stepR S).2) 4)) (nI (((stepR S).2) 5)) L'_97 R'_97 LL'_97 RL'_97 TM'_97 (nI (((stepR S).2) 1)) WW'_97 NN'_97 (nI (((stepR S).2) 3)) ++ gRd cA Bd WD RD oc ns rs) := hD
    refine xz_ge (tgt := 138) hx hb dX5_perform_100 (by decide) (fun c100 => ?_) (fun c100 => ?_)
    · have hn : nrm S (S 0) = false := by
        cases hq : nrm S (S 0) with
        | false => rfl
        | true => rw [show stepR S = ((-1000002), S) from if_pos hq] at c100; exact absurd c100 (by show ¬ (0 ≤ (-1000002 : Int32).toInt); decide)
      have hR : prf k a b d S = (0, 0, (stepR S).2) := (prf_115 s4_115).trans (if_neg (by rw [hn]; decide))
      exact hret _ _ _ _ _ dX5_perform_138 ⟨L'_97, R'_97, LL'_97, RL'_97, TM'_97, WW'_97, NN'_97, WD, RD, oc, ns, rs, (by rw [hR]), (by rw [hR]; exact fr_97), (by rw [hR]; exact fo_97)⟩ hP hD hS
    · refine lv_aload_n hx hb dX5_perform_103 rfl (lv_at hl 0 rfl) ?_
      refine lv_iconst (v := nI 3) hx hb dX5_perform_104 (by decide +kernel) ?_
      refine lv_iconst (v := nI 4) hx hb dX5_perform_105 (by decide +kernel) ?_
      refine cv_V (As := [.int (nI 3), .int (nI 4)]) (rest := []) h0 hK hN hP hD hS hA hl.1 (k_X5_failWith lY D cA Bs dn ps (nI 0) (nI 0) (nI 3) (nI 4) ) [0] rfl (by decide) (cwV 2 hts gX5_perform_X5_failWith rfl rfl rfl (by decide +kernel) ⟨Nat.le_of_ble_eq_true rfl, Nat.le_of_ble_eq_true rfl⟩) (cl_recv (ci := 5) (q := (RX5, TX5, 4)) (q0 := 0) hP hK rfl rfl) rfl rfl (Nat.le_of_ble_eq_true rfl) dX5_perform_106 ⟨Nat.zero_le _, Nat.zero_le _⟩ (fun wY H locs hwY hJ hS => ?_)
      have e2Y := hwY
      have e3Y := e2Y.symm
      clear e2Y
      subst e3Y
      obtain ⟨hP, hD⟩ := hJ rfl
      have hP : va_P D vwCl (gSc cA Bs dn ps (nI 3) (nI 4) ++ gTx cA Bt CH sz at1 (nI k) fw sw dg ++ gSa cA B (nI (((stepR S).2) 0)) (nI (((stepR S).2) 2)) (nI (((stepR S).2) 4)) (nI (((stepR S).2) 5)) L'_97 R'_97 LL'_97 RL'_97 TM'_97 (nI (((stepR S).2) 1)) WW'_97 NN'_97 (nI (((stepR S).2) 3)) ++ gRd cA Bd WD RD oc ns rs) H := hP
      have hD : va_D AY (gSc cA Bs dn ps (nI 3) (nI 4) ++ gTx cA Bt CH sz at1 (nI k) fw sw dg ++ gSa cA B (nI (((stepR S).2) 0)) (nI (((stepR S).2) 2)) (nI (((stepR S).2) 4)) (nI (((stepR S).2) 5)) L'_97 R'_97 LL'_97 RL'_97 TM'_97 (nI (((stepR S).2) 1)) WW'_97 NN'_97 (nI (((stepR S).2) 3)) ++ gRd cA Bd WD RD oc ns rs) := hD
      refine lv_goto (tgt := 138) hx hb dX5_perform_109 (by decide) ?_
      have hn : nrm S (S 0) = true := by
        cases hq : nrm S (S 0) with
        | true => rfl
        | false =>
          obtain ⟨-, -, g3, -, -⟩ := ch_lt hI.1 hI.2.2.1 hq
          rw [show stepR S = (nI (chr S (S 0)), stpS S) from if_neg (by rw [hq]; decide)] at c100
          exact absurd c100 (by dsimp only; rw [nI_toInt (by omega)]; omega)
      have hS2 : stepR S = ((-1000002), S) := if_pos hn
      have hR : prf k a b d S = (3, 4, S) := (prf_115 s4_115).trans (if_pos hn)
      exact hret _ _ _ _ _ dX5_perform_138 ⟨L'_97, R'_97, LL'_97, RL'_97, TM'_97, WW'_97, NN'_97, WD, RD, oc, ns, rs, (by rw [hR, hS2]), (by rw [hR]; rw [hS2] at fr_97; exact fr_97), (by rw [hR]; rw [hS2] at fo_97; exact fo_97)⟩ hP hD hS
  have e4 : (nI k : Int32).toInt = (k : Nat) := nI_toInt (by omega)
  refine lv_lookup (off := 125) (tgt := 129) hx hb dX5_perform_4 (by decide) (by show Op.lookupswitch.offset [(43, 52), (45, 68), (61, 80), (110, 108), (115, 92)] _ _ = _; rw [Op.lookupswitch.offset_cons, if_neg (by rw [e4]; omega)]; rw [Op.lookupswitch.offset_cons, if_neg (by rw [e4]; omega)]; rw [Op.lookupswitch.offset_cons, if_neg (by rw [e4]; omega)]; rw [Op.lookupswitch.offset_cons, if_neg (by rw [e4]; omega)]; rw [Op.lookupswitch.offset_cons, if_neg (by rw [e4]; omega)]; rfl) (by decide) ?_
  have h119 : k = 119 := by omega
  obtain ⟨rfl, hd10⟩ := hdg (Or.inr h119)
  have hP : va_P D vwCl (gSc cA Bs dn ps (nI 0) (nI 0) ++ gTx cA Bt CH sz at1 (nI k) fw sw (nI d) ++ gSa cA B (nI (S 0)) (nI (S 2)) (nI (S 4)) (nI (S 5)) L R LL RL TM (nI (S 1)) WW NN (nI (S 3)) ++ gRd cA Bd WD RD oc ns rs) sY.heap := hP
  have hD : va_D AY (gSc cA Bs dn ps (nI 0) (nI 0) ++ gTx cA Bt CH sz at1 (nI k) fw sw (nI d) ++ gSa cA B (nI (S 0)) (nI (S 2)) (nI (S 4)) (nI (S 5)) L R LL RL TM (nI (S 1)) WW NN (nI (S 3)) ++ gRd cA Bd WD RD oc ns rs) := hD
  refine lv_aload_n hx hb dX5_perform_129 rfl (lv_at hl 0 rfl) ?_
  refine lv_aload_n hx hb dX5_perform_130 rfl (lv_at hl 1 rfl) ?_
  refine va_getN (D := D) (ci := 8) (v := .int (nI d)) (C := RX8) (T := TX8) (N := 7) hx hb hts hi_X5_perform_X8 hown hK hP 1 rfl rfl 6 (by decide) (hN.fl (w := .fieldLinkNest RX5 57 "FallingWords$Text" "digit" "I" "FallingWords") (by decide +kernel)) (fun _ h9 => h9) rfl dX5_perform_131 ?_
  refine lv_aload_n hx hb dX5_perform_134 rfl (lv_at hl 2 rfl) ?_
  refine cv_V (As := [.int (nI d), .ref (B 0)]) (rest := []) h0 hK hN hP hD hS hA hl.1 (k_X5_setChoosing lY D cA Bs B dn ps S L R LL RL TM WW NN d (hI) (hr) (ho) (hd10)) [0, 3, 4, 5, 6, 7, 8, 9, 10, 11, 12] rfl (by decide) (cwV 2 hts gX5_perform_X5_setChoosing rfl rfl rfl (by decide +kernel) ⟨Nat.le_of_ble_eq_true rfl, Nat.le_of_ble_eq_true rfl⟩) (cl_recv (ci := 5) (q := (RX5, TX5, 4)) (q0 := 0) hP hK rfl rfl) rfl rfl (Nat.le_of_ble_eq_true rfl) dX5_perform_135 ⟨Nat.zero_le _, Nat.zero_le _⟩ (fun wY H locs hwY hJ hS => ?_)
  obtain ⟨L'_135, R'_135, LL'_135, RL'_135, TM'_135, WW'_135, NN'_135, e2Y, fr_135, fo_135⟩ := hwY
  have e3Y := e2Y.symm
  clear e2Y
  subst e3Y
  obtain ⟨hP, hD⟩ := hJ rfl
  have hP : va_P D vwCl (gSc cA Bs dn ps (nI ((prf 119 0 0 d S).1)) (nI ((prf 119 0 0 d S).2.1)) ++ gTx cA Bt CH sz at1 (nI k) fw sw (nI d) ++ gSa cA B (nI (((prf 119 0 0 d S).2.2) 0)) (nI (((prf 119 0 0 d S).2.2) 2)) (nI (((prf 119 0 0 d S).2.2) 4)) (nI (((prf 119 0 0 d S).2.2) 5)) L'_135 R'_135 LL'_135 RL'_135 TM'_135 (nI (((prf 119 0 0 d S).2.2) 1)) WW'_135 NN'_135 (nI (((prf 119 0 0 d S).2.2) 3)) ++ gRd cA Bd WD RD oc ns rs) H := hP
  have hD : va_D AY (gSc cA Bs dn ps (nI ((prf 119 0 0 d S).1)) (nI ((prf 119 0 0 d S).2.1)) ++ gTx cA Bt CH sz at1 (nI k) fw sw (nI d) ++ gSa cA B (nI (((prf 119 0 0 d S).2.2) 0)) (nI (((prf 119 0 0 d S).2.2) 2)) (nI (((prf 119 0 0 d S).2.2) 4)) (nI (((prf 119 0 0 d S).2.2) 5)) L'_135 R'_135 LL'_135 RL'_135 TM'_135 (nI (((prf 119 0 0 d S).2.2) 1)) WW'_135 NN'_135 (nI (((prf 119 0 0 d S).2.2) 3)) ++ gRd cA Bd WD RD oc ns rs) := hD
  have hR : prf k a b d S = prf 119 0 0 d S := (prf_119 h119).trans (prf_119 rfl).symm
  exact hret _ _ _ _ _ dX5_perform_138 ⟨L'_135, R'_135, LL'_135, RL'_135, TM'_135, WW'_135, NN'_135, WD, RD, oc, ns, rs, (by rw [hR]), (by rw [hR]; exact fr_135), (by rw [hR]; exact fo_135)⟩ hP hD hS
