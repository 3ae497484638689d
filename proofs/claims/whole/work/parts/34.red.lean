theorem hi_X3_firstTimeOf_X3 : ∀ w ∈ u_ws RX3 TX3 5, w ∈ wsX3_firstTimeOf := by decide +kernel
set_option maxHeartbeats 1000000 in
set_option maxRecDepth 100000 in
theorem k_X3_firstTimeOf (lY : Launch) (D : va_G) (cA : Nat → ClassId) (Bd : Nat → Nat) (WD RD : Nat → Int32) (oc rs : Int32) (k w : Nat) (f : Nat → Nat) (hk : k ≤ 100) (hw : w < 2147483648) (hf : ∀ i, i < k → WD i = nI (f i) ∧ f i < 2147483648) : MetI lY D cA yX3_firstTimeOf wsX3_firstTimeOf 0 0 [.ref (Bd 0), .int (nI w)] (gRd cA Bd WD RD oc (nI k) rs) (fun rY wY => rY = nI (ff (fun i => decide (f i = w)) k) ∧ wY = gRd cA Bd WD RD oc (nI k) rs) := by
  refine MetI.of (cc := cX3_firstTimeOf) (maxL := 3) (ret := (some .int)) (by decide) rfl (Nat.le_of_ble_eq_true rfl) (Or.inl rfl) ?_
  intro pY eY sY mY aY bY tY cY QY AY ls h0 hP hK hN hD hA hS hl hret
  obtain ⟨hx, hb, hml, hown, hts⟩ := id h0
  have hl : lv_has ls 3 [(0, .ref (Bd 0)), (1, .int (nI w))] := hl
  have hP : va_P D vwCl (gRd cA Bd WD RD oc (nI k) rs) sY.heap := hP
  have hD : va_D AY (gRd cA Bd WD RD oc (nI k) rs) := hD
  refine lv_iconst (v := nI 0) hx hb dX3_firstTimeOf_0 (by decide +kernel) ?_
  refine lv_istore_n (lv' := [(2, .int (nI 0)), (0, .ref (Bd 0)), (1, .int (nI w))]) hx hb dX3_firstTimeOf_1 rfl hl (by decide) rfl (fun ls hl => ?_)
  have L2 : ∀ (nY : Nat), ∀ (i : Nat), (i ≤ k) → (∀ j, j < i → decide (f j = w) = false) → (k - i < nY) → ∀ (H : Heap) (locs : List Loc) (ls : Array Slot), va_P D vwCl (gRd cA Bd WD RD oc (nI k) rs) H → va_D AY (gRd cA Bd WD RD oc (nI k) rs) → va_S AY sY.heap H locs → lv_has ls 3 [(0, .ref (Bd 0)), (1, .int (nI w)), (2, .int (nI i))] → W pY lY eY { frames := 0, cells := 0, slots := 0, locals := 0 } sY mY aY bY tY cY H locs 0 0 QY (F0 mY 2 ls []) := by
    intro nY2
    induction nY2 with
    | zero => intro i hi hno hm2; exact absurd hm2 (Nat.not_lt_zero _)
    | succ nY2 ih2 =>
      intro i hi hno hm2 H locs ls hP hD hS hl
      refine lv_iload_n hx hb dX3_firstTimeOf_2 rfl (lv_at hl 2 rfl) ?_
      refine lv_aload_n hx hb dX3_firstTimeOf_3 rfl (lv_at hl 0 rfl) ?_
      refine va_get (D := D) (ci := 3) (v := .int (nI k)) (C := RX3) (T := TX3) (N := 5) hx hb hts hi_X3_firstTimeOf_X3 hown hK hP 0 rfl rfl 3 (by decide) (hts (.fieldLink RX3 18 "FallingWords$Reduction" "steps" "I") (by decide +kernel)) (fun _ h9 => h9) rfl dX3_firstTimeOf_4 ?_
      refine xc_ge (tgt := 28) hx hb dX3_firstTimeOf_7 (by decide) (by omega) (by omega) (fun c7 => ?_) (fun c7 => ?_)
      · refine lv_aload_n hx hb dX3_firstTimeOf_28 rfl (lv_at hl 0 rfl) ?_
        refine va_get (D := D) (ci := 3) (v := .int (nI k)) (C := RX3) (T := TX3) (N := 5) hx hb hts hi_X3_firstTimeOf_X3 hown hK hP 0 rfl rfl 3 (by decide) (hts (.fieldLink RX3 18 "FallingWords$Reduction" "steps" "I") (by decide +kernel)) (fun _ h9 => h9) rfl dX3_firstTimeOf_29 ?_
        exact hret _ _ _ _ _ _ dX3_firstTimeOf_32 ⟨congrArg nI (ff_none (fun j hj => hno j (by omega))).symm, rfl⟩ hP hD hS
      · obtain ⟨g1, g2⟩ := hf i (by omega)
        refine lv_aload_n hx hb dX3_firstTimeOf_10 rfl (lv_at hl 0 rfl) ?_
        refine va_get (D := D) (ci := 3) (v := .ref (Bd 1)) (C := RX3) (T := TX3) (N := 5) hx hb hts hi_X3_firstTimeOf_X3 hown hK hP 0 rfl rfl 0 (by decide) (hts (.fieldLink RX3 9 "FallingWords$Reduction" "words" "[I") (by decide +kernel)) (fun _ h9 => h9) rfl dX3_firstTimeOf_11 ?_
        refine lv_iload_n hx hb dX3_firstTimeOf_14 rfl (lv_at hl 2 rfl) ?_
        refine xa_ld (v := nI (f i)) hx hb hK hP 1 rfl (by omega) (by decide) (g1) dX3_firstTimeOf_15 ?_
        refine lv_iload_n hx hb dX3_firstTimeOf_16 rfl (lv_at hl 1 rfl) ?_
        refine xc_ne (tgt := 22) hx hb dX3_firstTimeOf_17 (by decide) (by omega) (by omega) (fun c17 => ?_) (fun c17 => ?_)
        · refine lv_iinc (v := nI (i + 1)) (lv' := [(2, .int (nI (i + 1))), (0, .ref (Bd 0)), (1, .int (nI w))]) hx hb dX3_firstTimeOf_22 hl (k := 2) rfl (show nI i + Int32.ofInt 1 = nI (i + 1) from nI_add i 1) (by decide) rfl (fun ls hl => ?_)
          refine lv_goto (tgt := 2) hx hb dX3_firstTimeOf_25 (by decide) ?_
          exact ih2 (i + 1) (by omega) (lt_s hno (decide_eq_false c17)) (by omega) _ _ _ hP hD hS (lv_sub hl [1, 2, 0] rfl)
        · refine lv_iload_n hx hb dX3_firstTimeOf_20 rfl (lv_at hl 2 rfl) ?_
          exact hret _ _ _ _ _ _ dX3_firstTimeOf_21 ⟨congrArg nI (ff_is (by omega) (decide_eq_true c17) hno).symm, rfl⟩ hP hD hS
  exact L2 _ 0 (by omega) (fun k h => absurd h (Nat.not_lt_zero k)) (Nat.lt_succ_self _) _ _ _ hP hD hS (lv_sub hl [1, 2, 0] rfl)

theorem hi_X3_last_X3 : ∀ w ∈ u_ws RX3 TX3 5, w ∈ wsX3_last := by decide +kernel
set_option maxHeartbeats 1000000 in
set_option maxRecDepth 100000 in
theorem k_X3_last (lY : Launch) (D : va_G) (cA : Nat → ClassId) (Bd : Nat → Nat) (WD RD : Nat → Int32) (oc rs : Int32) (k v : Nat) (hk : k ≤ 100) (hv : WD k = nI v) : MetI lY D cA yX3_last wsX3_last 0 0 [.ref (Bd 0)] (gRd cA Bd WD RD oc (nI k) rs) (fun rY wY => rY = nI v ∧ wY = gRd cA Bd WD RD oc (nI k) rs) := by
  refine MetI.of (cc := cX3_last) (maxL := 1) (ret := (some .int)) (by decide) rfl (Nat.le_of_ble_eq_true rfl) (Or.inl rfl) ?_
  intro pY eY sY mY aY bY tY cY QY AY ls h0 hP hK hN hD hA hS hl hret
  obtain ⟨hx, hb, hml, hown, hts⟩ := id h0
  have hl : lv_has ls 1 [(0, .ref (Bd 0))] := hl
  have hP : va_P D vwCl (gRd cA Bd WD RD oc (nI k) rs) sY.heap := hP
  have hD : va_D AY (gRd cA Bd WD RD oc (nI k) rs) := hD
  refine lv_aload_n hx hb dX3_last_0 rfl (lv_at hl 0 rfl) ?_
  refine va_get (D := D) (ci := 3) (v := .ref (Bd 1)) (C := RX3) (T := TX3) (N := 5) hx hb hts hi_X3_last_X3 hown hK hP 0 rfl rfl 0 (by decide) (hts (.fieldLink RX3 9 "FallingWords$Reduction" "words" "[I") (by decide +kernel)) (fun _ h9 => h9) rfl dX3_last_1 ?_
  refine lv_aload_n hx hb dX3_last_4 rfl (lv_at hl 0 rfl) ?_
  refine va_get (D := D) (ci := 3) (v := .int (nI k)) (C := RX3) (T := TX3) (N := 5) hx hb hts hi_X3_last_X3 hown hK hP 0 rfl rfl 3 (by decide) (hts (.fieldLink RX3 18 "FallingWords$Reduction" "steps" "I") (by decide +kernel)) (fun _ h9 => h9) rfl dX3_last_5 ?_
  refine xa_ld (v := nI v) hx hb hK hP 1 rfl (by omega) (by decide) (hv) dX3_last_8 ?_
  exact hret _ _ _ _ _ _ dX3_last_9 ⟨rfl, rfl⟩ hP hD hS

theorem hi_X3_run_X3 : ∀ w ∈ u_ws RX3 TX3 5, w ∈ wsX3_run := by decide +kernel
set_option maxHeartbeats 1000000 in
set_option maxRecDepth 100000 in
theorem k_X3_run (lY : Launch) (D : va_G) (cA : Nat → ClassId) (Bd B : Nat → Nat) (WD RD : Nat → Int32) (oc ns rs : Int32) (S : St) (L R LL RL TM : Nat → Int32) (w : Nat) (hI : IR S) (hr : rRu S L R LL RL TM) (hw : vw 12 w) : MetV lY D cA yX3_run wsX3_run 2 58 0 0 [.ref (Bd 0), .ref (B 0), .int (nI (S 2)), .int (nI w)] (gRd cA Bd WD RD oc ns rs ++ gRu cA B L R LL RL TM (nI (S 1))) (fun wY => ∃ (WD' : Nat → Int32) (RD' : Nat → Int32) (rs' : Int32), wY = gRd cA Bd WD' RD' (nI ((red S w).1)) (nI ((red S w).2.1)) rs' ++ gRu cA B L R LL RL TM (nI (S 1)) ∧ (∀ i, i ≤ (red S w).2.1 → WD' i = nI (xs S w i)) ∧ (∀ i, i < (red S w).2.1 → RD' i = nI (chr S (xs S w i))) ∧ ((red S w).1 = 1 → rs' = nI (red S w).2.2)) := by
  refine MetV.of (cc := cX3_run) (maxL := 5) (by decide) rfl (Nat.le_of_ble_eq_true rfl) ?_
  intro pY eY sY mY aY bY tY cY QY AY ls h0 hP hK hN hD hA hS hl hin hret
  obtain ⟨hx, hb, hml, hown, hts⟩ := id h0
  have hl : lv_has ls 5 [(0, .ref (Bd 0)), (1, .ref (B 0)), (2, .int (nI (S 2))), (3, .int (nI w))] := hl
  have hP : va_P D vwCl (gRd cA Bd WD RD oc ns rs ++ gRu cA B L R LL RL TM (nI (S 1))) sY.heap := hP
  have hD : va_D AY (gRd cA Bd WD RD oc ns rs ++ gRu cA B L R LL RL TM (nI (S 1))) := hD
  refine lv_aload_n hx hb dX3_run_0 rfl (lv_at hl 0 rfl) ?_
  refine va_get (D := D) (ci := 3) (v := .ref (Bd 1)) (C := RX3) (T := TX3) (N := 5) hx hb hts hi_X3_run_X3 hown hK hP 0 rfl rfl 0 (by decide) (hts (.fieldLink RX3 9 "FallingWords$Reduction" "words" "[I") (by decide +kernel)) (fun _ h9 => h9) rfl dX3_run_1 ?_
  refine lv_iconst (v := nI 0) hx hb dX3_run_4 (by decide +kernel) ?_
  refine lv_iload_n hx hb dX3_run_5 rfl (lv_at hl 3 rfl) ?_
  refine xa_st hx hb hK hP hD hS 1 rfl (by omega) (by decide) dX3_run_6 (fun H locs hP hD hS => ?_)
  have hP : va_P D vwCl (gRd cA Bd (upd WD 0 (nI w)) RD oc ns rs ++ gRu cA B L R LL RL TM (nI (S 1))) H := hP
  have hD : va_D AY (gRd cA Bd (upd WD 0 (nI w)) RD oc ns rs ++ gRu cA B L R LL RL TM (nI (S 1))) := hD
  refine lv_aload_n hx hb dX3_run_7 rfl (lv_at hl 0 rfl) ?_
  refine lv_iconst (v := nI 0) hx hb dX3_run_8 (by decide +kernel) ?_
  refine va_put (D := D) (ci := 3) (v := .int (nI 0)) (ty := .int) (C := RX3) (T := TX3) (N := 5) hx hb hts hi_X3_run_X3 tyX3 tyX3_ok nmX3 hown hK hP hD hS 0 rfl rfl 3 (by decide) (hts (.fieldLink RX3 18 "FallingWords$Reduction" "steps" "I") (by decide +kernel)) (fun _ h9 => h9) rfl (by decide +kernel) rfl rfl (Nat.le_of_ble_eq_true rfl) dX3_run_9 (fun H locs hP hD hS => ?_)
  have hP : va_P D vwCl (gRd cA Bd (upd WD 0 (nI w)) RD oc (nI 0) rs ++ gRu cA B L R LL RL TM (nI (S 1))) H := hP
  have hD : va_D AY (gRd cA Bd (upd WD 0 (nI w)) RD oc (nI 0) rs ++ gRu cA B L R LL RL TM (nI (S 1))) := hD
  have L12 : ∀ (nY : Nat), ∀ (k : Nat) (WD' : Nat → Int32) (RD' : Nat → Int32) (oc' : Int32) (rs' : Int32), (k ≤ 100) → (∀ i, i ≤ k → WD' i = nI (xs S w i)) → (∀ i, i < k → RD' i = nI (chr S (xs S w i))) → (redF S w (101 - k) k = red S w) → (∀ i, i ≤ k → vw 12 (xs S w i)) → (101 - k < nY) → ∀ (H : Heap) (locs : List Loc) (ls : Array Slot), va_P D vwCl (gRd cA Bd WD' RD' oc' (nI k) rs' ++ gRu cA B L R LL RL TM (nI (S 1))) H → va_D AY (gRd cA Bd WD' RD' oc' (nI k) rs' ++ gRu cA B L R LL RL TM (nI (S 1))) → va_S AY sY.heap H locs → lv_has ls 5 [(0, .ref (Bd 0)), (1, .ref (B 0)), (2, .int (nI (S 2))), (3, .int (nI w))] → W pY lY eY { frames := 2, cells := 0, slots := 0, locals := 58 } sY mY aY bY tY cY H locs 0 0 QY (F0 mY 12 ls []) := by
    intro nY12
    induction nY12 with
    | zero => intro k WD' RD' oc' rs' hk g1 g2 hred hxv hm12; exact absurd hm12 (Nat.not_lt_zero _)
    | succ nY12 ih12 =>
      intro k WD' RD' oc' rs' hk g1 g2 hred hxv hm12 H locs ls hP hD hS hl
      have hxk := hxv k (Nat.le_refl k)
      have hB := vw_B hxk (by decide)
      refine lv_aload_n hx hb dX3_run_12 rfl (lv_at hl 0 rfl) ?_
      refine va_get (D := D) (ci := 3) (v := .int (nI k)) (C := RX3) (T := TX3) (N := 5) hx hb hts hi_X3_run_X3 hown hK hP 0 rfl rfl 3 (by decide) (hts (.fieldLink RX3 18 "FallingWords$Reduction" "steps" "I") (by decide +kernel)) (fun _ h9 => h9) rfl dX3_run_13 ?_
      refine lv_bipush (v := nI 100) hx hb dX3_run_16 (by decide +kernel) ?_
      refine xc_gt (tgt := 158) hx hb dX3_run_18 (by decide) (by omega) (by omega) (fun c18 => ?_) (fun c18 => ?_)
      · exact absurd c18 (by omega)
      · refine lv_aload_n hx hb dX3_run_21 rfl (lv_at hl 0 rfl) ?_
        refine lv_aload_n hx hb dX3_run_22 rfl (lv_at hl 0 rfl) ?_
        refine lv_aload_n hx hb dX3_run_23 rfl (lv_at hl 0 rfl) ?_
        refine va_get (D := D) (ci := 3) (v := .ref (Bd 1)) (C := RX3) (T := TX3) (N := 5) hx hb hts hi_X3_run_X3 hown hK hP 0 rfl rfl 0 (by decide) (hts (.fieldLink RX3 9 "FallingWords$Reduction" "words" "[I") (by decide +kernel)) (fun _ h9 => h9) rfl dX3_run_24 ?_
        refine lv_aload_n hx hb dX3_run_27 rfl (lv_at hl 0 rfl) ?_
        refine va_get (D := D) (ci := 3) (v := .int (nI k)) (C := RX3) (T := TX3) (N := 5) hx hb hts hi_X3_run_X3 hown hK hP 0 rfl rfl 3 (by decide) (hts (.fieldLink RX3 18 "FallingWords$Reduction" "steps" "I") (by decide +kernel)) (fun _ h9 => h9) rfl dX3_run_28 ?_
        refine xa_ld (v := nI (xs S w k)) hx hb hK hP 1 rfl (by omega) (by decide) (g1 k (Nat.le_refl k)) dX3_run_31 ?_
        refine ci_V (As := [.int (nI (xs S w k))]) (rest := [.ref (Bd 0)]) h0 hK hN hP hD hS hA hl.1 (k_X3_firstTimeOf lY D cA Bd WD' RD' oc' rs' k (xs S w k) (xs S w) (hk) (by omega) (fun i hi => ⟨g1 i (by omega), by have := vw_B (hxv i (by omega)) (by decide); omega⟩)) [0, 1, 2] rfl (by decide) (cwV 1 hts gX3_run_X3_firstTimeOf rfl rfl rfl (by decide +kernel) ⟨Nat.le_of_ble_eq_true rfl, Nat.le_of_ble_eq_true rfl⟩) (cl_recv (ci := 3) (q := (RX3, TX3, 5)) (q0 := 0) hP hK rfl rfl) rfl rfl (Nat.le_of_ble_eq_true rfl) dX3_run_32 ⟨Nat.zero_le _, Nat.zero_le _⟩ (fun rY wY H locs hwY hJ hS => ?_)
        obtain ⟨e1Y, e2Y⟩ := hwY
        have e3Y := e1Y.symm
        clear e1Y
        subst e3Y
        have e3Y := e2Y.symm
        clear e2Y
        subst e3Y
        obtain ⟨hP, hD⟩ := hJ rfl
        have hP : va_P D vwCl (gRd cA Bd WD' RD' oc' (nI k) rs' ++ gRu cA B L R LL RL TM (nI (S 1))) H := hP
        have hD : va_D AY (gRd cA Bd WD' RD' oc' (nI k) rs' ++ gRu cA B L R LL RL TM (nI (S 1))) := hD
        refine xt (show nI (ff (fun i => decide ((xs S w) i = (xs S w k))) k) = nI (fst S w k) from rfl) ?_
        refine va_put (D := D) (ci := 3) (v := .int (nI (fst S w k))) (ty := .int) (C := RX3) (T := TX3) (N := 5) hx hb hts hi_X3_run_X3 tyX3 tyX3_ok nmX3 hown hK hP hD hS 0 rfl rfl 4 (by decide) (hts (.fieldLink RX3 26 "FallingWords$Reduction" "ringStart" "I") (by decide +kernel)) (fun _ h9 => h9) rfl (by decide +kernel) rfl rfl (Nat.le_of_ble_eq_true rfl) dX3_run_35 (fun H locs hP hD hS => ?_)
        have hP : va_P D vwCl (gRd cA Bd WD' RD' oc' (nI k) (nI (fst S w k)) ++ gRu cA B L R LL RL TM (nI (S 1))) H := hP
        have hD : va_D AY (gRd cA Bd WD' RD' oc' (nI k) (nI (fst S w k)) ++ gRu cA B L R LL RL TM (nI (S 1))) := hD
        have hfl : fst S w k ≤ k := ff_le _ k
        refine lv_aload_n hx hb dX3_run_38 rfl (lv_at hl 0 rfl) ?_
        refine va_get (D := D) (ci := 3) (v := .int (nI (fst S w k))) (C := RX3) (T := TX3) (N := 5) hx hb hts hi_X3_run_X3 hown hK hP 0 rfl rfl 4 (by decide) (hts (.fieldLink RX3 26 "FallingWords$Reduction" "ringStart" "I") (by decide +kernel)) (fun _ h9 => h9) rfl dX3_run_39 ?_
        refine lv_aload_n hx hb dX3_run_42 rfl (lv_at hl 0 rfl) ?_
        refine va_get (D := D) (ci := 3) (v := .int (nI k)) (C := RX3) (T := TX3) (N := 5) hx hb hts hi_X3_run_X3 hown hK hP 0 rfl rfl 3 (by decide) (hts (.fieldLink RX3 18 "FallingWords$Reduction" "steps" "I") (by decide +kernel)) (fun _ h9 => h9) rfl dX3_run_43 ?_
        refine xc_ge (tgt := 55) hx hb dX3_run_46 (by decide) (by omega) (by omega) (fun c46 => ?_) (fun c46 => ?_)
        · refine lv_aload_n hx hb dX3_run_55 rfl (lv_at hl 1 rfl) ?_
          refine lv_aload_n hx hb dX3_run_56 rfl (lv_at hl 0 rfl) ?_
          refine va_get (D := D) (ci := 3) (v := .ref (Bd 1)) (C := RX3) (T := TX3) (N := 5) hx hb hts hi_X3_run_X3 hown hK hP 0 rfl rfl 0 (by decide) (hts (.fieldLink RX3 9 "FallingWords$Reduction" "words" "[I") (by decide +kernel)) (fun _ h9 => h9) rfl dX3_run_57 ?_
          refine lv_aload_n hx hb dX3_run_60 rfl (lv_at hl 0 rfl) ?_
          refine va_get (D := D) (ci := 3) (v := .int (nI k)) (C := RX3) (T := TX3) (N := 5) hx hb hts hi_X3_run_X3 hown hK hP 0 rfl rfl 3 (by decide) (hts (.fieldLink RX3 18 "FallingWords$Reduction" "steps" "I") (by decide +kernel)) (fun _ h9 => h9) rfl dX3_run_61 ?_
          refine xa_ld (v := nI (xs S w k)) hx hb hK hP 1 rfl (by omega) (by decide) (g1 k (Nat.le_refl k)) dX3_run_64 ?_
          refine lv_iload_n hx hb dX3_run_65 rfl (lv_at hl 2 rfl) ?_
          refine ci_VN (As := [.int (nI (xs S w k)), .int (nI (S 2))]) (rest := []) h0 hK hN hP hD hS hA hl.1 (k_X4_choiceFor lY D cA B S L R LL RL TM (xs S w k) (hI) (hr) (hxk)) [3, 4, 5, 6, 7, 8] rfl (by decide) ⟨(va_cnB 2 hts gX3_run_X4_choiceFor_n32 rfl rfl rfl (hN (.methodLinkNest RX3 32 yX4_choiceFor "FallingWords") (by decide +kernel)) (hts (.initialized RX4) (by decide +kernel)) (by decide +kernel) ⟨Nat.le_of_ble_eq_true rfl, Nat.le_of_ble_eq_true rfl⟩), hts (.instanceMethod yX4_choiceFor) (by decide +kernel), hts (.selects RX4 yX4_choiceFor yX4_choiceFor) (by decide +kernel)⟩ (cl_recv (ci := 4) (q := (RX4, TX4, 6)) (q0 := 3) hP hK rfl rfl) rfl rfl (Nat.le_of_ble_eq_true rfl) dX3_run_66 ⟨Nat.zero_le _, Nat.zero_le _⟩ (fun rY wY H locs hwY hJ hS => ?_)
          obtain ⟨e1Y, e2Y⟩ := hwY
          have e3Y := e1Y.symm
          clear e1Y
          subst e3Y
          have e3Y := e2Y.symm
          clear e2Y
          subst e3Y
          obtain ⟨hP, hD⟩ := hJ rfl
          have hP : va_P D vwCl (gRd cA Bd WD' RD' oc' (nI k) (nI (fst S w k)) ++ gRu cA B L R LL RL TM (nI (S 1))) H := hP
          have hD : va_D AY (gRd cA Bd WD' RD' oc' (nI k) (nI (fst S w k)) ++ gRu cA B L R LL RL TM (nI (S 1))) := hD
          refine lv_istore (lv' := [(4, .int (chI S (xs S w k))), (0, .ref (Bd 0)), (1, .ref (B 0)), (2, .int (nI (S 2))), (3, .int (nI w))]) hx hb dX3_run_69 hl (by decide) rfl (fun ls hl => ?_)
          refine lv_iload hx hb dX3_run_71 (lv_at hl 0 rfl) ?_
          refine xz_ge (tgt := 82) hx hb dX3_run_73 (by decide) (fun c73 => ?_) (fun c73 => ?_)
          · have hn := chI_ge c73
            obtain ⟨q1, q2, q3, q4, q5⟩ := ch_lt hI hxk hn
            have h10 := hI.1
            have hl : lv_has ls 5 [(4, .int (nI (chp S (xs S w k) * 10 + chr S (xs S w k)))), (0, .ref (Bd 0)), (1, .ref (B 0)), (2, .int (nI (S 2))), (3, .int (nI w))] := Eq.mp (congrArg (fun zY : Int32 => lv_has ls 5 [(4, .int zY), (0, .ref (Bd 0)), (1, .ref (B 0)), (2, .int (nI (S 2))), (3, .int (nI w))]) (show chI S (xs S w k) = nI (chp S (xs S w k) * 10 + chr S (xs S w k)) from chI_yes hn)) hl
            refine lv_aload_n hx hb dX3_run_82 rfl (lv_at hl 1 rfl) ?_
            refine va_get (D := D) (ci := 3) (v := .int (nI k)) (C := RX3) (T := TX3) (N := 5) hx hb hts hi_X3_run_X3 hown hK hP 0 rfl rfl 3 (by decide) (hts (.fieldLink RX3 18 "FallingWords$Reduction" "steps" "I") (by decide +kernel)) (fun _ h9 => h9) rfl dX3_run_83 ?_
            refine lv_bipush (v := nI 100) hx hb dX3_run_86 (by decide +kernel) ?_
            refine xc_ne (tgt := 97) hx hb dX3_run_88 (by decide) (by omega) (by omega) (fun c88 => ?_) (fun c88 => ?_)
            · refine lv_aload_n hx hb dX3_run_97 rfl (lv_at hl 1 rfl) ?_
              refine va_get (D := D) (ci := 3) (v := .ref (Bd 2)) (C := RX3) (T := TX3) (N := 5) hx hb hts hi_X3_run_X3 hown hK hP 0 rfl rfl 1 (by decide) (hts (.fieldLink RX3 15 "FallingWords$Reduction" "rulesUsed" "[I") (by decide +kernel)) (fun _ h9 => h9) rfl dX3_run_98 ?_
              refine lv_aload_n hx hb dX3_run_101 rfl (lv_at hl 1 rfl) ?_
              refine va_get (D := D) (ci := 3) (v := .int (nI k)) (C := RX3) (T := TX3) (N := 5) hx hb hts hi_X3_run_X3 hown hK hP 0 rfl rfl 3 (by decide) (hts (.fieldLink RX3 18 "FallingWords$Reduction" "steps" "I") (by decide +kernel)) (fun _ h9 => h9) rfl dX3_run_102 ?_
              refine lv_iload hx hb dX3_run_105 (lv_at hl 0 rfl) ?_
              refine ci_SN (As := [.int (nI (chp S (xs S w k) * 10 + chr S (xs S w k)))]) (rest := [.int (nI k), .ref (Bd 2)]) h0 hK hN hP hD hS hA hl.1 (k_X4_ruleIn lY D cA (chp S (xs S w k) * 10 + chr S (xs S w k)) (by omega)) [] rfl (by decide) ⟨(va_cnB 1 hts gX3_run_X4_ruleIn_n38 rfl rfl rfl (hN (.methodLinkNest RX3 38 yX4_ruleIn "FallingWords") (by decide +kernel)) (hts (.initialized RX4) (by decide +kernel)) (by decide +kernel) ⟨Nat.le_of_ble_eq_true rfl, Nat.le_of_ble_eq_true rfl⟩), hts (.static yX4_ruleIn) (by decide +kernel), trivial⟩ rfl rfl (Nat.le_of_ble_eq_true rfl) dX3_run_107 ⟨Nat.zero_le _, Nat.zero_le _⟩ (fun rY wY H locs hwY hJ hS => ?_)
              obtain ⟨e1Y, e2Y⟩ := hwY
              have e3Y := e1Y.symm
              clear e1Y
              subst e3Y
              have e3Y := e2Y.symm
              clear e2Y
              subst e3Y
              obtain ⟨hP, hD⟩ := hJ rfl
              have hP : va_P D vwCl (gRd cA Bd WD' RD' oc' (nI k) (nI (fst S w k)) ++ gRu cA B L R LL RL TM (nI (S 1))) H := hP
              have hD : va_D AY (gRd cA Bd WD' RD' oc' (nI k) (nI (fst S w k)) ++ gRu cA B L R LL RL TM (nI (S 1))) := hD
              refine xt (show nI ((chp S (xs S w k) * 10 + chr S (xs S w k)) % 10) = nI (chr S (xs S w k)) from congrArg nI (by omega)) ?_
              refine xa_st hx hb hK hP hD hS 2 rfl (by omega) (by decide) dX3_run_110 (fun H locs hP hD hS => ?_)
              have hP : va_P D vwCl (gRd cA Bd WD' (upd RD' k (nI (chr S (xs S w k)))) oc' (nI k) (nI (fst S w k)) ++ gRu cA B L R LL RL TM (nI (S 1))) H := hP
              have hD : va_D AY (gRd cA Bd WD' (upd RD' k (nI (chr S (xs S w k)))) oc' (nI k) (nI (fst S w k)) ++ gRu cA B L R LL RL TM (nI (S 1))) := hD
              refine lv_aload_n hx hb dX3_run_111 rfl (lv_at hl 1 rfl) ?_
              refine va_get (D := D) (ci := 3) (v := .ref (Bd 1)) (C := RX3) (T := TX3) (N := 5) hx hb hts hi_X3_run_X3 hown hK hP 0 rfl rfl 0 (by decide) (hts (.fieldLink RX3 9 "FallingWords$Reduction" "words" "[I") (by decide +kernel)) (fun _ h9 => h9) rfl dX3_run_112 ?_
              refine lv_aload_n hx hb dX3_run_115 rfl (lv_at hl 1 rfl) ?_
              refine va_get (D := D) (ci := 3) (v := .int (nI k)) (C := RX3) (T := TX3) (N := 5) hx hb hts hi_X3_run_X3 hown hK hP 0 rfl rfl 3 (by decide) (hts (.fieldLink RX3 18 "FallingWords$Reduction" "steps" "I") (by decide +kernel)) (fun _ h9 => h9) rfl dX3_run_116 ?_
              refine lv_iconst (v := nI 1) hx hb dX3_run_119 (by decide +kernel) ?_
              refine lv_iadd hx hb dX3_run_120 ?_
              refine xt (show (nI k) + (nI 1) = nI (k + 1) from nI_add _ _) ?_
              refine lv_aload_n hx hb dX3_run_121 rfl (lv_at hl 2 rfl) ?_
              refine lv_aload_n hx hb dX3_run_122 rfl (lv_at hl 1 rfl) ?_
              refine va_get (D := D) (ci := 3) (v := .ref (Bd 1)) (C := RX3) (T := TX3) (N := 5) hx hb hts hi_X3_run_X3 hown hK hP 0 rfl rfl 0 (by decide) (hts (.fieldLink RX3 9 "FallingWords$Reduction" "words" "[I") (by decide +kernel)) (fun _ h9 => h9) rfl dX3_run_123 ?_
              refine lv_aload_n hx hb dX3_run_126 rfl (lv_at hl 1 rfl) ?_
              refine va_get (D := D) (ci := 3) (v := .int (nI k)) (C := RX3) (T := TX3) (N := 5) hx hb hts hi_X3_run_X3 hown hK hP 0 rfl rfl 3 (by decide) (hts (.fieldLink RX3 18 "FallingWords$Reduction" "steps" "I") (by decide +kernel)) (fun _ h9 => h9) rfl dX3_run_127 ?_
              refine xa_ld (v := nI (xs S w k)) hx hb hK hP 1 rfl (by omega) (by decide) (g1 k (Nat.le_refl k)) dX3_run_130 ?_
              refine lv_iload hx hb dX3_run_131 (lv_at hl 0 rfl) ?_
              refine ci_SN (As := [.int (nI (chp S (xs S w k) * 10 + chr S (xs S w k)))]) (rest := [.int (nI (xs S w k)), .ref (B 0), .int (nI (k + 1)), .ref (Bd 1)]) h0 hK hN hP hD hS hA hl.1 (k_X4_ruleIn lY D cA (chp S (xs S w k) * 10 + chr S (xs S w k)) (by omega)) [] rfl (by decide) ⟨(va_cnB 1 hts gX3_run_X4_ruleIn_n38 rfl rfl rfl (hN (.methodLinkNest RX3 38 yX4_ruleIn "FallingWords") (by decide +kernel)) (hts (.initialized RX4) (by decide +kernel)) (by decide +kernel) ⟨Nat.le_of_ble_eq_true rfl, Nat.le_of_ble_eq_true rfl⟩), hts (.static yX4_ruleIn) (by decide +kernel), trivial⟩ rfl rfl (Nat.le_of_ble_eq_true rfl) dX3_run_133 ⟨Nat.zero_le _, Nat.zero_le _⟩ (fun rY wY H locs hwY hJ hS => ?_)
              obtain ⟨e1Y, e2Y⟩ := hwY
              have e3Y := e1Y.symm
              clear e1Y
              subst e3Y
              have e3Y := e2Y.symm
              clear e2Y
              subst e3Y
              obtain ⟨hP, hD⟩ := hJ rfl
              have hP : va_P D vwCl (gRd cA Bd WD' (upd RD' k (nI (chr S (xs S w k)))) oc' (nI k) (nI (fst S w k)) ++ gRu cA B L R LL RL TM (nI (S 1))) H := hP
              have hD : va_D AY (gRd cA Bd WD' (upd RD' k (nI (chr S (xs S w k)))) oc' (nI k) (nI (fst S w k)) ++ gRu cA B L R LL RL TM (nI (S 1))) := hD
              refine xt (show nI ((chp S (xs S w k) * 10 + chr S (xs S w k)) % 10) = nI (chr S (xs S w k)) from congrArg nI (by omega)) ?_
              refine lv_iload hx hb dX3_run_136 (lv_at hl 0 rfl) ?_
              refine ci_SN (As := [.int (nI (chp S (xs S w k) * 10 + chr S (xs S w k)))]) (rest := [.int (nI (chr S (xs S w k))), .int (nI (xs S w k)), .ref (B 0), .int (nI (k + 1)), .ref (Bd 1)]) h0 hK hN hP hD hS hA hl.1 (k_X4_placeIn lY D cA (chp S (xs S w k) * 10 + chr S (xs S w k)) (by omega)) [] rfl (by decide) ⟨(va_cnB 1 hts gX3_run_X4_placeIn_n41 rfl rfl rfl (hN (.methodLinkNest RX3 41 yX4_placeIn "FallingWords") (by decide +kernel)) (hts (.initialized RX4) (by decide +kernel)) (by decide +kernel) ⟨Nat.le_of_ble_eq_true rfl, Nat.le_of_ble_eq_true rfl⟩), hts (.static yX4_placeIn) (by decide +kernel), trivial⟩ rfl rfl (Nat.le_of_ble_eq_true rfl) dX3_run_138 ⟨Nat.zero_le _, Nat.zero_le _⟩ (fun rY wY H locs hwY hJ hS => ?_)
              obtain ⟨e1Y, e2Y⟩ := hwY
              have e3Y := e1Y.symm
              clear e1Y
              subst e3Y
              have e3Y := e2Y.symm
              clear e2Y
              subst e3Y
              obtain ⟨hP, hD⟩ := hJ rfl
              have hP : va_P D vwCl (gRd cA Bd WD' (upd RD' k (nI (chr S (xs S w k)))) oc' (nI k) (nI (fst S w k)) ++ gRu cA B L R LL RL TM (nI (S 1))) H := hP
              have hD : va_D AY (gRd cA Bd WD' (upd RD' k (nI (chr S (xs S w k)))) oc' (nI k) (nI (fst S w k)) ++ gRu cA B L R LL RL TM (nI (S 1))) := hD
              refine xt (show nI ((chp S (xs S w k) * 10 + chr S (xs S w k)) / 10) = nI (chp S (xs S w k)) from congrArg nI (by omega)) ?_
              refine ci_VN (As := [.int (nI (xs S w k)), .int (nI (chr S (xs S w k))), .int (nI (chp S (xs S w k)))]) (rest := [.int (nI (k + 1)), .ref (Bd 1)]) h0 hK hN hP hD hS hA hl.1 (k_X4_applied lY D cA B S L R LL RL TM (xs S w k) (chr S (xs S w k)) (chp S (xs S w k)) (hI) (hr) (hxk) (q1) (q5)) [3, 4, 5, 6, 7, 8] rfl (by decide) ⟨(va_cnB 3 hts gX3_run_X4_applied_n44 rfl rfl rfl (hN (.methodLinkNest RX3 44 yX4_applied "FallingWords") (by decide +kernel)) (hts (.initialized RX4) (by decide +kernel)) (by decide +kernel) ⟨Nat.le_of_ble_eq_true rfl, Nat.le_of_ble_eq_true rfl⟩), hts (.instanceMethod yX4_applied) (by decide +kernel), hts (.selects RX4 yX4_applied yX4_applied) (by decide +kernel)⟩ (cl_recv (ci := 4) (q := (RX4, TX4, 6)) (q0 := 3) hP hK rfl rfl) rfl rfl (Nat.le_of_ble_eq_true rfl) dX3_run_141 ⟨Nat.zero_le _, Nat.zero_le _⟩ (fun rY wY H locs hwY hJ hS => ?_)
              obtain ⟨e1Y, e2Y⟩ := hwY
              have e3Y := e1Y.symm
              clear e1Y
              subst e3Y
              have e3Y := e2Y.symm
              clear e2Y
              subst e3Y
              obtain ⟨hP, hD⟩ := hJ rfl
              have hP : va_P D vwCl (gRd cA Bd WD' (upd RD' k (nI (chr S (xs S w k)))) oc' (nI k) (nI (fst S w k)) ++ gRu cA B L R LL RL TM (nI (S 1))) H := hP
              have hD : va_D AY (gRd cA Bd WD' (upd RD' k (nI (chr S (xs S w k)))) oc' (nI k) (nI (fst S w k)) ++ gRu cA B L R LL RL TM (nI (S 1))) := hD
              refine xt (show nI (app (lf S (chr S (xs S w k))) (rt S (chr S (xs S w k))) (xs S w k) (chp S (xs S w k))) = nI (xs S w (k + 1)) from rfl) ?_
              refine xa_st hx hb hK hP hD hS 1 rfl (by omega) (by decide) dX3_run_144 (fun H locs hP hD hS => ?_)
              have hP : va_P D vwCl (gRd cA Bd (upd WD' (k + 1) (nI (xs S w (k + 1)))) (upd RD' k (nI (chr S (xs S w k)))) oc' (nI k) (nI (fst S w k)) ++ gRu cA B L R LL RL TM (nI (S 1))) H := hP
              have hD : va_D AY (gRd cA Bd (upd WD' (k + 1) (nI (xs S w (k + 1)))) (upd RD' k (nI (chr S (xs S w k)))) oc' (nI k) (nI (fst S w k)) ++ gRu cA B L R LL RL TM (nI (S 1))) := hD
              refine lv_aload_n hx hb dX3_run_145 rfl (lv_at hl 1 rfl) ?_
              refine lv_dup hx hb dX3_run_146 rfl ?_
              refine va_get (D := D) (ci := 3) (v := .int (nI k)) (C := RX3) (T := TX3) (N := 5) hx hb hts hi_X3_run_X3 hown hK hP 0 rfl rfl 3 (by decide) (hts (.fieldLink RX3 18 "FallingWords$Reduction" "steps" "I") (by decide +kernel)) (fun _ h9 => h9) rfl dX3_run_147 ?_
              refine lv_iconst (v := nI 1) hx hb dX3_run_150 (by decide +kernel) ?_
              refine lv_iadd hx hb dX3_run_151 ?_
              refine xt (show (nI k) + (nI 1) = nI (k + 1) from nI_add _ _) ?_
              refine va_put (D := D) (ci := 3) (v := .int (nI (k + 1))) (ty := .int) (C := RX3) (T := TX3) (N := 5) hx hb hts hi_X3_run_X3 tyX3 tyX3_ok nmX3 hown hK hP hD hS 0 rfl rfl 3 (by decide) (hts (.fieldLink RX3 18 "FallingWords$Reduction" "steps" "I") (by decide +kernel)) (fun _ h9 => h9) rfl (by decide +kernel) rfl rfl (Nat.le_of_ble_eq_true rfl) dX3_run_152 (fun H locs hP hD hS => ?_)
              have hP : va_P D vwCl (gRd cA Bd (upd WD' (k + 1) (nI (xs S w (k + 1)))) (upd RD' k (nI (chr S (xs S w k)))) oc' (nI (k + 1)) (nI (fst S w k)) ++ gRu cA B L R LL RL TM (nI (S 1))) H := hP
              have hD : va_D AY (gRd cA Bd (upd WD' (k + 1) (nI (xs S w (k + 1)))) (upd RD' k (nI (chr S (xs S w k)))) oc' (nI (k + 1)) (nI (fst S w k)) ++ gRu cA B L R LL RL TM (nI (S 1))) := hD
              refine lv_goto (tgt := 12) hx hb dX3_run_155 (by decide) ?_
              exact ih12 (k + 1) (upd WD' (k + 1) (nI (xs S w (k + 1)))) (upd RD' k (nI (chr S (xs S w k)))) oc' (nI (fst S w k)) (by omega) (fun i hi => by rcases Nat.lt_or_ge k i with q | q; (rw [show i = k + 1 by omega, pk_us]); rw [pk_un (by omega)]; exact g1 i q) (fun i hi => by rcases Nat.lt_or_ge i k with q | q; (rw [pk_un (by omega)]; exact g2 i q); rw [show i = k by omega, pk_us]) (by rw [← hred, show 101 - k = (101 - (k + 1)) + 1 by omega, redF, if_neg (by omega), if_neg (by rw [hn]; decide), if_neg c88]) (fun i hi => by rcases Nat.lt_or_ge k i with q | q; (rw [show i = k + 1 by omega]; exact nxt_vw hI (hxv k (Nat.le_refl k)) hn); exact hxv i q) (by omega) _ _ _ hP hD hS (lv_sub hl [1, 2, 3, 4] rfl)
            · refine lv_aload_n hx hb dX3_run_91 rfl (lv_at hl 1 rfl) ?_
              refine lv_iconst (v := nI 2) hx hb dX3_run_92 (by decide +kernel) ?_
              refine va_put (D := D) (ci := 3) (v := .int (nI 2)) (ty := .int) (C := RX3) (T := TX3) (N := 5) hx hb hts hi_X3_run_X3 tyX3 tyX3_ok nmX3 hown hK hP hD hS 0 rfl rfl 2 (by decide) (hts (.fieldLink RX3 29 "FallingWords$Reduction" "outcome" "I") (by decide +kernel)) (fun _ h9 => h9) rfl (by decide +kernel) rfl rfl (Nat.le_of_ble_eq_true rfl) dX3_run_93 (fun H locs hP hD hS => ?_)
              have hP : va_P D vwCl (gRd cA Bd WD' RD' (nI 2) (nI k) (nI (fst S w k)) ++ gRu cA B L R LL RL TM (nI (S 1))) H := hP
              have hD : va_D AY (gRd cA Bd WD' RD' (nI 2) (nI k) (nI (fst S w k)) ++ gRu cA B L R LL RL TM (nI (S 1))) := hD
              have hR : red S w = (2, 100, 0) := by rw [← hred, show 101 - k = (101 - (k + 1)) + 1 by omega, redF, if_neg (by omega), if_neg (by rw [hn]; decide), if_pos c88]
              subst c88
              exact hret _ _ _ _ _ dX3_run_96 ⟨WD', RD', _, by rw [hR], by rw [hR]; exact g1, by rw [hR]; exact g2, fun h => by rw [hR] at h; cases h⟩ hP hD hS
          · refine lv_aload_n hx hb dX3_run_76 rfl (lv_at hl 1 rfl) ?_
            refine lv_iconst (v := nI 0) hx hb dX3_run_77 (by decide +kernel) ?_
            refine va_put (D := D) (ci := 3) (v := .int (nI 0)) (ty := .int) (C := RX3) (T := TX3) (N := 5) hx hb hts hi_X3_run_X3 tyX3 tyX3_ok nmX3 hown hK hP hD hS 0 rfl rfl 2 (by decide) (hts (.fieldLink RX3 29 "FallingWords$Reduction" "outcome" "I") (by decide +kernel)) (fun _ h9 => h9) rfl (by decide +kernel) rfl rfl (Nat.le_of_ble_eq_true rfl) dX3_run_78 (fun H locs hP hD hS => ?_)
            have hP : va_P D vwCl (gRd cA Bd WD' RD' (nI 0) (nI k) (nI (fst S w k)) ++ gRu cA B L R LL RL TM (nI (S 1))) H := hP
            have hD : va_D AY (gRd cA Bd WD' RD' (nI 0) (nI k) (nI (fst S w k)) ++ gRu cA B L R LL RL TM (nI (S 1))) := hD
            have hn := chI_lt hI hxk c73
            have hR : red S w = (0, k, 0) := by rw [← hred, show 101 - k = (101 - (k + 1)) + 1 by omega, redF, if_neg (by omega), if_pos hn]
            exact hret _ _ _ _ _ dX3_run_81 ⟨WD', RD', _, by rw [hR], by rw [hR]; exact g1, by rw [hR]; exact g2, fun h => by rw [hR] at h; cases h⟩ hP hD hS
        · refine lv_aload_n hx hb dX3_run_49 rfl (lv_at hl 0 rfl) ?_
          refine lv_iconst (v := nI 1) hx hb dX3_run_50 (by decide +kernel) ?_
          refine va_put (D := D) (ci := 3) (v := .int (nI 1)) (ty := .int) (C := RX3) (T := TX3) (N := 5) hx hb hts hi_X3_run_X3 tyX3 tyX3_ok nmX3 hown hK hP hD hS 0 rfl rfl 2 (by decide) (hts (.fieldLink RX3 29 "FallingWords$Reduction" "outcome" "I") (by decide +kernel)) (fun _ h9 => h9) rfl (by decide +kernel) rfl rfl (Nat.le_of_ble_eq_true rfl) dX3_run_51 (fun H locs hP hD hS => ?_)
          have hP : va_P D vwCl (gRd cA Bd WD' RD' (nI 1) (nI k) (nI (fst S w k)) ++ gRu cA B L R LL RL TM (nI (S 1))) H := hP
          have hD : va_D AY (gRd cA Bd WD' RD' (nI 1) (nI k) (nI (fst S w k)) ++ gRu cA B L R LL RL TM (nI (S 1))) := hD
          have hR : red S w = (1, k, fst S w k) := by rw [← hred, show 101 - k = (101 - (k + 1)) + 1 by omega, redF, if_pos (by omega)]
          exact hret _ _ _ _ _ dX3_run_54 ⟨WD', RD', _, by rw [hR], by rw [hR]; exact g1, by rw [hR]; exact g2, fun _ => by rw [hR]⟩ hP hD hS
  exact L12 _ 0 (upd WD 0 (nI w)) RD oc rs (by omega) (fun i hi => by rw [show i = 0 by omega, pk_us]; rfl) (fun i hi => absurd hi (Nat.not_lt_zero i)) ((red_eq S w).symm) (fun i hi => by rw [show i = 0 by omega]; exact hw) (Nat.lt_succ_self _) _ _ _ hP hD hS hl

theorem hi_X3_countRules_X3 : ∀ w ∈ u_ws RX3 TX3 5, w ∈ wsX3_countRules := by decide +kernel
theorem hi_X3_countRules_X4 : ∀ w ∈ u_ws RX4 TX4 6, w ∈ wsX3_countRules := by decide +kernel
set_option maxHeartbeats 1000000 in
set_option maxRecDepth 100000 in
theorem k_X3_countRules (lY : Launch) (D : va_G) (cA : Nat → ClassId) (Bd B : Nat → Nat) (WD RD : Nat → Int32) (oc rs : Int32) (n : Nat) (S : St) (L R LL RL TM : Nat → Int32) (w : Nat) (z : Int32) (hI : IR S) (hr : rRu S L R LL RL TM) (hn : n ≤ 100) (hRD : ∀ i, i < n → RD i = nI (chr S (xs S w i)) ∧ chr S (xs S w i) < S 1) : MetV lY D cA yX3_countRules wsX3_countRules 0 0 0 0 [.ref (Bd 0), .ref (B 0)] (gRd cA Bd WD RD oc (nI n) rs ++ gRu cA B L R LL RL TM z) (fun wY => ∃ (TM' : Nat → Int32), wY = gRd cA Bd WD RD oc (nI n) rs ++ gRu cA B L R LL RL TM' z ∧ (rRu (bmp S w n) L R LL RL TM')) := by
  refine MetV.of (cc := cX3_countRules) (maxL := 3) (by decide) rfl (Nat.le_of_ble_eq_true rfl) ?_
  intro pY eY sY mY aY bY tY cY QY AY ls h0 hP hK hN hD hA hS hl hin hret
  obtain ⟨hx, hb, hml, hown, hts⟩ := id h0
  have hl : lv_has ls 3 [(0, .ref (Bd 0)), (1, .ref (B 0))] := hl
  have hP : va_P D vwCl (gRd cA Bd WD RD oc (nI n) rs ++ gRu cA B L R LL RL TM z) sY.heap := hP
  have hD : va_D AY (gRd cA Bd WD RD oc (nI n) rs ++ gRu cA B L R LL RL TM z) := hD
  have h10 := hI.1
  refine lv_iconst (v := nI 0) hx hb dX3_countRules_0 (by decide +kernel) ?_
  refine lv_istore_n (lv' := [(2, .int (nI 0)), (0, .ref (Bd 0)), (1, .ref (B 0))]) hx hb dX3_countRules_1 rfl hl (by decide) rfl (fun ls hl => ?_)
  have L2 : ∀ (nY : Nat), ∀ (i : Nat) (TM' : Nat → Int32), (i ≤ n) → (rRu (bmp S w i) L R LL RL TM') → (n - i < nY) → ∀ (H : Heap) (locs : List Loc) (ls : Array Slot), va_P D vwCl (gRd cA Bd WD RD oc (nI n) rs ++ gRu cA B L R LL RL TM' z) H → va_D AY (gRd cA Bd WD RD oc (nI n) rs ++ gRu cA B L R LL RL TM' z) → va_S AY sY.heap H locs → lv_has ls 3 [(0, .ref (Bd 0)), (1, .ref (B 0)), (2, .int (nI i))] → W pY lY eY { frames := 0, cells := 0, slots := 0, locals := 0 } sY mY aY bY tY cY H locs 0 0 QY (F0 mY 2 ls []) := by
    intro nY2
    induction nY2 with
    | zero => intro i TM' hi fr hm2; exact absurd hm2 (Nat.not_lt_zero _)
    | succ nY2 ih2 =>
      intro i TM' hi fr hm2 H locs ls hP hD hS hl
      refine lv_iload_n hx hb dX3_countRules_2 rfl (lv_at hl 2 rfl) ?_
      refine lv_aload_n hx hb dX3_countRules_3 rfl (lv_at hl 0 rfl) ?_
      refine va_get (D := D) (ci := 3) (v := .int (nI n)) (C := RX3) (T := TX3) (N := 5) hx hb hts hi_X3_countRules_X3 hown hK hP 0 rfl rfl 3 (by decide) (hts (.fieldLink RX3 18 "FallingWords$Reduction" "steps" "I") (by decide +kernel)) (fun _ h9 => h9) rfl dX3_countRules_4 ?_
      refine xc_ge (tgt := 31) hx hb dX3_countRules_7 (by decide) (by omega) (by omega) (fun c7 => ?_) (fun c7 => ?_)
      · exact hret _ _ _ _ _ dX3_countRules_31 ⟨TM', rfl, by rw [show n = i by omega]; exact fr⟩ hP hD hS
      · obtain ⟨g1, g2⟩ := hRD i (by omega)
        obtain ⟨-, -, -, -, g3⟩ := fr (chr S (xs S w i)) (by rw [bmp_lo (by decide)]; exact g2)
        refine lv_aload_n hx hb dX3_countRules_10 rfl (lv_at hl 1 rfl) ?_
        refine va_getN (D := D) (ci := 4) (v := .ref (B 5)) (C := RX4) (T := TX4) (N := 6) hx hb hts hi_X3_countRules_X4 hown hK hP 3 rfl rfl 4 (by decide) (hN.fl (w := .fieldLinkNest RX3 48 "FallingWords$Rules" "times" "[I" "FallingWords") (by decide +kernel)) (fun _ h9 => h9) rfl dX3_countRules_11 ?_
        refine lv_aload_n hx hb dX3_countRules_14 rfl (lv_at hl 0 rfl) ?_
        refine va_get (D := D) (ci := 3) (v := .ref (Bd 2)) (C := RX3) (T := TX3) (N := 5) hx hb hts hi_X3_countRules_X3 hown hK hP 0 rfl rfl 1 (by decide) (hts (.fieldLink RX3 15 "FallingWords$Reduction" "rulesUsed" "[I") (by decide +kernel)) (fun _ h9 => h9) rfl dX3_countRules_15 ?_
        refine lv_iload_n hx hb dX3_countRules_18 rfl (lv_at hl 2 rfl) ?_
        refine xa_ld (v := nI (chr S (xs S w i))) hx hb hK hP 2 rfl (by omega) (by decide) (g1) dX3_countRules_19 ?_
        refine lv_dup2_11 hx hb dX3_countRules_20 rfl rfl ?_
        refine xa_ld (v := nI (tms (bmp S w i) (chr S (xs S w i)))) hx hb hK hP 8 rfl (by omega) (by decide) (g3) dX3_countRules_21 ?_
        refine lv_iconst (v := nI 1) hx hb dX3_countRules_22 (by decide +kernel) ?_
        refine lv_iadd hx hb dX3_countRules_23 ?_
        refine xt (show (nI (tms (bmp S w i) (chr S (xs S w i)))) + (nI 1) = nI (tms (bmp S w i) (chr S (xs S w i))) + 1 from rfl) ?_
        refine xa_st hx hb hK hP hD hS 8 rfl (by omega) (by decide) dX3_countRules_24 (fun H locs hP hD hS => ?_)
        have hP : va_P D vwCl (gRd cA Bd WD RD oc (nI n) rs ++ gRu cA B L R LL RL (upd TM' (chr S (xs S w i)) (nI (tms (bmp S w i) (chr S (xs S w i))) + 1)) z) H := hP
        have hD : va_D AY (gRd cA Bd WD RD oc (nI n) rs ++ gRu cA B L R LL RL (upd TM' (chr S (xs S w i)) (nI (tms (bmp S w i) (chr S (xs S w i))) + 1)) z) := hD
        refine lv_iinc (v := nI (i + 1)) (lv' := [(2, .int (nI (i + 1))), (0, .ref (Bd 0)), (1, .ref (B 0))]) hx hb dX3_countRules_25 hl (k := 2) rfl (show nI i + Int32.ofInt 1 = nI (i + 1) from nI_add i 1) (by decide) rfl (fun ls hl => ?_)
        refine lv_goto (tgt := 2) hx hb dX3_countRules_28 (by decide) ?_
        exact ih2 (i + 1) (upd TM' (chr S (xs S w i)) (nI (tms (bmp S w i) (chr S (xs S w i))) + 1)) (by omega) (rRu_tm fr) (by omega) _ _ _ hP hD hS (lv_sub hl [1, 2, 0] rfl)
  exact L2 _ 0 TM (by omega) (hr) (Nat.lt_succ_self _) _ _ _ hP hD hS (lv_sub hl [1, 2, 0] rfl)
