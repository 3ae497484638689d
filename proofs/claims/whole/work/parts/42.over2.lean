theorem hi_X1_verdict_X1 : ∀ w ∈ u_ws RX1 TX1 6, w ∈ wsX1_verdict := by decide +kernel
theorem hi_X1_verdict_X3 : ∀ w ∈ u_ws RX3 TX3 5, w ∈ wsX1_verdict := by decide +kernel
theorem hi_X1_verdict_X6 : ∀ w ∈ u_ws RX6 TX6 6, w ∈ wsX1_verdict := by decide +kernel
set_option maxHeartbeats 1000000 in
set_option maxRecDepth 100000 in
theorem k_X1_verdict (lY : Launch) (D : va_G) (cA : Nat → ClassId) (Bo B Bd : Nat → Nat) (fn sn : Int32) (S : St) (L R LL RL TM WW NN : Nat → Int32) (WD RD : Nat → Int32) (oc ns rs : Int32) (a b q : Nat) (hI : IR S) (hr : rRu S L R LL RL TM) (ha : a < S 1) (hb2 : b < S 1) (hq : q < 4) (ho : ovl S a b q = true) : MetI lY D cA yX1_verdict wsX1_verdict 3 82 [.ref (Bo 0), .ref (B 0), .ref (Bd 0)] (gOv cA Bo (nI a) (nI b) (nI q) (nI (ovw S a b q)) fn sn ++ gSa cA B (nI (S 0)) (nI (S 2)) (nI (S 4)) (nI (S 5)) L R LL RL TM (nI (S 1)) WW NN (nI (S 3)) ++ gRd cA Bd WD RD oc ns rs) (fun rY wY => ∃ (fn2 : Int32) (sn2 : Int32) (WD' : Nat → Int32) (RD' : Nat → Int32) (oc' : Int32) (ns' : Int32) (rs' : Int32), rY = nI (par S (ow1 S a b q) (ow2 S a b q)) ∧ wY = gOv cA Bo (nI a) (nI b) (nI q) (nI (ovw S a b q)) fn2 sn2 ++ gSa cA B (nI (S 0)) (nI (S 2)) (nI (S 4)) (nI (S 5)) L R LL RL TM (nI (S 1)) WW NN (nI (S 3)) ++ gRd cA Bd WD' RD' oc' ns' rs' ∧ (par S (ow1 S a b q) (ow2 S a b q) = 1 → fn2 = nI (nw S (ow1 S a b q)) ∧ sn2 = nI (nw S (ow2 S a b q)))) := by
  refine MetI.of (cc := cX1_verdict) (maxL := 3) (ret := (some .int)) (by decide) rfl (Nat.le_of_ble_eq_true rfl) (Or.inl rfl) ?_
  intro pY eY sY mY aY bY tY cY QY AY ls h0 hP hK hN hD hA hS hl hret
  obtain ⟨hx, hb, hml, hown, hts⟩ := id h0
  have hl : lv_has ls 3 [(0, .ref (Bo 0)), (1, .ref (B 0)), (2, .ref (Bd 0))] := hl
  have hP : va_P D vwCl (gOv cA Bo (nI a) (nI b) (nI q) (nI (ovw S a b q)) fn sn ++ gSa cA B (nI (S 0)) (nI (S 2)) (nI (S 4)) (nI (S 5)) L R LL RL TM (nI (S 1)) WW NN (nI (S 3)) ++ gRd cA Bd WD RD oc ns rs) sY.heap := hP
  have hD : va_D AY (gOv cA Bo (nI a) (nI b) (nI q) (nI (ovw S a b q)) fn sn ++ gSa cA B (nI (S 0)) (nI (S 2)) (nI (S 4)) (nI (S 5)) L R LL RL TM (nI (S 1)) WW NN (nI (S 3)) ++ gRd cA Bd WD RD oc ns rs) := hD
  obtain ⟨e1, e2, e3, e4, e5⟩ := ov_w hI ha hb2 hq ho
  obtain ⟨z1, -, z3, z4, -, -⟩ := red_ok hI e4
  obtain ⟨y1, -, y3, y4, -, -⟩ := red_ok hI e5
  have hBz := vw_B z3 (by decide)
  have hBy := vw_B y3 (by decide)
  refine lv_aload_n hx hb dX1_verdict_0 rfl (lv_at hl 2 rfl) ?_
  refine lv_aload_n hx hb dX1_verdict_1 rfl (lv_at hl 1 rfl) ?_
  refine va_getN (D := D) (ci := 6) (v := .ref (B 1)) (C := RX6) (T := TX6) (N := 6) hx hb hts hi_X1_verdict_X6 hown hK hP 1 rfl rfl 0 (by decide) (hN.fl (w := .fieldLinkNest RX1 15 "FallingWords$State" "rules" "LFallingWords$Rules;" "FallingWords") (by decide +kernel)) (fun _ h9 => h9) rfl dX1_verdict_2 ?_
  refine lv_aload_n hx hb dX1_verdict_5 rfl (lv_at hl 1 rfl) ?_
  refine va_getN (D := D) (ci := 6) (v := .int (nI (S 2))) (C := RX6) (T := TX6) (N := 6) hx hb hts hi_X1_verdict_X6 hown hK hP 1 rfl rfl 3 (by decide) (hN.fl (w := .fieldLinkNest RX1 73 "FallingWords$State" "choosing" "I" "FallingWords") (by decide +kernel)) (fun _ h9 => h9) rfl dX1_verdict_6 ?_
  refine lv_aload_n hx hb dX1_verdict_9 rfl (lv_at hl 0 rfl) ?_
  refine lv_aload_n hx hb dX1_verdict_10 rfl (lv_at hl 1 rfl) ?_
  refine va_getN (D := D) (ci := 6) (v := .ref (B 1)) (C := RX6) (T := TX6) (N := 6) hx hb hts hi_X1_verdict_X6 hown hK hP 1 rfl rfl 0 (by decide) (hN.fl (w := .fieldLinkNest RX1 15 "FallingWords$State" "rules" "LFallingWords$Rules;" "FallingWords") (by decide +kernel)) (fun _ h9 => h9) rfl dX1_verdict_11 ?_
  refine ci_V (As := [.ref (B 1)]) (rest := [.int (nI (S 2)), .ref (B 1), .ref (Bd 0)]) h0 hK hN hP hD hS hA hl.1 (k_X1_firstWord lY D cA Bo (fun i => B (i + 1)) fn sn S L R LL RL TM a b q (hI) (hr) (ha) (hb2) (hq) (ho)) [0, 2, 3, 4, 5, 6, 7] rfl (by decide) (cwV 1 hts gX1_verdict_X1_firstWord rfl rfl rfl (by decide +kernel) ⟨Nat.le_of_ble_eq_true rfl, Nat.le_of_ble_eq_true rfl⟩) (cl_recv (ci := 1) (q := (RX1, TX1, 6)) (q0 := 0) hP hK rfl rfl) rfl rfl (Nat.le_of_ble_eq_true rfl) dX1_verdict_14 ⟨Nat.zero_le _, Nat.zero_le _⟩ (fun rY wY H locs hwY hJ hS => ?_)
  obtain ⟨e1Y, e2Y⟩ := hwY
  have e3Y := e1Y.symm
  clear e1Y
  subst e3Y
  have e3Y := e2Y.symm
  clear e2Y
  subst e3Y
  obtain ⟨hP, hD⟩ := hJ rfl
  have hP : va_P D vwCl (gOv cA Bo (nI a) (nI b) (nI q) (nI (ovw S a b q)) fn sn ++ gSa cA B (nI (S 0)) (nI (S 2)) (nI (S 4)) (nI (S 5)) L R LL RL TM (nI (S 1)) WW NN (nI (S 3)) ++ gRd cA Bd WD RD oc ns rs) H := hP
  have hD : va_D AY (gOv cA Bo (nI a) (nI b) (nI q) (nI (ovw S a b q)) fn sn ++ gSa cA B (nI (S 0)) (nI (S 2)) (nI (S 4)) (nI (S 5)) L R LL RL TM (nI (S 1)) WW NN (nI (S 3)) ++ gRd cA Bd WD RD oc ns rs) := hD
  refine cv_VN (As := [.ref (B 1), .int (nI (S 2)), .int (nI (ow1 S a b q))]) (rest := []) h0 hK hN hP hD hS hA hl.1 (k_X3_run lY D cA Bd (fun i => B (i + 1)) WD RD oc ns rs S L R LL RL TM (ow1 S a b q) (hI) (hr) (e4)) [11, 12, 13, 2, 3, 4, 5, 6, 7] rfl (by decide) ⟨(va_cnB 3 hts gX1_verdict_X3_run_n80 rfl rfl rfl (hN (.methodLinkNest RX1 80 yX3_run "FallingWords") (by decide +kernel)) (hts (.initialized RX3) (by decide +kernel)) (by decide +kernel) ⟨Nat.le_of_ble_eq_true rfl, Nat.le_of_ble_eq_true rfl⟩), hts (.instanceMethod yX3_run) (by decide +kernel), hts (.selects RX3 yX3_run yX3_run) (by decide +kernel)⟩ (cl_recv (ci := 3) (q := (RX3, TX3, 5)) (q0 := 11) hP hK rfl rfl) rfl rfl (Nat.le_of_ble_eq_true rfl) dX1_verdict_17 ⟨Nat.zero_le _, Nat.zero_le _⟩ (fun wY H locs hwY hJ hS => ?_)
  obtain ⟨WD'_17, RD'_17, rs'_17, e2Y, f1_17, f2_17, f3_17⟩ := hwY
  have e3Y := e2Y.symm
  clear e2Y
  subst e3Y
  obtain ⟨hP, hD⟩ := hJ rfl
  have hP : va_P D vwCl (gOv cA Bo (nI a) (nI b) (nI q) (nI (ovw S a b q)) fn sn ++ gSa cA B (nI (S 0)) (nI (S 2)) (nI (S 4)) (nI (S 5)) L R LL RL TM (nI (S 1)) WW NN (nI (S 3)) ++ gRd cA Bd WD'_17 RD'_17 (nI ((red S (ow1 S a b q)).1)) (nI ((red S (ow1 S a b q)).2.1)) rs'_17) H := hP
  have hD : va_D AY (gOv cA Bo (nI a) (nI b) (nI q) (nI (ovw S a b q)) fn sn ++ gSa cA B (nI (S 0)) (nI (S 2)) (nI (S 4)) (nI (S 5)) L R LL RL TM (nI (S 1)) WW NN (nI (S 3)) ++ gRd cA Bd WD'_17 RD'_17 (nI ((red S (ow1 S a b q)).1)) (nI ((red S (ow1 S a b q)).2.1)) rs'_17) := hD
  refine lv_aload_n hx hb dX1_verdict_20 rfl (lv_at hl 2 rfl) ?_
  refine va_getN (D := D) (ci := 3) (v := .int (nI ((red S (ow1 S a b q)).1))) (C := RX3) (T := TX3) (N := 5) hx hb hts hi_X1_verdict_X3 hown hK hP 11 rfl rfl 2 (by decide) (hN.fl (w := .fieldLinkNest RX1 86 "FallingWords$Reduction" "outcome" "I" "FallingWords") (by decide +kernel)) (fun _ h9 => h9) rfl dX1_verdict_21 ?_
  refine x0_eq (tgt := 29) hx hb dX1_verdict_24 (by decide) (by omega) (fun c24 => ?_) (fun c24 => ?_)
  · refine lv_aload_n hx hb dX1_verdict_29 rfl (lv_at hl 0 rfl) ?_
    refine lv_aload_n hx hb dX1_verdict_30 rfl (lv_at hl 2 rfl) ?_
    refine ci_VN (As := []) (rest := [.ref (Bo 0)]) h0 hK hN hP hD hS hA hl.1 (k_X3_last lY D cA Bd WD'_17 RD'_17 (nI ((red S (ow1 S a b q)).1)) rs'_17 ((red S (ow1 S a b q)).2.1) (nw S (ow1 S a b q)) (z1) (f1_17 _ (Nat.le_refl _))) [11, 12, 13] rfl (by decide) ⟨(va_cnB 0 hts gX1_verdict_X3_last_n89 rfl rfl rfl (hN (.methodLinkNest RX1 89 yX3_last "FallingWords") (by decide +kernel)) (hts (.initialized RX3) (by decide +kernel)) (by decide +kernel) ⟨Nat.le_of_ble_eq_true rfl, Nat.le_of_ble_eq_true rfl⟩), hts (.instanceMethod yX3_last) (by decide +kernel), hts (.selects RX3 yX3_last yX3_last) (by decide +kernel)⟩ (cl_recv (ci := 3) (q := (RX3, TX3, 5)) (q0 := 11) hP hK rfl rfl) rfl rfl (Nat.le_of_ble_eq_true rfl) dX1_verdict_31 ⟨Nat.zero_le _, Nat.zero_le _⟩ (fun rY wY H locs hwY hJ hS => ?_)
    obtain ⟨e1Y, e2Y⟩ := hwY
    have e3Y := e1Y.symm
    clear e1Y
    subst e3Y
    have e3Y := e2Y.symm
    clear e2Y
    subst e3Y
    obtain ⟨hP, hD⟩ := hJ rfl
    have hP : va_P D vwCl (gOv cA Bo (nI a) (nI b) (nI q) (nI (ovw S a b q)) fn sn ++ gSa cA B (nI (S 0)) (nI (S 2)) (nI (S 4)) (nI (S 5)) L R LL RL TM (nI (S 1)) WW NN (nI (S 3)) ++ gRd cA Bd WD'_17 RD'_17 (nI ((red S (ow1 S a b q)).1)) (nI ((red S (ow1 S a b q)).2.1)) rs'_17) H := hP
    have hD : va_D AY (gOv cA Bo (nI a) (nI b) (nI q) (nI (ovw S a b q)) fn sn ++ gSa cA B (nI (S 0)) (nI (S 2)) (nI (S 4)) (nI (S 5)) L R LL RL TM (nI (S 1)) WW NN (nI (S 3)) ++ gRd cA Bd WD'_17 RD'_17 (nI ((red S (ow1 S a b q)).1)) (nI ((red S (ow1 S a b q)).2.1)) rs'_17) := hD
    refine va_put (D := D) (ci := 1) (v := .int (nI (nw S (ow1 S a b q)))) (ty := .int) (C := RX1) (T := TX1) (N := 6) hx hb hts hi_X1_verdict_X1 tyX1 tyX1_ok nmX1 hown hK hP hD hS 0 rfl rfl 4 (by decide) (hts (.fieldLink RX1 93 "FallingWords$Overlaps" "firstNormal" "I") (by decide +kernel)) (fun _ h9 => h9) rfl (by decide +kernel) rfl rfl (Nat.le_of_ble_eq_true rfl) dX1_verdict_34 (fun H locs hP hD hS => ?_)
    have hP : va_P D vwCl (gOv cA Bo (nI a) (nI b) (nI q) (nI (ovw S a b q)) (nI (nw S (ow1 S a b q))) sn ++ gSa cA B (nI (S 0)) (nI (S 2)) (nI (S 4)) (nI (S 5)) L R LL RL TM (nI (S 1)) WW NN (nI (S 3)) ++ gRd cA Bd WD'_17 RD'_17 (nI ((red S (ow1 S a b q)).1)) (nI ((red S (ow1 S a b q)).2.1)) rs'_17) H := hP
    have hD : va_D AY (gOv cA Bo (nI a) (nI b) (nI q) (nI (ovw S a b q)) (nI (nw S (ow1 S a b q))) sn ++ gSa cA B (nI (S 0)) (nI (S 2)) (nI (S 4)) (nI (S 5)) L R LL RL TM (nI (S 1)) WW NN (nI (S 3)) ++ gRd cA Bd WD'_17 RD'_17 (nI ((red S (ow1 S a b q)).1)) (nI ((red S (ow1 S a b q)).2.1)) rs'_17) := hD
    refine lv_aload_n hx hb dX1_verdict_37 rfl (lv_at hl 2 rfl) ?_
    refine lv_aload_n hx hb dX1_verdict_38 rfl (lv_at hl 1 rfl) ?_
    refine va_getN (D := D) (ci := 6) (v := .ref (B 1)) (C := RX6) (T := TX6) (N := 6) hx hb hts hi_X1_verdict_X6 hown hK hP 1 rfl rfl 0 (by decide) (hN.fl (w := .fieldLinkNest RX1 15 "FallingWords$State" "rules" "LFallingWords$Rules;" "FallingWords") (by decide +kernel)) (fun _ h9 => h9) rfl dX1_verdict_39 ?_
    refine lv_aload_n hx hb dX1_verdict_42 rfl (lv_at hl 1 rfl) ?_
    refine va_getN (D := D) (ci := 6) (v := .int (nI (S 2))) (C := RX6) (T := TX6) (N := 6) hx hb hts hi_X1_verdict_X6 hown hK hP 1 rfl rfl 3 (by decide) (hN.fl (w := .fieldLinkNest RX1 73 "FallingWords$State" "choosing" "I" "FallingWords") (by decide +kernel)) (fun _ h9 => h9) rfl dX1_verdict_43 ?_
    refine lv_aload_n hx hb dX1_verdict_46 rfl (lv_at hl 0 rfl) ?_
    refine lv_aload_n hx hb dX1_verdict_47 rfl (lv_at hl 1 rfl) ?_
    refine va_getN (D := D) (ci := 6) (v := .ref (B 1)) (C := RX6) (T := TX6) (N := 6) hx hb hts hi_X1_verdict_X6 hown hK hP 1 rfl rfl 0 (by decide) (hN.fl (w := .fieldLinkNest RX1 15 "FallingWords$State" "rules" "LFallingWords$Rules;" "FallingWords") (by decide +kernel)) (fun _ h9 => h9) rfl dX1_verdict_48 ?_
    refine ci_V (As := [.ref (B 1)]) (rest := [.int (nI (S 2)), .ref (B 1), .ref (Bd 0)]) h0 hK hN hP hD hS hA hl.1 (k_X1_secondWord lY D cA Bo (fun i => B (i + 1)) (nI (nw S (ow1 S a b q))) sn S L R LL RL TM a b q (hI) (hr) (ha) (hb2) (hq) (ho)) [0, 2, 3, 4, 5, 6, 7] rfl (by decide) (cwV 1 hts gX1_verdict_X1_secondWord rfl rfl rfl (by decide +kernel) ⟨Nat.le_of_ble_eq_true rfl, Nat.le_of_ble_eq_true rfl⟩) (cl_recv (ci := 1) (q := (RX1, TX1, 6)) (q0 := 0) hP hK rfl rfl) rfl rfl (Nat.le_of_ble_eq_true rfl) dX1_verdict_51 ⟨Nat.zero_le _, Nat.zero_le _⟩ (fun rY wY H locs hwY hJ hS => ?_)
    obtain ⟨e1Y, e2Y⟩ := hwY
    have e3Y := e1Y.symm
    clear e1Y
    subst e3Y
    have e3Y := e2Y.symm
    clear e2Y
    subst e3Y
    obtain ⟨hP, hD⟩ := hJ rfl
    have hP : va_P D vwCl (gOv cA Bo (nI a) (nI b) (nI q) (nI (ovw S a b q)) (nI (nw S (ow1 S a b q))) sn ++ gSa cA B (nI (S 0)) (nI (S 2)) (nI (S 4)) (nI (S 5)) L R LL RL TM (nI (S 1)) WW NN (nI (S 3)) ++ gRd cA Bd WD'_17 RD'_17 (nI ((red S (ow1 S a b q)).1)) (nI ((red S (ow1 S a b q)).2.1)) rs'_17) H := hP
    have hD : va_D AY (gOv cA Bo (nI a) (nI b) (nI q) (nI (ovw S a b q)) (nI (nw S (ow1 S a b q))) sn ++ gSa cA B (nI (S 0)) (nI (S 2)) (nI (S 4)) (nI (S 5)) L R LL RL TM (nI (S 1)) WW NN (nI (S 3)) ++ gRd cA Bd WD'_17 RD'_17 (nI ((red S (ow1 S a b q)).1)) (nI ((red S (ow1 S a b q)).2.1)) rs'_17) := hD
    refine cv_VN (As := [.ref (B 1), .int (nI (S 2)), .int (nI (ow2 S a b q))]) (rest := []) h0 hK hN hP hD hS hA hl.1 (k_X3_run lY D cA Bd (fun i => B (i + 1)) WD'_17 RD'_17 (nI ((red S (ow1 S a b q)).1)) (nI ((red S (ow1 S a b q)).2.1)) rs'_17 S L R LL RL TM (ow2 S a b q) (hI) (hr) (e5)) [11, 12, 13, 2, 3, 4, 5, 6, 7] rfl (by decide) ⟨(va_cnB 3 hts gX1_verdict_X3_run_n80 rfl rfl rfl (hN (.methodLinkNest RX1 80 yX3_run "FallingWords") (by decide +kernel)) (hts (.initialized RX3) (by decide +kernel)) (by decide +kernel) ⟨Nat.le_of_ble_eq_true rfl, Nat.le_of_ble_eq_true rfl⟩), hts (.instanceMethod yX3_run) (by decide +kernel), hts (.selects RX3 yX3_run yX3_run) (by decide +kernel)⟩ (cl_recv (ci := 3) (q := (RX3, TX3, 5)) (q0 := 11) hP hK rfl rfl) rfl rfl (Nat.le_of_ble_eq_true rfl) dX1_verdict_54 ⟨Nat.zero_le _, Nat.zero_le _⟩ (fun wY H locs hwY hJ hS => ?_)
    obtain ⟨WD'_54, RD'_54, rs'_54, e2Y, f1_54, f2_54, f3_54⟩ := hwY
    have e3Y := e2Y.symm
    clear e2Y
    subst e3Y
    obtain ⟨hP, hD⟩ := hJ rfl
    have hP : va_P D vwCl (gOv cA Bo (nI a) (nI b) (nI q) (nI (ovw S a b q)) (nI (nw S (ow1 S a b q))) sn ++ gSa cA B (nI (S 0)) (nI (S 2)) (nI (S 4)) (nI (S 5)) L R LL RL TM (nI (S 1)) WW NN (nI (S 3)) ++ gRd cA Bd WD'_54 RD'_54 (nI ((red S (ow2 S a b q)).1)) (nI ((red S (ow2 S a b q)).2.1)) rs'_54) H := hP
    have hD : va_D AY (gOv cA Bo (nI a) (nI b) (nI q) (nI (ovw S a b q)) (nI (nw S (ow1 S a b q))) sn ++ gSa cA B (nI (S 0)) (nI (S 2)) (nI (S 4)) (nI (S 5)) L R LL RL TM (nI (S 1)) WW NN (nI (S 3)) ++ gRd cA Bd WD'_54 RD'_54 (nI ((red S (ow2 S a b q)).1)) (nI ((red S (ow2 S a b q)).2.1)) rs'_54) := hD
    refine lv_aload_n hx hb dX1_verdict_57 rfl (lv_at hl 2 rfl) ?_
    refine va_getN (D := D) (ci := 3) (v := .int (nI ((red S (ow2 S a b q)).1))) (C := RX3) (T := TX3) (N := 5) hx hb hts hi_X1_verdict_X3 hown hK hP 11 rfl rfl 2 (by decide) (hN.fl (w := .fieldLinkNest RX1 86 "FallingWords$Reduction" "outcome" "I" "FallingWords") (by decide +kernel)) (fun _ h9 => h9) rfl dX1_verdict_58 ?_
    refine x0_eq (tgt := 66) hx hb dX1_verdict_61 (by decide) (by omega) (fun c61 => ?_) (fun c61 => ?_)
    · refine lv_aload_n hx hb dX1_verdict_66 rfl (lv_at hl 0 rfl) ?_
      refine lv_aload_n hx hb dX1_verdict_67 rfl (lv_at hl 2 rfl) ?_
      refine ci_VN (As := []) (rest := [.ref (Bo 0)]) h0 hK hN hP hD hS hA hl.1 (k_X3_last lY D cA Bd WD'_54 RD'_54 (nI ((red S (ow2 S a b q)).1)) rs'_54 ((red S (ow2 S a b q)).2.1) (nw S (ow2 S a b q)) (y1) (f1_54 _ (Nat.le_refl _))) [11, 12, 13] rfl (by decide) ⟨(va_cnB 0 hts gX1_verdict_X3_last_n89 rfl rfl rfl (hN (.methodLinkNest RX1 89 yX3_last "FallingWords") (by decide +kernel)) (hts (.initialized RX3) (by decide +kernel)) (by decide +kernel) ⟨Nat.le_of_ble_eq_true rfl, Nat.le_of_ble_eq_true rfl⟩), hts (.instanceMethod yX3_last) (by decide +kernel), hts (.selects RX3 yX3_last yX3_last) (by decide +kernel)⟩ (cl_recv (ci := 3) (q := (RX3, TX3, 5)) (q0 := 11) hP hK rfl rfl) rfl rfl (Nat.le_of_ble_eq_true rfl) dX1_verdict_68 ⟨Nat.zero_le _, Nat.zero_le _⟩ (fun rY wY H locs hwY hJ hS => ?_)
      obtain ⟨e1Y, e2Y⟩ := hwY
      have e3Y := e1Y.symm
      clear e1Y
      subst e3Y
      have e3Y := e2Y.symm
      clear e2Y
      subst e3Y
      obtain ⟨hP, hD⟩ := hJ rfl
      have hP : va_P D vwCl (gOv cA Bo (nI a) (nI b) (nI q) (nI (ovw S a b q)) (nI (nw S (ow1 S a b q))) sn ++ gSa cA B (nI (S 0)) (nI (S 2)) (nI (S 4)) (nI (S 5)) L R LL RL TM (nI (S 1)) WW NN (nI (S 3)) ++ gRd cA Bd WD'_54 RD'_54 (nI ((red S (ow2 S a b q)).1)) (nI ((red S (ow2 S a b q)).2.1)) rs'_54) H := hP
      have hD : va_D AY (gOv cA Bo (nI a) (nI b) (nI q) (nI (ovw S a b q)) (nI (nw S (ow1 S a b q))) sn ++ gSa cA B (nI (S 0)) (nI (S 2)) (nI (S 4)) (nI (S 5)) L R LL RL TM (nI (S 1)) WW NN (nI (S 3)) ++ gRd cA Bd WD'_54 RD'_54 (nI ((red S (ow2 S a b q)).1)) (nI ((red S (ow2 S a b q)).2.1)) rs'_54) := hD
      refine va_put (D := D) (ci := 1) (v := .int (nI (nw S (ow2 S a b q)))) (ty := .int) (C := RX1) (T := TX1) (N := 6) hx hb hts hi_X1_verdict_X1 tyX1 tyX1_ok nmX1 hown hK hP hD hS 0 rfl rfl 5 (by decide) (hts (.fieldLink RX1 99 "FallingWords$Overlaps" "secondNormal" "I") (by decide +kernel)) (fun _ h9 => h9) rfl (by decide +kernel) rfl rfl (Nat.le_of_ble_eq_true rfl) dX1_verdict_71 (fun H locs hP hD hS => ?_)
      have hP : va_P D vwCl (gOv cA Bo (nI a) (nI b) (nI q) (nI (ovw S a b q)) (nI (nw S (ow1 S a b q))) (nI (nw S (ow2 S a b q))) ++ gSa cA B (nI (S 0)) (nI (S 2)) (nI (S 4)) (nI (S 5)) L R LL RL TM (nI (S 1)) WW NN (nI (S 3)) ++ gRd cA Bd WD'_54 RD'_54 (nI ((red S (ow2 S a b q)).1)) (nI ((red S (ow2 S a b q)).2.1)) rs'_54) H := hP
      have hD : va_D AY (gOv cA Bo (nI a) (nI b) (nI q) (nI (ovw S a b q)) (nI (nw S (ow1 S a b q))) (nI (nw S (ow2 S a b q))) ++ gSa cA B (nI (S 0)) (nI (S 2)) (nI (S 4)) (nI (S 5)) L R LL RL TM (nI (S 1)) WW NN (nI (S 3)) ++ gRd cA Bd WD'_54 RD'_54 (nI ((red S (ow2 S a b q)).1)) (nI ((red S (ow2 S a b q)).2.1)) rs'_54) := hD
      refine lv_aload_n hx hb dX1_verdict_74 rfl (lv_at hl 0 rfl) ?_
      refine va_get (D := D) (ci := 1) (v := .int (nI (nw S (ow1 S a b q)))) (C := RX1) (T := TX1) (N := 6) hx hb hts hi_X1_verdict_X1 hown hK hP 0 rfl rfl 4 (by decide) (hts (.fieldLink RX1 93 "FallingWords$Overlaps" "firstNormal" "I") (by decide +kernel)) (fun _ h9 => h9) rfl dX1_verdict_75 ?_
      have hBz2 : nw S (ow1 S a b q) < 134217728 := hBz
      have hBy2 : nw S (ow2 S a b q) < 134217728 := hBy
      refine lv_aload_n hx hb dX1_verdict_78 rfl (lv_at hl 0 rfl) ?_
      refine va_get (D := D) (ci := 1) (v := .int (nI (nw S (ow2 S a b q)))) (C := RX1) (T := TX1) (N := 6) hx hb hts hi_X1_verdict_X1 hown hK hP 0 rfl rfl 5 (by decide) (hts (.fieldLink RX1 99 "FallingWords$Overlaps" "secondNormal" "I") (by decide +kernel)) (fun _ h9 => h9) rfl dX1_verdict_79 ?_
      refine xc_ne (tgt := 89) hx hb dX1_verdict_82 (by decide) (by omega) (by omega) (fun c82 => ?_) (fun c82 => ?_)
      · refine lv_iconst (v := nI 1) hx hb dX1_verdict_89 (by decide +kernel) ?_
        have hp2 := par_1 c24 c61 c82
        exact hret _ _ _ _ _ _ dX1_verdict_90 ⟨(nI (nw S (ow1 S a b q))), (nI (nw S (ow2 S a b q))), WD'_54, RD'_54, (nI ((red S (ow2 S a b q)).1)), (nI ((red S (ow2 S a b q)).2.1)), rs'_54, by rw [hp2], rfl, fun _ => ⟨rfl, rfl⟩⟩ hP hD hS
      · refine lv_iconst (v := nI 0) hx hb dX1_verdict_85 (by decide +kernel) ?_
        refine lv_goto (tgt := 90) hx hb dX1_verdict_86 (by decide) ?_
        have hp2 := par_0 c24 c61 c82
        exact hret _ _ _ _ _ _ dX1_verdict_90 ⟨(nI (nw S (ow1 S a b q))), (nI (nw S (ow2 S a b q))), WD'_54, RD'_54, (nI ((red S (ow2 S a b q)).1)), (nI ((red S (ow2 S a b q)).2.1)), rs'_54, by rw [hp2], rfl, fun _ => ⟨rfl, rfl⟩⟩ hP hD hS
    · refine lv_iconst (v := nI 2) hx hb dX1_verdict_64 (by decide +kernel) ?_
      have hp2 := par_2b (u := ow1 S a b q) c61
      exact hret _ _ _ _ _ _ dX1_verdict_65 ⟨(nI (nw S (ow1 S a b q))), sn, WD'_54, RD'_54, (nI ((red S (ow2 S a b q)).1)), (nI ((red S (ow2 S a b q)).2.1)), rs'_54, by rw [hp2], rfl, fun h => by omega⟩ hP hD hS
  · refine lv_iconst (v := nI 2) hx hb dX1_verdict_27 (by decide +kernel) ?_
    have hp2 := par_2a (v := ow2 S a b q) c24
    exact hret _ _ _ _ _ _ dX1_verdict_28 ⟨fn, sn, WD'_17, RD'_17, (nI ((red S (ow1 S a b q)).1)), (nI ((red S (ow1 S a b q)).2.1)), rs'_17, by rw [hp2], rfl, fun h => by omega⟩ hP hD hS

set_option maxHeartbeats 1000000 in
set_option maxRecDepth 100000 in
theorem k_X1_find (lY : Launch) (D : va_G) (cA : Nat → ClassId) (Bo B : Nat → Nat) (fi se pl wd1 fn sn : Int32) (S : St) (L R LL RL TM : Nat → Int32) (x : Int32) (hI : IR S) (hr : rRu S L R LL RL TM) : MetI lY D cA yX1_find wsX1_find 3 70 [.ref (Bo 0), .ref (B 0), .int x] (gOv cA Bo fi se pl wd1 fn sn ++ gRu cA B L R LL RL TM (nI (S 1))) (fun rY wY => ∃ (fi2 : Int32) (se2 : Int32) (pl2 : Int32) (wd2 : Int32), rY = bI (fndB S x) ∧ wY = gOv cA Bo fi2 se2 pl2 wd2 fn sn ++ gRu cA B L R LL RL TM (nI (S 1)) ∧ (fndB S x = true → kth S x.toInt.toNat < 400 ∧ ovk S (kth S x.toInt.toNat) = true ∧ fi2 = nI (kA (kth S x.toInt.toNat)) ∧ se2 = nI (kB (kth S x.toInt.toNat)) ∧ pl2 = nI (kQ (kth S x.toInt.toNat)) ∧ wd2 = nI (ovw S (kA (kth S x.toInt.toNat)) (kB (kth S x.toInt.toNat)) (kQ (kth S x.toInt.toNat))))) := by
  refine MetI.of (cc := cX1_find) (maxL := 5) (ret := (some .boolean)) (by decide) rfl (Nat.le_of_ble_eq_true rfl) (Or.inr ⟨rfl, fun r w' h => by obtain ⟨_, _, _, _, h, -⟩ := h; rw [h]; exact bI_nar _⟩) ?_
  intro pY eY sY mY aY bY tY cY QY AY ls h0 hP hK hN hD hA hS hl hret
  obtain ⟨hx, hb, hml, hown, hts⟩ := id h0
  have hl : lv_has ls 5 [(0, .ref (Bo 0)), (1, .ref (B 0)), (2, .int x)] := hl
  have hP : va_P D vwCl (gOv cA Bo fi se pl wd1 fn sn ++ gRu cA B L R LL RL TM (nI (S 1))) sY.heap := hP
  have hD : va_D AY (gOv cA Bo fi se pl wd1 fn sn ++ gRu cA B L R LL RL TM (nI (S 1))) := hD
  refine lv_iconst (v := nI 0) hx hb dX1_find_0 (by decide +kernel) ?_
  refine lv_istore_n (lv' := [(3, .int (nI 0)), (0, .ref (Bo 0)), (1, .ref (B 0)), (2, .int x)]) hx hb dX1_find_1 rfl hl (by decide) rfl (fun ls hl => ?_)
  refine lv_iconst (v := nI 0) hx hb dX1_find_2 (by decide +kernel) ?_
  refine lv_istore (lv' := [(4, .int (nI 0)), (3, .int (nI 0)), (0, .ref (Bo 0)), (1, .ref (B 0)), (2, .int x)]) hx hb dX1_find_3 hl (by decide) rfl (fun ls hl => ?_)
  have L5 : ∀ (nY : Nat), ∀ (k : Nat) (c : Nat) (fi' : Int32) (se' : Int32) (pl' : Int32) (wd' : Int32), (k ≤ 400) → (c = cn (ovk S) k) → (x.toInt < 0 ∨ (c : Int) ≤ x.toInt) → (400 - k < nY) → ∀ (H : Heap) (locs : List Loc) (ls : Array Slot), va_P D vwCl (gOv cA Bo fi' se' pl' wd' fn sn ++ gRu cA B L R LL RL TM (nI (S 1))) H → va_D AY (gOv cA Bo fi' se' pl' wd' fn sn ++ gRu cA B L R LL RL TM (nI (S 1))) → va_S AY sY.heap H locs → lv_has ls 5 [(0, .ref (Bo 0)), (1, .ref (B 0)), (2, .int x), (3, .int (nI c)), (4, .int (nI k))] → W pY lY eY { frames := 3, cells := 0, slots := 0, locals := 70 } sY mY aY bY tY cY H locs 0 0 QY (F0 mY 5 ls []) := by
    intro nY5
    induction nY5 with
    | zero => intro k c fi' se' pl' wd' hk hc hno hm5; exact absurd hm5 (Nat.not_lt_zero _)
    | succ nY5 ih5 =>
      intro k c fi' se' pl' wd' hk hc hno hm5 H locs ls hP hD hS hl
      have hcl := cn_le (ovk S) k
      refine lv_iload hx hb dX1_find_5 (lv_at hl 4 rfl) ?_
      refine lv_sipush (v := nI 400) hx hb dX1_find_7 (by decide +kernel) ?_
      refine xc_ge (tgt := 39) hx hb dX1_find_10 (by decide) (by omega) (by omega) (fun c10 => ?_) (fun c10 => ?_)
      · refine lv_iconst (v := nI 0) hx hb dX1_find_39 (by decide +kernel) ?_
        have hk4 : k = 400 := by omega
        subst hk4
        have hz : fndB S x = false := by unfold fndB cntO; rw [sl_eq, sl_eq]; exact decide_eq_false (by omega)
        exact hret _ _ _ _ _ _ dX1_find_40 ⟨_, _, _, _, by rw [hz]; rfl, rfl, fun h => by rw [hz] at h; cases h⟩ hP hD hS
      · refine lv_aload_n hx hb dX1_find_13 rfl (lv_at hl 0 rfl) ?_
        refine lv_aload_n hx hb dX1_find_14 rfl (lv_at hl 1 rfl) ?_
        refine lv_iload hx hb dX1_find_15 (lv_at hl 4 rfl) ?_
        refine ci_V (As := [.ref (B 0), .int (nI k)]) (rest := []) h0 hK hN hP hD hS hA hl.1 (k_X1_isOverlap lY D cA Bo B fi' se' pl' wd' fn sn S L R LL RL TM k (hI) (hr) (by omega)) [0, 1, 2, 3, 4, 5, 6] rfl (by decide) (cwV 2 hts gX1_find_X1_isOverlap rfl rfl rfl (by decide +kernel) ⟨Nat.le_of_ble_eq_true rfl, Nat.le_of_ble_eq_true rfl⟩) (cl_recv (ci := 1) (q := (RX1, TX1, 6)) (q0 := 0) hP hK rfl rfl) rfl rfl (Nat.le_of_ble_eq_true rfl) dX1_find_17 ⟨Nat.zero_le _, Nat.zero_le _⟩ (fun rY wY H locs hwY hJ hS => ?_)
        obtain ⟨wd2_17, e1Y, e2Y, fw_17⟩ := hwY
        have e3Y := e1Y.symm
        clear e1Y
        subst e3Y
        have e3Y := e2Y.symm
        clear e2Y
        subst e3Y
        obtain ⟨hP, hD⟩ := hJ rfl
        have hP : va_P D vwCl (gOv cA Bo (nI (kA k)) (nI (kB k)) (nI (kQ k)) wd2_17 fn sn ++ gRu cA B L R LL RL TM (nI (S 1))) H := hP
        have hD : va_D AY (gOv cA Bo (nI (kA k)) (nI (kB k)) (nI (kQ k)) wd2_17 fn sn ++ gRu cA B L R LL RL TM (nI (S 1))) := hD
        refine xb_eq (tgt := 33) hx hb dX1_find_20 (by decide) (fun c20 => ?_) (fun c20 => ?_)
        · refine lv_iinc (v := nI (k + 1)) (lv' := [(4, .int (nI (k + 1))), (0, .ref (Bo 0)), (1, .ref (B 0)), (2, .int x), (3, .int (nI c))]) hx hb dX1_find_33 hl (k := 4) rfl (show nI k + Int32.ofInt 1 = nI (k + 1) from nI_add k 1) (by decide) rfl (fun ls hl => ?_)
          refine lv_goto (tgt := 5) hx hb dX1_find_36 (by decide) ?_
          exact ih5 (k + 1) c (nI (kA k)) (nI (kB k)) (nI (kQ k)) wd2_17 (by omega) (hc.trans (cn_f c20).symm) (by omega) (by omega) _ _ _ hP hD hS (lv_sub hl [1, 2, 3, 4, 0] rfl)
        · have ec : (nI c).toInt = (c : Int) := nI_toInt (by omega)
          refine lv_iload_n hx hb dX1_find_23 rfl (lv_at hl 3 rfl) ?_
          refine lv_iload_n hx hb dX1_find_24 rfl (lv_at hl 2 rfl) ?_
          refine xr_ne (tgt := 30) hx hb dX1_find_25 (by decide) (fun c25 => ?_) (fun c25 => ?_)
          · refine lv_iinc (v := nI (c + 1)) (lv' := [(3, .int (nI (c + 1))), (0, .ref (Bo 0)), (1, .ref (B 0)), (2, .int x), (4, .int (nI k))]) hx hb dX1_find_30 hl (k := 3) rfl (show nI c + Int32.ofInt 1 = nI (c + 1) from nI_add c 1) (by decide) rfl (fun ls hl => ?_)
            refine lv_iinc (v := nI (k + 1)) (lv' := [(4, .int (nI (k + 1))), (3, .int (nI (c + 1))), (0, .ref (Bo 0)), (1, .ref (B 0)), (2, .int x)]) hx hb dX1_find_33 hl (k := 4) rfl (show nI k + Int32.ofInt 1 = nI (k + 1) from nI_add k 1) (by decide) rfl (fun ls hl => ?_)
            refine lv_goto (tgt := 5) hx hb dX1_find_36 (by decide) ?_
            exact ih5 (k + 1) (c + 1) (nI (kA k)) (nI (kB k)) (nI (kQ k)) wd2_17 (by omega) ((congrArg (· + 1) hc).trans (cn_t c20).symm) (by omega) (by omega) _ _ _ hP hD hS (lv_sub hl [2, 3, 4, 1, 0] rfl)
          · refine lv_iconst (v := nI 1) hx hb dX1_find_28 (by decide +kernel) ?_
            have hxc : x.toInt = (c : Int) := by omega
            obtain ⟨t1, t2⟩ := kth_is (by omega) c20 hc.symm
            have hxn : x.toInt.toNat = c := by omega
            have hz : fndB S x = true := by unfold fndB; rw [sl_eq]; exact decide_eq_true (by omega)
            exact hret _ _ _ _ _ _ dX1_find_29 ⟨_, _, _, _, by rw [hz]; rfl, rfl, fun _ => by rw [hxn, t1]; exact ⟨by omega, c20, rfl, rfl, rfl, fw_17 c20⟩⟩ hP hD hS
  exact L5 _ 0 0 fi se pl wd1 (by omega) (rfl) (by have e : (0 : Int) = ((0 : Nat) : Int) := rfl; omega) (Nat.lt_succ_self _) _ _ _ hP hD hS (lv_sub hl [2, 3, 4, 1, 0] rfl)

set_option maxHeartbeats 1000000 in
set_option maxRecDepth 100000 in
theorem k_X1_howMany (lY : Launch) (D : va_G) (cA : Nat → ClassId) (Bo B : Nat → Nat) (fi se pl wd1 fn sn : Int32) (S : St) (L R LL RL TM : Nat → Int32) (hI : IR S) (hr : rRu S L R LL RL TM) : MetI lY D cA yX1_howMany wsX1_howMany 3 70 [.ref (Bo 0), .ref (B 0)] (gOv cA Bo fi se pl wd1 fn sn ++ gRu cA B L R LL RL TM (nI (S 1))) (fun rY wY => ∃ (fi2 : Int32) (se2 : Int32) (pl2 : Int32) (wd2 : Int32), rY = nI (cntO S) ∧ wY = gOv cA Bo fi2 se2 pl2 wd2 fn sn ++ gRu cA B L R LL RL TM (nI (S 1))) := by
  refine MetI.of (cc := cX1_howMany) (maxL := 4) (ret := (some .int)) (by decide) rfl (Nat.le_of_ble_eq_true rfl) (Or.inl rfl) ?_
  intro pY eY sY mY aY bY tY cY QY AY ls h0 hP hK hN hD hA hS hl hret
  obtain ⟨hx, hb, hml, hown, hts⟩ := id h0
  have hl : lv_has ls 4 [(0, .ref (Bo 0)), (1, .ref (B 0))] := hl
  have hP : va_P D vwCl (gOv cA Bo fi se pl wd1 fn sn ++ gRu cA B L R LL RL TM (nI (S 1))) sY.heap := hP
  have hD : va_D AY (gOv cA Bo fi se pl wd1 fn sn ++ gRu cA B L R LL RL TM (nI (S 1))) := hD
  refine lv_iconst (v := nI 0) hx hb dX1_howMany_0 (by decide +kernel) ?_
  refine lv_istore_n (lv' := [(2, .int (nI 0)), (0, .ref (Bo 0)), (1, .ref (B 0))]) hx hb dX1_howMany_1 rfl hl (by decide) rfl (fun ls hl => ?_)
  refine lv_iconst (v := nI 0) hx hb dX1_howMany_2 (by decide +kernel) ?_
  refine lv_istore_n (lv' := [(3, .int (nI 0)), (2, .int (nI 0)), (0, .ref (Bo 0)), (1, .ref (B 0))]) hx hb dX1_howMany_3 rfl hl (by decide) rfl (fun ls hl => ?_)
  have L4 : ∀ (nY : Nat), ∀ (k : Nat) (c : Nat) (fi' : Int32) (se' : Int32) (pl' : Int32) (wd' : Int32), (k ≤ 400) → (c = cn (ovk S) k) → (400 - k < nY) → ∀ (H : Heap) (locs : List Loc) (ls : Array Slot), va_P D vwCl (gOv cA Bo fi' se' pl' wd' fn sn ++ gRu cA B L R LL RL TM (nI (S 1))) H → va_D AY (gOv cA Bo fi' se' pl' wd' fn sn ++ gRu cA B L R LL RL TM (nI (S 1))) → va_S AY sY.heap H locs → lv_has ls 4 [(0, .ref (Bo 0)), (1, .ref (B 0)), (2, .int (nI c)), (3, .int (nI k))] → W pY lY eY { frames := 3, cells := 0, slots := 0, locals := 70 } sY mY aY bY tY cY H locs 0 0 QY (F0 mY 4 ls []) := by
    intro nY4
    induction nY4 with
    | zero => intro k c fi' se' pl' wd' hk hc hm4; exact absurd hm4 (Nat.not_lt_zero _)
    | succ nY4 ih4 =>
      intro k c fi' se' pl' wd' hk hc hm4 H locs ls hP hD hS hl
      refine lv_iload_n hx hb dX1_howMany_4 rfl (lv_at hl 3 rfl) ?_
      refine lv_sipush (v := nI 400) hx hb dX1_howMany_5 (by decide +kernel) ?_
      refine xc_ge (tgt := 29) hx hb dX1_howMany_8 (by decide) (by omega) (by omega) (fun c8 => ?_) (fun c8 => ?_)
      · refine lv_iload_n hx hb dX1_howMany_29 rfl (lv_at hl 2 rfl) ?_
        exact hret _ _ _ _ _ _ dX1_howMany_30 ⟨_, _, _, _, congrArg nI (by unfold cntO; rw [sl_eq, hc, show k = 400 by omega]), rfl⟩ hP hD hS
      · refine lv_aload_n hx hb dX1_howMany_11 rfl (lv_at hl 0 rfl) ?_
        refine lv_aload_n hx hb dX1_howMany_12 rfl (lv_at hl 1 rfl) ?_
        refine lv_iload_n hx hb dX1_howMany_13 rfl (lv_at hl 3 rfl) ?_
        refine ci_V (As := [.ref (B 0), .int (nI k)]) (rest := []) h0 hK hN hP hD hS hA hl.1 (k_X1_isOverlap lY D cA Bo B fi' se' pl' wd' fn sn S L R LL RL TM k (hI) (hr) (by omega)) [0, 1, 2, 3, 4, 5, 6] rfl (by decide) (cwV 2 hts gX1_howMany_X1_isOverlap rfl rfl rfl (by decide +kernel) ⟨Nat.le_of_ble_eq_true rfl, Nat.le_of_ble_eq_true rfl⟩) (cl_recv (ci := 1) (q := (RX1, TX1, 6)) (q0 := 0) hP hK rfl rfl) rfl rfl (Nat.le_of_ble_eq_true rfl) dX1_howMany_14 ⟨Nat.zero_le _, Nat.zero_le _⟩ (fun rY wY H locs hwY hJ hS => ?_)
        obtain ⟨wd2_14, e1Y, e2Y, fw_14⟩ := hwY
        have e3Y := e1Y.symm
        clear e1Y
        subst e3Y
        have e3Y := e2Y.symm
        clear e2Y
        subst e3Y
        obtain ⟨hP, hD⟩ := hJ rfl
        have hP : va_P D vwCl (gOv cA Bo (nI (kA k)) (nI (kB k)) (nI (kQ k)) wd2_14 fn sn ++ gRu cA B L R LL RL TM (nI (S 1))) H := hP
        have hD : va_D AY (gOv cA Bo (nI (kA k)) (nI (kB k)) (nI (kQ k)) wd2_14 fn sn ++ gRu cA B L R LL RL TM (nI (S 1))) := hD
        refine xb_eq (tgt := 23) hx hb dX1_howMany_17 (by decide) (fun c17 => ?_) (fun c17 => ?_)
        · refine lv_iinc (v := nI (k + 1)) (lv' := [(3, .int (nI (k + 1))), (0, .ref (Bo 0)), (1, .ref (B 0)), (2, .int (nI c))]) hx hb dX1_howMany_23 hl (k := 3) rfl (show nI k + Int32.ofInt 1 = nI (k + 1) from nI_add k 1) (by decide) rfl (fun ls hl => ?_)
          refine lv_goto (tgt := 4) hx hb dX1_howMany_26 (by decide) ?_
          exact ih4 (k + 1) c (nI (kA k)) (nI (kB k)) (nI (kQ k)) wd2_14 (by omega) (hc.trans (cn_f c17).symm) (by omega) _ _ _ hP hD hS (lv_sub hl [1, 2, 3, 0] rfl)
        · refine lv_iinc (v := nI (c + 1)) (lv' := [(2, .int (nI (c + 1))), (0, .ref (Bo 0)), (1, .ref (B 0)), (3, .int (nI k))]) hx hb dX1_howMany_20 hl (k := 2) rfl (show nI c + Int32.ofInt 1 = nI (c + 1) from nI_add c 1) (by decide) rfl (fun ls hl => ?_)
          refine lv_iinc (v := nI (k + 1)) (lv' := [(3, .int (nI (k + 1))), (2, .int (nI (c + 1))), (0, .ref (Bo 0)), (1, .ref (B 0))]) hx hb dX1_howMany_23 hl (k := 3) rfl (show nI k + Int32.ofInt 1 = nI (k + 1) from nI_add k 1) (by decide) rfl (fun ls hl => ?_)
          refine lv_goto (tgt := 4) hx hb dX1_howMany_26 (by decide) ?_
          exact ih4 (k + 1) (c + 1) (nI (kA k)) (nI (kB k)) (nI (kQ k)) wd2_14 (by omega) ((congrArg (· + 1) hc).trans (cn_t c17).symm) (by omega) _ _ _ hP hD hS (lv_sub hl [2, 3, 1, 0] rfl)
  exact L4 _ 0 0 fi se pl wd1 (by omega) (rfl) (Nat.lt_succ_self _) _ _ _ hP hD hS (lv_sub hl [2, 3, 1, 0] rfl)

theorem hi_X1_howManyAre_X6 : ∀ w ∈ u_ws RX6 TX6 6, w ∈ wsX1_howManyAre := by decide +kernel
set_option maxHeartbeats 1000000 in
set_option maxRecDepth 100000 in
theorem k_X1_howManyAre (lY : Launch) (D : va_G) (cA : Nat → ClassId) (Bo B Bd : Nat → Nat) (fi se pl wd1 fn sn : Int32) (S : St) (L R LL RL TM WW NN : Nat → Int32) (WD RD : Nat → Int32) (oc ns rs : Int32) (v : Nat) (hI : IR S) (hr : rRu S L R LL RL TM) (hv : v < 2147483648) : MetI lY D cA yX1_howManyAre wsX1_howManyAre 4 104 [.ref (Bo 0), .int (nI v), .ref (B 0), .ref (Bd 0)] (gOv cA Bo fi se pl wd1 fn sn ++ gSa cA B (nI (S 0)) (nI (S 2)) (nI (S 4)) (nI (S 5)) L R LL RL TM (nI (S 1)) WW NN (nI (S 3)) ++ gRd cA Bd WD RD oc ns rs) (fun rY wY => ∃ (fi2 : Int32) (se2 : Int32) (pl2 : Int32) (wd2 : Int32) (fn2 : Int32) (sn2 : Int32) (WD' : Nat → Int32) (RD' : Nat → Int32) (oc' : Int32) (ns' : Int32) (rs' : Int32), rY = nI (cntV S v) ∧ wY = gOv cA Bo fi2 se2 pl2 wd2 fn2 sn2 ++ gSa cA B (nI (S 0)) (nI (S 2)) (nI (S 4)) (nI (S 5)) L R LL RL TM (nI (S 1)) WW NN (nI (S 3)) ++ gRd cA Bd WD' RD' oc' ns' rs') := by
  refine MetI.of (cc := cX1_howManyAre) (maxL := 6) (ret := (some .int)) (by decide) rfl (Nat.le_of_ble_eq_true rfl) (Or.inl rfl) ?_
  intro pY eY sY mY aY bY tY cY QY AY ls h0 hP hK hN hD hA hS hl hret
  obtain ⟨hx, hb, hml, hown, hts⟩ := id h0
  have hl : lv_has ls 6 [(0, .ref (Bo 0)), (1, .int (nI v)), (2, .ref (B 0)), (3, .ref (Bd 0))] := hl
  have hP : va_P D vwCl (gOv cA Bo fi se pl wd1 fn sn ++ gSa cA B (nI (S 0)) (nI (S 2)) (nI (S 4)) (nI (S 5)) L R LL RL TM (nI (S 1)) WW NN (nI (S 3)) ++ gRd cA Bd WD RD oc ns rs) sY.heap := hP
  have hD : va_D AY (gOv cA Bo fi se pl wd1 fn sn ++ gSa cA B (nI (S 0)) (nI (S 2)) (nI (S 4)) (nI (S 5)) L R LL RL TM (nI (S 1)) WW NN (nI (S 3)) ++ gRd cA Bd WD RD oc ns rs) := hD
  refine lv_iconst (v := nI 0) hx hb dX1_howManyAre_0 (by decide +kernel) ?_
  refine lv_istore (lv' := [(4, .int (nI 0)), (0, .ref (Bo 0)), (1, .int (nI v)), (2, .ref (B 0)), (3, .ref (Bd 0))]) hx hb dX1_howManyAre_1 hl (by decide) rfl (fun ls hl => ?_)
  refine lv_iconst (v := nI 0) hx hb dX1_howManyAre_3 (by decide +kernel) ?_
  refine lv_istore (lv' := [(5, .int (nI 0)), (4, .int (nI 0)), (0, .ref (Bo 0)), (1, .int (nI v)), (2, .ref (B 0)), (3, .ref (Bd 0))]) hx hb dX1_howManyAre_4 hl (by decide) rfl (fun ls hl => ?_)
  have L6 : ∀ (nY : Nat), ∀ (k : Nat) (c : Nat) (fi' : Int32) (se' : Int32) (pl' : Int32) (wd' : Int32) (fn' : Int32) (sn' : Int32) (WD1 : Nat → Int32) (RD1 : Nat → Int32) (oc1 : Int32) (ns1 : Int32) (rs1 : Int32), (k ≤ 400) → (c = cn (fun k => ovk S k && decide (prk S k = v)) k) → (400 - k < nY) → ∀ (H : Heap) (locs : List Loc) (ls : Array Slot), va_P D vwCl (gOv cA Bo fi' se' pl' wd' fn' sn' ++ gSa cA B (nI (S 0)) (nI (S 2)) (nI (S 4)) (nI (S 5)) L R LL RL TM (nI (S 1)) WW NN (nI (S 3)) ++ gRd cA Bd WD1 RD1 oc1 ns1 rs1) H → va_D AY (gOv cA Bo fi' se' pl' wd' fn' sn' ++ gSa cA B (nI (S 0)) (nI (S 2)) (nI (S 4)) (nI (S 5)) L R LL RL TM (nI (S 1)) WW NN (nI (S 3)) ++ gRd cA Bd WD1 RD1 oc1 ns1 rs1) → va_S AY sY.heap H locs → lv_has ls 6 [(0, .ref (Bo 0)), (1, .int (nI v)), (2, .ref (B 0)), (3, .ref (Bd 0)), (4, .int (nI c)), (5, .int (nI k))] → W pY lY eY { frames := 4, cells := 0, slots := 0, locals := 104 } sY mY aY bY tY cY H locs 0 0 QY (F0 mY 6 ls []) := by
    intro nY6
    induction nY6 with
    | zero => intro k c fi' se' pl' wd' fn' sn' WD1 RD1 oc1 ns1 rs1 hk hc hm6; exact absurd hm6 (Nat.not_lt_zero _)
    | succ nY6 ih6 =>
      intro k c fi' se' pl' wd' fn' sn' WD1 RD1 oc1 ns1 rs1 hk hc hm6 H locs ls hP hD hS hl
      refine lv_iload hx hb dX1_howManyAre_6 (lv_at hl 5 rfl) ?_
      refine lv_sipush (v := nI 400) hx hb dX1_howManyAre_8 (by decide +kernel) ?_
      refine xc_ge (tgt := 46) hx hb dX1_howManyAre_11 (by decide) (by omega) (by omega) (fun c11 => ?_) (fun c11 => ?_)
      · refine lv_iload hx hb dX1_howManyAre_46 (lv_at hl 4 rfl) ?_
        exact hret _ _ _ _ _ _ dX1_howManyAre_48 ⟨_, _, _, _, _, _, _, _, _, _, _, congrArg nI (by unfold cntV; rw [sl_eq, hc, show k = 400 by omega]), rfl⟩ hP hD hS
      · refine lv_aload_n hx hb dX1_howManyAre_14 rfl (lv_at hl 0 rfl) ?_
        refine lv_aload_n hx hb dX1_howManyAre_15 rfl (lv_at hl 2 rfl) ?_
        refine va_getN (D := D) (ci := 6) (v := .ref (B 1)) (C := RX6) (T := TX6) (N := 6) hx hb hts hi_X1_howManyAre_X6 hown hK hP 1 rfl rfl 0 (by decide) (hN.fl (w := .fieldLinkNest RX1 15 "FallingWords$State" "rules" "LFallingWords$Rules;" "FallingWords") (by decide +kernel)) (fun _ h9 => h9) rfl dX1_howManyAre_16 ?_
        refine lv_iload hx hb dX1_howManyAre_19 (lv_at hl 5 rfl) ?_
        refine ci_V (As := [.ref (B 1), .int (nI k)]) (rest := []) h0 hK hN hP hD hS hA hl.1 (k_X1_isOverlap lY D cA Bo (fun i => B (i + 1)) fi' se' pl' wd' fn' sn' S L R LL RL TM k (hI) (hr) (by omega)) [0, 2, 3, 4, 5, 6, 7] rfl (by decide) (cwV 2 hts gX1_howManyAre_X1_isOverlap rfl rfl rfl (by decide +kernel) ⟨Nat.le_of_ble_eq_true rfl, Nat.le_of_ble_eq_true rfl⟩) (cl_recv (ci := 1) (q := (RX1, TX1, 6)) (q0 := 0) hP hK rfl rfl) rfl rfl (Nat.le_of_ble_eq_true rfl) dX1_howManyAre_21 ⟨Nat.zero_le _, Nat.zero_le _⟩ (fun rY wY H locs hwY hJ hS => ?_)
        obtain ⟨wd2_21, e1Y, e2Y, fw_21⟩ := hwY
        have e3Y := e1Y.symm
        clear e1Y
        subst e3Y
        have e3Y := e2Y.symm
        clear e2Y
        subst e3Y
        obtain ⟨hP, hD⟩ := hJ rfl
        have hP : va_P D vwCl (gOv cA Bo (nI (kA k)) (nI (kB k)) (nI (kQ k)) wd2_21 fn' sn' ++ gSa cA B (nI (S 0)) (nI (S 2)) (nI (S 4)) (nI (S 5)) L R LL RL TM (nI (S 1)) WW NN (nI (S 3)) ++ gRd cA Bd WD1 RD1 oc1 ns1 rs1) H := hP
        have hD : va_D AY (gOv cA Bo (nI (kA k)) (nI (kB k)) (nI (kQ k)) wd2_21 fn' sn' ++ gSa cA B (nI (S 0)) (nI (S 2)) (nI (S 4)) (nI (S 5)) L R LL RL TM (nI (S 1)) WW NN (nI (S 3)) ++ gRd cA Bd WD1 RD1 oc1 ns1 rs1) := hD
        have kb2 := kb k (by omega)
        refine xb_eq (tgt := 40) hx hb dX1_howManyAre_24 (by decide) (fun c24 => ?_) (fun c24 => ?_)
        · refine lv_iinc (v := nI (k + 1)) (lv' := [(5, .int (nI (k + 1))), (0, .ref (Bo 0)), (1, .int (nI v)), (2, .ref (B 0)), (3, .ref (Bd 0)), (4, .int (nI c))]) hx hb dX1_howManyAre_40 hl (k := 5) rfl (show nI k + Int32.ofInt 1 = nI (k + 1) from nI_add k 1) (by decide) rfl (fun ls hl => ?_)
          refine lv_goto (tgt := 6) hx hb dX1_howManyAre_43 (by decide) ?_
          exact ih6 (k + 1) c (nI (kA k)) (nI (kB k)) (nI (kQ k)) wd2_21 fn' sn' WD1 RD1 oc1 ns1 rs1 (by omega) (hc.trans (cn_f (by rw [c24]; rfl)).symm) (by omega) _ _ _ hP hD hS (lv_sub hl [1, 2, 3, 4, 5, 0] rfl)
        · obtain ⟨hAB, hO1⟩ := Bool.and_eq_true _ _ |>.mp c24
          obtain ⟨hA0, hB0⟩ := Bool.and_eq_true _ _ |>.mp hAB
          have hA1 := of_decide_eq_true hA0
          have hB1 := of_decide_eq_true hB0
          rw [fw_21 c24] at hP hD
          have hP : va_P D vwCl (gOv cA Bo (nI (kA k)) (nI (kB k)) (nI (kQ k)) (nI (ovw S (kA k) (kB k) (kQ k))) fn' sn' ++ gSa cA B (nI (S 0)) (nI (S 2)) (nI (S 4)) (nI (S 5)) L R LL RL TM (nI (S 1)) WW NN (nI (S 3)) ++ gRd cA Bd WD1 RD1 oc1 ns1 rs1) H := hP
          have hD : va_D AY (gOv cA Bo (nI (kA k)) (nI (kB k)) (nI (kQ k)) (nI (ovw S (kA k) (kB k) (kQ k))) fn' sn' ++ gSa cA B (nI (S 0)) (nI (S 2)) (nI (S 4)) (nI (S 5)) L R LL RL TM (nI (S 1)) WW NN (nI (S 3)) ++ gRd cA Bd WD1 RD1 oc1 ns1 rs1) := hD
          refine lv_aload_n hx hb dX1_howManyAre_27 rfl (lv_at hl 0 rfl) ?_
          refine lv_aload_n hx hb dX1_howManyAre_28 rfl (lv_at hl 2 rfl) ?_
          refine lv_aload_n hx hb dX1_howManyAre_29 rfl (lv_at hl 3 rfl) ?_
          refine ci_V (As := [.ref (B 0), .ref (Bd 0)]) (rest := []) h0 hK hN hP hD hS hA hl.1 (k_X1_verdict lY D cA Bo B Bd fn' sn' S L R LL RL TM WW NN WD1 RD1 oc1 ns1 rs1 (kA k) (kB k) (kQ k) (hI) (hr) (hA1) (hB1) (kb2.2.2) (hO1)) [0, 1, 2, 3, 4, 5, 6, 7, 8, 9, 10, 11, 12, 13] rfl (by decide) (cwV 2 hts gX1_howManyAre_X1_verdict rfl rfl rfl (by decide +kernel) ⟨Nat.le_of_ble_eq_true rfl, Nat.le_of_ble_eq_true rfl⟩) (cl_recv (ci := 1) (q := (RX1, TX1, 6)) (q0 := 0) hP hK rfl rfl) rfl rfl (Nat.le_of_ble_eq_true rfl) dX1_howManyAre_30 ⟨Nat.zero_le _, Nat.zero_le _⟩ (fun rY wY H locs hwY hJ hS => ?_)
          obtain ⟨fn2_30, sn2_30, WD'_30, RD'_30, oc'_30, ns'_30, rs'_30, e1Y, e2Y, ff2_30⟩ := hwY
          have e3Y := e1Y.symm
          clear e1Y
          subst e3Y
          have e3Y := e2Y.symm
          clear e2Y
          subst e3Y
          obtain ⟨hP, hD⟩ := hJ rfl
          have hP : va_P D vwCl (gOv cA Bo (nI (kA k)) (nI (kB k)) (nI (kQ k)) (nI (ovw S (kA k) (kB k) (kQ k))) fn2_30 sn2_30 ++ gSa cA B (nI (S 0)) (nI (S 2)) (nI (S 4)) (nI (S 5)) L R LL RL TM (nI (S 1)) WW NN (nI (S 3)) ++ gRd cA Bd WD'_30 RD'_30 oc'_30 ns'_30 rs'_30) H := hP
          have hD : va_D AY (gOv cA Bo (nI (kA k)) (nI (kB k)) (nI (kQ k)) (nI (ovw S (kA k) (kB k) (kQ k))) fn2_30 sn2_30 ++ gSa cA B (nI (S 0)) (nI (S 2)) (nI (S 4)) (nI (S 5)) L R LL RL TM (nI (S 1)) WW NN (nI (S 3)) ++ gRd cA Bd WD'_30 RD'_30 oc'_30 ns'_30 rs'_30) := hD
          refine xt (show nI (par S (ow1 S (kA k) (kB k) (kQ k)) (ow2 S (kA k) (kB k) (kQ k))) = nI (prk S k) from rfl) ?_
          have hple : prk S k ≤ 2 := par_le
          refine lv_iload_n hx hb dX1_howManyAre_33 rfl (lv_at hl 1 rfl) ?_
          refine xc_ne (tgt := 40) hx hb dX1_howManyAre_34 (by decide) (by omega) (by omega) (fun c34 => ?_) (fun c34 => ?_)
          · refine lv_iinc (v := nI (k + 1)) (lv' := [(5, .int (nI (k + 1))), (0, .ref (Bo 0)), (1, .int (nI v)), (2, .ref (B 0)), (3, .ref (Bd 0)), (4, .int (nI c))]) hx hb dX1_howManyAre_40 hl (k := 5) rfl (show nI k + Int32.ofInt 1 = nI (k + 1) from nI_add k 1) (by decide) rfl (fun ls hl => ?_)
            refine lv_goto (tgt := 6) hx hb dX1_howManyAre_43 (by decide) ?_
            exact ih6 (k + 1) c (nI (kA k)) (nI (kB k)) (nI (kQ k)) (nI (ovw S (kA k) (kB k) (kQ k))) fn2_30 sn2_30 WD'_30 RD'_30 oc'_30 ns'_30 rs'_30 (by omega) (hc.trans (cn_f (by rw [c24]; exact decide_eq_false c34)).symm) (by omega) _ _ _ hP hD hS (lv_sub hl [1, 2, 3, 4, 5, 0] rfl)
          · refine lv_iinc (v := nI (c + 1)) (lv' := [(4, .int (nI (c + 1))), (0, .ref (Bo 0)), (1, .int (nI v)), (2, .ref (B 0)), (3, .ref (Bd 0)), (5, .int (nI k))]) hx hb dX1_howManyAre_37 hl (k := 4) rfl (show nI c + Int32.ofInt 1 = nI (c + 1) from nI_add c 1) (by decide) rfl (fun ls hl => ?_)
            refine lv_iinc (v := nI (k + 1)) (lv' := [(5, .int (nI (k + 1))), (4, .int (nI (c + 1))), (0, .ref (Bo 0)), (1, .int (nI v)), (2, .ref (B 0)), (3, .ref (Bd 0))]) hx hb dX1_howManyAre_40 hl (k := 5) rfl (show nI k + Int32.ofInt 1 = nI (k + 1) from nI_add k 1) (by decide) rfl (fun ls hl => ?_)
            refine lv_goto (tgt := 6) hx hb dX1_howManyAre_43 (by decide) ?_
            exact ih6 (k + 1) (c + 1) (nI (kA k)) (nI (kB k)) (nI (kQ k)) (nI (ovw S (kA k) (kB k) (kQ k))) fn2_30 sn2_30 WD'_30 RD'_30 oc'_30 ns'_30 rs'_30 (by omega) ((congrArg (· + 1) hc).trans (cn_t (by rw [c24]; exact decide_eq_true c34)).symm) (by omega) _ _ _ hP hD hS (lv_sub hl [2, 3, 4, 5, 1, 0] rfl)
  exact L6 _ 0 0 fi se pl wd1 fn sn WD RD oc ns rs (by omega) (rfl) (Nat.lt_succ_self _) _ _ _ hP hD hS (lv_sub hl [2, 3, 4, 5, 1, 0] rfl)

theorem hi_X1_findParting_X6 : ∀ w ∈ u_ws RX6 TX6 6, w ∈ wsX1_findParting := by decide +kernel
set_option maxHeartbeats 1000000 in
set_option maxRecDepth 100000 in
theorem k_X1_findParting (lY : Launch) (D : va_G) (cA : Nat → ClassId) (Bo B Bd : Nat → Nat) (fi se pl wd1 fn sn : Int32) (S : St) (L R LL RL TM WW NN : Nat → Int32) (WD RD : Nat → Int32) (oc ns rs : Int32) (hI : IR S) (hr : rRu S L R LL RL TM) : MetI lY D cA yX1_findParting wsX1_findParting 4 104 [.ref (Bo 0), .ref (B 0), .ref (Bd 0)] (gOv cA Bo fi se pl wd1 fn sn ++ gSa cA B (nI (S 0)) (nI (S 2)) (nI (S 4)) (nI (S 5)) L R LL RL TM (nI (S 1)) WW NN (nI (S 3)) ++ gRd cA Bd WD RD oc ns rs) (fun rY wY => ∃ (fi2 : Int32) (se2 : Int32) (pl2 : Int32) (wd2 : Int32) (fn2 : Int32) (sn2 : Int32) (WD' : Nat → Int32) (RD' : Nat → Int32) (oc' : Int32) (ns' : Int32) (rs' : Int32), rY = bI (decide (pth S < 400)) ∧ wY = gOv cA Bo fi2 se2 pl2 wd2 fn2 sn2 ++ gSa cA B (nI (S 0)) (nI (S 2)) (nI (S 4)) (nI (S 5)) L R LL RL TM (nI (S 1)) WW NN (nI (S 3)) ++ gRd cA Bd WD' RD' oc' ns' rs' ∧ (pth S < 400 → ovk S (pth S) = true ∧ prk S (pth S) = 1 ∧ fn2 = nI (nw S (ow1 S (kA (pth S)) (kB (pth S)) (kQ (pth S)))) ∧ sn2 = nI (nw S (ow2 S (kA (pth S)) (kB (pth S)) (kQ (pth S)))))) := by
  refine MetI.of (cc := cX1_findParting) (maxL := 4) (ret := (some .boolean)) (by decide) rfl (Nat.le_of_ble_eq_true rfl) (Or.inr ⟨rfl, fun r w' h => by obtain ⟨_, _, _, _, _, _, _, _, _, _, _, h, -⟩ := h; rw [h]; exact bI_nar _⟩) ?_
  intro pY eY sY mY aY bY tY cY QY AY ls h0 hP hK hN hD hA hS hl hret
  obtain ⟨hx, hb, hml, hown, hts⟩ := id h0
  have hl : lv_has ls 4 [(0, .ref (Bo 0)), (1, .ref (B 0)), (2, .ref (Bd 0))] := hl
  have hP : va_P D vwCl (gOv cA Bo fi se pl wd1 fn sn ++ gSa cA B (nI (S 0)) (nI (S 2)) (nI (S 4)) (nI (S 5)) L R LL RL TM (nI (S 1)) WW NN (nI (S 3)) ++ gRd cA Bd WD RD oc ns rs) sY.heap := hP
  have hD : va_D AY (gOv cA Bo fi se pl wd1 fn sn ++ gSa cA B (nI (S 0)) (nI (S 2)) (nI (S 4)) (nI (S 5)) L R LL RL TM (nI (S 1)) WW NN (nI (S 3)) ++ gRd cA Bd WD RD oc ns rs) := hD
  refine lv_iconst (v := nI 0) hx hb dX1_findParting_0 (by decide +kernel) ?_
  refine lv_istore_n (lv' := [(3, .int (nI 0)), (0, .ref (Bo 0)), (1, .ref (B 0)), (2, .ref (Bd 0))]) hx hb dX1_findParting_1 rfl hl (by decide) rfl (fun ls hl => ?_)
  have L2 : ∀ (nY : Nat), ∀ (k : Nat) (fi' : Int32) (se' : Int32) (pl' : Int32) (wd' : Int32) (fn' : Int32) (sn' : Int32) (WD1 : Nat → Int32) (RD1 : Nat → Int32) (oc1 : Int32) (ns1 : Int32) (rs1 : Int32), (k ≤ 400) → (∀ j, j < k → (ovk S j && decide (prk S j = 1)) = false) → (400 - k < nY) → ∀ (H : Heap) (locs : List Loc) (ls : Array Slot), va_P D vwCl (gOv cA Bo fi' se' pl' wd' fn' sn' ++ gSa cA B (nI (S 0)) (nI (S 2)) (nI (S 4)) (nI (S 5)) L R LL RL TM (nI (S 1)) WW NN (nI (S 3)) ++ gRd cA Bd WD1 RD1 oc1 ns1 rs1) H → va_D AY (gOv cA Bo fi' se' pl' wd' fn' sn' ++ gSa cA B (nI (S 0)) (nI (S 2)) (nI (S 4)) (nI (S 5)) L R LL RL TM (nI (S 1)) WW NN (nI (S 3)) ++ gRd cA Bd WD1 RD1 oc1 ns1 rs1) → va_S AY sY.heap H locs → lv_has ls 4 [(0, .ref (Bo 0)), (1, .ref (B 0)), (2, .ref (Bd 0)), (3, .int (nI k))] → W pY lY eY { frames := 4, cells := 0, slots := 0, locals := 104 } sY mY aY bY tY cY H locs 0 0 QY (F0 mY 2 ls []) := by
    intro nY2
    induction nY2 with
    | zero => intro k fi' se' pl' wd' fn' sn' WD1 RD1 oc1 ns1 rs1 hk hno hm2; exact absurd hm2 (Nat.not_lt_zero _)
    | succ nY2 ih2 =>
      intro k fi' se' pl' wd' fn' sn' WD1 RD1 oc1 ns1 rs1 hk hno hm2 H locs ls hP hD hS hl
      refine lv_iload_n hx hb dX1_findParting_2 rfl (lv_at hl 3 rfl) ?_
      refine lv_sipush (v := nI 400) hx hb dX1_findParting_3 (by decide +kernel) ?_
      refine xc_ge (tgt := 39) hx hb dX1_findParting_6 (by decide) (by omega) (by omega) (fun c6 => ?_) (fun c6 => ?_)
      · refine lv_iconst (v := nI 0) hx hb dX1_findParting_39 (by decide +kernel) ?_
        have hz : pth S = 400 := by unfold pth; rw [sl_eq]; exact ff_none (fun j hj => hno j (by omega))
        exact hret _ _ _ _ _ _ dX1_findParting_40 ⟨_, _, _, _, _, _, _, _, _, _, _, by rw [hz]; rfl, rfl, fun h => by omega⟩ hP hD hS
      · refine lv_aload_n hx hb dX1_findParting_9 rfl (lv_at hl 0 rfl) ?_
        refine lv_aload_n hx hb dX1_findParting_10 rfl (lv_at hl 1 rfl) ?_
        refine va_getN (D := D) (ci := 6) (v := .ref (B 1)) (C := RX6) (T := TX6) (N := 6) hx hb hts hi_X1_findParting_X6 hown hK hP 1 rfl rfl 0 (by decide) (hN.fl (w := .fieldLinkNest RX1 15 "FallingWords$State" "rules" "LFallingWords$Rules;" "FallingWords") (by decide +kernel)) (fun _ h9 => h9) rfl dX1_findParting_11 ?_
        refine lv_iload_n hx hb dX1_findParting_14 rfl (lv_at hl 3 rfl) ?_
        refine ci_V (As := [.ref (B 1), .int (nI k)]) (rest := []) h0 hK hN hP hD hS hA hl.1 (k_X1_isOverlap lY D cA Bo (fun i => B (i + 1)) fi' se' pl' wd' fn' sn' S L R LL RL TM k (hI) (hr) (by omega)) [0, 2, 3, 4, 5, 6, 7] rfl (by decide) (cwV 2 hts gX1_findParting_X1_isOverlap rfl rfl rfl (by decide +kernel) ⟨Nat.le_of_ble_eq_true rfl, Nat.le_of_ble_eq_true rfl⟩) (cl_recv (ci := 1) (q := (RX1, TX1, 6)) (q0 := 0) hP hK rfl rfl) rfl rfl (Nat.le_of_ble_eq_true rfl) dX1_findParting_15 ⟨Nat.zero_le _, Nat.zero_le _⟩ (fun rY wY H locs hwY hJ hS => ?_)
        obtain ⟨wd2_15, e1Y, e2Y, fw_15⟩ := hwY
        have e3Y := e1Y.symm
        clear e1Y
        subst e3Y
        have e3Y := e2Y.symm
        clear e2Y
        subst e3Y
        obtain ⟨hP, hD⟩ := hJ rfl
        have hP : va_P D vwCl (gOv cA Bo (nI (kA k)) (nI (kB k)) (nI (kQ k)) wd2_15 fn' sn' ++ gSa cA B (nI (S 0)) (nI (S 2)) (nI (S 4)) (nI (S 5)) L R LL RL TM (nI (S 1)) WW NN (nI (S 3)) ++ gRd cA Bd WD1 RD1 oc1 ns1 rs1) H := hP
        have hD : va_D AY (gOv cA Bo (nI (kA k)) (nI (kB k)) (nI (kQ k)) wd2_15 fn' sn' ++ gSa cA B (nI (S 0)) (nI (S 2)) (nI (S 4)) (nI (S 5)) L R LL RL TM (nI (S 1)) WW NN (nI (S 3)) ++ gRd cA Bd WD1 RD1 oc1 ns1 rs1) := hD
        have kb2 := kb k (by omega)
        refine xb_eq (tgt := 33) hx hb dX1_findParting_18 (by decide) (fun c18 => ?_) (fun c18 => ?_)
        · refine lv_iinc (v := nI (k + 1)) (lv' := [(3, .int (nI (k + 1))), (0, .ref (Bo 0)), (1, .ref (B 0)), (2, .ref (Bd 0))]) hx hb dX1_findParting_33 hl (k := 3) rfl (show nI k + Int32.ofInt 1 = nI (k + 1) from nI_add k 1) (by decide) rfl (fun ls hl => ?_)
          refine lv_goto (tgt := 2) hx hb dX1_findParting_36 (by decide) ?_
          exact ih2 (k + 1) (nI (kA k)) (nI (kB k)) (nI (kQ k)) wd2_15 fn' sn' WD1 RD1 oc1 ns1 rs1 (by omega) (lt_s hno (by rw [c18]; rfl)) (by omega) _ _ _ hP hD hS (lv_sub hl [1, 2, 3, 0] rfl)
        · obtain ⟨hAB, hO1⟩ := Bool.and_eq_true _ _ |>.mp c18
          obtain ⟨hA0, hB0⟩ := Bool.and_eq_true _ _ |>.mp hAB
          have hA1 := of_decide_eq_true hA0
          have hB1 := of_decide_eq_true hB0
          rw [fw_15 c18] at hP hD
          have hP : va_P D vwCl (gOv cA Bo (nI (kA k)) (nI (kB k)) (nI (kQ k)) (nI (ovw S (kA k) (kB k) (kQ k))) fn' sn' ++ gSa cA B (nI (S 0)) (nI (S 2)) (nI (S 4)) (nI (S 5)) L R LL RL TM (nI (S 1)) WW NN (nI (S 3)) ++ gRd cA Bd WD1 RD1 oc1 ns1 rs1) H := hP
          have hD : va_D AY (gOv cA Bo (nI (kA k)) (nI (kB k)) (nI (kQ k)) (nI (ovw S (kA k) (kB k) (kQ k))) fn' sn' ++ gSa cA B (nI (S 0)) (nI (S 2)) (nI (S 4)) (nI (S 5)) L R LL RL TM (nI (S 1)) WW NN (nI (S 3)) ++ gRd cA Bd WD1 RD1 oc1 ns1 rs1) := hD
          refine lv_aload_n hx hb dX1_findParting_21 rfl (lv_at hl 0 rfl) ?_
          refine lv_aload_n hx hb dX1_findParting_22 rfl (lv_at hl 1 rfl) ?_
          refine lv_aload_n hx hb dX1_findParting_23 rfl (lv_at hl 2 rfl) ?_
          refine ci_V (As := [.ref (B 0), .ref (Bd 0)]) (rest := []) h0 hK hN hP hD hS hA hl.1 (k_X1_verdict lY D cA Bo B Bd fn' sn' S L R LL RL TM WW NN WD1 RD1 oc1 ns1 rs1 (kA k) (kB k) (kQ k) (hI) (hr) (hA1) (hB1) (kb2.2.2) (hO1)) [0, 1, 2, 3, 4, 5, 6, 7, 8, 9, 10, 11, 12, 13] rfl (by decide) (cwV 2 hts gX1_findParting_X1_verdict rfl rfl rfl (by decide +kernel) ⟨Nat.le_of_ble_eq_true rfl, Nat.le_of_ble_eq_true rfl⟩) (cl_recv (ci := 1) (q := (RX1, TX1, 6)) (q0 := 0) hP hK rfl rfl) rfl rfl (Nat.le_of_ble_eq_true rfl) dX1_findParting_24 ⟨Nat.zero_le _, Nat.zero_le _⟩ (fun rY wY H locs hwY hJ hS => ?_)
          obtain ⟨fn2_24, sn2_24, WD'_24, RD'_24, oc'_24, ns'_24, rs'_24, e1Y, e2Y, ff2_24⟩ := hwY
          have e3Y := e1Y.symm
          clear e1Y
          subst e3Y
          have e3Y := e2Y.symm
          clear e2Y
          subst e3Y
          obtain ⟨hP, hD⟩ := hJ rfl
          have hP : va_P D vwCl (gOv cA Bo (nI (kA k)) (nI (kB k)) (nI (kQ k)) (nI (ovw S (kA k) (kB k) (kQ k))) fn2_24 sn2_24 ++ gSa cA B (nI (S 0)) (nI (S 2)) (nI (S 4)) (nI (S 5)) L R LL RL TM (nI (S 1)) WW NN (nI (S 3)) ++ gRd cA Bd WD'_24 RD'_24 oc'_24 ns'_24 rs'_24) H := hP
          have hD : va_D AY (gOv cA Bo (nI (kA k)) (nI (kB k)) (nI (kQ k)) (nI (ovw S (kA k) (kB k) (kQ k))) fn2_24 sn2_24 ++ gSa cA B (nI (S 0)) (nI (S 2)) (nI (S 4)) (nI (S 5)) L R LL RL TM (nI (S 1)) WW NN (nI (S 3)) ++ gRd cA Bd WD'_24 RD'_24 oc'_24 ns'_24 rs'_24) := hD
          refine xt (show nI (par S (ow1 S (kA k) (kB k) (kQ k)) (ow2 S (kA k) (kB k) (kQ k))) = nI (prk S k) from rfl) ?_
          have hple : prk S k ≤ 2 := par_le
          refine lv_iconst (v := nI 1) hx hb dX1_findParting_27 (by decide +kernel) ?_
          refine xc_ne (tgt := 33) hx hb dX1_findParting_28 (by decide) (by omega) (by omega) (fun c28 => ?_) (fun c28 => ?_)
          · refine lv_iinc (v := nI (k + 1)) (lv' := [(3, .int (nI (k + 1))), (0, .ref (Bo 0)), (1, .ref (B 0)), (2, .ref (Bd 0))]) hx hb dX1_findParting_33 hl (k := 3) rfl (show nI k + Int32.ofInt 1 = nI (k + 1) from nI_add k 1) (by decide) rfl (fun ls hl => ?_)
            refine lv_goto (tgt := 2) hx hb dX1_findParting_36 (by decide) ?_
            exact ih2 (k + 1) (nI (kA k)) (nI (kB k)) (nI (kQ k)) (nI (ovw S (kA k) (kB k) (kQ k))) fn2_24 sn2_24 WD'_24 RD'_24 oc'_24 ns'_24 rs'_24 (by omega) (lt_s hno (by rw [c18]; exact decide_eq_false c28)) (by omega) _ _ _ hP hD hS (lv_sub hl [1, 2, 3, 0] rfl)
          · refine lv_iconst (v := nI 1) hx hb dX1_findParting_31 (by decide +kernel) ?_
            have hz : pth S = k := by unfold pth; rw [sl_eq]; exact ff_is (by omega) (by rw [c18]; exact decide_eq_true c28) hno
            obtain ⟨w1, w2⟩ := ff2_24 c28
            exact hret _ _ _ _ _ _ dX1_findParting_32 ⟨_, _, _, _, _, _, _, _, _, _, _, by rw [hz, decide_eq_true (by omega)]; rfl, rfl, fun _ => by rw [hz]; exact ⟨c18, c28, w1, w2⟩⟩ hP hD hS
  exact L2 _ 0 fi se pl wd1 fn sn WD RD oc ns rs (by omega) (fun j h => absurd h (Nat.not_lt_zero j)) (Nat.lt_succ_self _) _ _ _ hP hD hS (lv_sub hl [1, 2, 3, 0] rfl)
