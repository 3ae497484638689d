theorem hi_X4_takeOver_X4 : ∀ w ∈ u_ws RX4 TX4 6, w ∈ wsX4_takeOver := by decide +kernel
set_option maxHeartbeats 1000000 in
set_option maxRecDepth 100000 in
theorem k_X4_takeOver (lY : Launch) (D : va_G) (cA : Nat → ClassId) (B B2 : Nat → Nat) (L R LL RL TM L2 R2 LL2 RL2 TM2 : Nat → Int32) (z z2 : Int32)  : MetV lY D cA yX4_takeOver wsX4_takeOver 1 20 0 0 [.ref (B 0), .ref (B2 0)] (gRu cA B L R LL RL TM z ++ gRu cA B2 L2 R2 LL2 RL2 TM2 z2) (fun wY => ∃ (L' : Nat → Int32) (R' : Nat → Int32) (LL' : Nat → Int32) (RL' : Nat → Int32) (TM' : Nat → Int32), wY = gRu cA B L' R' LL' RL' TM' z2 ++ gRu cA B2 L2 R2 LL2 RL2 TM2 z2 ∧ (cN 10 L' L2) ∧ (cN 10 R' R2) ∧ (cN 10 LL' LL2) ∧ (cN 10 RL' RL2) ∧ (cN 10 TM' TM2)) := by
  refine MetV.of (cc := cX4_takeOver) (maxL := 2) (by decide) rfl (Nat.le_of_ble_eq_true rfl) ?_
  intro pY eY sY mY aY bY tY cY QY AY ls h0 hP hK hN hD hA hS hl hin hret
  obtain ⟨hx, hb, hml, hown, hts⟩ := id h0
  have hl : lv_has ls 2 [(0, .ref (B 0)), (1, .ref (B2 0))] := hl
  have hP : va_P D vwCl (gRu cA B L R LL RL TM z ++ gRu cA B2 L2 R2 LL2 RL2 TM2 z2) sY.heap := hP
  have hD : va_D AY (gRu cA B L R LL RL TM z ++ gRu cA B2 L2 R2 LL2 RL2 TM2 z2) := hD
  refine lv_aload_n hx hb dX4_takeOver_0 rfl (lv_at hl 1 rfl) ?_
  refine va_get (D := D) (ci := 4) (v := .ref (B2 1)) (C := RX4) (T := TX4) (N := 6) hx hb hts hi_X4_takeOver_X4 hown hK hP 6 rfl rfl 0 (by decide) (hts (.fieldLink RX4 9 "FallingWords$Rules" "left" "[I") (by decide +kernel)) (fun _ h9 => h9) rfl dX4_takeOver_1 ?_
  refine lv_iconst (v := nI 0) hx hb dX4_takeOver_4 (by decide +kernel) ?_
  refine lv_aload_n hx hb dX4_takeOver_5 rfl (lv_at hl 0 rfl) ?_
  refine va_get (D := D) (ci := 4) (v := .ref (B 1)) (C := RX4) (T := TX4) (N := 6) hx hb hts hi_X4_takeOver_X4 hown hK hP 0 rfl rfl 0 (by decide) (hts (.fieldLink RX4 9 "FallingWords$Rules" "left" "[I") (by decide +kernel)) (fun _ h9 => h9) rfl dX4_takeOver_6 ?_
  refine lv_iconst (v := nI 0) hx hb dX4_takeOver_9 (by decide +kernel) ?_
  refine lv_bipush (v := nI 10) hx hb dX4_takeOver_10 (by decide +kernel) ?_
  refine va_copyi hx hb (hml.trans hl.1.symm) hown (hts (.methodLink RX4 27 arraycopyName) (by decide +kernel)) (hts (.native arraycopyName) (by decide +kernel)) (hts (.static arraycopyName) (by decide +kernel)) (hts (.initialized "java/lang/System") (by decide +kernel)) hK hP hD hS 7 1 0 0 rfl rfl rfl rfl rfl (by decide +kernel) (by decide +kernel) (by decide +kernel) (by decide +kernel) (by decide +kernel) (fun _ _ => rfl) (Nat.le_of_ble_eq_true rfl) (Nat.le_of_ble_eq_true rfl) dX4_takeOver_12 (fun H locs hP hD hS => ?_)
  have hP : va_P D vwCl (gRu cA B (va_cpy L2 L 0 0 10) R LL RL TM z ++ gRu cA B2 L2 R2 LL2 RL2 TM2 z2) H := hP
  have hD : va_D AY (gRu cA B (va_cpy L2 L 0 0 10) R LL RL TM z ++ gRu cA B2 L2 R2 LL2 RL2 TM2 z2) := hD
  refine lv_aload_n hx hb dX4_takeOver_15 rfl (lv_at hl 1 rfl) ?_
  refine va_get (D := D) (ci := 4) (v := .ref (B2 2)) (C := RX4) (T := TX4) (N := 6) hx hb hts hi_X4_takeOver_X4 hown hK hP 6 rfl rfl 1 (by decide) (hts (.fieldLink RX4 15 "FallingWords$Rules" "right" "[I") (by decide +kernel)) (fun _ h9 => h9) rfl dX4_takeOver_16 ?_
  refine lv_iconst (v := nI 0) hx hb dX4_takeOver_19 (by decide +kernel) ?_
  refine lv_aload_n hx hb dX4_takeOver_20 rfl (lv_at hl 0 rfl) ?_
  refine va_get (D := D) (ci := 4) (v := .ref (B 2)) (C := RX4) (T := TX4) (N := 6) hx hb hts hi_X4_takeOver_X4 hown hK hP 0 rfl rfl 1 (by decide) (hts (.fieldLink RX4 15 "FallingWords$Rules" "right" "[I") (by decide +kernel)) (fun _ h9 => h9) rfl dX4_takeOver_21 ?_
  refine lv_iconst (v := nI 0) hx hb dX4_takeOver_24 (by decide +kernel) ?_
  refine lv_bipush (v := nI 10) hx hb dX4_takeOver_25 (by decide +kernel) ?_
  refine va_copyi hx hb (hml.trans hl.1.symm) hown (hts (.methodLink RX4 27 arraycopyName) (by decide +kernel)) (hts (.native arraycopyName) (by decide +kernel)) (hts (.static arraycopyName) (by decide +kernel)) (hts (.initialized "java/lang/System") (by decide +kernel)) hK hP hD hS 8 2 0 0 rfl rfl rfl rfl rfl (by decide +kernel) (by decide +kernel) (by decide +kernel) (by decide +kernel) (by decide +kernel) (fun _ _ => rfl) (Nat.le_of_ble_eq_true rfl) (Nat.le_of_ble_eq_true rfl) dX4_takeOver_27 (fun H locs hP hD hS => ?_)
  have hP : va_P D vwCl (gRu cA B (va_cpy L2 L 0 0 10) (va_cpy R2 R 0 0 10) LL RL TM z ++ gRu cA B2 L2 R2 LL2 RL2 TM2 z2) H := hP
  have hD : va_D AY (gRu cA B (va_cpy L2 L 0 0 10) (va_cpy R2 R 0 0 10) LL RL TM z ++ gRu cA B2 L2 R2 LL2 RL2 TM2 z2) := hD
  refine lv_aload_n hx hb dX4_takeOver_30 rfl (lv_at hl 1 rfl) ?_
  refine va_get (D := D) (ci := 4) (v := .ref (B2 3)) (C := RX4) (T := TX4) (N := 6) hx hb hts hi_X4_takeOver_X4 hown hK hP 6 rfl rfl 2 (by decide) (hts (.fieldLink RX4 18 "FallingWords$Rules" "leftLength" "[I") (by decide +kernel)) (fun _ h9 => h9) rfl dX4_takeOver_31 ?_
  refine lv_iconst (v := nI 0) hx hb dX4_takeOver_34 (by decide +kernel) ?_
  refine lv_aload_n hx hb dX4_takeOver_35 rfl (lv_at hl 0 rfl) ?_
  refine va_get (D := D) (ci := 4) (v := .ref (B 3)) (C := RX4) (T := TX4) (N := 6) hx hb hts hi_X4_takeOver_X4 hown hK hP 0 rfl rfl 2 (by decide) (hts (.fieldLink RX4 18 "FallingWords$Rules" "leftLength" "[I") (by decide +kernel)) (fun _ h9 => h9) rfl dX4_takeOver_36 ?_
  refine lv_iconst (v := nI 0) hx hb dX4_takeOver_39 (by decide +kernel) ?_
  refine lv_bipush (v := nI 10) hx hb dX4_takeOver_40 (by decide +kernel) ?_
  refine va_copyi hx hb (hml.trans hl.1.symm) hown (hts (.methodLink RX4 27 arraycopyName) (by decide +kernel)) (hts (.native arraycopyName) (by decide +kernel)) (hts (.static arraycopyName) (by decide +kernel)) (hts (.initialized "java/lang/System") (by decide +kernel)) hK hP hD hS 9 3 0 0 rfl rfl rfl rfl rfl (by decide +kernel) (by decide +kernel) (by decide +kernel) (by decide +kernel) (by decide +kernel) (fun _ _ => rfl) (Nat.le_of_ble_eq_true rfl) (Nat.le_of_ble_eq_true rfl) dX4_takeOver_42 (fun H locs hP hD hS => ?_)
  have hP : va_P D vwCl (gRu cA B (va_cpy L2 L 0 0 10) (va_cpy R2 R 0 0 10) (va_cpy LL2 LL 0 0 10) RL TM z ++ gRu cA B2 L2 R2 LL2 RL2 TM2 z2) H := hP
  have hD : va_D AY (gRu cA B (va_cpy L2 L 0 0 10) (va_cpy R2 R 0 0 10) (va_cpy LL2 LL 0 0 10) RL TM z ++ gRu cA B2 L2 R2 LL2 RL2 TM2 z2) := hD
  refine lv_aload_n hx hb dX4_takeOver_45 rfl (lv_at hl 1 rfl) ?_
  refine va_get (D := D) (ci := 4) (v := .ref (B2 4)) (C := RX4) (T := TX4) (N := 6) hx hb hts hi_X4_takeOver_X4 hown hK hP 6 rfl rfl 3 (by decide) (hts (.fieldLink RX4 21 "FallingWords$Rules" "rightLength" "[I") (by decide +kernel)) (fun _ h9 => h9) rfl dX4_takeOver_46 ?_
  refine lv_iconst (v := nI 0) hx hb dX4_takeOver_49 (by decide +kernel) ?_
  refine lv_aload_n hx hb dX4_takeOver_50 rfl (lv_at hl 0 rfl) ?_
  refine va_get (D := D) (ci := 4) (v := .ref (B 4)) (C := RX4) (T := TX4) (N := 6) hx hb hts hi_X4_takeOver_X4 hown hK hP 0 rfl rfl 3 (by decide) (hts (.fieldLink RX4 21 "FallingWords$Rules" "rightLength" "[I") (by decide +kernel)) (fun _ h9 => h9) rfl dX4_takeOver_51 ?_
  refine lv_iconst (v := nI 0) hx hb dX4_takeOver_54 (by decide +kernel) ?_
  refine lv_bipush (v := nI 10) hx hb dX4_takeOver_55 (by decide +kernel) ?_
  refine va_copyi hx hb (hml.trans hl.1.symm) hown (hts (.methodLink RX4 27 arraycopyName) (by decide +kernel)) (hts (.native arraycopyName) (by decide +kernel)) (hts (.static arraycopyName) (by decide +kernel)) (hts (.initialized "java/lang/System") (by decide +kernel)) hK hP hD hS 10 4 0 0 rfl rfl rfl rfl rfl (by decide +kernel) (by decide +kernel) (by decide +kernel) (by decide +kernel) (by decide +kernel) (fun _ _ => rfl) (Nat.le_of_ble_eq_true rfl) (Nat.le_of_ble_eq_true rfl) dX4_takeOver_57 (fun H locs hP hD hS => ?_)
  have hP : va_P D vwCl (gRu cA B (va_cpy L2 L 0 0 10) (va_cpy R2 R 0 0 10) (va_cpy LL2 LL 0 0 10) (va_cpy RL2 RL 0 0 10) TM z ++ gRu cA B2 L2 R2 LL2 RL2 TM2 z2) H := hP
  have hD : va_D AY (gRu cA B (va_cpy L2 L 0 0 10) (va_cpy R2 R 0 0 10) (va_cpy LL2 LL 0 0 10) (va_cpy RL2 RL 0 0 10) TM z ++ gRu cA B2 L2 R2 LL2 RL2 TM2 z2) := hD
  refine lv_aload_n hx hb dX4_takeOver_60 rfl (lv_at hl 1 rfl) ?_
  refine va_get (D := D) (ci := 4) (v := .ref (B2 5)) (C := RX4) (T := TX4) (N := 6) hx hb hts hi_X4_takeOver_X4 hown hK hP 6 rfl rfl 4 (by decide) (hts (.fieldLink RX4 24 "FallingWords$Rules" "times" "[I") (by decide +kernel)) (fun _ h9 => h9) rfl dX4_takeOver_61 ?_
  refine lv_iconst (v := nI 0) hx hb dX4_takeOver_64 (by decide +kernel) ?_
  refine lv_aload_n hx hb dX4_takeOver_65 rfl (lv_at hl 0 rfl) ?_
  refine va_get (D := D) (ci := 4) (v := .ref (B 5)) (C := RX4) (T := TX4) (N := 6) hx hb hts hi_X4_takeOver_X4 hown hK hP 0 rfl rfl 4 (by decide) (hts (.fieldLink RX4 24 "FallingWords$Rules" "times" "[I") (by decide +kernel)) (fun _ h9 => h9) rfl dX4_takeOver_66 ?_
  refine lv_iconst (v := nI 0) hx hb dX4_takeOver_69 (by decide +kernel) ?_
  refine lv_bipush (v := nI 10) hx hb dX4_takeOver_70 (by decide +kernel) ?_
  refine va_copyi hx hb (hml.trans hl.1.symm) hown (hts (.methodLink RX4 27 arraycopyName) (by decide +kernel)) (hts (.native arraycopyName) (by decide +kernel)) (hts (.static arraycopyName) (by decide +kernel)) (hts (.initialized "java/lang/System") (by decide +kernel)) hK hP hD hS 11 5 0 0 rfl rfl rfl rfl rfl (by decide +kernel) (by decide +kernel) (by decide +kernel) (by decide +kernel) (by decide +kernel) (fun _ _ => rfl) (Nat.le_of_ble_eq_true rfl) (Nat.le_of_ble_eq_true rfl) dX4_takeOver_72 (fun H locs hP hD hS => ?_)
  have hP : va_P D vwCl (gRu cA B (va_cpy L2 L 0 0 10) (va_cpy R2 R 0 0 10) (va_cpy LL2 LL 0 0 10) (va_cpy RL2 RL 0 0 10) (va_cpy TM2 TM 0 0 10) z ++ gRu cA B2 L2 R2 LL2 RL2 TM2 z2) H := hP
  have hD : va_D AY (gRu cA B (va_cpy L2 L 0 0 10) (va_cpy R2 R 0 0 10) (va_cpy LL2 LL 0 0 10) (va_cpy RL2 RL 0 0 10) (va_cpy TM2 TM 0 0 10) z ++ gRu cA B2 L2 R2 LL2 RL2 TM2 z2) := hD
  refine lv_aload_n hx hb dX4_takeOver_75 rfl (lv_at hl 0 rfl) ?_
  refine lv_aload_n hx hb dX4_takeOver_76 rfl (lv_at hl 1 rfl) ?_
  refine va_get (D := D) (ci := 4) (v := .int z2) (C := RX4) (T := TX4) (N := 6) hx hb hts hi_X4_takeOver_X4 hown hK hP 6 rfl rfl 5 (by decide) (hts (.fieldLink RX4 33 "FallingWords$Rules" "size" "I") (by decide +kernel)) (fun _ h9 => h9) rfl dX4_takeOver_77 ?_
  refine va_put (D := D) (ci := 4) (v := .int z2) (ty := .int) (C := RX4) (T := TX4) (N := 6) hx hb hts hi_X4_takeOver_X4 tyX4 tyX4_ok nmX4 hown hK hP hD hS 0 rfl rfl 5 (by decide) (hts (.fieldLink RX4 33 "FallingWords$Rules" "size" "I") (by decide +kernel)) (fun _ h9 => h9) rfl (by decide +kernel) rfl rfl (Nat.le_of_ble_eq_true rfl) dX4_takeOver_80 (fun H locs hP hD hS => ?_)
  have hP : va_P D vwCl (gRu cA B (va_cpy L2 L 0 0 10) (va_cpy R2 R 0 0 10) (va_cpy LL2 LL 0 0 10) (va_cpy RL2 RL 0 0 10) (va_cpy TM2 TM 0 0 10) z2 ++ gRu cA B2 L2 R2 LL2 RL2 TM2 z2) H := hP
  have hD : va_D AY (gRu cA B (va_cpy L2 L 0 0 10) (va_cpy R2 R 0 0 10) (va_cpy LL2 LL 0 0 10) (va_cpy RL2 RL 0 0 10) (va_cpy TM2 TM 0 0 10) z2 ++ gRu cA B2 L2 R2 LL2 RL2 TM2 z2) := hD
  exact hret _ _ _ _ _ dX4_takeOver_83 ⟨(va_cpy L2 L 0 0 10), (va_cpy R2 R 0 0 10), (va_cpy LL2 LL 0 0 10), (va_cpy RL2 RL 0 0 10), (va_cpy TM2 TM 0 0 10), rfl, cN_cpy, cN_cpy, cN_cpy, cN_cpy, cN_cpy⟩ hP hD hS

theorem hi_X6_takeOver_X6 : ∀ w ∈ u_ws RX6 TX6 6, w ∈ wsX6_takeOver := by decide +kernel
set_option maxHeartbeats 1000000 in
set_option maxRecDepth 100000 in
theorem k_X6_takeOver (lY : Launch) (D : va_G) (cA : Nat → ClassId) (B B2 : Nat → Nat) (wo cho tak stp : Int32) (L R LL RL TM WW NN : Nat → Int32) (z zs : Int32) (S : St) (L2 R2 LL2 RL2 TM2 WW2 NN2 : Nat → Int32) (hI : IV S) (hr : rRu S L2 R2 LL2 RL2 TM2) (ho : rSo S WW2 NN2) : MetV lY D cA yX6_takeOver wsX6_takeOver 2 41 0 0 [.ref (B 0), .ref (B2 0)] (gSa cA B wo cho tak stp L R LL RL TM z WW NN zs ++ gSa cA B2 (nI (S 0)) (nI (S 2)) (nI (S 4)) (nI (S 5)) L2 R2 LL2 RL2 TM2 (nI (S 1)) WW2 NN2 (nI (S 3))) (fun wY => ∃ (L' : Nat → Int32) (R' : Nat → Int32) (LL' : Nat → Int32) (RL' : Nat → Int32) (TM' : Nat → Int32) (WW' : Nat → Int32) (NN' : Nat → Int32), wY = gSa cA B (nI (S 0)) (nI (S 2)) (nI (S 4)) (nI (S 5)) L' R' LL' RL' TM' (nI (S 1)) WW' NN' (nI (S 3)) ++ gSa cA B2 (nI (S 0)) (nI (S 2)) (nI (S 4)) (nI (S 5)) L2 R2 LL2 RL2 TM2 (nI (S 1)) WW2 NN2 (nI (S 3)) ∧ (rRu S L' R' LL' RL' TM') ∧ (rSo S WW' NN')) := by
  refine MetV.of (cc := cX6_takeOver) (maxL := 2) (by decide) rfl (Nat.le_of_ble_eq_true rfl) ?_
  intro pY eY sY mY aY bY tY cY QY AY ls h0 hP hK hN hD hA hS hl hin hret
  obtain ⟨hx, hb, hml, hown, hts⟩ := id h0
  have hl : lv_has ls 2 [(0, .ref (B 0)), (1, .ref (B2 0))] := hl
  have hP : va_P D vwCl (gSa cA B wo cho tak stp L R LL RL TM z WW NN zs ++ gSa cA B2 (nI (S 0)) (nI (S 2)) (nI (S 4)) (nI (S 5)) L2 R2 LL2 RL2 TM2 (nI (S 1)) WW2 NN2 (nI (S 3))) sY.heap := hP
  have hD : va_D AY (gSa cA B wo cho tak stp L R LL RL TM z WW NN zs ++ gSa cA B2 (nI (S 0)) (nI (S 2)) (nI (S 4)) (nI (S 5)) L2 R2 LL2 RL2 TM2 (nI (S 1)) WW2 NN2 (nI (S 3))) := hD
  refine lv_aload_n hx hb dX6_takeOver_0 rfl (lv_at hl 0 rfl) ?_
  refine va_get (D := D) (ci := 6) (v := .ref (B 1)) (C := RX6) (T := TX6) (N := 6) hx hb hts hi_X6_takeOver_X6 hown hK hP 0 rfl rfl 0 (by decide) (hts (.fieldLink RX6 12 "FallingWords$State" "rules" "LFallingWords$Rules;") (by decide +kernel)) (fun _ h9 => h9) rfl dX6_takeOver_1 ?_
  refine lv_aload_n hx hb dX6_takeOver_4 rfl (lv_at hl 1 rfl) ?_
  refine va_get (D := D) (ci := 6) (v := .ref (B2 1)) (C := RX6) (T := TX6) (N := 6) hx hb hts hi_X6_takeOver_X6 hown hK hP 10 rfl rfl 0 (by decide) (hts (.fieldLink RX6 12 "FallingWords$State" "rules" "LFallingWords$Rules;") (by decide +kernel)) (fun _ h9 => h9) rfl dX6_takeOver_5 ?_
  refine cv_VN (As := [.ref (B2 1)]) (rest := []) h0 hK hN hP hD hS hA hl.1 (k_X4_takeOver lY D cA (fun i => B (i + 1)) (fun i => B2 (i + 1)) L R LL RL TM L2 R2 LL2 RL2 TM2 z (nI (S 1)) ) [1, 2, 3, 4, 5, 6, 11, 12, 13, 14, 15, 16] rfl (by decide) ⟨(va_cnB 1 hts gX6_takeOver_X4_takeOver_n34 rfl rfl rfl (hN (.methodLinkNest RX6 34 yX4_takeOver "FallingWords") (by decide +kernel)) (hts (.initialized RX4) (by decide +kernel)) (by decide +kernel) ⟨Nat.le_of_ble_eq_true rfl, Nat.le_of_ble_eq_true rfl⟩), hts (.instanceMethod yX4_takeOver) (by decide +kernel), hts (.selects RX4 yX4_takeOver yX4_takeOver) (by decide +kernel)⟩ (cl_recv (ci := 4) (q := (RX4, TX4, 6)) (q0 := 1) hP hK rfl rfl) rfl rfl (Nat.le_of_ble_eq_true rfl) dX6_takeOver_8 ⟨Nat.zero_le _, Nat.zero_le _⟩ (fun wY H locs hwY hJ hS => ?_)
  obtain ⟨L'_8, R'_8, LL'_8, RL'_8, TM'_8, e2Y, f0_8, f1_8, f2_8, f3_8, f4_8⟩ := hwY
  have e3Y := e2Y.symm
  clear e2Y
  subst e3Y
  obtain ⟨hP, hD⟩ := hJ rfl
  have hP : va_P D vwCl (gSa cA B wo cho tak stp L'_8 R'_8 LL'_8 RL'_8 TM'_8 (nI (S 1)) WW NN zs ++ gSa cA B2 (nI (S 0)) (nI (S 2)) (nI (S 4)) (nI (S 5)) L2 R2 LL2 RL2 TM2 (nI (S 1)) WW2 NN2 (nI (S 3))) H := hP
  have hD : va_D AY (gSa cA B wo cho tak stp L'_8 R'_8 LL'_8 RL'_8 TM'_8 (nI (S 1)) WW NN zs ++ gSa cA B2 (nI (S 0)) (nI (S 2)) (nI (S 4)) (nI (S 5)) L2 R2 LL2 RL2 TM2 (nI (S 1)) WW2 NN2 (nI (S 3))) := hD
  refine lv_aload_n hx hb dX6_takeOver_11 rfl (lv_at hl 0 rfl) ?_
  refine va_get (D := D) (ci := 6) (v := .ref (B 7)) (C := RX6) (T := TX6) (N := 6) hx hb hts hi_X6_takeOver_X6 hown hK hP 0 rfl rfl 1 (by decide) (hts (.fieldLink RX6 21 "FallingWords$State" "store" "LFallingWords$Store;") (by decide +kernel)) (fun _ h9 => h9) rfl dX6_takeOver_12 ?_
  refine lv_aload_n hx hb dX6_takeOver_15 rfl (lv_at hl 1 rfl) ?_
  refine va_get (D := D) (ci := 6) (v := .ref (B2 7)) (C := RX6) (T := TX6) (N := 6) hx hb hts hi_X6_takeOver_X6 hown hK hP 10 rfl rfl 1 (by decide) (hts (.fieldLink RX6 21 "FallingWords$State" "store" "LFallingWords$Store;") (by decide +kernel)) (fun _ h9 => h9) rfl dX6_takeOver_16 ?_
  refine cv_VN (As := [.ref (B2 7)]) (rest := []) h0 hK hN hP hD hS hA hl.1 (k_X7_takeOver lY D cA (fun i => B (i + 7)) (fun i => B2 (i + 7)) WW NN WW2 NN2 zs (nI (S 3)) ) [7, 8, 9, 17, 18, 19] rfl (by decide) ⟨(va_cnB 1 hts gX6_takeOver_X7_takeOver_n38 rfl rfl rfl (hN (.methodLinkNest RX6 38 yX7_takeOver "FallingWords") (by decide +kernel)) (hts (.initialized RX7) (by decide +kernel)) (by decide +kernel) ⟨Nat.le_of_ble_eq_true rfl, Nat.le_of_ble_eq_true rfl⟩), hts (.instanceMethod yX7_takeOver) (by decide +kernel), hts (.selects RX7 yX7_takeOver yX7_takeOver) (by decide +kernel)⟩ (cl_recv (ci := 7) (q := (RX7, TX7, 3)) (q0 := 7) hP hK rfl rfl) rfl rfl (Nat.le_of_ble_eq_true rfl) dX6_takeOver_19 ⟨Nat.zero_le _, Nat.zero_le _⟩ (fun wY H locs hwY hJ hS => ?_)
  obtain ⟨WW'_19, NN'_19, e2Y, f1_19, f2_19⟩ := hwY
  have e3Y := e2Y.symm
  clear e2Y
  subst e3Y
  obtain ⟨hP, hD⟩ := hJ rfl
  have hP : va_P D vwCl (gSa cA B wo cho tak stp L'_8 R'_8 LL'_8 RL'_8 TM'_8 (nI (S 1)) WW'_19 NN'_19 (nI (S 3)) ++ gSa cA B2 (nI (S 0)) (nI (S 2)) (nI (S 4)) (nI (S 5)) L2 R2 LL2 RL2 TM2 (nI (S 1)) WW2 NN2 (nI (S 3))) H := hP
  have hD : va_D AY (gSa cA B wo cho tak stp L'_8 R'_8 LL'_8 RL'_8 TM'_8 (nI (S 1)) WW'_19 NN'_19 (nI (S 3)) ++ gSa cA B2 (nI (S 0)) (nI (S 2)) (nI (S 4)) (nI (S 5)) L2 R2 LL2 RL2 TM2 (nI (S 1)) WW2 NN2 (nI (S 3))) := hD
  refine lv_aload_n hx hb dX6_takeOver_22 rfl (lv_at hl 0 rfl) ?_
  refine lv_aload_n hx hb dX6_takeOver_23 rfl (lv_at hl 1 rfl) ?_
  refine va_get (D := D) (ci := 6) (v := .int (nI (S 0))) (C := RX6) (T := TX6) (N := 6) hx hb hts hi_X6_takeOver_X6 hown hK hP 10 rfl rfl 2 (by decide) (hts (.fieldLink RX6 27 "FallingWords$State" "word" "I") (by decide +kernel)) (fun _ h9 => h9) rfl dX6_takeOver_24 ?_
  refine va_put (D := D) (ci := 6) (v := .int (nI (S 0))) (ty := .int) (C := RX6) (T := TX6) (N := 6) hx hb hts hi_X6_takeOver_X6 tyX6 tyX6_ok nmX6 hown hK hP hD hS 0 rfl rfl 2 (by decide) (hts (.fieldLink RX6 27 "FallingWords$State" "word" "I") (by decide +kernel)) (fun _ h9 => h9) rfl (by decide +kernel) rfl rfl (Nat.le_of_ble_eq_true rfl) dX6_takeOver_27 (fun H locs hP hD hS => ?_)
  have hP : va_P D vwCl (gSa cA B (nI (S 0)) cho tak stp L'_8 R'_8 LL'_8 RL'_8 TM'_8 (nI (S 1)) WW'_19 NN'_19 (nI (S 3)) ++ gSa cA B2 (nI (S 0)) (nI (S 2)) (nI (S 4)) (nI (S 5)) L2 R2 LL2 RL2 TM2 (nI (S 1)) WW2 NN2 (nI (S 3))) H := hP
  have hD : va_D AY (gSa cA B (nI (S 0)) cho tak stp L'_8 R'_8 LL'_8 RL'_8 TM'_8 (nI (S 1)) WW'_19 NN'_19 (nI (S 3)) ++ gSa cA B2 (nI (S 0)) (nI (S 2)) (nI (S 4)) (nI (S 5)) L2 R2 LL2 RL2 TM2 (nI (S 1)) WW2 NN2 (nI (S 3))) := hD
  refine lv_aload_n hx hb dX6_takeOver_30 rfl (lv_at hl 0 rfl) ?_
  refine lv_aload_n hx hb dX6_takeOver_31 rfl (lv_at hl 1 rfl) ?_
  refine va_get (D := D) (ci := 6) (v := .int (nI (S 2))) (C := RX6) (T := TX6) (N := 6) hx hb hts hi_X6_takeOver_X6 hown hK hP 10 rfl rfl 3 (by decide) (hts (.fieldLink RX6 31 "FallingWords$State" "choosing" "I") (by decide +kernel)) (fun _ h9 => h9) rfl dX6_takeOver_32 ?_
  refine va_put (D := D) (ci := 6) (v := .int (nI (S 2))) (ty := .int) (C := RX6) (T := TX6) (N := 6) hx hb hts hi_X6_takeOver_X6 tyX6 tyX6_ok nmX6 hown hK hP hD hS 0 rfl rfl 3 (by decide) (hts (.fieldLink RX6 31 "FallingWords$State" "choosing" "I") (by decide +kernel)) (fun _ h9 => h9) rfl (by decide +kernel) rfl rfl (Nat.le_of_ble_eq_true rfl) dX6_takeOver_35 (fun H locs hP hD hS => ?_)
  have hP : va_P D vwCl (gSa cA B (nI (S 0)) (nI (S 2)) tak stp L'_8 R'_8 LL'_8 RL'_8 TM'_8 (nI (S 1)) WW'_19 NN'_19 (nI (S 3)) ++ gSa cA B2 (nI (S 0)) (nI (S 2)) (nI (S 4)) (nI (S 5)) L2 R2 LL2 RL2 TM2 (nI (S 1)) WW2 NN2 (nI (S 3))) H := hP
  have hD : va_D AY (gSa cA B (nI (S 0)) (nI (S 2)) tak stp L'_8 R'_8 LL'_8 RL'_8 TM'_8 (nI (S 1)) WW'_19 NN'_19 (nI (S 3)) ++ gSa cA B2 (nI (S 0)) (nI (S 2)) (nI (S 4)) (nI (S 5)) L2 R2 LL2 RL2 TM2 (nI (S 1)) WW2 NN2 (nI (S 3))) := hD
  refine lv_aload_n hx hb dX6_takeOver_38 rfl (lv_at hl 0 rfl) ?_
  refine lv_aload_n hx hb dX6_takeOver_39 rfl (lv_at hl 1 rfl) ?_
  refine va_get (D := D) (ci := 6) (v := .int (nI (S 4))) (C := RX6) (T := TX6) (N := 6) hx hb hts hi_X6_takeOver_X6 hown hK hP 10 rfl rfl 4 (by decide) (hts (.fieldLink RX6 41 "FallingWords$State" "taken" "I") (by decide +kernel)) (fun _ h9 => h9) rfl dX6_takeOver_40 ?_
  refine va_put (D := D) (ci := 6) (v := .int (nI (S 4))) (ty := .int) (C := RX6) (T := TX6) (N := 6) hx hb hts hi_X6_takeOver_X6 tyX6 tyX6_ok nmX6 hown hK hP hD hS 0 rfl rfl 4 (by decide) (hts (.fieldLink RX6 41 "FallingWords$State" "taken" "I") (by decide +kernel)) (fun _ h9 => h9) rfl (by decide +kernel) rfl rfl (Nat.le_of_ble_eq_true rfl) dX6_takeOver_43 (fun H locs hP hD hS => ?_)
  have hP : va_P D vwCl (gSa cA B (nI (S 0)) (nI (S 2)) (nI (S 4)) stp L'_8 R'_8 LL'_8 RL'_8 TM'_8 (nI (S 1)) WW'_19 NN'_19 (nI (S 3)) ++ gSa cA B2 (nI (S 0)) (nI (S 2)) (nI (S 4)) (nI (S 5)) L2 R2 LL2 RL2 TM2 (nI (S 1)) WW2 NN2 (nI (S 3))) H := hP
  have hD : va_D AY (gSa cA B (nI (S 0)) (nI (S 2)) (nI (S 4)) stp L'_8 R'_8 LL'_8 RL'_8 TM'_8 (nI (S 1)) WW'_19 NN'_19 (nI (S 3)) ++ gSa cA B2 (nI (S 0)) (nI (S 2)) (nI (S 4)) (nI (S 5)) L2 R2 LL2 RL2 TM2 (nI (S 1)) WW2 NN2 (nI (S 3))) := hD
  refine lv_aload_n hx hb dX6_takeOver_46 rfl (lv_at hl 0 rfl) ?_
  refine lv_aload_n hx hb dX6_takeOver_47 rfl (lv_at hl 1 rfl) ?_
  refine va_get (D := D) (ci := 6) (v := .int (nI (S 5))) (C := RX6) (T := TX6) (N := 6) hx hb hts hi_X6_takeOver_X6 hown hK hP 10 rfl rfl 5 (by decide) (hts (.fieldLink RX6 44 "FallingWords$State" "steps" "I") (by decide +kernel)) (fun _ h9 => h9) rfl dX6_takeOver_48 ?_
  refine va_put (D := D) (ci := 6) (v := .int (nI (S 5))) (ty := .int) (C := RX6) (T := TX6) (N := 6) hx hb hts hi_X6_takeOver_X6 tyX6 tyX6_ok nmX6 hown hK hP hD hS 0 rfl rfl 5 (by decide) (hts (.fieldLink RX6 44 "FallingWords$State" "steps" "I") (by decide +kernel)) (fun _ h9 => h9) rfl (by decide +kernel) rfl rfl (Nat.le_of_ble_eq_true rfl) dX6_takeOver_51 (fun H locs hP hD hS => ?_)
  have hP : va_P D vwCl (gSa cA B (nI (S 0)) (nI (S 2)) (nI (S 4)) (nI (S 5)) L'_8 R'_8 LL'_8 RL'_8 TM'_8 (nI (S 1)) WW'_19 NN'_19 (nI (S 3)) ++ gSa cA B2 (nI (S 0)) (nI (S 2)) (nI (S 4)) (nI (S 5)) L2 R2 LL2 RL2 TM2 (nI (S 1)) WW2 NN2 (nI (S 3))) H := hP
  have hD : va_D AY (gSa cA B (nI (S 0)) (nI (S 2)) (nI (S 4)) (nI (S 5)) L'_8 R'_8 LL'_8 RL'_8 TM'_8 (nI (S 1)) WW'_19 NN'_19 (nI (S 3)) ++ gSa cA B2 (nI (S 0)) (nI (S 2)) (nI (S 4)) (nI (S 5)) L2 R2 LL2 RL2 TM2 (nI (S 1)) WW2 NN2 (nI (S 3))) := hD
  exact hret _ _ _ _ _ dX6_takeOver_54 ⟨L'_8, R'_8, LL'_8, RL'_8, TM'_8, WW'_19, NN'_19, rfl, rRu_cN hr hI.1.1 f0_8 f1_8 f2_8 f3_8 f4_8, rSo_cN ho hI.2.1 f1_19 f2_19⟩ hP hD hS

theorem hi_X6_addRule_X6 : ∀ w ∈ u_ws RX6 TX6 6, w ∈ wsX6_addRule := by decide +kernel
theorem hi_X6_addRule_X7 : ∀ w ∈ u_ws RX7 TX7 3, w ∈ wsX6_addRule := by decide +kernel
set_option maxHeartbeats 1000000 in
set_option maxRecDepth 100000 in
theorem k_X6_addRule (lY : Launch) (D : va_G) (cA : Nat → ClassId) (B : Nat → Nat) (S : St) (L R LL RL TM WW NN : Nat → Int32) (a b : Nat) (hI : IV S) (hr : rRu S L R LL RL TM) (ho : rSo S WW NN) (h10 : S 1 < 10) (ha : vw 4 a) (hb2 : vw 4 b) : MetV lY D cA yX6_addRule wsX6_addRule 2 44 0 0 [.ref (B 0), .int (nI a), .int (nI b)] (gSa cA B (nI (S 0)) (nI (S 2)) (nI (S 4)) (nI (S 5)) L R LL RL TM (nI (S 1)) WW NN (nI (S 3))) (fun wY => ∃ (L' : Nat → Int32) (R' : Nat → Int32) (LL' : Nat → Int32) (RL' : Nat → Int32) (TM' : Nat → Int32) (WW' : Nat → Int32) (NN' : Nat → Int32), wY = gSa cA B (nI ((addS S a b) 0)) (nI ((addS S a b) 2)) (nI ((addS S a b) 4)) (nI ((addS S a b) 5)) L' R' LL' RL' TM' (nI ((addS S a b) 1)) WW' NN' (nI ((addS S a b) 3)) ∧ (rRu (addS S a b) L' R' LL' RL' TM') ∧ (rSo (addS S a b) WW' NN')) := by
  refine MetV.of (cc := cX6_addRule) (maxL := 3) (by decide) rfl (Nat.le_of_ble_eq_true rfl) ?_
  intro pY eY sY mY aY bY tY cY QY AY ls h0 hP hK hN hD hA hS hl hin hret
  obtain ⟨hx, hb, hml, hown, hts⟩ := id h0
  have hl : lv_has ls 3 [(0, .ref (B 0)), (1, .int (nI a)), (2, .int (nI b))] := hl
  have hP : va_P D vwCl (gSa cA B (nI (S 0)) (nI (S 2)) (nI (S 4)) (nI (S 5)) L R LL RL TM (nI (S 1)) WW NN (nI (S 3))) sY.heap := hP
  have hD : va_D AY (gSa cA B (nI (S 0)) (nI (S 2)) (nI (S 4)) (nI (S 5)) L R LL RL TM (nI (S 1)) WW NN (nI (S 3))) := hD
  refine lv_aload_n hx hb dX6_addRule_0 rfl (lv_at hl 0 rfl) ?_
  refine va_get (D := D) (ci := 6) (v := .ref (B 1)) (C := RX6) (T := TX6) (N := 6) hx hb hts hi_X6_addRule_X6 hown hK hP 0 rfl rfl 0 (by decide) (hts (.fieldLink RX6 12 "FallingWords$State" "rules" "LFallingWords$Rules;") (by decide +kernel)) (fun _ h9 => h9) rfl dX6_addRule_1 ?_
  refine lv_iload_n hx hb dX6_addRule_4 rfl (lv_at hl 1 rfl) ?_
  refine lv_iload_n hx hb dX6_addRule_5 rfl (lv_at hl 2 rfl) ?_
  refine cv_VN (As := [.int (nI a), .int (nI b)]) (rest := []) h0 hK hN hP hD hS hA hl.1 (k_X4_add lY D cA (fun i => B (i + 1)) S L R LL RL TM a b (by first | assumption | omega) (by first | assumption | omega) (by first | assumption | omega) (by first | assumption | omega)) [1, 2, 3, 4, 5, 6] rfl (by decide) ⟨(va_cnB 2 hts gX6_addRule_X4_add_n47 rfl rfl rfl (hN (.methodLinkNest RX6 47 yX4_add "FallingWords") (by decide +kernel)) (hts (.initialized RX4) (by decide +kernel)) (by decide +kernel) ⟨Nat.le_of_ble_eq_true rfl, Nat.le_of_ble_eq_true rfl⟩), hts (.instanceMethod yX4_add) (by decide +kernel), hts (.selects RX4 yX4_add yX4_add) (by decide +kernel)⟩ (cl_recv (ci := 4) (q := (RX4, TX4, 6)) (q0 := 1) hP hK rfl rfl) rfl rfl (Nat.le_of_ble_eq_true rfl) dX6_addRule_6 ⟨Nat.zero_le _, Nat.zero_le _⟩ (fun wY H locs hwY hJ hS => ?_)
  obtain ⟨L'_6, R'_6, LL'_6, RL'_6, TM'_6, e2Y, fr_6⟩ := hwY
  have e3Y := e2Y.symm
  clear e2Y
  subst e3Y
  obtain ⟨hP, hD⟩ := hJ rfl
  have hP : va_P D vwCl (gSa cA B (nI (S 0)) (nI (S 2)) (nI (S 4)) (nI (S 5)) L'_6 R'_6 LL'_6 RL'_6 TM'_6 (nI (S 1 + 1)) WW NN (nI (S 3))) H := hP
  have hD : va_D AY (gSa cA B (nI (S 0)) (nI (S 2)) (nI (S 4)) (nI (S 5)) L'_6 R'_6 LL'_6 RL'_6 TM'_6 (nI (S 1 + 1)) WW NN (nI (S 3))) := hD
  refine lv_aload_n hx hb dX6_addRule_9 rfl (lv_at hl 0 rfl) ?_
  refine va_get (D := D) (ci := 6) (v := .ref (B 7)) (C := RX6) (T := TX6) (N := 6) hx hb hts hi_X6_addRule_X6 hown hK hP 0 rfl rfl 1 (by decide) (hts (.fieldLink RX6 21 "FallingWords$State" "store" "LFallingWords$Store;") (by decide +kernel)) (fun _ h9 => h9) rfl dX6_addRule_10 ?_
  refine lv_iconst (v := nI 0) hx hb dX6_addRule_13 (by decide +kernel) ?_
  refine va_putN (D := D) (ci := 7) (v := .int (nI 0)) (ty := .int) (C := RX7) (T := TX7) (N := 3) hx hb hts hi_X6_addRule_X7 tyX7 tyX7_ok nmX7 hown hK hP hD hS 7 rfl rfl 2 (by decide) (hN.fl (w := .fieldLinkNest RX6 51 "FallingWords$Store" "size" "I" "FallingWords") (by decide +kernel)) (fun _ h9 => h9) rfl (by decide +kernel) rfl rfl (Nat.le_of_ble_eq_true rfl) dX6_addRule_14 (fun H locs hP hD hS => ?_)
  have hP : va_P D vwCl (gSa cA B (nI (S 0)) (nI (S 2)) (nI (S 4)) (nI (S 5)) L'_6 R'_6 LL'_6 RL'_6 TM'_6 (nI (S 1 + 1)) WW NN (nI 0)) H := hP
  have hD : va_D AY (gSa cA B (nI (S 0)) (nI (S 2)) (nI (S 4)) (nI (S 5)) L'_6 R'_6 LL'_6 RL'_6 TM'_6 (nI (S 1 + 1)) WW NN (nI 0)) := hD
  have q0 : (addS S a b) 0 = S 0 := by unfold addS upN; (try dsimp only); repeat first | rw [if_pos (by omega)] | rw [if_neg (by omega)]
  have q1 : (addS S a b) 1 = S 1 + 1 := by unfold addS upN; (try dsimp only); repeat first | rw [if_pos (by omega)] | rw [if_neg (by omega)]
  have q2 : (addS S a b) 2 = S 2 := by unfold addS upN; (try dsimp only); repeat first | rw [if_pos (by omega)] | rw [if_neg (by omega)]
  have q3 : (addS S a b) 3 = 0 := by unfold addS upN; (try dsimp only); repeat first | rw [if_pos (by omega)] | rw [if_neg (by omega)]
  have q4 : (addS S a b) 4 = S 4 := by unfold addS upN; (try dsimp only); repeat first | rw [if_pos (by omega)] | rw [if_neg (by omega)]
  have q5 : (addS S a b) 5 = S 5 := by unfold addS upN; (try dsimp only); repeat first | rw [if_pos (by omega)] | rw [if_neg (by omega)]
  exact hret _ _ _ _ _ dX6_addRule_17 ⟨L'_6, R'_6, LL'_6, RL'_6, TM'_6, WW, NN, by rw [q0, q1, q2, q3, q4, q5], fr_6, rSo_0 q3⟩ hP hD hS

theorem hi_X6_removeRule_X6 : ∀ w ∈ u_ws RX6 TX6 6, w ∈ wsX6_removeRule := by decide +kernel
theorem hi_X6_removeRule_X7 : ∀ w ∈ u_ws RX7 TX7 3, w ∈ wsX6_removeRule := by decide +kernel
set_option maxHeartbeats 1000000 in
set_option maxRecDepth 100000 in
theorem k_X6_removeRule (lY : Launch) (D : va_G) (cA : Nat → ClassId) (B : Nat → Nat) (S : St) (L R LL RL TM WW NN : Nat → Int32) (g : Nat) (hI : IV S) (hr : rRu S L R LL RL TM) (ho : rSo S WW NN) (hg : g < S 1) : MetV lY D cA yX6_removeRule wsX6_removeRule 2 43 0 0 [.ref (B 0), .int (nI g)] (gSa cA B (nI (S 0)) (nI (S 2)) (nI (S 4)) (nI (S 5)) L R LL RL TM (nI (S 1)) WW NN (nI (S 3))) (fun wY => ∃ (L' : Nat → Int32) (R' : Nat → Int32) (LL' : Nat → Int32) (RL' : Nat → Int32) (TM' : Nat → Int32) (WW' : Nat → Int32) (NN' : Nat → Int32), wY = gSa cA B (nI ((dropS S g) 0)) (nI ((dropS S g) 2)) (nI ((dropS S g) 4)) (nI ((dropS S g) 5)) L' R' LL' RL' TM' (nI ((dropS S g) 1)) WW' NN' (nI ((dropS S g) 3)) ∧ (rRu (dropS S g) L' R' LL' RL' TM') ∧ (rSo (dropS S g) WW' NN')) := by
  refine MetV.of (cc := cX6_removeRule) (maxL := 2) (by decide) rfl (Nat.le_of_ble_eq_true rfl) ?_
  intro pY eY sY mY aY bY tY cY QY AY ls h0 hP hK hN hD hA hS hl hin hret
  obtain ⟨hx, hb, hml, hown, hts⟩ := id h0
  have hl : lv_has ls 2 [(0, .ref (B 0)), (1, .int (nI g))] := hl
  have hP : va_P D vwCl (gSa cA B (nI (S 0)) (nI (S 2)) (nI (S 4)) (nI (S 5)) L R LL RL TM (nI (S 1)) WW NN (nI (S 3))) sY.heap := hP
  have hD : va_D AY (gSa cA B (nI (S 0)) (nI (S 2)) (nI (S 4)) (nI (S 5)) L R LL RL TM (nI (S 1)) WW NN (nI (S 3))) := hD
  refine lv_aload_n hx hb dX6_removeRule_0 rfl (lv_at hl 0 rfl) ?_
  refine va_get (D := D) (ci := 6) (v := .ref (B 1)) (C := RX6) (T := TX6) (N := 6) hx hb hts hi_X6_removeRule_X6 hown hK hP 0 rfl rfl 0 (by decide) (hts (.fieldLink RX6 12 "FallingWords$State" "rules" "LFallingWords$Rules;") (by decide +kernel)) (fun _ h9 => h9) rfl dX6_removeRule_1 ?_
  refine lv_iload_n hx hb dX6_removeRule_4 rfl (lv_at hl 1 rfl) ?_
  refine cv_VN (As := [.int (nI g)]) (rest := []) h0 hK hN hP hD hS hA hl.1 (k_X4_remove lY D cA (fun i => B (i + 1)) S L R LL RL TM g (hI.1.1) (by first | assumption | omega) (by first | assumption | omega)) [1, 2, 3, 4, 5, 6] rfl (by decide) ⟨(va_cnB 1 hts gX6_removeRule_X4_remove_n54 rfl rfl rfl (hN (.methodLinkNest RX6 54 yX4_remove "FallingWords") (by decide +kernel)) (hts (.initialized RX4) (by decide +kernel)) (by decide +kernel) ⟨Nat.le_of_ble_eq_true rfl, Nat.le_of_ble_eq_true rfl⟩), hts (.instanceMethod yX4_remove) (by decide +kernel), hts (.selects RX4 yX4_remove yX4_remove) (by decide +kernel)⟩ (cl_recv (ci := 4) (q := (RX4, TX4, 6)) (q0 := 1) hP hK rfl rfl) rfl rfl (Nat.le_of_ble_eq_true rfl) dX6_removeRule_5 ⟨Nat.zero_le _, Nat.zero_le _⟩ (fun wY H locs hwY hJ hS => ?_)
  obtain ⟨L'_5, R'_5, LL'_5, RL'_5, TM'_5, e2Y, fr_5⟩ := hwY
  have e3Y := e2Y.symm
  clear e2Y
  subst e3Y
  obtain ⟨hP, hD⟩ := hJ rfl
  have hP : va_P D vwCl (gSa cA B (nI (S 0)) (nI (S 2)) (nI (S 4)) (nI (S 5)) L'_5 R'_5 LL'_5 RL'_5 TM'_5 (nI (S 1 - 1)) WW NN (nI (S 3))) H := hP
  have hD : va_D AY (gSa cA B (nI (S 0)) (nI (S 2)) (nI (S 4)) (nI (S 5)) L'_5 R'_5 LL'_5 RL'_5 TM'_5 (nI (S 1 - 1)) WW NN (nI (S 3))) := hD
  refine lv_aload_n hx hb dX6_removeRule_8 rfl (lv_at hl 0 rfl) ?_
  refine va_get (D := D) (ci := 6) (v := .ref (B 7)) (C := RX6) (T := TX6) (N := 6) hx hb hts hi_X6_removeRule_X6 hown hK hP 0 rfl rfl 1 (by decide) (hts (.fieldLink RX6 21 "FallingWords$State" "store" "LFallingWords$Store;") (by decide +kernel)) (fun _ h9 => h9) rfl dX6_removeRule_9 ?_
  refine lv_iconst (v := nI 0) hx hb dX6_removeRule_12 (by decide +kernel) ?_
  refine va_putN (D := D) (ci := 7) (v := .int (nI 0)) (ty := .int) (C := RX7) (T := TX7) (N := 3) hx hb hts hi_X6_removeRule_X7 tyX7 tyX7_ok nmX7 hown hK hP hD hS 7 rfl rfl 2 (by decide) (hN.fl (w := .fieldLinkNest RX6 51 "FallingWords$Store" "size" "I" "FallingWords") (by decide +kernel)) (fun _ h9 => h9) rfl (by decide +kernel) rfl rfl (Nat.le_of_ble_eq_true rfl) dX6_removeRule_13 (fun H locs hP hD hS => ?_)
  have hP : va_P D vwCl (gSa cA B (nI (S 0)) (nI (S 2)) (nI (S 4)) (nI (S 5)) L'_5 R'_5 LL'_5 RL'_5 TM'_5 (nI (S 1 - 1)) WW NN (nI 0)) H := hP
  have hD : va_D AY (gSa cA B (nI (S 0)) (nI (S 2)) (nI (S 4)) (nI (S 5)) L'_5 R'_5 LL'_5 RL'_5 TM'_5 (nI (S 1 - 1)) WW NN (nI 0)) := hD
  have h10 := hI.1.1
  have q0 : (dropS S g) 0 = S 0 := by unfold dropS upN; (try dsimp only); repeat first | rw [if_pos (by omega)] | rw [if_neg (by omega)]
  have q1 : (dropS S g) 1 = S 1 - 1 := by unfold dropS upN; (try dsimp only); repeat first | rw [if_pos (by omega)] | rw [if_neg (by omega)]
  have q2 : (dropS S g) 2 = S 2 := by unfold dropS upN; (try dsimp only); repeat first | rw [if_pos (by omega)] | rw [if_neg (by omega)]
  have q3 : (dropS S g) 3 = 0 := by unfold dropS upN; (try dsimp only); repeat first | rw [if_pos (by omega)] | rw [if_neg (by omega)]
  have q4 : (dropS S g) 4 = S 4 := by unfold dropS upN; (try dsimp only); repeat first | rw [if_pos (by omega)] | rw [if_neg (by omega)]
  have q5 : (dropS S g) 5 = S 5 := by unfold dropS upN; (try dsimp only); repeat first | rw [if_pos (by omega)] | rw [if_neg (by omega)]
  exact hret _ _ _ _ _ dX6_removeRule_16 ⟨L'_5, R'_5, LL'_5, RL'_5, TM'_5, WW, NN, by rw [q0, q1, q2, q3, q4, q5], fr_5, rSo_0 q3⟩ hP hD hS

theorem hi_X6_setChoosing_X6 : ∀ w ∈ u_ws RX6 TX6 6, w ∈ wsX6_setChoosing := by decide +kernel
theorem hi_X6_setChoosing_X7 : ∀ w ∈ u_ws RX7 TX7 3, w ∈ wsX6_setChoosing := by decide +kernel
set_option maxHeartbeats 1000000 in
set_option maxRecDepth 100000 in
theorem k_X6_setChoosing (lY : Launch) (D : va_G) (cA : Nat → ClassId) (B : Nat → Nat) (S : St) (L R LL RL TM WW NN : Nat → Int32) (v : Nat) (hI : IV S) (hr : rRu S L R LL RL TM) (ho : rSo S WW NN) : MetV lY D cA yX6_setChoosing wsX6_setChoosing 0 0 0 0 [.ref (B 0), .int (nI v)] (gSa cA B (nI (S 0)) (nI (S 2)) (nI (S 4)) (nI (S 5)) L R LL RL TM (nI (S 1)) WW NN (nI (S 3))) (fun wY => ∃ (L' : Nat → Int32) (R' : Nat → Int32) (LL' : Nat → Int32) (RL' : Nat → Int32) (TM' : Nat → Int32) (WW' : Nat → Int32) (NN' : Nat → Int32), wY = gSa cA B (nI ((wayS S v) 0)) (nI ((wayS S v) 2)) (nI ((wayS S v) 4)) (nI ((wayS S v) 5)) L' R' LL' RL' TM' (nI ((wayS S v) 1)) WW' NN' (nI ((wayS S v) 3)) ∧ (rRu (wayS S v) L' R' LL' RL' TM') ∧ (rSo (wayS S v) WW' NN')) := by
  refine MetV.of (cc := cX6_setChoosing) (maxL := 2) (by decide) rfl (Nat.le_of_ble_eq_true rfl) ?_
  intro pY eY sY mY aY bY tY cY QY AY ls h0 hP hK hN hD hA hS hl hin hret
  obtain ⟨hx, hb, hml, hown, hts⟩ := id h0
  have hl : lv_has ls 2 [(0, .ref (B 0)), (1, .int (nI v))] := hl
  have hP : va_P D vwCl (gSa cA B (nI (S 0)) (nI (S 2)) (nI (S 4)) (nI (S 5)) L R LL RL TM (nI (S 1)) WW NN (nI (S 3))) sY.heap := hP
  have hD : va_D AY (gSa cA B (nI (S 0)) (nI (S 2)) (nI (S 4)) (nI (S 5)) L R LL RL TM (nI (S 1)) WW NN (nI (S 3))) := hD
  refine lv_aload_n hx hb dX6_setChoosing_0 rfl (lv_at hl 0 rfl) ?_
  refine lv_iload_n hx hb dX6_setChoosing_1 rfl (lv_at hl 1 rfl) ?_
  refine va_put (D := D) (ci := 6) (v := .int (nI v)) (ty := .int) (C := RX6) (T := TX6) (N := 6) hx hb hts hi_X6_setChoosing_X6 tyX6 tyX6_ok nmX6 hown hK hP hD hS 0 rfl rfl 3 (by decide) (hts (.fieldLink RX6 31 "FallingWords$State" "choosing" "I") (by decide +kernel)) (fun _ h9 => h9) rfl (by decide +kernel) rfl rfl (Nat.le_of_ble_eq_true rfl) dX6_setChoosing_2 (fun H locs hP hD hS => ?_)
  have hP : va_P D vwCl (gSa cA B (nI (S 0)) (nI v) (nI (S 4)) (nI (S 5)) L R LL RL TM (nI (S 1)) WW NN (nI (S 3))) H := hP
  have hD : va_D AY (gSa cA B (nI (S 0)) (nI v) (nI (S 4)) (nI (S 5)) L R LL RL TM (nI (S 1)) WW NN (nI (S 3))) := hD
  refine lv_aload_n hx hb dX6_setChoosing_5 rfl (lv_at hl 0 rfl) ?_
  refine va_get (D := D) (ci := 6) (v := .ref (B 7)) (C := RX6) (T := TX6) (N := 6) hx hb hts hi_X6_setChoosing_X6 hown hK hP 0 rfl rfl 1 (by decide) (hts (.fieldLink RX6 21 "FallingWords$State" "store" "LFallingWords$Store;") (by decide +kernel)) (fun _ h9 => h9) rfl dX6_setChoosing_6 ?_
  refine lv_iconst (v := nI 0) hx hb dX6_setChoosing_9 (by decide +kernel) ?_
  refine va_putN (D := D) (ci := 7) (v := .int (nI 0)) (ty := .int) (C := RX7) (T := TX7) (N := 3) hx hb hts hi_X6_setChoosing_X7 tyX7 tyX7_ok nmX7 hown hK hP hD hS 7 rfl rfl 2 (by decide) (hN.fl (w := .fieldLinkNest RX6 51 "FallingWords$Store" "size" "I" "FallingWords") (by decide +kernel)) (fun _ h9 => h9) rfl (by decide +kernel) rfl rfl (Nat.le_of_ble_eq_true rfl) dX6_setChoosing_10 (fun H locs hP hD hS => ?_)
  have hP : va_P D vwCl (gSa cA B (nI (S 0)) (nI v) (nI (S 4)) (nI (S 5)) L R LL RL TM (nI (S 1)) WW NN (nI 0)) H := hP
  have hD : va_D AY (gSa cA B (nI (S 0)) (nI v) (nI (S 4)) (nI (S 5)) L R LL RL TM (nI (S 1)) WW NN (nI 0)) := hD
  have q0 : (wayS S v) 0 = S 0 := by unfold wayS upN; (try dsimp only); repeat first | rw [if_pos (by omega)] | rw [if_neg (by omega)]
  have q1 : (wayS S v) 1 = S 1 := by unfold wayS upN; (try dsimp only); repeat first | rw [if_pos (by omega)] | rw [if_neg (by omega)]
  have q2 : (wayS S v) 2 = v := by unfold wayS upN; (try dsimp only); repeat first | rw [if_pos (by omega)] | rw [if_neg (by omega)]
  have q3 : (wayS S v) 3 = 0 := by unfold wayS upN; (try dsimp only); repeat first | rw [if_pos (by omega)] | rw [if_neg (by omega)]
  have q4 : (wayS S v) 4 = S 4 := by unfold wayS upN; (try dsimp only); repeat first | rw [if_pos (by omega)] | rw [if_neg (by omega)]
  have q5 : (wayS S v) 5 = S 5 := by unfold wayS upN; (try dsimp only); repeat first | rw [if_pos (by omega)] | rw [if_neg (by omega)]
  exact hret _ _ _ _ _ dX6_setChoosing_13 ⟨L, R, LL, RL, TM, WW, NN, by rw [q0, q1, q2, q3, q4, q5], rRu_to hr (fun j h1 h2 => (upN_n (by omega)).trans (upN_n (by omega))) q1 hI.1.1, rSo_0 q3⟩ hP hD hS

theorem hi_X6_takeStep_X4 : ∀ w ∈ u_ws RX4 TX4 6, w ∈ wsX6_takeStep := by decide +kernel
theorem hi_X6_takeStep_X6 : ∀ w ∈ u_ws RX6 TX6 6, w ∈ wsX6_takeStep := by decide +kernel
set_option maxHeartbeats 1000000 in
set_option maxRecDepth 100000 in
theorem k_X6_takeStep (lY : Launch) (D : va_G) (cA : Nat → ClassId) (B : Nat → Nat) (S : St) (L R LL RL TM WW NN : Nat → Int32) (hI : IV S) (hr : rRu S L R LL RL TM) (ho : rSo S WW NN) : MetI lY D cA yX6_takeStep wsX6_takeStep 2 58 [.ref (B 0)] (gSa cA B (nI (S 0)) (nI (S 2)) (nI (S 4)) (nI (S 5)) L R LL RL TM (nI (S 1)) WW NN (nI (S 3))) (fun rY wY => ∃ (L' : Nat → Int32) (R' : Nat → Int32) (LL' : Nat → Int32) (RL' : Nat → Int32) (TM' : Nat → Int32) (WW' : Nat → Int32) (NN' : Nat → Int32), rY = (stepR S).1 ∧ wY = gSa cA B (nI (((stepR S).2) 0)) (nI (((stepR S).2) 2)) (nI (((stepR S).2) 4)) (nI (((stepR S).2) 5)) L' R' LL' RL' TM' (nI (((stepR S).2) 1)) WW' NN' (nI (((stepR S).2) 3)) ∧ (rRu ((stepR S).2) L' R' LL' RL' TM') ∧ (rSo ((stepR S).2) WW' NN')) := by
  refine MetI.of (cc := cX6_takeStep) (maxL := 3) (ret := (some .int)) (by decide) rfl (Nat.le_of_ble_eq_true rfl) (Or.inl rfl) ?_
  intro pY eY sY mY aY bY tY cY QY AY ls h0 hP hK hN hD hA hS hl hret
  obtain ⟨hx, hb, hml, hown, hts⟩ := id h0
  have hl : lv_has ls 3 [(0, .ref (B 0))] := hl
  have hP : va_P D vwCl (gSa cA B (nI (S 0)) (nI (S 2)) (nI (S 4)) (nI (S 5)) L R LL RL TM (nI (S 1)) WW NN (nI (S 3))) sY.heap := hP
  have hD : va_D AY (gSa cA B (nI (S 0)) (nI (S 2)) (nI (S 4)) (nI (S 5)) L R LL RL TM (nI (S 1)) WW NN (nI (S 3))) := hD
  have hIR := hI.1
  have hw := hI.2.2.1
  have h10 := hIR.1
  refine lv_aload_n hx hb dX6_takeStep_0 rfl (lv_at hl 0 rfl) ?_
  refine va_get (D := D) (ci := 6) (v := .ref (B 1)) (C := RX6) (T := TX6) (N := 6) hx hb hts hi_X6_takeStep_X6 hown hK hP 0 rfl rfl 0 (by decide) (hts (.fieldLink RX6 12 "FallingWords$State" "rules" "LFallingWords$Rules;") (by decide +kernel)) (fun _ h9 => h9) rfl dX6_takeStep_1 ?_
  refine lv_aload_n hx hb dX6_takeStep_4 rfl (lv_at hl 0 rfl) ?_
  refine va_get (D := D) (ci := 6) (v := .int (nI (S 0))) (C := RX6) (T := TX6) (N := 6) hx hb hts hi_X6_takeStep_X6 hown hK hP 0 rfl rfl 2 (by decide) (hts (.fieldLink RX6 27 "FallingWords$State" "word" "I") (by decide +kernel)) (fun _ h9 => h9) rfl dX6_takeStep_5 ?_
  refine lv_aload_n hx hb dX6_takeStep_8 rfl (lv_at hl 0 rfl) ?_
  refine va_get (D := D) (ci := 6) (v := .int (nI (S 2))) (C := RX6) (T := TX6) (N := 6) hx hb hts hi_X6_takeStep_X6 hown hK hP 0 rfl rfl 3 (by decide) (hts (.fieldLink RX6 31 "FallingWords$State" "choosing" "I") (by decide +kernel)) (fun _ h9 => h9) rfl dX6_takeStep_9 ?_
  refine ci_VN (As := [.int (nI (S 0)), .int (nI (S 2))]) (rest := []) h0 hK hN hP hD hS hA hl.1 (k_X4_choiceFor lY D cA (fun i => B (i + 1)) S L R LL RL TM (S 0) (hIR) (hr) (hw)) [1, 2, 3, 4, 5, 6] rfl (by decide) ⟨(va_cnB 2 hts gX6_takeStep_X4_choiceFor_n58 rfl rfl rfl (hN (.methodLinkNest RX6 58 yX4_choiceFor "FallingWords") (by decide +kernel)) (hts (.initialized RX4) (by decide +kernel)) (by decide +kernel) ⟨Nat.le_of_ble_eq_true rfl, Nat.le_of_ble_eq_true rfl⟩), hts (.instanceMethod yX4_choiceFor) (by decide +kernel), hts (.selects RX4 yX4_choiceFor yX4_choiceFor) (by decide +kernel)⟩ (cl_recv (ci := 4) (q := (RX4, TX4, 6)) (q0 := 1) hP hK rfl rfl) rfl rfl (Nat.le_of_ble_eq_true rfl) dX6_takeStep_12 ⟨Nat.zero_le _, Nat.zero_le _⟩ (fun rY wY H locs hwY hJ hS => ?_)
  obtain ⟨e1Y, e2Y⟩ := hwY
  have e3Y := e1Y.symm
  clear e1Y
  subst e3Y
  have e3Y := e2Y.symm
  clear e2Y
  subst e3Y
  obtain ⟨hP, hD⟩ := hJ rfl
  have hP : va_P D vwCl (gSa cA B (nI (S 0)) (nI (S 2)) (nI (S 4)) (nI (S 5)) L R LL RL TM (nI (S 1)) WW NN (nI (S 3))) H := hP
  have hD : va_D AY (gSa cA B (nI (S 0)) (nI (S 2)) (nI (S 4)) (nI (S 5)) L R LL RL TM (nI (S 1)) WW NN (nI (S 3))) := hD
  refine lv_istore_n (lv' := [(1, .int (chI S (S 0))), (0, .ref (B 0))]) hx hb dX6_takeStep_15 rfl hl (by decide) rfl (fun ls hl => ?_)
  refine lv_iload_n hx hb dX6_takeStep_16 rfl (lv_at hl 0 rfl) ?_
  refine xz_ge (tgt := 23) hx hb dX6_takeStep_17 (by decide) (fun c17 => ?_) (fun c17 => ?_)
  · have hn := chI_ge c17
    obtain ⟨g1, g2, g3, g4, g5⟩ := ch_lt hIR hw hn
    have hl : lv_has ls 3 [(1, .int (nI (chp S (S 0) * 10 + chr S (S 0)))), (0, .ref (B 0))] := Eq.mp (congrArg (fun zY : Int32 => lv_has ls 3 [(1, .int zY), (0, .ref (B 0))]) (show chI S (S 0) = nI (chp S (S 0) * 10 + chr S (S 0)) from chI_yes hn)) hl
    refine lv_iload_n hx hb dX6_takeStep_23 rfl (lv_at hl 0 rfl) ?_
    refine ci_SN (As := [.int (nI (chp S (S 0) * 10 + chr S (S 0)))]) (rest := []) h0 hK hN hP hD hS hA hl.1 (k_X4_ruleIn lY D cA (chp S (S 0) * 10 + chr S (S 0)) (by omega)) [] rfl (by decide) ⟨(va_cnB 1 hts gX6_takeStep_X4_ruleIn_n63 rfl rfl rfl (hN (.methodLinkNest RX6 63 yX4_ruleIn "FallingWords") (by decide +kernel)) (hts (.initialized RX4) (by decide +kernel)) (by decide +kernel) ⟨Nat.le_of_ble_eq_true rfl, Nat.le_of_ble_eq_true rfl⟩), hts (.static yX4_ruleIn) (by decide +kernel), trivial⟩ rfl rfl (Nat.le_of_ble_eq_true rfl) dX6_takeStep_24 ⟨Nat.zero_le _, Nat.zero_le _⟩ (fun rY wY H locs hwY hJ hS => ?_)
    obtain ⟨e1Y, e2Y⟩ := hwY
    have e3Y := e1Y.symm
    clear e1Y
    subst e3Y
    have e3Y := e2Y.symm
    clear e2Y
    subst e3Y
    obtain ⟨hP, hD⟩ := hJ rfl
    have hP : va_P D vwCl (gSa cA B (nI (S 0)) (nI (S 2)) (nI (S 4)) (nI (S 5)) L R LL RL TM (nI (S 1)) WW NN (nI (S 3))) H := hP
    have hD : va_D AY (gSa cA B (nI (S 0)) (nI (S 2)) (nI (S 4)) (nI (S 5)) L R LL RL TM (nI (S 1)) WW NN (nI (S 3))) := hD
    refine xt (show nI ((chp S (S 0) * 10 + chr S (S 0)) % 10) = nI (chr S (S 0)) from congrArg nI (by omega)) ?_
    refine lv_istore_n (lv' := [(2, .int (nI (chr S (S 0)))), (1, .int (nI (chp S (S 0) * 10 + chr S (S 0)))), (0, .ref (B 0))]) hx hb dX6_takeStep_27 rfl hl (by decide) rfl (fun ls hl => ?_)
    refine lv_aload_n hx hb dX6_takeStep_28 rfl (lv_at hl 2 rfl) ?_
    refine lv_aload_n hx hb dX6_takeStep_29 rfl (lv_at hl 2 rfl) ?_
    refine va_get (D := D) (ci := 6) (v := .ref (B 1)) (C := RX6) (T := TX6) (N := 6) hx hb hts hi_X6_takeStep_X6 hown hK hP 0 rfl rfl 0 (by decide) (hts (.fieldLink RX6 12 "FallingWords$State" "rules" "LFallingWords$Rules;") (by decide +kernel)) (fun _ h9 => h9) rfl dX6_takeStep_30 ?_
    refine lv_aload_n hx hb dX6_takeStep_33 rfl (lv_at hl 2 rfl) ?_
    refine va_get (D := D) (ci := 6) (v := .int (nI (S 0))) (C := RX6) (T := TX6) (N := 6) hx hb hts hi_X6_takeStep_X6 hown hK hP 0 rfl rfl 2 (by decide) (hts (.fieldLink RX6 27 "FallingWords$State" "word" "I") (by decide +kernel)) (fun _ h9 => h9) rfl dX6_takeStep_34 ?_
    refine lv_iload_n hx hb dX6_takeStep_37 rfl (lv_at hl 0 rfl) ?_
    refine lv_iload_n hx hb dX6_takeStep_38 rfl (lv_at hl 1 rfl) ?_
    refine ci_SN (As := [.int (nI (chp S (S 0) * 10 + chr S (S 0)))]) (rest := [.int (nI (chr S (S 0))), .int (nI (S 0)), .ref (B 1), .ref (B 0)]) h0 hK hN hP hD hS hA hl.1 (k_X4_placeIn lY D cA (chp S (S 0) * 10 + chr S (S 0)) (by omega)) [] rfl (by decide) ⟨(va_cnB 1 hts gX6_takeStep_X4_placeIn_n67 rfl rfl rfl (hN (.methodLinkNest RX6 67 yX4_placeIn "FallingWords") (by decide +kernel)) (hts (.initialized RX4) (by decide +kernel)) (by decide +kernel) ⟨Nat.le_of_ble_eq_true rfl, Nat.le_of_ble_eq_true rfl⟩), hts (.static yX4_placeIn) (by decide +kernel), trivial⟩ rfl rfl (Nat.le_of_ble_eq_true rfl) dX6_takeStep_39 ⟨Nat.zero_le _, Nat.zero_le _⟩ (fun rY wY H locs hwY hJ hS => ?_)
    obtain ⟨e1Y, e2Y⟩ := hwY
    have e3Y := e1Y.symm
    clear e1Y
    subst e3Y
    have e3Y := e2Y.symm
    clear e2Y
    subst e3Y
    obtain ⟨hP, hD⟩ := hJ rfl
    have hP : va_P D vwCl (gSa cA B (nI (S 0)) (nI (S 2)) (nI (S 4)) (nI (S 5)) L R LL RL TM (nI (S 1)) WW NN (nI (S 3))) H := hP
    have hD : va_D AY (gSa cA B (nI (S 0)) (nI (S 2)) (nI (S 4)) (nI (S 5)) L R LL RL TM (nI (S 1)) WW NN (nI (S 3))) := hD
    refine xt (show nI ((chp S (S 0) * 10 + chr S (S 0)) / 10) = nI (chp S (S 0)) from congrArg nI (by omega)) ?_
    refine ci_VN (As := [.int (nI (S 0)), .int (nI (chr S (S 0))), .int (nI (chp S (S 0)))]) (rest := [.ref (B 0)]) h0 hK hN hP hD hS hA hl.1 (k_X4_applied lY D cA (fun i => B (i + 1)) S L R LL RL TM (S 0) (chr S (S 0)) (chp S (S 0)) (hIR) (hr) (hw) (g1) (g5)) [1, 2, 3, 4, 5, 6] rfl (by decide) ⟨(va_cnB 3 hts gX6_takeStep_X4_applied_n70 rfl rfl rfl (hN (.methodLinkNest RX6 70 yX4_applied "FallingWords") (by decide +kernel)) (hts (.initialized RX4) (by decide +kernel)) (by decide +kernel) ⟨Nat.le_of_ble_eq_true rfl, Nat.le_of_ble_eq_true rfl⟩), hts (.instanceMethod yX4_applied) (by decide +kernel), hts (.selects RX4 yX4_applied yX4_applied) (by decide +kernel)⟩ (cl_recv (ci := 4) (q := (RX4, TX4, 6)) (q0 := 1) hP hK rfl rfl) rfl rfl (Nat.le_of_ble_eq_true rfl) dX6_takeStep_42 ⟨Nat.zero_le _, Nat.zero_le _⟩ (fun rY wY H locs hwY hJ hS => ?_)
    obtain ⟨e1Y, e2Y⟩ := hwY
    have e3Y := e1Y.symm
    clear e1Y
    subst e3Y
    have e3Y := e2Y.symm
    clear e2Y
    subst e3Y
    obtain ⟨hP, hD⟩ := hJ rfl
    have hP : va_P D vwCl (gSa cA B (nI (S 0)) (nI (S 2)) (nI (S 4)) (nI (S 5)) L R LL RL TM (nI (S 1)) WW NN (nI (S 3))) H := hP
    have hD : va_D AY (gSa cA B (nI (S 0)) (nI (S 2)) (nI (S 4)) (nI (S 5)) L R LL RL TM (nI (S 1)) WW NN (nI (S 3))) := hD
    refine xt (show nI (app (lf S (chr S (S 0))) (rt S (chr S (S 0))) (S 0) (chp S (S 0))) = nI (nxt S (S 0)) from rfl) ?_
    refine va_put (D := D) (ci := 6) (v := .int (nI (nxt S (S 0)))) (ty := .int) (C := RX6) (T := TX6) (N := 6) hx hb hts hi_X6_takeStep_X6 tyX6 tyX6_ok nmX6 hown hK hP hD hS 0 rfl rfl 2 (by decide) (hts (.fieldLink RX6 27 "FallingWords$State" "word" "I") (by decide +kernel)) (fun _ h9 => h9) rfl (by decide +kernel) rfl rfl (Nat.le_of_ble_eq_true rfl) dX6_takeStep_45 (fun H locs hP hD hS => ?_)
    have hP : va_P D vwCl (gSa cA B (nI (nxt S (S 0))) (nI (S 2)) (nI (S 4)) (nI (S 5)) L R LL RL TM (nI (S 1)) WW NN (nI (S 3))) H := hP
    have hD : va_D AY (gSa cA B (nI (nxt S (S 0))) (nI (S 2)) (nI (S 4)) (nI (S 5)) L R LL RL TM (nI (S 1)) WW NN (nI (S 3))) := hD
    obtain ⟨-, -, -, -, g6⟩ := hr _ g1
    refine lv_aload_n hx hb dX6_takeStep_48 rfl (lv_at hl 2 rfl) ?_
    refine va_get (D := D) (ci := 6) (v := .ref (B 1)) (C := RX6) (T := TX6) (N := 6) hx hb hts hi_X6_takeStep_X6 hown hK hP 0 rfl rfl 0 (by decide) (hts (.fieldLink RX6 12 "FallingWords$State" "rules" "LFallingWords$Rules;") (by decide +kernel)) (fun _ h9 => h9) rfl dX6_takeStep_49 ?_
    refine va_getN (D := D) (ci := 4) (v := .ref (B 6)) (C := RX4) (T := TX4) (N := 6) hx hb hts hi_X6_takeStep_X4 hown hK hP 1 rfl rfl 4 (by decide) (hN.fl (w := .fieldLinkNest RX6 74 "FallingWords$Rules" "times" "[I" "FallingWords") (by decide +kernel)) (fun _ h9 => h9) rfl dX6_takeStep_52 ?_
    refine lv_iload_n hx hb dX6_takeStep_55 rfl (lv_at hl 0 rfl) ?_
    refine lv_dup2_11 hx hb dX6_takeStep_56 rfl rfl ?_
    refine xa_ld (v := nI (tms S (chr S (S 0)))) hx hb hK hP 6 rfl (by omega) (by decide) (g6) dX6_takeStep_57 ?_
    refine lv_iconst (v := nI 1) hx hb dX6_takeStep_58 (by decide +kernel) ?_
    refine lv_iadd hx hb dX6_takeStep_59 ?_
    refine xt (show (nI (tms S (chr S (S 0)))) + (nI 1) = nI (tms S (chr S (S 0))) + 1 from rfl) ?_
    refine xa_st hx hb hK hP hD hS 6 rfl (by omega) (by decide) dX6_takeStep_60 (fun H locs hP hD hS => ?_)
    have hP : va_P D vwCl (gSa cA B (nI (nxt S (S 0))) (nI (S 2)) (nI (S 4)) (nI (S 5)) L R LL RL (upd TM (chr S (S 0)) (nI (tms S (chr S (S 0))) + 1)) (nI (S 1)) WW NN (nI (S 3))) H := hP
    have hD : va_D AY (gSa cA B (nI (nxt S (S 0))) (nI (S 2)) (nI (S 4)) (nI (S 5)) L R LL RL (upd TM (chr S (S 0)) (nI (tms S (chr S (S 0))) + 1)) (nI (S 1)) WW NN (nI (S 3))) := hD
    refine lv_aload_n hx hb dX6_takeStep_61 rfl (lv_at hl 2 rfl) ?_
    refine lv_dup hx hb dX6_takeStep_62 rfl ?_
    refine va_get (D := D) (ci := 6) (v := .int (nI (S 5))) (C := RX6) (T := TX6) (N := 6) hx hb hts hi_X6_takeStep_X6 hown hK hP 0 rfl rfl 5 (by decide) (hts (.fieldLink RX6 44 "FallingWords$State" "steps" "I") (by decide +kernel)) (fun _ h9 => h9) rfl dX6_takeStep_63 ?_
    refine lv_iconst (v := nI 1) hx hb dX6_takeStep_66 (by decide +kernel) ?_
    refine lv_iadd hx hb dX6_takeStep_67 ?_
    refine xt (show (nI (S 5)) + (nI 1) = nI (S 5 + 1) from nI_add _ _) ?_
    refine va_put (D := D) (ci := 6) (v := .int (nI (S 5 + 1))) (ty := .int) (C := RX6) (T := TX6) (N := 6) hx hb hts hi_X6_takeStep_X6 tyX6 tyX6_ok nmX6 hown hK hP hD hS 0 rfl rfl 5 (by decide) (hts (.fieldLink RX6 44 "FallingWords$State" "steps" "I") (by decide +kernel)) (fun _ h9 => h9) rfl (by decide +kernel) rfl rfl (Nat.le_of_ble_eq_true rfl) dX6_takeStep_68 (fun H locs hP hD hS => ?_)
    have hP : va_P D vwCl (gSa cA B (nI (nxt S (S 0))) (nI (S 2)) (nI (S 4)) (nI (S 5 + 1)) L R LL RL (upd TM (chr S (S 0)) (nI (tms S (chr S (S 0))) + 1)) (nI (S 1)) WW NN (nI (S 3))) H := hP
    have hD : va_D AY (gSa cA B (nI (nxt S (S 0))) (nI (S 2)) (nI (S 4)) (nI (S 5 + 1)) L R LL RL (upd TM (chr S (S 0)) (nI (tms S (chr S (S 0))) + 1)) (nI (S 1)) WW NN (nI (S 3))) := hD
    refine lv_iload_n hx hb dX6_takeStep_71 rfl (lv_at hl 0 rfl) ?_
    have hR : stepR S = (nI (chr S (S 0)), stpS S) := if_neg (by rw [hn]; decide)
    have q0 : (stpS S) 0 = nxt S (S 0) := by unfold stpS upN; (try dsimp only); repeat first | rw [if_pos (by omega)] | rw [if_neg (by omega)]
    have q1 : (stpS S) 1 = S 1 := by unfold stpS upN; (try dsimp only); repeat first | rw [if_pos (by omega)] | rw [if_neg (by omega)]
    have q2 : (stpS S) 2 = S 2 := by unfold stpS upN; (try dsimp only); repeat first | rw [if_pos (by omega)] | rw [if_neg (by omega)]
    have q3 : (stpS S) 3 = S 3 := by unfold stpS upN; (try dsimp only); repeat first | rw [if_pos (by omega)] | rw [if_neg (by omega)]
    have q4 : (stpS S) 4 = S 4 := by unfold stpS upN; (try dsimp only); repeat first | rw [if_pos (by omega)] | rw [if_neg (by omega)]
    have q5 : (stpS S) 5 = S 5 + 1 := by unfold stpS upN; (try dsimp only); repeat first | rw [if_pos (by omega)] | rw [if_neg (by omega)]
    exact hret _ _ _ _ _ _ dX6_takeStep_72 ⟨L, R, LL, RL, (upd TM (chr S (S 0)) (nI (tms S (chr S (S 0))) + 1)), WW, NN, by rw [hR], by rw [hR]; dsimp only; rw [q0, q1, q2, q3, q4, q5], by rw [hR]; exact rRu_to (rRu_tm hr (c := chr S (S 0))) (fun j h1 h2 => by unfold stpS upN; dsimp only; rw [if_neg (by omega), if_neg (by omega : ¬ j = 0)]) (by rw [upN_n (by omega)]; exact q1) (by rw [upN_n (by omega)]; exact h10), by rw [hR]; exact rSo_to ho (fun j h1 => by unfold stpS upN; dsimp only; rw [if_neg (by omega), if_neg (by omega), if_neg (by omega)]) q3⟩ hP hD hS
  · refine lv_ldc (v := (-1000002)) hx hb hown (hts (.constant RX6 62 (-1000002)) (by decide +kernel)) dX6_takeStep_20 ?_
    have hn := chI_lt hIR hw c17
    have hR : stepR S = ((-1000002), S) := if_pos hn
    exact hret _ _ _ _ _ _ dX6_takeStep_22 ⟨L, R, LL, RL, TM, WW, NN, by rw [hR], by rw [hR], by rw [hR]; exact hr, by rw [hR]; exact ho⟩ hP hD hS

theorem hi_X6_reduce_X3 : ∀ w ∈ u_ws RX3 TX3 5, w ∈ wsX6_reduce := by decide +kernel
theorem hi_X6_reduce_X6 : ∀ w ∈ u_ws RX6 TX6 6, w ∈ wsX6_reduce := by decide +kernel
set_option maxHeartbeats 1000000 in
set_option maxRecDepth 100000 in
theorem k_X6_reduce (lY : Launch) (D : va_G) (cA : Nat → ClassId) (B Bd : Nat → Nat) (S : St) (L R LL RL TM WW NN : Nat → Int32) (WD RD : Nat → Int32) (oc ns rs : Int32) (hI : IV S) (hr : rRu S L R LL RL TM) (ho : rSo S WW NN) : MetI lY D cA yX6_reduce wsX6_reduce 3 82 [.ref (B 0), .ref (Bd 0)] (gSa cA B (nI (S 0)) (nI (S 2)) (nI (S 4)) (nI (S 5)) L R LL RL TM (nI (S 1)) WW NN (nI (S 3)) ++ gRd cA Bd WD RD oc ns rs) (fun rY wY => ∃ (L' : Nat → Int32) (R' : Nat → Int32) (LL' : Nat → Int32) (RL' : Nat → Int32) (TM' : Nat → Int32) (WW' : Nat → Int32) (NN' : Nat → Int32) (WD' : Nat → Int32) (RD' : Nat → Int32) (oc' : Int32) (ns' : Int32) (rs' : Int32), rY = (normR S).1 ∧ wY = gSa cA B (nI (((normR S).2) 0)) (nI (((normR S).2) 2)) (nI (((normR S).2) 4)) (nI (((normR S).2) 5)) L' R' LL' RL' TM' (nI (((normR S).2) 1)) WW' NN' (nI (((normR S).2) 3)) ++ gRd cA Bd WD' RD' oc' ns' rs' ∧ (rRu ((normR S).2) L' R' LL' RL' TM') ∧ (rSo ((normR S).2) WW' NN')) := by
  refine MetI.of (cc := cX6_reduce) (maxL := 3) (ret := (some .int)) (by decide) rfl (Nat.le_of_ble_eq_true rfl) (Or.inl rfl) ?_
  intro pY eY sY mY aY bY tY cY QY AY ls h0 hP hK hN hD hA hS hl hret
  obtain ⟨hx, hb, hml, hown, hts⟩ := id h0
  have hl : lv_has ls 3 [(0, .ref (B 0)), (1, .ref (Bd 0))] := hl
  have hP : va_P D vwCl (gSa cA B (nI (S 0)) (nI (S 2)) (nI (S 4)) (nI (S 5)) L R LL RL TM (nI (S 1)) WW NN (nI (S 3)) ++ gRd cA Bd WD RD oc ns rs) sY.heap := hP
  have hD : va_D AY (gSa cA B (nI (S 0)) (nI (S 2)) (nI (S 4)) (nI (S 5)) L R LL RL TM (nI (S 1)) WW NN (nI (S 3)) ++ gRd cA Bd WD RD oc ns rs) := hD
  have hIR := hI.1
  have hw := hI.2.2.1
  have h10 := hIR.1
  have h8 := hI.2.1
  have hB := vw_B hw (by decide)
  obtain ⟨z1, z2, z3, z4, z5, z6⟩ := red_ok hIR hw
  refine lv_aload_n hx hb dX6_reduce_0 rfl (lv_at hl 0 rfl) ?_
  refine va_get (D := D) (ci := 6) (v := .ref (B 7)) (C := RX6) (T := TX6) (N := 6) hx hb hts hi_X6_reduce_X6 hown hK hP 0 rfl rfl 1 (by decide) (hts (.fieldLink RX6 21 "FallingWords$State" "store" "LFallingWords$Store;") (by decide +kernel)) (fun _ h9 => h9) rfl dX6_reduce_1 ?_
  refine lv_aload_n hx hb dX6_reduce_4 rfl (lv_at hl 0 rfl) ?_
  refine va_get (D := D) (ci := 6) (v := .int (nI (S 0))) (C := RX6) (T := TX6) (N := 6) hx hb hts hi_X6_reduce_X6 hown hK hP 0 rfl rfl 2 (by decide) (hts (.fieldLink RX6 27 "FallingWords$State" "word" "I") (by decide +kernel)) (fun _ h9 => h9) rfl dX6_reduce_5 ?_
  refine ci_VN (As := [.int (nI (S 0))]) (rest := []) h0 hK hN hP hD hS hA hl.1 (k_X7_indexOf lY D cA (fun i => B (i + 7)) S WW NN (S 0) (h8) (ho) (by omega) (fun k hk => by have := vw_B (hI.2.2.2 k hk).1 (by decide); omega)) [7, 8, 9] rfl (by decide) ⟨(va_cnB 1 hts gX6_reduce_X7_indexOf_n78 rfl rfl rfl (hN (.methodLinkNest RX6 78 yX7_indexOf "FallingWords") (by decide +kernel)) (hts (.initialized RX7) (by decide +kernel)) (by decide +kernel) ⟨Nat.le_of_ble_eq_true rfl, Nat.le_of_ble_eq_true rfl⟩), hts (.instanceMethod yX7_indexOf) (by decide +kernel), hts (.selects RX7 yX7_indexOf yX7_indexOf) (by decide +kernel)⟩ (cl_recv (ci := 7) (q := (RX7, TX7, 3)) (q0 := 7) hP hK rfl rfl) rfl rfl (Nat.le_of_ble_eq_true rfl) dX6_reduce_8 ⟨Nat.zero_le _, Nat.zero_le _⟩ (fun rY wY H locs hwY hJ hS => ?_)
  obtain ⟨e1Y, e2Y⟩ := hwY
  have e3Y := e1Y.symm
  clear e1Y
  subst e3Y
  have e3Y := e2Y.symm
  clear e2Y
  subst e3Y
  obtain ⟨hP, hD⟩ := hJ rfl
  have hP : va_P D vwCl (gSa cA B (nI (S 0)) (nI (S 2)) (nI (S 4)) (nI (S 5)) L R LL RL TM (nI (S 1)) WW NN (nI (S 3)) ++ gRd cA Bd WD RD oc ns rs) H := hP
  have hD : va_D AY (gSa cA B (nI (S 0)) (nI (S 2)) (nI (S 4)) (nI (S 5)) L R LL RL TM (nI (S 1)) WW NN (nI (S 3)) ++ gRd cA Bd WD RD oc ns rs) := hD
  refine lv_istore_n (lv' := [(2, .int (ixI S (S 0))), (0, .ref (B 0)), (1, .ref (Bd 0))]) hx hb dX6_reduce_11 rfl hl (by decide) rfl (fun ls hl => ?_)
  refine lv_iload_n hx hb dX6_reduce_12 rfl (lv_at hl 0 rfl) ?_
  refine xz_lt (tgt := 40) hx hb dX6_reduce_13 (by decide) (fun c13 => ?_) (fun c13 => ?_)
  · have hin : ¬ fs S (S 0) < S 3 := fun q => absurd c13 (by rw [ixI, if_pos q, nI_toInt (by omega)]; omega)
    refine lv_aload_n hx hb dX6_reduce_40 rfl (lv_at hl 2 rfl) ?_
    refine lv_aload_n hx hb dX6_reduce_41 rfl (lv_at hl 1 rfl) ?_
    refine va_get (D := D) (ci := 6) (v := .ref (B 1)) (C := RX6) (T := TX6) (N := 6) hx hb hts hi_X6_reduce_X6 hown hK hP 0 rfl rfl 0 (by decide) (hts (.fieldLink RX6 12 "FallingWords$State" "rules" "LFallingWords$Rules;") (by decide +kernel)) (fun _ h9 => h9) rfl dX6_reduce_42 ?_
    refine lv_aload_n hx hb dX6_reduce_45 rfl (lv_at hl 1 rfl) ?_
    refine va_get (D := D) (ci := 6) (v := .int (nI (S 2))) (C := RX6) (T := TX6) (N := 6) hx hb hts hi_X6_reduce_X6 hown hK hP 0 rfl rfl 3 (by decide) (hts (.fieldLink RX6 31 "FallingWords$State" "choosing" "I") (by decide +kernel)) (fun _ h9 => h9) rfl dX6_reduce_46 ?_
    refine lv_aload_n hx hb dX6_reduce_49 rfl (lv_at hl 1 rfl) ?_
    refine va_get (D := D) (ci := 6) (v := .int (nI (S 0))) (C := RX6) (T := TX6) (N := 6) hx hb hts hi_X6_reduce_X6 hown hK hP 0 rfl rfl 2 (by decide) (hts (.fieldLink RX6 27 "FallingWords$State" "word" "I") (by decide +kernel)) (fun _ h9 => h9) rfl dX6_reduce_50 ?_
    refine cv_VN (As := [.ref (B 1), .int (nI (S 2)), .int (nI (S 0))]) (rest := []) h0 hK hN hP hD hS hA hl.1 (k_X3_run lY D cA Bd (fun i => B (i + 1)) WD RD oc ns rs S L R LL RL TM (S 0) (hIR) (hr) (hw)) [10, 11, 12, 1, 2, 3, 4, 5, 6] rfl (by decide) ⟨(va_cnB 3 hts gX6_reduce_X3_run_n84 rfl rfl rfl (hN (.methodLinkNest RX6 84 yX3_run "FallingWords") (by decide +kernel)) (hts (.initialized RX3) (by decide +kernel)) (by decide +kernel) ⟨Nat.le_of_ble_eq_true rfl, Nat.le_of_ble_eq_true rfl⟩), hts (.instanceMethod yX3_run) (by decide +kernel), hts (.selects RX3 yX3_run yX3_run) (by decide +kernel)⟩ (cl_recv (ci := 3) (q := (RX3, TX3, 5)) (q0 := 10) hP hK rfl rfl) rfl rfl (Nat.le_of_ble_eq_true rfl) dX6_reduce_53 ⟨Nat.zero_le _, Nat.zero_le _⟩ (fun wY H locs hwY hJ hS => ?_)
    obtain ⟨WD'_53, RD'_53, rs'_53, e2Y, f1_53, f2_53, f3_53⟩ := hwY
    have e3Y := e2Y.symm
    clear e2Y
    subst e3Y
    obtain ⟨hP, hD⟩ := hJ rfl
    have hP : va_P D vwCl (gSa cA B (nI (S 0)) (nI (S 2)) (nI (S 4)) (nI (S 5)) L R LL RL TM (nI (S 1)) WW NN (nI (S 3)) ++ gRd cA Bd WD'_53 RD'_53 (nI ((red S (S 0)).1)) (nI ((red S (S 0)).2.1)) rs'_53) H := hP
    have hD : va_D AY (gSa cA B (nI (S 0)) (nI (S 2)) (nI (S 4)) (nI (S 5)) L R LL RL TM (nI (S 1)) WW NN (nI (S 3)) ++ gRd cA Bd WD'_53 RD'_53 (nI ((red S (S 0)).1)) (nI ((red S (S 0)).2.1)) rs'_53) := hD
    refine lv_aload_n hx hb dX6_reduce_56 rfl (lv_at hl 2 rfl) ?_
    refine va_getN (D := D) (ci := 3) (v := .int (nI ((red S (S 0)).1))) (C := RX3) (T := TX3) (N := 5) hx hb hts hi_X6_reduce_X3 hown hK hP 10 rfl rfl 2 (by decide) (hN.fl (w := .fieldLinkNest RX6 90 "FallingWords$Reduction" "outcome" "I" "FallingWords") (by decide +kernel)) (fun _ h9 => h9) rfl dX6_reduce_57 ?_
    refine lv_iconst (v := nI 1) hx hb dX6_reduce_60 (by decide +kernel) ?_
    refine xc_ne (tgt := 67) hx hb dX6_reduce_61 (by decide) (by omega) (by omega) (fun c61 => ?_) (fun c61 => ?_)
    · refine lv_aload_n hx hb dX6_reduce_67 rfl (lv_at hl 2 rfl) ?_
      refine va_getN (D := D) (ci := 3) (v := .int (nI ((red S (S 0)).1))) (C := RX3) (T := TX3) (N := 5) hx hb hts hi_X6_reduce_X3 hown hK hP 10 rfl rfl 2 (by decide) (hN.fl (w := .fieldLinkNest RX6 90 "FallingWords$Reduction" "outcome" "I" "FallingWords") (by decide +kernel)) (fun _ h9 => h9) rfl dX6_reduce_68 ?_
      refine lv_iconst (v := nI 2) hx hb dX6_reduce_71 (by decide +kernel) ?_
      refine xc_ne (tgt := 78) hx hb dX6_reduce_72 (by decide) (by omega) (by omega) (fun c72 => ?_) (fun c72 => ?_)
      · have h0r : (red S (S 0)).1 = 0 := by omega
        have hch : ∀ i, i < (red S (S 0)).2.1 → chr S (xs S (S 0) i) < S 1 := fun i hi => (ch_lt hIR (z2 i hi).2 (z2 i hi).1).1
        refine lv_aload_n hx hb dX6_reduce_78 rfl (lv_at hl 2 rfl) ?_
        refine lv_aload_n hx hb dX6_reduce_79 rfl (lv_at hl 1 rfl) ?_
        refine va_get (D := D) (ci := 6) (v := .ref (B 1)) (C := RX6) (T := TX6) (N := 6) hx hb hts hi_X6_reduce_X6 hown hK hP 0 rfl rfl 0 (by decide) (hts (.fieldLink RX6 12 "FallingWords$State" "rules" "LFallingWords$Rules;") (by decide +kernel)) (fun _ h9 => h9) rfl dX6_reduce_80 ?_
        refine cv_VN (As := [.ref (B 1)]) (rest := []) h0 hK hN hP hD hS hA hl.1 (k_X3_countRules lY D cA Bd (fun i => B (i + 1)) WD'_53 RD'_53 (nI ((red S (S 0)).1)) rs'_53 ((red S (S 0)).2.1) S L R LL RL TM (S 0) (nI (S 1)) (hIR) (hr) (z1) (fun i hi => ⟨f2_53 i hi, hch i hi⟩)) [10, 11, 12, 1, 2, 3, 4, 5, 6] rfl (by decide) ⟨(va_cnB 1 hts gX6_reduce_X3_countRules_n94 rfl rfl rfl (hN (.methodLinkNest RX6 94 yX3_countRules "FallingWords") (by decide +kernel)) (hts (.initialized RX3) (by decide +kernel)) (by decide +kernel) ⟨Nat.le_of_ble_eq_true rfl, Nat.le_of_ble_eq_true rfl⟩), hts (.instanceMethod yX3_countRules) (by decide +kernel), hts (.selects RX3 yX3_countRules yX3_countRules) (by decide +kernel)⟩ (cl_recv (ci := 3) (q := (RX3, TX3, 5)) (q0 := 10) hP hK rfl rfl) rfl rfl (Nat.le_of_ble_eq_true rfl) dX6_reduce_83 ⟨Nat.zero_le _, Nat.zero_le _⟩ (fun wY H locs hwY hJ hS => ?_)
        obtain ⟨TM'_83, e2Y, fr_83⟩ := hwY
        have e3Y := e2Y.symm
        clear e2Y
        subst e3Y
        obtain ⟨hP, hD⟩ := hJ rfl
        have hP : va_P D vwCl (gSa cA B (nI (S 0)) (nI (S 2)) (nI (S 4)) (nI (S 5)) L R LL RL TM'_83 (nI (S 1)) WW NN (nI (S 3)) ++ gRd cA Bd WD'_53 RD'_53 (nI ((red S (S 0)).1)) (nI ((red S (S 0)).2.1)) rs'_53) H := hP
        have hD : va_D AY (gSa cA B (nI (S 0)) (nI (S 2)) (nI (S 4)) (nI (S 5)) L R LL RL TM'_83 (nI (S 1)) WW NN (nI (S 3)) ++ gRd cA Bd WD'_53 RD'_53 (nI ((red S (S 0)).1)) (nI ((red S (S 0)).2.1)) rs'_53) := hD
        refine lv_aload_n hx hb dX6_reduce_86 rfl (lv_at hl 1 rfl) ?_
        refine lv_dup hx hb dX6_reduce_87 rfl ?_
        refine va_get (D := D) (ci := 6) (v := .int (nI (S 5))) (C := RX6) (T := TX6) (N := 6) hx hb hts hi_X6_reduce_X6 hown hK hP 0 rfl rfl 5 (by decide) (hts (.fieldLink RX6 44 "FallingWords$State" "steps" "I") (by decide +kernel)) (fun _ h9 => h9) rfl dX6_reduce_88 ?_
        refine lv_aload_n hx hb dX6_reduce_91 rfl (lv_at hl 2 rfl) ?_
        refine va_getN (D := D) (ci := 3) (v := .int (nI ((red S (S 0)).2.1))) (C := RX3) (T := TX3) (N := 5) hx hb hts hi_X6_reduce_X3 hown hK hP 10 rfl rfl 3 (by decide) (hN.fl (w := .fieldLinkNest RX6 97 "FallingWords$Reduction" "steps" "I" "FallingWords") (by decide +kernel)) (fun _ h9 => h9) rfl dX6_reduce_92 ?_
        refine lv_iadd hx hb dX6_reduce_95 ?_
        refine xt (show (nI (S 5)) + (nI ((red S (S 0)).2.1)) = nI (S 5 + ((red S (S 0)).2.1)) from nI_add _ _) ?_
        refine va_put (D := D) (ci := 6) (v := .int (nI (S 5 + ((red S (S 0)).2.1)))) (ty := .int) (C := RX6) (T := TX6) (N := 6) hx hb hts hi_X6_reduce_X6 tyX6 tyX6_ok nmX6 hown hK hP hD hS 0 rfl rfl 5 (by decide) (hts (.fieldLink RX6 44 "FallingWords$State" "steps" "I") (by decide +kernel)) (fun _ h9 => h9) rfl (by decide +kernel) rfl rfl (Nat.le_of_ble_eq_true rfl) dX6_reduce_96 (fun H locs hP hD hS => ?_)
        have hP : va_P D vwCl (gSa cA B (nI (S 0)) (nI (S 2)) (nI (S 4)) (nI (S 5 + ((red S (S 0)).2.1))) L R LL RL TM'_83 (nI (S 1)) WW NN (nI (S 3)) ++ gRd cA Bd WD'_53 RD'_53 (nI ((red S (S 0)).1)) (nI ((red S (S 0)).2.1)) rs'_53) H := hP
        have hD : va_D AY (gSa cA B (nI (S 0)) (nI (S 2)) (nI (S 4)) (nI (S 5 + ((red S (S 0)).2.1))) L R LL RL TM'_83 (nI (S 1)) WW NN (nI (S 3)) ++ gRd cA Bd WD'_53 RD'_53 (nI ((red S (S 0)).1)) (nI ((red S (S 0)).2.1)) rs'_53) := hD
        refine lv_aload_n hx hb dX6_reduce_99 rfl (lv_at hl 1 rfl) ?_
        refine va_get (D := D) (ci := 6) (v := .ref (B 7)) (C := RX6) (T := TX6) (N := 6) hx hb hts hi_X6_reduce_X6 hown hK hP 0 rfl rfl 1 (by decide) (hts (.fieldLink RX6 21 "FallingWords$State" "store" "LFallingWords$Store;") (by decide +kernel)) (fun _ h9 => h9) rfl dX6_reduce_100 ?_
        refine lv_aload_n hx hb dX6_reduce_103 rfl (lv_at hl 1 rfl) ?_
        refine va_get (D := D) (ci := 6) (v := .int (nI (S 0))) (C := RX6) (T := TX6) (N := 6) hx hb hts hi_X6_reduce_X6 hown hK hP 0 rfl rfl 2 (by decide) (hts (.fieldLink RX6 27 "FallingWords$State" "word" "I") (by decide +kernel)) (fun _ h9 => h9) rfl dX6_reduce_104 ?_
        refine lv_aload_n hx hb dX6_reduce_107 rfl (lv_at hl 2 rfl) ?_
        refine ci_VN (As := []) (rest := [.int (nI (S 0)), .ref (B 7)]) h0 hK hN hP hD hS hA hl.1 (k_X3_last lY D cA Bd WD'_53 RD'_53 (nI ((red S (S 0)).1)) rs'_53 ((red S (S 0)).2.1) (xs S (S 0) (red S (S 0)).2.1) (z1) (f1_53 _ (Nat.le_refl _))) [10, 11, 12] rfl (by decide) ⟨(va_cnB 0 hts gX6_reduce_X3_last_n98 rfl rfl rfl (hN (.methodLinkNest RX6 98 yX3_last "FallingWords") (by decide +kernel)) (hts (.initialized RX3) (by decide +kernel)) (by decide +kernel) ⟨Nat.le_of_ble_eq_true rfl, Nat.le_of_ble_eq_true rfl⟩), hts (.instanceMethod yX3_last) (by decide +kernel), hts (.selects RX3 yX3_last yX3_last) (by decide +kernel)⟩ (cl_recv (ci := 3) (q := (RX3, TX3, 5)) (q0 := 10) hP hK rfl rfl) rfl rfl (Nat.le_of_ble_eq_true rfl) dX6_reduce_108 ⟨Nat.zero_le _, Nat.zero_le _⟩ (fun rY wY H locs hwY hJ hS => ?_)
        obtain ⟨e1Y, e2Y⟩ := hwY
        have e3Y := e1Y.symm
        clear e1Y
        subst e3Y
        have e3Y := e2Y.symm
        clear e2Y
        subst e3Y
        obtain ⟨hP, hD⟩ := hJ rfl
        have hP : va_P D vwCl (gSa cA B (nI (S 0)) (nI (S 2)) (nI (S 4)) (nI (S 5 + ((red S (S 0)).2.1))) L R LL RL TM'_83 (nI (S 1)) WW NN (nI (S 3)) ++ gRd cA Bd WD'_53 RD'_53 (nI ((red S (S 0)).1)) (nI ((red S (S 0)).2.1)) rs'_53) H := hP
        have hD : va_D AY (gSa cA B (nI (S 0)) (nI (S 2)) (nI (S 4)) (nI (S 5 + ((red S (S 0)).2.1))) L R LL RL TM'_83 (nI (S 1)) WW NN (nI (S 3)) ++ gRd cA Bd WD'_53 RD'_53 (nI ((red S (S 0)).1)) (nI ((red S (S 0)).2.1)) rs'_53) := hD
        refine cv_VN (As := [.int (nI (S 0)), .int (nI (xs S (S 0) (red S (S 0)).2.1))]) (rest := []) h0 hK hN hP hD hS hA hl.1 (k_X7_put lY D cA (fun i => B (i + 7)) S WW NN (S 0) (xs S (S 0) (red S (S 0)).2.1) (h8) (ho)) [7, 8, 9] rfl (by decide) ⟨(va_cnB 2 hts gX6_reduce_X7_put_n102 rfl rfl rfl (hN (.methodLinkNest RX6 102 yX7_put "FallingWords") (by decide +kernel)) (hts (.initialized RX7) (by decide +kernel)) (by decide +kernel) ⟨Nat.le_of_ble_eq_true rfl, Nat.le_of_ble_eq_true rfl⟩), hts (.instanceMethod yX7_put) (by decide +kernel), hts (.selects RX7 yX7_put yX7_put) (by decide +kernel)⟩ (cl_recv (ci := 7) (q := (RX7, TX7, 3)) (q0 := 7) hP hK rfl rfl) rfl rfl (Nat.le_of_ble_eq_true rfl) dX6_reduce_111 ⟨Nat.zero_le _, Nat.zero_le _⟩ (fun wY H locs hwY hJ hS => ?_)
        obtain ⟨WW'_111, NN'_111, e2Y, f1_111, f2_111⟩ := hwY
        have e3Y := e2Y.symm
        clear e2Y
        subst e3Y
        obtain ⟨hP, hD⟩ := hJ rfl
        have hP : va_P D vwCl (gSa cA B (nI (S 0)) (nI (S 2)) (nI (S 4)) (nI (S 5 + ((red S (S 0)).2.1))) L R LL RL TM'_83 (nI (S 1)) WW'_111 NN'_111 (nI (min (S 3 + 1) 8)) ++ gRd cA Bd WD'_53 RD'_53 (nI ((red S (S 0)).1)) (nI ((red S (S 0)).2.1)) rs'_53) H := hP
        have hD : va_D AY (gSa cA B (nI (S 0)) (nI (S 2)) (nI (S 4)) (nI (S 5 + ((red S (S 0)).2.1))) L R LL RL TM'_83 (nI (S 1)) WW'_111 NN'_111 (nI (min (S 3 + 1) 8)) ++ gRd cA Bd WD'_53 RD'_53 (nI ((red S (S 0)).1)) (nI ((red S (S 0)).2.1)) rs'_53) := hD
        refine lv_aload_n hx hb dX6_reduce_114 rfl (lv_at hl 1 rfl) ?_
        refine lv_aload_n hx hb dX6_reduce_115 rfl (lv_at hl 2 rfl) ?_
        refine ci_VN (As := []) (rest := [.ref (B 0)]) h0 hK hN hP hD hS hA hl.1 (k_X3_last lY D cA Bd WD'_53 RD'_53 (nI ((red S (S 0)).1)) rs'_53 ((red S (S 0)).2.1) (xs S (S 0) (red S (S 0)).2.1) (z1) (f1_53 _ (Nat.le_refl _))) [10, 11, 12] rfl (by decide) ⟨(va_cnB 0 hts gX6_reduce_X3_last_n98 rfl rfl rfl (hN (.methodLinkNest RX6 98 yX3_last "FallingWords") (by decide +kernel)) (hts (.initialized RX3) (by decide +kernel)) (by decide +kernel) ⟨Nat.le_of_ble_eq_true rfl, Nat.le_of_ble_eq_true rfl⟩), hts (.instanceMethod yX3_last) (by decide +kernel), hts (.selects RX3 yX3_last yX3_last) (by decide +kernel)⟩ (cl_recv (ci := 3) (q := (RX3, TX3, 5)) (q0 := 10) hP hK rfl rfl) rfl rfl (Nat.le_of_ble_eq_true rfl) dX6_reduce_116 ⟨Nat.zero_le _, Nat.zero_le _⟩ (fun rY wY H locs hwY hJ hS => ?_)
        obtain ⟨e1Y, e2Y⟩ := hwY
        have e3Y := e1Y.symm
        clear e1Y
        subst e3Y
        have e3Y := e2Y.symm
        clear e2Y
        subst e3Y
        obtain ⟨hP, hD⟩ := hJ rfl
        have hP : va_P D vwCl (gSa cA B (nI (S 0)) (nI (S 2)) (nI (S 4)) (nI (S 5 + ((red S (S 0)).2.1))) L R LL RL TM'_83 (nI (S 1)) WW'_111 NN'_111 (nI (min (S 3 + 1) 8)) ++ gRd cA Bd WD'_53 RD'_53 (nI ((red S (S 0)).1)) (nI ((red S (S 0)).2.1)) rs'_53) H := hP
        have hD : va_D AY (gSa cA B (nI (S 0)) (nI (S 2)) (nI (S 4)) (nI (S 5 + ((red S (S 0)).2.1))) L R LL RL TM'_83 (nI (S 1)) WW'_111 NN'_111 (nI (min (S 3 + 1) 8)) ++ gRd cA Bd WD'_53 RD'_53 (nI ((red S (S 0)).1)) (nI ((red S (S 0)).2.1)) rs'_53) := hD
        refine va_put (D := D) (ci := 6) (v := .int (nI (xs S (S 0) (red S (S 0)).2.1))) (ty := .int) (C := RX6) (T := TX6) (N := 6) hx hb hts hi_X6_reduce_X6 tyX6 tyX6_ok nmX6 hown hK hP hD hS 0 rfl rfl 2 (by decide) (hts (.fieldLink RX6 27 "FallingWords$State" "word" "I") (by decide +kernel)) (fun _ h9 => h9) rfl (by decide +kernel) rfl rfl (Nat.le_of_ble_eq_true rfl) dX6_reduce_119 (fun H locs hP hD hS => ?_)
        have hP : va_P D vwCl (gSa cA B (nI (xs S (S 0) (red S (S 0)).2.1)) (nI (S 2)) (nI (S 4)) (nI (S 5 + ((red S (S 0)).2.1))) L R LL RL TM'_83 (nI (S 1)) WW'_111 NN'_111 (nI (min (S 3 + 1) 8)) ++ gRd cA Bd WD'_53 RD'_53 (nI ((red S (S 0)).1)) (nI ((red S (S 0)).2.1)) rs'_53) H := hP
        have hD : va_D AY (gSa cA B (nI (xs S (S 0) (red S (S 0)).2.1)) (nI (S 2)) (nI (S 4)) (nI (S 5 + ((red S (S 0)).2.1))) L R LL RL TM'_83 (nI (S 1)) WW'_111 NN'_111 (nI (min (S 3 + 1) 8)) ++ gRd cA Bd WD'_53 RD'_53 (nI ((red S (S 0)).1)) (nI ((red S (S 0)).2.1)) rs'_53) := hD
        refine lv_aload_n hx hb dX6_reduce_122 rfl (lv_at hl 2 rfl) ?_
        refine va_getN (D := D) (ci := 3) (v := .int (nI ((red S (S 0)).2.1))) (C := RX3) (T := TX3) (N := 5) hx hb hts hi_X6_reduce_X3 hown hK hP 10 rfl rfl 3 (by decide) (hN.fl (w := .fieldLinkNest RX6 97 "FallingWords$Reduction" "steps" "I" "FallingWords") (by decide +kernel)) (fun _ h9 => h9) rfl dX6_reduce_123 ?_
        have hR : normR S = (nI (red S (S 0)).2.1, nmS S) := by unfold normR; rw [if_neg hin, if_pos h0r]
        have hu : ∀ j, j ≠ 0 → j ≠ 5 → (upN (upN (bmp S (S 0) (red S (S 0)).2.1) 5 (S 5 + (red S (S 0)).2.1)) 0 (xs S (S 0) (red S (S 0)).2.1)) j = bmp S (S 0) (red S (S 0)).2.1 j := fun j h1 h2 => by rw [upN_n h1, upN_n h2]
        have hb6 : ∀ j, j < 6 → bmp S (S 0) (red S (S 0)).2.1 j = S j := fun j hj => bmp_lo hj
        have hm : min ((upN (upN (bmp S (S 0) (red S (S 0)).2.1) 5 (S 5 + (red S (S 0)).2.1)) 0 (xs S (S 0) (red S (S 0)).2.1)) 3 + 1) 8 = min (S 3 + 1) 8 := by rw [hu 3 (by decide) (by decide), hb6 3 (by decide)]
        have ql : ∀ j, j < 36 → j ≠ 3 → nmS S j = (upN (upN (bmp S (S 0) (red S (S 0)).2.1) 5 (S 5 + (red S (S 0)).2.1)) 0 (xs S (S 0) (red S (S 0)).2.1)) j := fun j h1 h2 => by unfold nmS putS; rw [cfs_lo h1, upN_n h2]
        have q0 : nmS S 0 = xs S (S 0) (red S (S 0)).2.1 := by rw [ql 0 (by decide) (by decide), upN_s]
        have q1 : nmS S 1 = S 1 := by rw [ql 1 (by decide) (by decide), hu 1 (by decide) (by decide), hb6 1 (by decide)]
        have q2 : nmS S 2 = S 2 := by rw [ql 2 (by decide) (by decide), hu 2 (by decide) (by decide), hb6 2 (by decide)]
        have q3 : nmS S 3 = min (S 3 + 1) 8 := by unfold nmS putS; rw [cfs_lo (by decide), upN_s, hm]
        have q4 : nmS S 4 = S 4 := by rw [ql 4 (by decide) (by decide), hu 4 (by decide) (by decide), hb6 4 (by decide)]
        have q5 : nmS S 5 = S 5 + (red S (S 0)).2.1 := by rw [ql 5 (by decide) (by decide), upN_n (by decide), upN_s]
        exact hret _ _ _ _ _ _ dX6_reduce_126 ⟨L, R, LL, RL, TM'_83, WW'_111, NN'_111, WD'_53, RD'_53, (nI ((red S (S 0)).1)), (nI ((red S (S 0)).2.1)), rs'_53, by rw [hR], by rw [hR]; dsimp only; rw [q0, q1, q2, q3, q4, q5], by rw [hR]; exact rRu_to fr_83 (fun j h1 h2 => by dsimp only; rw [ql j (by omega) (by omega), hu j (by omega) (by omega)]) (by rw [hb6 1 (by decide)]; exact q1) (by rw [hb6 1 (by decide)]; exact h10), by rw [hR]; dsimp only; unfold nmS putS; rw [hm]; exact rSo_cfs ho f1_111 f2_111 (by omega) (fun j hj => by rw [upN_n (by omega), hu j (by omega) (by omega), bmp_hi (fun i hi => by have := hch i hi; omega) hj]) (Or.inr (by rw [upN_s]; omega)) (cfs_lo (by decide))⟩ hP hD hS
      · refine lv_ldc (v := (-1000003)) hx hb hown (hts (.constant RX6 93 (-1000003)) (by decide +kernel)) dX6_reduce_75 ?_
        have hR : normR S = ((-1000003), S) := by unfold normR; rw [if_neg hin, if_neg (by omega), if_neg c61]
        exact hret _ _ _ _ _ _ dX6_reduce_77 ⟨L, R, LL, RL, TM, WW, NN, WD'_53, RD'_53, (nI ((red S (S 0)).1)), (nI ((red S (S 0)).2.1)), rs'_53, by rw [hR], by rw [hR], by rw [hR]; exact hr, by rw [hR]; exact ho⟩ hP hD hS
    · refine lv_ldc (v := (-1000002)) hx hb hown (hts (.constant RX6 62 (-1000002)) (by decide +kernel)) dX6_reduce_64 ?_
      have hR : normR S = ((-1000002), S) := by unfold normR; rw [if_neg hin, if_neg (by omega), if_pos c61]
      exact hret _ _ _ _ _ _ dX6_reduce_66 ⟨L, R, LL, RL, TM, WW, NN, WD'_53, RD'_53, (nI ((red S (S 0)).1)), (nI ((red S (S 0)).2.1)), rs'_53, by rw [hR], by rw [hR], by rw [hR]; exact hr, by rw [hR]; exact ho⟩ hP hD hS
  · have hin : fs S (S 0) < S 3 := by
      rcases Nat.lt_or_ge (fs S (S 0)) (S 3) with q | q
      · exact q
      · exact absurd c13 (by rw [ixI, if_neg (by omega)]; decide)
    have hfs : S (36 + 2 * fs S (S 0)) = S 0 := of_decide_eq_true (ff_yes (fun k => decide (S (36 + 2 * k) = S 0)) (S 3) hin)
    have hl : lv_has ls 3 [(2, .int (nI (fs S (S 0)))), (0, .ref (B 0)), (1, .ref (Bd 0))] := Eq.mp (congrArg (fun zY : Int32 => lv_has ls 3 [(2, .int zY), (0, .ref (B 0)), (1, .ref (Bd 0))]) (show ixI S (S 0) = nI (fs S (S 0)) from if_pos hin)) hl
    refine lv_aload_n hx hb dX6_reduce_16 rfl (lv_at hl 1 rfl) ?_
    refine lv_aload_n hx hb dX6_reduce_17 rfl (lv_at hl 1 rfl) ?_
    refine va_get (D := D) (ci := 6) (v := .ref (B 7)) (C := RX6) (T := TX6) (N := 6) hx hb hts hi_X6_reduce_X6 hown hK hP 0 rfl rfl 1 (by decide) (hts (.fieldLink RX6 21 "FallingWords$State" "store" "LFallingWords$Store;") (by decide +kernel)) (fun _ h9 => h9) rfl dX6_reduce_18 ?_
    refine lv_iload_n hx hb dX6_reduce_21 rfl (lv_at hl 0 rfl) ?_
    refine ci_VN (As := [.int (nI (fs S (S 0)))]) (rest := [.ref (B 0)]) h0 hK hN hP hD hS hA hl.1 (k_X7_use lY D cA (fun i => B (i + 7)) S WW NN (fs S (S 0)) (h8) (ho) (hin)) [7, 8, 9] rfl (by decide) ⟨(va_cnB 1 hts gX6_reduce_X7_use_n81 rfl rfl rfl (hN (.methodLinkNest RX6 81 yX7_use "FallingWords") (by decide +kernel)) (hts (.initialized RX7) (by decide +kernel)) (by decide +kernel) ⟨Nat.le_of_ble_eq_true rfl, Nat.le_of_ble_eq_true rfl⟩), hts (.instanceMethod yX7_use) (by decide +kernel), hts (.selects RX7 yX7_use yX7_use) (by decide +kernel)⟩ (cl_recv (ci := 7) (q := (RX7, TX7, 3)) (q0 := 7) hP hK rfl rfl) rfl rfl (Nat.le_of_ble_eq_true rfl) dX6_reduce_22 ⟨Nat.zero_le _, Nat.zero_le _⟩ (fun rY wY H locs hwY hJ hS => ?_)
    obtain ⟨WW'_22, NN'_22, e1Y, e2Y, f1_22, f2_22⟩ := hwY
    have e3Y := e1Y.symm
    clear e1Y
    subst e3Y
    have e3Y := e2Y.symm
    clear e2Y
    subst e3Y
    obtain ⟨hP, hD⟩ := hJ rfl
    have hP : va_P D vwCl (gSa cA B (nI (S 0)) (nI (S 2)) (nI (S 4)) (nI (S 5)) L R LL RL TM (nI (S 1)) WW'_22 NN'_22 (nI (S 3)) ++ gRd cA Bd WD RD oc ns rs) H := hP
    have hD : va_D AY (gSa cA B (nI (S 0)) (nI (S 2)) (nI (S 4)) (nI (S 5)) L R LL RL TM (nI (S 1)) WW'_22 NN'_22 (nI (S 3)) ++ gRd cA Bd WD RD oc ns rs) := hD
    refine va_put (D := D) (ci := 6) (v := .int (nI (S (37 + 2 * (fs S (S 0)))))) (ty := .int) (C := RX6) (T := TX6) (N := 6) hx hb hts hi_X6_reduce_X6 tyX6 tyX6_ok nmX6 hown hK hP hD hS 0 rfl rfl 2 (by decide) (hts (.fieldLink RX6 27 "FallingWords$State" "word" "I") (by decide +kernel)) (fun _ h9 => h9) rfl (by decide +kernel) rfl rfl (Nat.le_of_ble_eq_true rfl) dX6_reduce_25 (fun H locs hP hD hS => ?_)
    have hP : va_P D vwCl (gSa cA B (nI (S (37 + 2 * (fs S (S 0))))) (nI (S 2)) (nI (S 4)) (nI (S 5)) L R LL RL TM (nI (S 1)) WW'_22 NN'_22 (nI (S 3)) ++ gRd cA Bd WD RD oc ns rs) H := hP
    have hD : va_D AY (gSa cA B (nI (S (37 + 2 * (fs S (S 0))))) (nI (S 2)) (nI (S 4)) (nI (S 5)) L R LL RL TM (nI (S 1)) WW'_22 NN'_22 (nI (S 3)) ++ gRd cA Bd WD RD oc ns rs) := hD
    refine lv_aload_n hx hb dX6_reduce_28 rfl (lv_at hl 1 rfl) ?_
    refine lv_dup hx hb dX6_reduce_29 rfl ?_
    refine va_get (D := D) (ci := 6) (v := .int (nI (S 4))) (C := RX6) (T := TX6) (N := 6) hx hb hts hi_X6_reduce_X6 hown hK hP 0 rfl rfl 4 (by decide) (hts (.fieldLink RX6 41 "FallingWords$State" "taken" "I") (by decide +kernel)) (fun _ h9 => h9) rfl dX6_reduce_30 ?_
    refine lv_iconst (v := nI 1) hx hb dX6_reduce_33 (by decide +kernel) ?_
    refine lv_iadd hx hb dX6_reduce_34 ?_
    refine xt (show (nI (S 4)) + (nI 1) = nI (S 4 + 1) from nI_add _ _) ?_
    refine va_put (D := D) (ci := 6) (v := .int (nI (S 4 + 1))) (ty := .int) (C := RX6) (T := TX6) (N := 6) hx hb hts hi_X6_reduce_X6 tyX6 tyX6_ok nmX6 hown hK hP hD hS 0 rfl rfl 4 (by decide) (hts (.fieldLink RX6 41 "FallingWords$State" "taken" "I") (by decide +kernel)) (fun _ h9 => h9) rfl (by decide +kernel) rfl rfl (Nat.le_of_ble_eq_true rfl) dX6_reduce_35 (fun H locs hP hD hS => ?_)
    have hP : va_P D vwCl (gSa cA B (nI (S (37 + 2 * (fs S (S 0))))) (nI (S 2)) (nI (S 4 + 1)) (nI (S 5)) L R LL RL TM (nI (S 1)) WW'_22 NN'_22 (nI (S 3)) ++ gRd cA Bd WD RD oc ns rs) H := hP
    have hD : va_D AY (gSa cA B (nI (S (37 + 2 * (fs S (S 0))))) (nI (S 2)) (nI (S 4 + 1)) (nI (S 5)) L R LL RL TM (nI (S 1)) WW'_22 NN'_22 (nI (S 3)) ++ gRd cA Bd WD RD oc ns rs) := hD
    refine lv_iconst (v := nI 0) hx hb dX6_reduce_38 (by decide +kernel) ?_
    have hR : normR S = (0, tkS S (fs S (S 0))) := if_pos hin
    have q0 : (tkS S (fs S (S 0))) 0 = S (37 + 2 * fs S (S 0)) := by unfold tkS cfs upN; (try dsimp only); repeat first | rw [if_pos (by omega)] | rw [if_neg (by omega)]
    have q1 : (tkS S (fs S (S 0))) 1 = S 1 := by unfold tkS cfs upN; (try dsimp only); repeat first | rw [if_pos (by omega)] | rw [if_neg (by omega)]
    have q2 : (tkS S (fs S (S 0))) 2 = S 2 := by unfold tkS cfs upN; (try dsimp only); repeat first | rw [if_pos (by omega)] | rw [if_neg (by omega)]
    have q3 : (tkS S (fs S (S 0))) 3 = S 3 := by unfold tkS cfs upN; (try dsimp only); repeat first | rw [if_pos (by omega)] | rw [if_neg (by omega)]
    have q4 : (tkS S (fs S (S 0))) 4 = S 4 + 1 := by unfold tkS cfs upN; (try dsimp only); repeat first | rw [if_pos (by omega)] | rw [if_neg (by omega)]
    have q5 : (tkS S (fs S (S 0))) 5 = S 5 := by unfold tkS cfs upN; (try dsimp only); repeat first | rw [if_pos (by omega)] | rw [if_neg (by omega)]
    rw [hfs] at f1_22
    exact hret _ _ _ _ _ _ dX6_reduce_39 ⟨L, R, LL, RL, TM, WW'_22, NN'_22, WD, RD, oc, ns, rs, by rw [hR]; rfl, by rw [hR]; dsimp only; rw [q0, q1, q2, q3, q4, q5], by rw [hR]; exact rRu_to hr (fun j h1 h2 => by unfold tkS; dsimp only; rw [upN_n (by omega), upN_n (by omega), cfs_lo (by omega)]) q1 h10, by rw [hR]; exact rSo_to (rSo_cfs ho f1_22 f2_22 (by omega) (fun _ _ => rfl) (Or.inl (Nat.le_refl _)) (cfs_lo (by decide))) (fun j h1 => by unfold tkS; dsimp only; rw [upN_n (by omega), upN_n (by omega)]) (by rw [cfs_lo (by decide)]; exact q3)⟩ hP hD hS
