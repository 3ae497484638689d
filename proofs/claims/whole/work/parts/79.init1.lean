abbrev gNX4 (cA : Nat → ClassId) (B : Nat → Nat) (v0 : Value) (v1 : Value) (v2 : Value) (v3 : Value) (v4 : Value) (z5 : Int32) : va_W := [(B 0, .inr (4, [v0, v1, v2, v3, v4, .int z5]))]
abbrev gNX7 (cA : Nat → ClassId) (B : Nat → Nat) (v0 : Value) (v1 : Value) (z2 : Int32) : va_W := [(B 0, .inr (7, [v0, v1, .int z2]))]
abbrev gNX6 (cA : Nat → ClassId) (B : Nat → Nat) (v0 : Value) (v1 : Value) (z2 : Int32) (z3 : Int32) (z4 : Int32) (z5 : Int32) : va_W := [(B 0, .inr (6, [v0, v1, .int z2, .int z3, .int z4, .int z5]))]
abbrev gNX3 (cA : Nat → ClassId) (B : Nat → Nat) (v0 : Value) (v1 : Value) (z2 : Int32) (z3 : Int32) (z4 : Int32) : va_W := [(B 0, .inr (3, [v0, v1, .int z2, .int z3, .int z4]))]
abbrev gNX2 (cA : Nat → ClassId) (B : Nat → Nat) (v0 : Value) (v1 : Value) (z2 : Int32) (z3 : Int32) (z4 : Int32) (z5 : Int32) (z6 : Int32) : va_W := [(B 0, .inr (2, [v0, v1, .int z2, .int z3, .int z4, .int z5, .int z6]))]
abbrev gNX1 (cA : Nat → ClassId) (B : Nat → Nat) (z0 : Int32) (z1 : Int32) (z2 : Int32) (z3 : Int32) (z4 : Int32) (z5 : Int32) : va_W := [(B 0, .inr (1, [.int z0, .int z1, .int z2, .int z3, .int z4, .int z5]))]
abbrev gNX8 (cA : Nat → ClassId) (B : Nat → Nat) (v0 : Value) (z1 : Int32) (z2 : Int32) (z3 : Int32) (z4 : Int32) (z5 : Int32) (z6 : Int32) : va_W := [(B 0, .inr (8, [v0, .int z1, .int z2, .int z3, .int z4, .int z5, .int z6]))]
abbrev gNX5 (cA : Nat → ClassId) (B : Nat → Nat) (z0 : Int32) (z1 : Int32) (z2 : Int32) (z3 : Int32) : va_W := [(B 0, .inr (5, [.int z0, .int z1, .int z2, .int z3]))]
abbrev gAi10 (cA : Nat → ClassId) (B : Nat → Nat) (F : Nat → Int32) : va_W := [(B 0, .inl (cA 0, 10, .inl F))]
abbrev gAi8 (cA : Nat → ClassId) (B : Nat → Nat) (F : Nat → Int32) : va_W := [(B 0, .inl (cA 0, 8, .inl F))]
abbrev gAi101 (cA : Nat → ClassId) (B : Nat → Nat) (F : Nat → Int32) : va_W := [(B 0, .inl (cA 0, 101, .inl F))]
abbrev gAi100 (cA : Nat → ClassId) (B : Nat → Nat) (F : Nat → Int32) : va_W := [(B 0, .inl (cA 0, 100, .inl F))]
abbrev gAi400 (cA : Nat → ClassId) (B : Nat → Nat) (F : Nat → Int32) : va_W := [(B 0, .inl (cA 0, 400, .inl F))]
abbrev gAi1024 (cA : Nat → ClassId) (B : Nat → Nat) (F : Nat → Int32) : va_W := [(B 0, .inl (cA 0, 1024, .inl F))]
abbrev gAc80 (cA : Nat → ClassId) (B : Nat → Nat) (F : Nat → Int32) : va_W := [(B 0, .inl (cA 1, 80, .inl F))]
theorem hi_X4_init_X4 : ∀ w ∈ u_ws RX4 TX4 6, w ∈ wsX4_init := by decide +kernel
set_option maxHeartbeats 1000000 in
set_option maxRecDepth 100000 in
theorem k_X4_init (lY : Launch) (D : va_G) (cA : Nat → ClassId) (q : Nat)  : MetV lY D cA yX4_init wsX4_init 1 12 5 50 [.ref q] (gNX4 cA (fun _ => q) .null .null .null .null .null 0) (fun wY => ∃ (q1 : Nat) (q2 : Nat) (q3 : Nat) (q4 : Nat) (q5 : Nat), wY = gRu cA (bl [q, q1, q2, q3, q4, q5]) (fun _ => 0) (fun _ => 0) (fun _ => 0) (fun _ => 0) (fun _ => 0) 0) := by
  refine MetV.of (cc := cX4_init) (maxL := 1) (by decide) rfl (Nat.le_of_ble_eq_true rfl) ?_
  intro pY eY sY mY aY bY tY cY QY AY ls h0 hP hK hN hD hA hS hl hin hret
  obtain ⟨hx, hb, hml, hown, hts⟩ := id h0
  have hl : lv_has ls 1 [(0, .ref q)] := hl
  have hP : va_P D vwCl (gNX4 cA (fun _ => q) .null .null .null .null .null 0) sY.heap := hP
  have hD : va_D AY (gNX4 cA (fun _ => q) .null .null .null .null .null 0) := hD
  refine lv_aload_n hx hb dX4_init_0 rfl (lv_at hl 0 rfl) ?_
  refine W.objInit hx hb hown (hts (.methodLink RX4 3 objectInit) (by decide +kernel)) (hts (.instanceMethod objectInit) (by decide +kernel)) (hts (.code objectInit ⟨#[0xb1]⟩ 1 none) (by decide +kernel)) rfl (by rw [hml]; exact hl.1) rfl dX4_init_1 (Nat.le_of_ble_eq_true rfl) (Nat.le_of_ble_eq_true rfl) ?_
  refine W.eq (g2 := F0 mY 4 ls []) rfl ?_
  refine lv_aload_n hx hb dX4_init_4 rfl (lv_at hl 0 rfl) ?_
  refine lv_bipush (v := nI 10) hx hb dX4_init_5 (by decide +kernel) ?_
  refine xn_i (n := 10) hx hb (hts (.arrayClass .int) (by decide +kernel)) hK hP hD hS hA (by decide) (Nat.le_of_ble_eq_true rfl) (Nat.le_of_ble_eq_true rfl) dX4_init_7 (fun q7 H hP hD hS => ?_)
  have hP : va_P D vwCl (gNX4 cA (fun _ => q) .null .null .null .null .null 0 ++ gAi10 cA (fun _ => q7) (fun _ => 0)) H := hP
  have hD : va_D AY (gNX4 cA (fun _ => q) .null .null .null .null .null 0 ++ gAi10 cA (fun _ => q7) (fun _ => 0)) := hD
  refine va_putF (D := D) (ci := 4) (v := .ref q7) (ty := .array .int) (C := RX4) (T := TX4) (N := 6) hx hb hts hi_X4_init_X4 tyX4 tyX4_ok nmX4 hown hK hP hD hS 0 rfl rfl 0 (by decide) (hts (.fieldLink RX4 9 "FallingWords$Rules" "left" "[I") (by decide +kernel)) (fun _ h9 => h9) rfl hin rfl (by decide +kernel) rfl rfl (Nat.le_of_ble_eq_true rfl) dX4_init_9 (fun H locs hP hD hS => ?_)
  have hP : va_P D vwCl (gNX4 cA (fun _ => q) (.ref q7) .null .null .null .null 0 ++ gAi10 cA (fun _ => q7) (fun _ => 0)) H := hP
  have hD : va_D AY (gNX4 cA (fun _ => q) (.ref q7) .null .null .null .null 0 ++ gAi10 cA (fun _ => q7) (fun _ => 0)) := hD
  refine lv_aload_n hx hb dX4_init_12 rfl (lv_at hl 0 rfl) ?_
  refine lv_bipush (v := nI 10) hx hb dX4_init_13 (by decide +kernel) ?_
  refine xn_i (n := 10) hx hb (hts (.arrayClass .int) (by decide +kernel)) hK hP hD hS hA (by decide) (Nat.le_of_ble_eq_true rfl) (Nat.le_of_ble_eq_true rfl) dX4_init_15 (fun q15 H hP hD hS => ?_)
  have hP : va_P D vwCl (gNX4 cA (fun _ => q) (.ref q7) .null .null .null .null 0 ++ gAi10 cA (fun _ => q7) (fun _ => 0) ++ gAi10 cA (fun _ => q15) (fun _ => 0)) H := hP
  have hD : va_D AY (gNX4 cA (fun _ => q) (.ref q7) .null .null .null .null 0 ++ gAi10 cA (fun _ => q7) (fun _ => 0) ++ gAi10 cA (fun _ => q15) (fun _ => 0)) := hD
  refine va_putF (D := D) (ci := 4) (v := .ref q15) (ty := .array .int) (C := RX4) (T := TX4) (N := 6) hx hb hts hi_X4_init_X4 tyX4 tyX4_ok nmX4 hown hK hP hD hS 0 rfl rfl 1 (by decide) (hts (.fieldLink RX4 15 "FallingWords$Rules" "right" "[I") (by decide +kernel)) (fun _ h9 => h9) rfl hin rfl (by decide +kernel) rfl rfl (Nat.le_of_ble_eq_true rfl) dX4_init_17 (fun H locs hP hD hS => ?_)
  have hP : va_P D vwCl (gNX4 cA (fun _ => q) (.ref q7) (.ref q15) .null .null .null 0 ++ gAi10 cA (fun _ => q7) (fun _ => 0) ++ gAi10 cA (fun _ => q15) (fun _ => 0)) H := hP
  have hD : va_D AY (gNX4 cA (fun _ => q) (.ref q7) (.ref q15) .null .null .null 0 ++ gAi10 cA (fun _ => q7) (fun _ => 0) ++ gAi10 cA (fun _ => q15) (fun _ => 0)) := hD
  refine lv_aload_n hx hb dX4_init_20 rfl (lv_at hl 0 rfl) ?_
  refine lv_bipush (v := nI 10) hx hb dX4_init_21 (by decide +kernel) ?_
  refine xn_i (n := 10) hx hb (hts (.arrayClass .int) (by decide +kernel)) hK hP hD hS hA (by decide) (Nat.le_of_ble_eq_true rfl) (Nat.le_of_ble_eq_true rfl) dX4_init_23 (fun q23 H hP hD hS => ?_)
  have hP : va_P D vwCl (gNX4 cA (fun _ => q) (.ref q7) (.ref q15) .null .null .null 0 ++ gAi10 cA (fun _ => q7) (fun _ => 0) ++ gAi10 cA (fun _ => q15) (fun _ => 0) ++ gAi10 cA (fun _ => q23) (fun _ => 0)) H := hP
  have hD : va_D AY (gNX4 cA (fun _ => q) (.ref q7) (.ref q15) .null .null .null 0 ++ gAi10 cA (fun _ => q7) (fun _ => 0) ++ gAi10 cA (fun _ => q15) (fun _ => 0) ++ gAi10 cA (fun _ => q23) (fun _ => 0)) := hD
  refine va_putF (D := D) (ci := 4) (v := .ref q23) (ty := .array .int) (C := RX4) (T := TX4) (N := 6) hx hb hts hi_X4_init_X4 tyX4 tyX4_ok nmX4 hown hK hP hD hS 0 rfl rfl 2 (by decide) (hts (.fieldLink RX4 18 "FallingWords$Rules" "leftLength" "[I") (by decide +kernel)) (fun _ h9 => h9) rfl hin rfl (by decide +kernel) rfl rfl (Nat.le_of_ble_eq_true rfl) dX4_init_25 (fun H locs hP hD hS => ?_)
  have hP : va_P D vwCl (gNX4 cA (fun _ => q) (.ref q7) (.ref q15) (.ref q23) .null .null 0 ++ gAi10 cA (fun _ => q7) (fun _ => 0) ++ gAi10 cA (fun _ => q15) (fun _ => 0) ++ gAi10 cA (fun _ => q23) (fun _ => 0)) H := hP
  have hD : va_D AY (gNX4 cA (fun _ => q) (.ref q7) (.ref q15) (.ref q23) .null .null 0 ++ gAi10 cA (fun _ => q7) (fun _ => 0) ++ gAi10 cA (fun _ => q15) (fun _ => 0) ++ gAi10 cA (fun _ => q23) (fun _ => 0)) := hD
  refine lv_aload_n hx hb dX4_init_28 rfl (lv_at hl 0 rfl) ?_
  refine lv_bipush (v := nI 10) hx hb dX4_init_29 (by decide +kernel) ?_
  refine xn_i (n := 10) hx hb (hts (.arrayClass .int) (by decide +kernel)) hK hP hD hS hA (by decide) (Nat.le_of_ble_eq_true rfl) (Nat.le_of_ble_eq_true rfl) dX4_init_31 (fun q31 H hP hD hS => ?_)
  have hP : va_P D vwCl (gNX4 cA (fun _ => q) (.ref q7) (.ref q15) (.ref q23) .null .null 0 ++ gAi10 cA (fun _ => q7) (fun _ => 0) ++ gAi10 cA (fun _ => q15) (fun _ => 0) ++ gAi10 cA (fun _ => q23) (fun _ => 0) ++ gAi10 cA (fun _ => q31) (fun _ => 0)) H := hP
  have hD : va_D AY (gNX4 cA (fun _ => q) (.ref q7) (.ref q15) (.ref q23) .null .null 0 ++ gAi10 cA (fun _ => q7) (fun _ => 0) ++ gAi10 cA (fun _ => q15) (fun _ => 0) ++ gAi10 cA (fun _ => q23) (fun _ => 0) ++ gAi10 cA (fun _ => q31) (fun _ => 0)) := hD
  refine va_putF (D := D) (ci := 4) (v := .ref q31) (ty := .array .int) (C := RX4) (T := TX4) (N := 6) hx hb hts hi_X4_init_X4 tyX4 tyX4_ok nmX4 hown hK hP hD hS 0 rfl rfl 3 (by decide) (hts (.fieldLink RX4 21 "FallingWords$Rules" "rightLength" "[I") (by decide +kernel)) (fun _ h9 => h9) rfl hin rfl (by decide +kernel) rfl rfl (Nat.le_of_ble_eq_true rfl) dX4_init_33 (fun H locs hP hD hS => ?_)
  have hP : va_P D vwCl (gNX4 cA (fun _ => q) (.ref q7) (.ref q15) (.ref q23) (.ref q31) .null 0 ++ gAi10 cA (fun _ => q7) (fun _ => 0) ++ gAi10 cA (fun _ => q15) (fun _ => 0) ++ gAi10 cA (fun _ => q23) (fun _ => 0) ++ gAi10 cA (fun _ => q31) (fun _ => 0)) H := hP
  have hD : va_D AY (gNX4 cA (fun _ => q) (.ref q7) (.ref q15) (.ref q23) (.ref q31) .null 0 ++ gAi10 cA (fun _ => q7) (fun _ => 0) ++ gAi10 cA (fun _ => q15) (fun _ => 0) ++ gAi10 cA (fun _ => q23) (fun _ => 0) ++ gAi10 cA (fun _ => q31) (fun _ => 0)) := hD
  refine lv_aload_n hx hb dX4_init_36 rfl (lv_at hl 0 rfl) ?_
  refine lv_bipush (v := nI 10) hx hb dX4_init_37 (by decide +kernel) ?_
  refine xn_i (n := 10) hx hb (hts (.arrayClass .int) (by decide +kernel)) hK hP hD hS hA (by decide) (Nat.le_of_ble_eq_true rfl) (Nat.le_of_ble_eq_true rfl) dX4_init_39 (fun q39 H hP hD hS => ?_)
  have hP : va_P D vwCl (gNX4 cA (fun _ => q) (.ref q7) (.ref q15) (.ref q23) (.ref q31) .null 0 ++ gAi10 cA (fun _ => q7) (fun _ => 0) ++ gAi10 cA (fun _ => q15) (fun _ => 0) ++ gAi10 cA (fun _ => q23) (fun _ => 0) ++ gAi10 cA (fun _ => q31) (fun _ => 0) ++ gAi10 cA (fun _ => q39) (fun _ => 0)) H := hP
  have hD : va_D AY (gNX4 cA (fun _ => q) (.ref q7) (.ref q15) (.ref q23) (.ref q31) .null 0 ++ gAi10 cA (fun _ => q7) (fun _ => 0) ++ gAi10 cA (fun _ => q15) (fun _ => 0) ++ gAi10 cA (fun _ => q23) (fun _ => 0) ++ gAi10 cA (fun _ => q31) (fun _ => 0) ++ gAi10 cA (fun _ => q39) (fun _ => 0)) := hD
  refine va_putF (D := D) (ci := 4) (v := .ref q39) (ty := .array .int) (C := RX4) (T := TX4) (N := 6) hx hb hts hi_X4_init_X4 tyX4 tyX4_ok nmX4 hown hK hP hD hS 0 rfl rfl 4 (by decide) (hts (.fieldLink RX4 24 "FallingWords$Rules" "times" "[I") (by decide +kernel)) (fun _ h9 => h9) rfl hin rfl (by decide +kernel) rfl rfl (Nat.le_of_ble_eq_true rfl) dX4_init_41 (fun H locs hP hD hS => ?_)
  have hP : va_P D vwCl (gNX4 cA (fun _ => q) (.ref q7) (.ref q15) (.ref q23) (.ref q31) (.ref q39) 0 ++ gAi10 cA (fun _ => q7) (fun _ => 0) ++ gAi10 cA (fun _ => q15) (fun _ => 0) ++ gAi10 cA (fun _ => q23) (fun _ => 0) ++ gAi10 cA (fun _ => q31) (fun _ => 0) ++ gAi10 cA (fun _ => q39) (fun _ => 0)) H := hP
  have hD : va_D AY (gNX4 cA (fun _ => q) (.ref q7) (.ref q15) (.ref q23) (.ref q31) (.ref q39) 0 ++ gAi10 cA (fun _ => q7) (fun _ => 0) ++ gAi10 cA (fun _ => q15) (fun _ => 0) ++ gAi10 cA (fun _ => q23) (fun _ => 0) ++ gAi10 cA (fun _ => q31) (fun _ => 0) ++ gAi10 cA (fun _ => q39) (fun _ => 0)) := hD
  exact hret _ _ _ _ _ dX4_init_44 ⟨q7, q15, q23, q31, q39, rfl⟩ hP hD hS

theorem hi_X7_init_X7 : ∀ w ∈ u_ws RX7 TX7 3, w ∈ wsX7_init := by decide +kernel
set_option maxHeartbeats 1000000 in
set_option maxRecDepth 100000 in
theorem k_X7_init (lY : Launch) (D : va_G) (cA : Nat → ClassId) (q : Nat)  : MetV lY D cA yX7_init wsX7_init 1 12 2 16 [.ref q] (gNX7 cA (fun _ => q) .null .null 0) (fun wY => ∃ (q1 : Nat) (q2 : Nat), wY = gSo cA (bl [q, q1, q2]) (fun _ => 0) (fun _ => 0) 0) := by
  refine MetV.of (cc := cX7_init) (maxL := 1) (by decide) rfl (Nat.le_of_ble_eq_true rfl) ?_
  intro pY eY sY mY aY bY tY cY QY AY ls h0 hP hK hN hD hA hS hl hin hret
  obtain ⟨hx, hb, hml, hown, hts⟩ := id h0
  have hl : lv_has ls 1 [(0, .ref q)] := hl
  have hP : va_P D vwCl (gNX7 cA (fun _ => q) .null .null 0) sY.heap := hP
  have hD : va_D AY (gNX7 cA (fun _ => q) .null .null 0) := hD
  refine lv_aload_n hx hb dX7_init_0 rfl (lv_at hl 0 rfl) ?_
  refine W.objInit hx hb hown (hts (.methodLink RX7 3 objectInit) (by decide +kernel)) (hts (.instanceMethod objectInit) (by decide +kernel)) (hts (.code objectInit ⟨#[0xb1]⟩ 1 none) (by decide +kernel)) rfl (by rw [hml]; exact hl.1) rfl dX7_init_1 (Nat.le_of_ble_eq_true rfl) (Nat.le_of_ble_eq_true rfl) ?_
  refine W.eq (g2 := F0 mY 4 ls []) rfl ?_
  refine lv_aload_n hx hb dX7_init_4 rfl (lv_at hl 0 rfl) ?_
  refine lv_bipush (v := nI 8) hx hb dX7_init_5 (by decide +kernel) ?_
  refine xn_i (n := 8) hx hb (hts (.arrayClass .int) (by decide +kernel)) hK hP hD hS hA (by decide) (Nat.le_of_ble_eq_true rfl) (Nat.le_of_ble_eq_true rfl) dX7_init_7 (fun q7 H hP hD hS => ?_)
  have hP : va_P D vwCl (gNX7 cA (fun _ => q) .null .null 0 ++ gAi8 cA (fun _ => q7) (fun _ => 0)) H := hP
  have hD : va_D AY (gNX7 cA (fun _ => q) .null .null 0 ++ gAi8 cA (fun _ => q7) (fun _ => 0)) := hD
  refine va_putF (D := D) (ci := 7) (v := .ref q7) (ty := .array .int) (C := RX7) (T := TX7) (N := 3) hx hb hts hi_X7_init_X7 tyX7 tyX7_ok nmX7 hown hK hP hD hS 0 rfl rfl 0 (by decide) (hts (.fieldLink RX7 9 "FallingWords$Store" "words" "[I") (by decide +kernel)) (fun _ h9 => h9) rfl hin rfl (by decide +kernel) rfl rfl (Nat.le_of_ble_eq_true rfl) dX7_init_9 (fun H locs hP hD hS => ?_)
  have hP : va_P D vwCl (gNX7 cA (fun _ => q) (.ref q7) .null 0 ++ gAi8 cA (fun _ => q7) (fun _ => 0)) H := hP
  have hD : va_D AY (gNX7 cA (fun _ => q) (.ref q7) .null 0 ++ gAi8 cA (fun _ => q7) (fun _ => 0)) := hD
  refine lv_aload_n hx hb dX7_init_12 rfl (lv_at hl 0 rfl) ?_
  refine lv_bipush (v := nI 8) hx hb dX7_init_13 (by decide +kernel) ?_
  refine xn_i (n := 8) hx hb (hts (.arrayClass .int) (by decide +kernel)) hK hP hD hS hA (by decide) (Nat.le_of_ble_eq_true rfl) (Nat.le_of_ble_eq_true rfl) dX7_init_15 (fun q15 H hP hD hS => ?_)
  have hP : va_P D vwCl (gNX7 cA (fun _ => q) (.ref q7) .null 0 ++ gAi8 cA (fun _ => q7) (fun _ => 0) ++ gAi8 cA (fun _ => q15) (fun _ => 0)) H := hP
  have hD : va_D AY (gNX7 cA (fun _ => q) (.ref q7) .null 0 ++ gAi8 cA (fun _ => q7) (fun _ => 0) ++ gAi8 cA (fun _ => q15) (fun _ => 0)) := hD
  refine va_putF (D := D) (ci := 7) (v := .ref q15) (ty := .array .int) (C := RX7) (T := TX7) (N := 3) hx hb hts hi_X7_init_X7 tyX7 tyX7_ok nmX7 hown hK hP hD hS 0 rfl rfl 1 (by decide) (hts (.fieldLink RX7 15 "FallingWords$Store" "normals" "[I") (by decide +kernel)) (fun _ h9 => h9) rfl hin rfl (by decide +kernel) rfl rfl (Nat.le_of_ble_eq_true rfl) dX7_init_17 (fun H locs hP hD hS => ?_)
  have hP : va_P D vwCl (gNX7 cA (fun _ => q) (.ref q7) (.ref q15) 0 ++ gAi8 cA (fun _ => q7) (fun _ => 0) ++ gAi8 cA (fun _ => q15) (fun _ => 0)) H := hP
  have hD : va_D AY (gNX7 cA (fun _ => q) (.ref q7) (.ref q15) 0 ++ gAi8 cA (fun _ => q7) (fun _ => 0) ++ gAi8 cA (fun _ => q15) (fun _ => 0)) := hD
  exact hret _ _ _ _ _ dX7_init_20 ⟨q7, q15, rfl⟩ hP hD hS

theorem hi_X6_init_X4 : ∀ w ∈ u_ws RX4 TX4 6, w ∈ wsX6_init := by decide +kernel
theorem hi_X6_init_X6 : ∀ w ∈ u_ws RX6 TX6 6, w ∈ wsX6_init := by decide +kernel
theorem hi_X6_init_X7 : ∀ w ∈ u_ws RX7 TX7 3, w ∈ wsX6_init := by decide +kernel
set_option maxHeartbeats 1000000 in
set_option maxRecDepth 100000 in
theorem k_X6_init (lY : Launch) (D : va_G) (cA : Nat → ClassId) (q : Nat)  : MetV lY D cA yX6_init wsX6_init 2 32 9 75 [.ref q] (gNX6 cA (fun _ => q) .null .null 0 0 0 0) (fun wY => ∃ (q1 : Nat) (q2 : Nat) (q3 : Nat) (q4 : Nat) (q5 : Nat) (q6 : Nat) (q7 : Nat) (q8 : Nat) (q9 : Nat), wY = gSa cA (bl [q, q1, q2, q3, q4, q5, q6, q7, q8, q9]) (nI 1) 0 0 0 (fun _ => 0) (fun _ => 0) (fun _ => 0) (fun _ => 0) (fun _ => 0) 0 (fun _ => 0) (fun _ => 0) 0) := by
  refine MetV.of (cc := cX6_init) (maxL := 1) (by decide) rfl (Nat.le_of_ble_eq_true rfl) ?_
  intro pY eY sY mY aY bY tY cY QY AY ls h0 hP hK hN hD hA hS hl hin hret
  obtain ⟨hx, hb, hml, hown, hts⟩ := id h0
  have hl : lv_has ls 1 [(0, .ref q)] := hl
  have hP : va_P D vwCl (gNX6 cA (fun _ => q) .null .null 0 0 0 0) sY.heap := hP
  have hD : va_D AY (gNX6 cA (fun _ => q) .null .null 0 0 0 0) := hD
  refine lv_aload_n hx hb dX6_init_0 rfl (lv_at hl 0 rfl) ?_
  refine W.objInit hx hb hown (hts (.methodLink RX6 3 objectInit) (by decide +kernel)) (hts (.instanceMethod objectInit) (by decide +kernel)) (hts (.code objectInit ⟨#[0xb1]⟩ 1 none) (by decide +kernel)) rfl (by rw [hml]; exact hl.1) rfl dX6_init_1 (Nat.le_of_ble_eq_true rfl) (Nat.le_of_ble_eq_true rfl) ?_
  refine W.eq (g2 := F0 mY 4 ls []) rfl ?_
  refine lv_aload_n hx hb dX6_init_4 rfl (lv_at hl 0 rfl) ?_
  refine va_new (ci := 4) (fs := [.null, .null, .null, .null, .null, .int 0]) (C := RX4) (T := TX4) (N := 6) hx hb hts hi_X6_init_X4 tyX4 tyX4_ok hown (hts (.classLink RX6 9 RX4) (by decide +kernel)) (hts (.instantiable RX4 6) (by decide +kernel)) (hts (.initialized RX4) (by decide +kernel)) hK hP hD hS hA rfl (by intro j hj; match j, hj with | 0, _ => rfl | 1, _ => rfl | 2, _ => rfl | 3, _ => rfl | 4, _ => rfl | 5, _ => rfl | j + 6, h => exact absurd h (by omega)) (Nat.le_of_ble_eq_true rfl) (Nat.le_of_ble_eq_true rfl) dX6_init_5 (fun q5 H hP hD hS => ?_)
  have hP : va_P D vwCl (gNX6 cA (fun _ => q) .null .null 0 0 0 0 ++ gNX4 cA (fun _ => q5) .null .null .null .null .null 0) H := hP
  have hD : va_D AY (gNX6 cA (fun _ => q) .null .null 0 0 0 0 ++ gNX4 cA (fun _ => q5) .null .null .null .null .null 0) := hD
  refine lv_dup hx hb dX6_init_8 rfl ?_
  refine cc_IN (As := []) (rest := [.ref q5, .ref q]) (wr := gNX6 cA (fun _ => q) .null .null 0 0 0 0) h0 hK hN hP hD hS hA hl.1 (k_X4_init lY D cA q5 ) [1] [0] rfl (by decide) rfl (by decide +kernel) (by decide +kernel) ⟨(va_cnB 0 hts gX6_init_X4_init_n11 rfl rfl rfl (hN (.methodLinkNest RX6 11 yX4_init "FallingWords") (by decide +kernel)) (hts (.initialized RX4) (by decide +kernel)) (by decide +kernel) ⟨Nat.le_of_ble_eq_true rfl, Nat.le_of_ble_eq_true rfl⟩), rfl, hts (.instanceMethod yX4_init) (by decide +kernel)⟩ rfl rfl (Nat.le_of_ble_eq_true rfl) dX6_init_9 ⟨Nat.le_of_ble_eq_true rfl, Nat.le_of_ble_eq_true rfl⟩ (fun wY H locs hwY hP hD hS => ?_)
  obtain ⟨q1_9, q2_9, q3_9, q4_9, q5_9, e2Y⟩ := hwY
  have e3Y := e2Y.symm
  clear e2Y
  subst e3Y
  have hP : va_P D vwCl (gNX6 cA (fun _ => q) .null .null 0 0 0 0 ++ gRu cA (bl [q5, q1_9, q2_9, q3_9, q4_9, q5_9]) (fun _ => 0) (fun _ => 0) (fun _ => 0) (fun _ => 0) (fun _ => 0) 0) H := hP
  have hD : va_D AY (gNX6 cA (fun _ => q) .null .null 0 0 0 0 ++ gRu cA (bl [q5, q1_9, q2_9, q3_9, q4_9, q5_9]) (fun _ => 0) (fun _ => 0) (fun _ => 0) (fun _ => 0) (fun _ => 0) 0) := hD
  refine va_putF (D := D) (ci := 6) (v := .ref q5) (ty := .object "FallingWords$Rules") (C := RX6) (T := TX6) (N := 6) hx hb hts hi_X6_init_X6 tyX6 tyX6_ok nmX6 hown hK hP hD hS 0 rfl rfl 0 (by decide) (hts (.fieldLink RX6 12 "FallingWords$State" "rules" "LFallingWords$Rules;") (by decide +kernel)) (fun _ h9 => h9) rfl hin rfl (by decide +kernel) rfl rfl (Nat.le_of_ble_eq_true rfl) dX6_init_12 (fun H locs hP hD hS => ?_)
  have hP : va_P D vwCl (gNX6 cA (fun _ => q) (.ref q5) .null 0 0 0 0 ++ gRu cA (bl [q5, q1_9, q2_9, q3_9, q4_9, q5_9]) (fun _ => 0) (fun _ => 0) (fun _ => 0) (fun _ => 0) (fun _ => 0) 0) H := hP
  have hD : va_D AY (gNX6 cA (fun _ => q) (.ref q5) .null 0 0 0 0 ++ gRu cA (bl [q5, q1_9, q2_9, q3_9, q4_9, q5_9]) (fun _ => 0) (fun _ => 0) (fun _ => 0) (fun _ => 0) (fun _ => 0) 0) := hD
  refine lv_aload_n hx hb dX6_init_15 rfl (lv_at hl 0 rfl) ?_
  refine va_new (ci := 7) (fs := [.null, .null, .int 0]) (C := RX7) (T := TX7) (N := 3) hx hb hts hi_X6_init_X7 tyX7 tyX7_ok hown (hts (.classLink RX6 18 RX7) (by decide +kernel)) (hts (.instantiable RX7 3) (by decide +kernel)) (hts (.initialized RX7) (by decide +kernel)) hK hP hD hS hA rfl (by intro j hj; match j, hj with | 0, _ => rfl | 1, _ => rfl | 2, _ => rfl | j + 3, h => exact absurd h (by omega)) (Nat.le_of_ble_eq_true rfl) (Nat.le_of_ble_eq_true rfl) dX6_init_16 (fun q16 H hP hD hS => ?_)
  have hP : va_P D vwCl (gNX6 cA (fun _ => q) (.ref q5) .null 0 0 0 0 ++ gRu cA (bl [q5, q1_9, q2_9, q3_9, q4_9, q5_9]) (fun _ => 0) (fun _ => 0) (fun _ => 0) (fun _ => 0) (fun _ => 0) 0 ++ gNX7 cA (fun _ => q16) .null .null 0) H := hP
  have hD : va_D AY (gNX6 cA (fun _ => q) (.ref q5) .null 0 0 0 0 ++ gRu cA (bl [q5, q1_9, q2_9, q3_9, q4_9, q5_9]) (fun _ => 0) (fun _ => 0) (fun _ => 0) (fun _ => 0) (fun _ => 0) 0 ++ gNX7 cA (fun _ => q16) .null .null 0) := hD
  refine lv_dup hx hb dX6_init_19 rfl ?_
  refine cc_IN (As := []) (rest := [.ref q16, .ref q]) (wr := gNX6 cA (fun _ => q) (.ref q5) .null 0 0 0 0 ++ gRu cA (bl [q5, q1_9, q2_9, q3_9, q4_9, q5_9]) (fun _ => 0) (fun _ => 0) (fun _ => 0) (fun _ => 0) (fun _ => 0) 0) h0 hK hN hP hD hS hA hl.1 (k_X7_init lY D cA q16 ) [7] [0, 1, 2, 3, 4, 5, 6] rfl (by decide) rfl (by decide +kernel) (by decide +kernel) ⟨(va_cnB 0 hts gX6_init_X7_init_n20 rfl rfl rfl (hN (.methodLinkNest RX6 20 yX7_init "FallingWords") (by decide +kernel)) (hts (.initialized RX7) (by decide +kernel)) (by decide +kernel) ⟨Nat.le_of_ble_eq_true rfl, Nat.le_of_ble_eq_true rfl⟩), rfl, hts (.instanceMethod yX7_init) (by decide +kernel)⟩ rfl rfl (Nat.le_of_ble_eq_true rfl) dX6_init_20 ⟨Nat.le_of_ble_eq_true rfl, Nat.le_of_ble_eq_true rfl⟩ (fun wY H locs hwY hP hD hS => ?_)
  obtain ⟨q1_20, q2_20, e2Y⟩ := hwY
  have e3Y := e2Y.symm
  clear e2Y
  subst e3Y
  have hP : va_P D vwCl (gNX6 cA (fun _ => q) (.ref q5) .null 0 0 0 0 ++ gRu cA (bl [q5, q1_9, q2_9, q3_9, q4_9, q5_9]) (fun _ => 0) (fun _ => 0) (fun _ => 0) (fun _ => 0) (fun _ => 0) 0 ++ gSo cA (bl [q16, q1_20, q2_20]) (fun _ => 0) (fun _ => 0) 0) H := hP
  have hD : va_D AY (gNX6 cA (fun _ => q) (.ref q5) .null 0 0 0 0 ++ gRu cA (bl [q5, q1_9, q2_9, q3_9, q4_9, q5_9]) (fun _ => 0) (fun _ => 0) (fun _ => 0) (fun _ => 0) (fun _ => 0) 0 ++ gSo cA (bl [q16, q1_20, q2_20]) (fun _ => 0) (fun _ => 0) 0) := hD
  refine va_putF (D := D) (ci := 6) (v := .ref q16) (ty := .object "FallingWords$Store") (C := RX6) (T := TX6) (N := 6) hx hb hts hi_X6_init_X6 tyX6 tyX6_ok nmX6 hown hK hP hD hS 0 rfl rfl 1 (by decide) (hts (.fieldLink RX6 21 "FallingWords$State" "store" "LFallingWords$Store;") (by decide +kernel)) (fun _ h9 => h9) rfl hin rfl (by decide +kernel) rfl rfl (Nat.le_of_ble_eq_true rfl) dX6_init_23 (fun H locs hP hD hS => ?_)
  have hP : va_P D vwCl (gNX6 cA (fun _ => q) (.ref q5) (.ref q16) 0 0 0 0 ++ gRu cA (bl [q5, q1_9, q2_9, q3_9, q4_9, q5_9]) (fun _ => 0) (fun _ => 0) (fun _ => 0) (fun _ => 0) (fun _ => 0) 0 ++ gSo cA (bl [q16, q1_20, q2_20]) (fun _ => 0) (fun _ => 0) 0) H := hP
  have hD : va_D AY (gNX6 cA (fun _ => q) (.ref q5) (.ref q16) 0 0 0 0 ++ gRu cA (bl [q5, q1_9, q2_9, q3_9, q4_9, q5_9]) (fun _ => 0) (fun _ => 0) (fun _ => 0) (fun _ => 0) (fun _ => 0) 0 ++ gSo cA (bl [q16, q1_20, q2_20]) (fun _ => 0) (fun _ => 0) 0) := hD
  refine lv_aload_n hx hb dX6_init_26 rfl (lv_at hl 0 rfl) ?_
  refine lv_iconst (v := nI 1) hx hb dX6_init_27 (by decide +kernel) ?_
  refine va_put (D := D) (ci := 6) (v := .int (nI 1)) (ty := .int) (C := RX6) (T := TX6) (N := 6) hx hb hts hi_X6_init_X6 tyX6 tyX6_ok nmX6 hown hK hP hD hS 0 rfl rfl 2 (by decide) (hts (.fieldLink RX6 27 "FallingWords$State" "word" "I") (by decide +kernel)) (fun _ h9 => h9) rfl (by decide +kernel) rfl rfl (Nat.le_of_ble_eq_true rfl) dX6_init_28 (fun H locs hP hD hS => ?_)
  have hP : va_P D vwCl (gNX6 cA (fun _ => q) (.ref q5) (.ref q16) (nI 1) 0 0 0 ++ gRu cA (bl [q5, q1_9, q2_9, q3_9, q4_9, q5_9]) (fun _ => 0) (fun _ => 0) (fun _ => 0) (fun _ => 0) (fun _ => 0) 0 ++ gSo cA (bl [q16, q1_20, q2_20]) (fun _ => 0) (fun _ => 0) 0) H := hP
  have hD : va_D AY (gNX6 cA (fun _ => q) (.ref q5) (.ref q16) (nI 1) 0 0 0 ++ gRu cA (bl [q5, q1_9, q2_9, q3_9, q4_9, q5_9]) (fun _ => 0) (fun _ => 0) (fun _ => 0) (fun _ => 0) (fun _ => 0) 0 ++ gSo cA (bl [q16, q1_20, q2_20]) (fun _ => 0) (fun _ => 0) 0) := hD
  refine lv_aload_n hx hb dX6_init_31 rfl (lv_at hl 0 rfl) ?_
  refine lv_iconst (v := nI 0) hx hb dX6_init_32 (by decide +kernel) ?_
  refine va_put (D := D) (ci := 6) (v := .int (nI 0)) (ty := .int) (C := RX6) (T := TX6) (N := 6) hx hb hts hi_X6_init_X6 tyX6 tyX6_ok nmX6 hown hK hP hD hS 0 rfl rfl 3 (by decide) (hts (.fieldLink RX6 31 "FallingWords$State" "choosing" "I") (by decide +kernel)) (fun _ h9 => h9) rfl (by decide +kernel) rfl rfl (Nat.le_of_ble_eq_true rfl) dX6_init_33 (fun H locs hP hD hS => ?_)
  have hP : va_P D vwCl (gNX6 cA (fun _ => q) (.ref q5) (.ref q16) (nI 1) (nI 0) 0 0 ++ gRu cA (bl [q5, q1_9, q2_9, q3_9, q4_9, q5_9]) (fun _ => 0) (fun _ => 0) (fun _ => 0) (fun _ => 0) (fun _ => 0) 0 ++ gSo cA (bl [q16, q1_20, q2_20]) (fun _ => 0) (fun _ => 0) 0) H := hP
  have hD : va_D AY (gNX6 cA (fun _ => q) (.ref q5) (.ref q16) (nI 1) (nI 0) 0 0 ++ gRu cA (bl [q5, q1_9, q2_9, q3_9, q4_9, q5_9]) (fun _ => 0) (fun _ => 0) (fun _ => 0) (fun _ => 0) (fun _ => 0) 0 ++ gSo cA (bl [q16, q1_20, q2_20]) (fun _ => 0) (fun _ => 0) 0) := hD
  exact hret _ _ _ _ _ dX6_init_36 ⟨q5, q1_9, q2_9, q3_9, q4_9, q5_9, q16, q1_20, q2_20, rfl⟩ hP hD hS

theorem hi_X3_init_X3 : ∀ w ∈ u_ws RX3 TX3 5, w ∈ wsX3_init := by decide +kernel
set_option maxHeartbeats 1000000 in
set_option maxRecDepth 100000 in
theorem k_X3_init (lY : Launch) (D : va_G) (cA : Nat → ClassId) (q : Nat)  : MetV lY D cA yX3_init wsX3_init 1 12 2 201 [.ref q] (gNX3 cA (fun _ => q) .null .null 0 0 0) (fun wY => ∃ (q1 : Nat) (q2 : Nat), wY = gRd cA (bl [q, q1, q2]) (fun _ => 0) (fun _ => 0) 0 0 0) := by
  refine MetV.of (cc := cX3_init) (maxL := 1) (by decide) rfl (Nat.le_of_ble_eq_true rfl) ?_
  intro pY eY sY mY aY bY tY cY QY AY ls h0 hP hK hN hD hA hS hl hin hret
  obtain ⟨hx, hb, hml, hown, hts⟩ := id h0
  have hl : lv_has ls 1 [(0, .ref q)] := hl
  have hP : va_P D vwCl (gNX3 cA (fun _ => q) .null .null 0 0 0) sY.heap := hP
  have hD : va_D AY (gNX3 cA (fun _ => q) .null .null 0 0 0) := hD
  refine lv_aload_n hx hb dX3_init_0 rfl (lv_at hl 0 rfl) ?_
  refine W.objInit hx hb hown (hts (.methodLink RX3 3 objectInit) (by decide +kernel)) (hts (.instanceMethod objectInit) (by decide +kernel)) (hts (.code objectInit ⟨#[0xb1]⟩ 1 none) (by decide +kernel)) rfl (by rw [hml]; exact hl.1) rfl dX3_init_1 (Nat.le_of_ble_eq_true rfl) (Nat.le_of_ble_eq_true rfl) ?_
  refine W.eq (g2 := F0 mY 4 ls []) rfl ?_
  refine lv_aload_n hx hb dX3_init_4 rfl (lv_at hl 0 rfl) ?_
  refine lv_bipush (v := nI 101) hx hb dX3_init_5 (by decide +kernel) ?_
  refine xn_i (n := 101) hx hb (hts (.arrayClass .int) (by decide +kernel)) hK hP hD hS hA (by decide) (Nat.le_of_ble_eq_true rfl) (Nat.le_of_ble_eq_true rfl) dX3_init_7 (fun q7 H hP hD hS => ?_)
  have hP : va_P D vwCl (gNX3 cA (fun _ => q) .null .null 0 0 0 ++ gAi101 cA (fun _ => q7) (fun _ => 0)) H := hP
  have hD : va_D AY (gNX3 cA (fun _ => q) .null .null 0 0 0 ++ gAi101 cA (fun _ => q7) (fun _ => 0)) := hD
  refine va_putF (D := D) (ci := 3) (v := .ref q7) (ty := .array .int) (C := RX3) (T := TX3) (N := 5) hx hb hts hi_X3_init_X3 tyX3 tyX3_ok nmX3 hown hK hP hD hS 0 rfl rfl 0 (by decide) (hts (.fieldLink RX3 9 "FallingWords$Reduction" "words" "[I") (by decide +kernel)) (fun _ h9 => h9) rfl hin rfl (by decide +kernel) rfl rfl (Nat.le_of_ble_eq_true rfl) dX3_init_9 (fun H locs hP hD hS => ?_)
  have hP : va_P D vwCl (gNX3 cA (fun _ => q) (.ref q7) .null 0 0 0 ++ gAi101 cA (fun _ => q7) (fun _ => 0)) H := hP
  have hD : va_D AY (gNX3 cA (fun _ => q) (.ref q7) .null 0 0 0 ++ gAi101 cA (fun _ => q7) (fun _ => 0)) := hD
  refine lv_aload_n hx hb dX3_init_12 rfl (lv_at hl 0 rfl) ?_
  refine lv_bipush (v := nI 100) hx hb dX3_init_13 (by decide +kernel) ?_
  refine xn_i (n := 100) hx hb (hts (.arrayClass .int) (by decide +kernel)) hK hP hD hS hA (by decide) (Nat.le_of_ble_eq_true rfl) (Nat.le_of_ble_eq_true rfl) dX3_init_15 (fun q15 H hP hD hS => ?_)
  have hP : va_P D vwCl (gNX3 cA (fun _ => q) (.ref q7) .null 0 0 0 ++ gAi101 cA (fun _ => q7) (fun _ => 0) ++ gAi100 cA (fun _ => q15) (fun _ => 0)) H := hP
  have hD : va_D AY (gNX3 cA (fun _ => q) (.ref q7) .null 0 0 0 ++ gAi101 cA (fun _ => q7) (fun _ => 0) ++ gAi100 cA (fun _ => q15) (fun _ => 0)) := hD
  refine va_putF (D := D) (ci := 3) (v := .ref q15) (ty := .array .int) (C := RX3) (T := TX3) (N := 5) hx hb hts hi_X3_init_X3 tyX3 tyX3_ok nmX3 hown hK hP hD hS 0 rfl rfl 1 (by decide) (hts (.fieldLink RX3 15 "FallingWords$Reduction" "rulesUsed" "[I") (by decide +kernel)) (fun _ h9 => h9) rfl hin rfl (by decide +kernel) rfl rfl (Nat.le_of_ble_eq_true rfl) dX3_init_17 (fun H locs hP hD hS => ?_)
  have hP : va_P D vwCl (gNX3 cA (fun _ => q) (.ref q7) (.ref q15) 0 0 0 ++ gAi101 cA (fun _ => q7) (fun _ => 0) ++ gAi100 cA (fun _ => q15) (fun _ => 0)) H := hP
  have hD : va_D AY (gNX3 cA (fun _ => q) (.ref q7) (.ref q15) 0 0 0 ++ gAi101 cA (fun _ => q7) (fun _ => 0) ++ gAi100 cA (fun _ => q15) (fun _ => 0)) := hD
  exact hret _ _ _ _ _ dX3_init_20 ⟨q7, q15, rfl⟩ hP hD hS

theorem hi_X2_init_X2 : ∀ w ∈ u_ws RX2 TX2 7, w ∈ wsX2_init := by decide +kernel
set_option maxHeartbeats 1000000 in
set_option maxRecDepth 100000 in
theorem k_X2_init (lY : Launch) (D : va_G) (cA : Nat → ClassId) (q : Nat)  : MetV lY D cA yX2_init wsX2_init 1 12 2 1424 [.ref q] (gNX2 cA (fun _ => q) .null .null 0 0 0 0 0) (fun wY => ∃ (q1 : Nat) (q2 : Nat), wY = gRe cA (bl [q, q1, q2]) (fun _ => 0) (fun _ => 0) 0 0 0 0 0) := by
  refine MetV.of (cc := cX2_init) (maxL := 1) (by decide) rfl (Nat.le_of_ble_eq_true rfl) ?_
  intro pY eY sY mY aY bY tY cY QY AY ls h0 hP hK hN hD hA hS hl hin hret
  obtain ⟨hx, hb, hml, hown, hts⟩ := id h0
  have hl : lv_has ls 1 [(0, .ref q)] := hl
  have hP : va_P D vwCl (gNX2 cA (fun _ => q) .null .null 0 0 0 0 0) sY.heap := hP
  have hD : va_D AY (gNX2 cA (fun _ => q) .null .null 0 0 0 0 0) := hD
  refine lv_aload_n hx hb dX2_init_0 rfl (lv_at hl 0 rfl) ?_
  refine W.objInit hx hb hown (hts (.methodLink RX2 3 objectInit) (by decide +kernel)) (hts (.instanceMethod objectInit) (by decide +kernel)) (hts (.code objectInit ⟨#[0xb1]⟩ 1 none) (by decide +kernel)) rfl (by rw [hml]; exact hl.1) rfl dX2_init_1 (Nat.le_of_ble_eq_true rfl) (Nat.le_of_ble_eq_true rfl) ?_
  refine W.eq (g2 := F0 mY 4 ls []) rfl ?_
  refine lv_aload_n hx hb dX2_init_4 rfl (lv_at hl 0 rfl) ?_
  refine lv_sipush (v := nI 400) hx hb dX2_init_5 (by decide +kernel) ?_
  refine xn_i (n := 400) hx hb (hts (.arrayClass .int) (by decide +kernel)) hK hP hD hS hA (by decide) (Nat.le_of_ble_eq_true rfl) (Nat.le_of_ble_eq_true rfl) dX2_init_8 (fun q8 H hP hD hS => ?_)
  have hP : va_P D vwCl (gNX2 cA (fun _ => q) .null .null 0 0 0 0 0 ++ gAi400 cA (fun _ => q8) (fun _ => 0)) H := hP
  have hD : va_D AY (gNX2 cA (fun _ => q) .null .null 0 0 0 0 0 ++ gAi400 cA (fun _ => q8) (fun _ => 0)) := hD
  refine va_putF (D := D) (ci := 2) (v := .ref q8) (ty := .array .int) (C := RX2) (T := TX2) (N := 7) hx hb hts hi_X2_init_X2 tyX2 tyX2_ok nmX2 hown hK hP hD hS 0 rfl rfl 0 (by decide) (hts (.fieldLink RX2 9 "FallingWords$Reach" "words" "[I") (by decide +kernel)) (fun _ h9 => h9) rfl hin rfl (by decide +kernel) rfl rfl (Nat.le_of_ble_eq_true rfl) dX2_init_10 (fun H locs hP hD hS => ?_)
  have hP : va_P D vwCl (gNX2 cA (fun _ => q) (.ref q8) .null 0 0 0 0 0 ++ gAi400 cA (fun _ => q8) (fun _ => 0)) H := hP
  have hD : va_D AY (gNX2 cA (fun _ => q) (.ref q8) .null 0 0 0 0 0 ++ gAi400 cA (fun _ => q8) (fun _ => 0)) := hD
  refine lv_aload_n hx hb dX2_init_13 rfl (lv_at hl 0 rfl) ?_
  refine lv_sipush (v := nI 1024) hx hb dX2_init_14 (by decide +kernel) ?_
  refine xn_i (n := 1024) hx hb (hts (.arrayClass .int) (by decide +kernel)) hK hP hD hS hA (by decide) (Nat.le_of_ble_eq_true rfl) (Nat.le_of_ble_eq_true rfl) dX2_init_17 (fun q17 H hP hD hS => ?_)
  have hP : va_P D vwCl (gNX2 cA (fun _ => q) (.ref q8) .null 0 0 0 0 0 ++ gAi400 cA (fun _ => q8) (fun _ => 0) ++ gAi1024 cA (fun _ => q17) (fun _ => 0)) H := hP
  have hD : va_D AY (gNX2 cA (fun _ => q) (.ref q8) .null 0 0 0 0 0 ++ gAi400 cA (fun _ => q8) (fun _ => 0) ++ gAi1024 cA (fun _ => q17) (fun _ => 0)) := hD
  refine va_putF (D := D) (ci := 2) (v := .ref q17) (ty := .array .int) (C := RX2) (T := TX2) (N := 7) hx hb hts hi_X2_init_X2 tyX2 tyX2_ok nmX2 hown hK hP hD hS 0 rfl rfl 1 (by decide) (hts (.fieldLink RX2 15 "FallingWords$Reach" "seats" "[I") (by decide +kernel)) (fun _ h9 => h9) rfl hin rfl (by decide +kernel) rfl rfl (Nat.le_of_ble_eq_true rfl) dX2_init_19 (fun H locs hP hD hS => ?_)
  have hP : va_P D vwCl (gNX2 cA (fun _ => q) (.ref q8) (.ref q17) 0 0 0 0 0 ++ gAi400 cA (fun _ => q8) (fun _ => 0) ++ gAi1024 cA (fun _ => q17) (fun _ => 0)) H := hP
  have hD : va_D AY (gNX2 cA (fun _ => q) (.ref q8) (.ref q17) 0 0 0 0 0 ++ gAi400 cA (fun _ => q8) (fun _ => 0) ++ gAi1024 cA (fun _ => q17) (fun _ => 0)) := hD
  exact hret _ _ _ _ _ dX2_init_22 ⟨q8, q17, rfl⟩ hP hD hS

set_option maxHeartbeats 1000000 in
set_option maxRecDepth 100000 in
theorem k_X1_init (lY : Launch) (D : va_G) (cA : Nat → ClassId) (q : Nat)  : MetV lY D cA yX1_init wsX1_init 1 12 0 0 [.ref q] (gNX1 cA (fun _ => q) 0 0 0 0 0 0) (fun wY => wY = gOv cA (bl [q]) 0 0 0 0 0 0) := by
  refine MetV.of (cc := cX1_init) (maxL := 1) (by decide) rfl (Nat.le_of_ble_eq_true rfl) ?_
  intro pY eY sY mY aY bY tY cY QY AY ls h0 hP hK hN hD hA hS hl hin hret
  obtain ⟨hx, hb, hml, hown, hts⟩ := id h0
  have hl : lv_has ls 1 [(0, .ref q)] := hl
  have hP : va_P D vwCl (gNX1 cA (fun _ => q) 0 0 0 0 0 0) sY.heap := hP
  have hD : va_D AY (gNX1 cA (fun _ => q) 0 0 0 0 0 0) := hD
  refine lv_aload_n hx hb dX1_init_0 rfl (lv_at hl 0 rfl) ?_
  refine W.objInit hx hb hown (hts (.methodLink RX1 3 objectInit) (by decide +kernel)) (hts (.instanceMethod objectInit) (by decide +kernel)) (hts (.code objectInit ⟨#[0xb1]⟩ 1 none) (by decide +kernel)) rfl (by rw [hml]; exact hl.1) rfl dX1_init_1 (Nat.le_of_ble_eq_true rfl) (Nat.le_of_ble_eq_true rfl) ?_
  refine W.eq (g2 := F0 mY 4 ls []) rfl ?_
  exact hret _ _ _ _ _ dX1_init_4 rfl hP hD hS

theorem hi_X8_init_X8 : ∀ w ∈ u_ws RX8 TX8 7, w ∈ wsX8_init := by decide +kernel
set_option maxHeartbeats 1000000 in
set_option maxRecDepth 100000 in
theorem k_X8_init (lY : Launch) (D : va_G) (cA : Nat → ClassId) (q : Nat)  : MetV lY D cA yX8_init wsX8_init 1 12 1 80 [.ref q] (gNX8 cA (fun _ => q) .null 0 0 0 0 0 0) (fun wY => ∃ (q1 : Nat), wY = gTx cA (bl [q, q1]) (fun _ => 0) 0 0 0 0 0 0) := by
  refine MetV.of (cc := cX8_init) (maxL := 1) (by decide) rfl (Nat.le_of_ble_eq_true rfl) ?_
  intro pY eY sY mY aY bY tY cY QY AY ls h0 hP hK hN hD hA hS hl hin hret
  obtain ⟨hx, hb, hml, hown, hts⟩ := id h0
  have hl : lv_has ls 1 [(0, .ref q)] := hl
  have hP : va_P D vwCl (gNX8 cA (fun _ => q) .null 0 0 0 0 0 0) sY.heap := hP
  have hD : va_D AY (gNX8 cA (fun _ => q) .null 0 0 0 0 0 0) := hD
  refine lv_aload_n hx hb dX8_init_0 rfl (lv_at hl 0 rfl) ?_
  refine W.objInit hx hb hown (hts (.methodLink RX8 3 objectInit) (by decide +kernel)) (hts (.instanceMethod objectInit) (by decide +kernel)) (hts (.code objectInit ⟨#[0xb1]⟩ 1 none) (by decide +kernel)) rfl (by rw [hml]; exact hl.1) rfl dX8_init_1 (Nat.le_of_ble_eq_true rfl) (Nat.le_of_ble_eq_true rfl) ?_
  refine W.eq (g2 := F0 mY 4 ls []) rfl ?_
  refine lv_aload_n hx hb dX8_init_4 rfl (lv_at hl 0 rfl) ?_
  refine lv_bipush (v := nI 80) hx hb dX8_init_5 (by decide +kernel) ?_
  refine xn_c (n := 80) hx hb (hts (.arrayClass .char) (by decide +kernel)) hK hP hD hS hA (by decide) (Nat.le_of_ble_eq_true rfl) (Nat.le_of_ble_eq_true rfl) dX8_init_7 (fun q7 H hP hD hS => ?_)
  have hP : va_P D vwCl (gNX8 cA (fun _ => q) .null 0 0 0 0 0 0 ++ gAc80 cA (fun _ => q7) (fun _ => 0)) H := hP
  have hD : va_D AY (gNX8 cA (fun _ => q) .null 0 0 0 0 0 0 ++ gAc80 cA (fun _ => q7) (fun _ => 0)) := hD
  refine va_putF (D := D) (ci := 8) (v := .ref q7) (ty := .array .char) (C := RX8) (T := TX8) (N := 7) hx hb hts hi_X8_init_X8 tyX8 tyX8_ok nmX8 hown hK hP hD hS 0 rfl rfl 0 (by decide) (hts (.fieldLink RX8 9 "FallingWords$Text" "characters" "[C") (by decide +kernel)) (fun _ h9 => h9) rfl hin rfl (by decide +kernel) rfl rfl (Nat.le_of_ble_eq_true rfl) dX8_init_9 (fun H locs hP hD hS => ?_)
  have hP : va_P D vwCl (gNX8 cA (fun _ => q) (.ref q7) 0 0 0 0 0 0 ++ gAc80 cA (fun _ => q7) (fun _ => 0)) H := hP
  have hD : va_D AY (gNX8 cA (fun _ => q) (.ref q7) 0 0 0 0 0 0 ++ gAc80 cA (fun _ => q7) (fun _ => 0)) := hD
  exact hret _ _ _ _ _ dX8_init_12 ⟨q7, rfl⟩ hP hD hS

set_option maxHeartbeats 1000000 in
set_option maxRecDepth 100000 in
theorem k_X5_init (lY : Launch) (D : va_G) (cA : Nat → ClassId) (q : Nat)  : MetV lY D cA yX5_init wsX5_init 1 12 0 0 [.ref q] (gNX5 cA (fun _ => q) 0 0 0 0) (fun wY => wY = gSc cA (bl [q]) 0 0 0 0) := by
  refine MetV.of (cc := cX5_init) (maxL := 1) (by decide) rfl (Nat.le_of_ble_eq_true rfl) ?_
  intro pY eY sY mY aY bY tY cY QY AY ls h0 hP hK hN hD hA hS hl hin hret
  obtain ⟨hx, hb, hml, hown, hts⟩ := id h0
  have hl : lv_has ls 1 [(0, .ref q)] := hl
  have hP : va_P D vwCl (gNX5 cA (fun _ => q) 0 0 0 0) sY.heap := hP
  have hD : va_D AY (gNX5 cA (fun _ => q) 0 0 0 0) := hD
  refine lv_aload_n hx hb dX5_init_0 rfl (lv_at hl 0 rfl) ?_
  refine W.objInit hx hb hown (hts (.methodLink RX5 3 objectInit) (by decide +kernel)) (hts (.instanceMethod objectInit) (by decide +kernel)) (hts (.code objectInit ⟨#[0xb1]⟩ 1 none) (by decide +kernel)) rfl (by rw [hml]; exact hl.1) rfl dX5_init_1 (Nat.le_of_ble_eq_true rfl) (Nat.le_of_ble_eq_true rfl) ?_
  refine W.eq (g2 := F0 mY 4 ls []) rfl ?_
  exact hret _ _ _ _ _ dX5_init_4 rfl hP hD hS
