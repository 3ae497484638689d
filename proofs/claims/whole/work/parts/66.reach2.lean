theorem hi_X2_addEnd_X2 : ∀ w ∈ u_ws RX2 TX2 7, w ∈ wsX2_addEnd := by decide +kernel
set_option maxHeartbeats 1000000 in
set_option maxRecDepth 100000 in
theorem k_X2_addEnd (lY : Launch) (D : va_G) (cA : Nat → ClassId) (Br : Nat → Nat) (WR SE : Nat → Int32) (nz tm fe le : Int32) (k x y w : Nat) (hk : k < 1000) (hfe : 0 < k → fe = nI x ∧ le = nI y ∧ x < 2147483648 ∧ y < 2147483648) (hw : w < 2147483648) : MetV lY D cA yX2_addEnd wsX2_addEnd 1 14 0 0 [.ref (Br 0), .int (nI w)] (gRe cA Br WR SE nz tm (nI k) fe le) (fun wY => wY = gRe cA Br WR SE nz tm (nI (k + 1)) (nI (if k = 0 then w else min x w)) (nI (if k = 0 then w else max y w))) := by
  refine MetV.of (cc := cX2_addEnd) (maxL := 2) (by decide) rfl (Nat.le_of_ble_eq_true rfl) ?_
  intro pY eY sY mY aY bY tY cY QY AY ls h0 hP hK hN hD hA hS hl hin hret
  obtain ⟨hx, hb, hml, hown, hts⟩ := id h0
  have hl : lv_has ls 2 [(0, .ref (Br 0)), (1, .int (nI w))] := hl
  have hP : va_P D vwCl (gRe cA Br WR SE nz tm (nI k) fe le) sY.heap := hP
  have hD : va_D AY (gRe cA Br WR SE nz tm (nI k) fe le) := hD
  refine lv_aload_n hx hb dX2_addEnd_0 rfl (lv_at hl 0 rfl) ?_
  refine lv_aload_n hx hb dX2_addEnd_1 rfl (lv_at hl 0 rfl) ?_
  refine va_get (D := D) (ci := 2) (v := .int (nI k)) (C := RX2) (T := TX2) (N := 7) hx hb hts hi_X2_addEnd_X2 hown hK hP 0 rfl rfl 4 (by decide) (hts (.fieldLink RX2 32 "FallingWords$Reach" "ends" "I") (by decide +kernel)) (fun _ h9 => h9) rfl dX2_addEnd_2 ?_
  have L20 :  ∀ (v : Nat) (fx : Int32), (v = if k = 0 then w else min x w) → ∀ (H : Heap) (locs : List Loc) (ls : Array Slot), va_P D vwCl (gRe cA Br WR SE nz tm (nI k) fx le) H → va_D AY (gRe cA Br WR SE nz tm (nI k) fx le) → va_S AY sY.heap H locs → lv_has ls 2 [(0, .ref (Br 0)), (1, .int (nI w))] → W pY lY eY { frames := 1, cells := 0, slots := 0, locals := 14 } sY mY aY bY tY cY H locs 0 0 QY (F0 mY 20 ls [.int (nI v), .ref (Br 0)]) := by
    intro v fx hv H locs ls hP hD hS hl
    refine va_put (D := D) (ci := 2) (v := .int (nI v)) (ty := .int) (C := RX2) (T := TX2) (N := 7) hx hb hts hi_X2_addEnd_X2 tyX2 tyX2_ok nmX2 hown hK hP hD hS 0 rfl rfl 5 (by decide) (hts (.fieldLink RX2 63 "FallingWords$Reach" "firstEnd" "I") (by decide +kernel)) (fun _ h9 => h9) rfl (by decide +kernel) rfl rfl (Nat.le_of_ble_eq_true rfl) dX2_addEnd_20 (fun H locs hP hD hS => ?_)
    have hP : va_P D vwCl (gRe cA Br WR SE nz tm (nI k) (nI v) le) H := hP
    have hD : va_D AY (gRe cA Br WR SE nz tm (nI k) (nI v) le) := hD
    refine lv_aload_n hx hb dX2_addEnd_23 rfl (lv_at hl 0 rfl) ?_
    refine lv_aload_n hx hb dX2_addEnd_24 rfl (lv_at hl 0 rfl) ?_
    refine va_get (D := D) (ci := 2) (v := .int (nI k)) (C := RX2) (T := TX2) (N := 7) hx hb hts hi_X2_addEnd_X2 hown hK hP 0 rfl rfl 4 (by decide) (hts (.fieldLink RX2 32 "FallingWords$Reach" "ends" "I") (by decide +kernel)) (fun _ h9 => h9) rfl dX2_addEnd_25 ?_
    have L43 :  ∀ (v2 : Nat) (lx : Int32), (v2 = if k = 0 then w else max y w) → ∀ (H : Heap) (locs : List Loc) (ls : Array Slot), va_P D vwCl (gRe cA Br WR SE nz tm (nI k) (nI v) lx) H → va_D AY (gRe cA Br WR SE nz tm (nI k) (nI v) lx) → va_S AY sY.heap H locs → lv_has ls 2 [(0, .ref (Br 0)), (1, .int (nI w))] → W pY lY eY { frames := 1, cells := 0, slots := 0, locals := 14 } sY mY aY bY tY cY H locs 0 0 QY (F0 mY 43 ls [.int (nI v2), .ref (Br 0)]) := by
      intro v2 lx hv2 H locs ls hP hD hS hl
      refine va_put (D := D) (ci := 2) (v := .int (nI v2)) (ty := .int) (C := RX2) (T := TX2) (N := 7) hx hb hts hi_X2_addEnd_X2 tyX2 tyX2_ok nmX2 hown hK hP hD hS 0 rfl rfl 6 (by decide) (hts (.fieldLink RX2 72 "FallingWords$Reach" "lastEnd" "I") (by decide +kernel)) (fun _ h9 => h9) rfl (by decide +kernel) rfl rfl (Nat.le_of_ble_eq_true rfl) dX2_addEnd_43 (fun H locs hP hD hS => ?_)
      have hP : va_P D vwCl (gRe cA Br WR SE nz tm (nI k) (nI v) (nI v2)) H := hP
      have hD : va_D AY (gRe cA Br WR SE nz tm (nI k) (nI v) (nI v2)) := hD
      refine lv_aload_n hx hb dX2_addEnd_46 rfl (lv_at hl 0 rfl) ?_
      refine lv_dup hx hb dX2_addEnd_47 rfl ?_
      refine va_get (D := D) (ci := 2) (v := .int (nI k)) (C := RX2) (T := TX2) (N := 7) hx hb hts hi_X2_addEnd_X2 hown hK hP 0 rfl rfl 4 (by decide) (hts (.fieldLink RX2 32 "FallingWords$Reach" "ends" "I") (by decide +kernel)) (fun _ h9 => h9) rfl dX2_addEnd_48 ?_
      refine lv_iconst (v := nI 1) hx hb dX2_addEnd_51 (by decide +kernel) ?_
      refine lv_iadd hx hb dX2_addEnd_52 ?_
      refine xt (show (nI k) + (nI 1) = nI (k + 1) from nI_add _ _) ?_
      refine va_put (D := D) (ci := 2) (v := .int (nI (k + 1))) (ty := .int) (C := RX2) (T := TX2) (N := 7) hx hb hts hi_X2_addEnd_X2 tyX2 tyX2_ok nmX2 hown hK hP hD hS 0 rfl rfl 4 (by decide) (hts (.fieldLink RX2 32 "FallingWords$Reach" "ends" "I") (by decide +kernel)) (fun _ h9 => h9) rfl (by decide +kernel) rfl rfl (Nat.le_of_ble_eq_true rfl) dX2_addEnd_53 (fun H locs hP hD hS => ?_)
      have hP : va_P D vwCl (gRe cA Br WR SE nz tm (nI (k + 1)) (nI v) (nI v2)) H := hP
      have hD : va_D AY (gRe cA Br WR SE nz tm (nI (k + 1)) (nI v) (nI v2)) := hD
      exact hret _ _ _ _ _ dX2_addEnd_56 (by rw [hv, hv2]) hP hD hS
    refine x0_ne (tgt := 35) hx hb dX2_addEnd_28 (by decide) (by omega) (fun c28 => ?_) (fun c28 => ?_)
    · obtain ⟨e1, e2, e3, e4⟩ := hfe (by omega)
      rw [e2] at hP hD
      have hP : va_P D vwCl (gRe cA Br WR SE nz tm (nI k) (nI v) (nI y)) H := hP
      have hD : va_D AY (gRe cA Br WR SE nz tm (nI k) (nI v) (nI y)) := hD
      refine lv_aload_n hx hb dX2_addEnd_35 rfl (lv_at hl 0 rfl) ?_
      refine va_get (D := D) (ci := 2) (v := .int (nI y)) (C := RX2) (T := TX2) (N := 7) hx hb hts hi_X2_addEnd_X2 hown hK hP 0 rfl rfl 6 (by decide) (hts (.fieldLink RX2 72 "FallingWords$Reach" "lastEnd" "I") (by decide +kernel)) (fun _ h9 => h9) rfl dX2_addEnd_36 ?_
      refine lv_iload_n hx hb dX2_addEnd_39 rfl (lv_at hl 1 rfl) ?_
      refine va_mmax hx hb (hml.trans hl.1.symm) hown (hts (.methodLink RX2 75 Lib.Math.max.name) (by decide +kernel)) (hts (.static Lib.Math.max.name) (by decide +kernel)) (hts (.initialized "java/lang/Math") (by decide +kernel)) (hts (.code Lib.Math.max.name Lib.Math.max.code 2 (some .int)) (List.mem_of_getElem? (i := 10) rfl)) (Nat.le_of_ble_eq_true rfl) (Nat.le_of_ble_eq_true rfl) (Nat.zero_le _) (Nat.zero_le _) dX2_addEnd_40 ?_
      refine xt (show _ = nI (max y w) from mmax_nI (by omega) (by omega)) ?_
      exact L43 (max y w) (nI y) (by rw [if_neg c28]) _ _ _ hP hD hS hl
    · refine lv_iload_n hx hb dX2_addEnd_31 rfl (lv_at hl 1 rfl) ?_
      refine lv_goto (tgt := 43) hx hb dX2_addEnd_32 (by decide) ?_
      exact L43 w le (by rw [if_pos c28]) _ _ _ hP hD hS hl
  refine x0_ne (tgt := 12) hx hb dX2_addEnd_5 (by decide) (by omega) (fun c5 => ?_) (fun c5 => ?_)
  · obtain ⟨e1, e2, e3, e4⟩ := hfe (by omega)
    rw [e1] at hP hD
    have hP : va_P D vwCl (gRe cA Br WR SE nz tm (nI k) (nI x) le) sY.heap := hP
    have hD : va_D AY (gRe cA Br WR SE nz tm (nI k) (nI x) le) := hD
    refine lv_aload_n hx hb dX2_addEnd_12 rfl (lv_at hl 0 rfl) ?_
    refine va_get (D := D) (ci := 2) (v := .int (nI x)) (C := RX2) (T := TX2) (N := 7) hx hb hts hi_X2_addEnd_X2 hown hK hP 0 rfl rfl 5 (by decide) (hts (.fieldLink RX2 63 "FallingWords$Reach" "firstEnd" "I") (by decide +kernel)) (fun _ h9 => h9) rfl dX2_addEnd_13 ?_
    refine lv_iload_n hx hb dX2_addEnd_16 rfl (lv_at hl 1 rfl) ?_
    refine va_mmin hx hb (hml.trans hl.1.symm) hown (hts (.methodLink RX2 66 Lib.Math.min.name) (by decide +kernel)) (hts (.static Lib.Math.min.name) (by decide +kernel)) (hts (.initialized "java/lang/Math") (by decide +kernel)) (hts (.code Lib.Math.min.name Lib.Math.min.code 2 (some .int)) (List.mem_of_getElem? (i := 6) rfl)) (Nat.le_of_ble_eq_true rfl) (Nat.le_of_ble_eq_true rfl) (Nat.zero_le _) (Nat.zero_le _) dX2_addEnd_17 ?_
    refine xt (show _ = nI (min x w) from (mmin_nI (by omega) (by omega)).trans (congrArg nI (Nat.min_comm _ _))) ?_
    exact L20 (min x w) (nI x) (by rw [if_neg c5]) _ _ _ hP hD hS hl
  · refine lv_iload_n hx hb dX2_addEnd_8 rfl (lv_at hl 1 rfl) ?_
    refine lv_goto (tgt := 20) hx hb dX2_addEnd_9 (by decide) ?_
    exact L20 w fe (by rw [if_pos c5]) _ _ _ hP hD hS hl
