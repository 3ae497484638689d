/-! the reference: its parts -/
def inI (x a b : Int32) : Bool := decide (a.toInt ≤ x.toInt ∧ x.toInt ≤ b.toInt)
theorem inI_t {x a b : Int32} (h : inI x a b = true) : a.toInt ≤ x.toInt ∧ x.toInt ≤ b.toInt := of_decide_eq_true h
theorem inI_f {x a b : Int32} (h : inI x a b = false) : ¬ (a.toInt ≤ x.toInt ∧ x.toInt ≤ b.toInt) := of_decide_eq_false h
theorem inI_is {x a b : Int32} {z : Bool} (h1 : z = true → a.toInt ≤ x.toInt ∧ x.toInt ≤ b.toInt) (h2 : z = false → ¬ (a.toInt ≤ x.toInt ∧ x.toInt ≤ b.toInt)) : inI x a b = z := by
  cases z with
  | true => exact decide_eq_true (h1 rfl)
  | false => exact decide_eq_false (h2 rfl)

abbrev gMo (cA : Nat → ClassId) (B : Nat → Nat) (SS : Nat → Int32) (WA : Nat → Int32) (BG : Nat → Int32) (AS : Nat → Int32) (TX : Nat → Int32) (RW : Nat → Int32) (RR : Nat → Int32) (FD : Nat → Int32) (m1 : Int32) (m2 : Int32) (m3 : Int32) (m4 : Int32) (m5 : Int32) (m6 : Int32) (m7 : Int32) (m8 : Int32) (m9 : Int32) (m10 : Int32) (m11 : Int32) (m12 : Int32) (m13 : Int32) (m14 : Int32) (m15 : Int32) (m16 : Int32) (m17 : Int32) (m18 : Int32) (m19 : Int32) : va_W := [(B 0, .inr (10, [.ref (B 1), .ref (B 2), .ref (B 3), .ref (B 4), .int m1, .ref (B 5), .int m2, .int m3, .int m4, .int m5, .int m6, .int m7, .int m8, .int m9, .ref (B 6), .ref (B 7), .int m10, .int m11, .ref (B 8), .int m12, .int m13, .int m14, .int m15, .int m16, .int m17, .int m18, .int m19])), (B 1, .inl (cA 0, 52, .inl SS)), (B 2, .inl (cA 0, 208, .inl WA)), (B 3, .inl (cA 0, 52, .inl BG)), (B 4, .inl (cA 0, 52, .inl AS)), (B 5, .inl (cA 1, 80, .inl TX)), (B 6, .inl (cA 0, 101, .inl RW)), (B 7, .inl (cA 0, 101, .inl RR)), (B 8, .inl (cA 0, 401, .inl FD))]
set_option maxHeartbeats 1000000 in
set_option maxRecDepth 100000 in
theorem k_X11_in (lY : Launch) (D : va_G) (cA : Nat → ClassId) (x a b : Int32)  : MetI lY D cA yX11_in wsX11_in 0 0 [.int x, .int a, .int b] ([]) (fun rY wY => rY = bI (inI x a b) ∧ wY = []) := by
  refine MetI.of (cc := cX11_in) (maxL := 3) (ret := (some .boolean)) (by decide) rfl (Nat.le_of_ble_eq_true rfl) (Or.inr ⟨rfl, fun r w' h => by obtain ⟨h, -⟩ := h; rw [h]; exact bI_nar _⟩) ?_
  intro pY eY sY mY aY bY tY cY QY AY ls h0 hP hK hN hD hA hS hl hret
  obtain ⟨hx, hb, hml, hown, hts⟩ := id h0
  have hl : lv_has ls 3 [(0, .int x), (1, .int a), (2, .int b)] := hl
  have hP : va_P D vwCl ([]) sY.heap := hP
  have hD : va_D AY ([]) := hD
  refine lv_iload_n hx hb dX11_in_0 rfl (lv_at hl 0 rfl) ?_
  refine lv_iload_n hx hb dX11_in_1 rfl (lv_at hl 1 rfl) ?_
  refine xr_lt (tgt := 14) hx hb dX11_in_2 (by decide) (fun c2 => ?_) (fun c2 => ?_)
  · refine lv_iconst (v := nI 0) hx hb dX11_in_14 (by decide +kernel) ?_
    exact hret _ _ _ _ _ _ dX11_in_15 ⟨(by rw [show inI x a b = false from decide_eq_false (by omega)]; rfl), rfl⟩ hP hD hS
  · refine lv_iload_n hx hb dX11_in_5 rfl (lv_at hl 0 rfl) ?_
    refine lv_iload_n hx hb dX11_in_6 rfl (lv_at hl 2 rfl) ?_
    refine xr_gt (tgt := 14) hx hb dX11_in_7 (by decide) (fun c7 => ?_) (fun c7 => ?_)
    · refine lv_iconst (v := nI 0) hx hb dX11_in_14 (by decide +kernel) ?_
      exact hret _ _ _ _ _ _ dX11_in_15 ⟨(by rw [show inI x a b = false from decide_eq_false (by omega)]; rfl), rfl⟩ hP hD hS
    · refine lv_iconst (v := nI 1) hx hb dX11_in_10 (by decide +kernel) ?_
      refine lv_goto (tgt := 15) hx hb dX11_in_11 (by decide) ?_
      exact hret _ _ _ _ _ _ dX11_in_15 ⟨(by rw [show inI x a b = true from decide_eq_true (by omega)]; rfl), rfl⟩ hP hD hS

set_option maxHeartbeats 1000000 in
set_option maxRecDepth 100000 in
theorem k_X11_length (lY : Launch) (D : va_G) (cA : Nat → ClassId) (w : Nat) (hw : wd (len w) w) (hn : len w ≤ 13) : MetI lY D cA yX11_length wsX11_length 0 0 [.int (nI w)] ([]) (fun rY wY => rY = nI (len w) ∧ wY = []) := by
  refine MetI.of (cc := cX11_length) (maxL := 3) (ret := (some .int)) (by decide) rfl (Nat.le_of_ble_eq_true rfl) (Or.inl rfl) ?_
  intro pY eY sY mY aY bY tY cY QY AY ls h0 hP hK hN hD hA hS hl hret
  obtain ⟨hx, hb, hml, hown, hts⟩ := id h0
  have hl : lv_has ls 3 [(0, .int (nI w))] := hl
  have hP : va_P D vwCl ([]) sY.heap := hP
  have hD : va_D AY ([]) := hD
  have hB : w < 134217728 := vw_B ⟨hw, hn⟩ (Nat.le_refl _)
  refine lv_iconst (v := nI 0) hx hb dX11_length_0 (by decide +kernel) ?_
  refine lv_istore_n (lv' := [(1, .int (nI 0)), (0, .int (nI w))]) hx hb dX11_length_1 rfl hl (by decide) rfl (fun ls hl => ?_)
  refine lv_iload_n hx hb dX11_length_2 rfl (lv_at hl 1 rfl) ?_
  refine lv_istore_n (lv' := [(2, .int (nI w)), (1, .int (nI 0)), (0, .int (nI w))]) hx hb dX11_length_3 rfl hl (by decide) rfl (fun ls hl => ?_)
  have L4 : ∀ (nY : Nat), ∀ (i : Nat), (i ≤ len w) → (len w - i < nY) → ∀ (H : Heap) (locs : List Loc) (ls : Array Slot), va_P D vwCl ([]) H → va_D AY ([]) → va_S AY sY.heap H locs → lv_has ls 3 [(0, .int (nI w)), (1, .int (nI i)), (2, .int (nI (w / 4 ^ i)))] → W pY lY eY { frames := 0, cells := 0, slots := 0, locals := 0 } sY mY aY bY tY cY H locs 0 0 QY (F0 mY 4 ls []) := by
    intro nY4
    induction nY4 with
    | zero => intro i hi hm4; exact absurd hm4 (Nat.not_lt_zero _)
    | succ nY4 ih4 =>
      intro i hi hm4 H locs ls hP hD hS hl
      have hq : w / 4 ^ i ≤ w := Nat.div_le_self _ _
      have hg := wd_gt (wd_div hw hi)
      refine lv_iload_n hx hb dX11_length_4 rfl (lv_at hl 2 rfl) ?_
      refine lv_iconst (v := nI 1) hx hb dX11_length_5 (by decide +kernel) ?_
      refine xc_le (tgt := 19) hx hb dX11_length_6 (by decide) (by omega) (by omega) (fun c6 => ?_) (fun c6 => ?_)
      · refine lv_iload_n hx hb dX11_length_19 rfl (lv_at hl 1 rfl) ?_
        exact hret _ _ _ _ _ _ dX11_length_20 ⟨(congrArg nI (by omega)), rfl⟩ hP hD hS
      · refine lv_iinc (v := nI (i + 1)) (lv' := [(1, .int (nI (i + 1))), (0, .int (nI w)), (2, .int (nI (w / 4 ^ i)))]) hx hb dX11_length_9 hl (k := 1) rfl (show nI i + Int32.ofInt 1 = nI (i + 1) from nI_add i 1) (by decide) rfl (fun ls hl => ?_)
        refine lv_iload_n hx hb dX11_length_12 rfl (lv_at hl 2 rfl) ?_
        refine lv_iconst (v := nI 4) hx hb dX11_length_13 (by decide +kernel) ?_
        refine lv_idiv hx hb dX11_length_14 (by decide +kernel) ?_
        refine xt (show (nI (w / 4 ^ i)) / (nI 4) = nI (w / 4 ^ (i + 1)) from (pk_div (by omega) (by omega) (by omega)).trans (congrArg nI (dv4 w i))) ?_
        refine lv_istore_n (lv' := [(2, .int (nI (w / 4 ^ (i + 1)))), (1, .int (nI (i + 1))), (0, .int (nI w))]) hx hb dX11_length_15 rfl hl (by decide) rfl (fun ls hl => ?_)
        refine lv_goto (tgt := 4) hx hb dX11_length_16 (by decide) ?_
        exact ih4 (i + 1) (by omega) (by omega) _ _ _ hP hD hS (lv_sub hl [2, 1, 0] rfl)
  have hl : lv_has ls 3 [(2, .int (nI (w / 4 ^ 0))), (1, .int (nI 0)), (0, .int (nI w))] := Eq.mp (congrArg (fun zY : Int32 => lv_has ls 3 [(2, .int zY), (1, .int (nI 0)), (0, .int (nI w))]) (show nI w = nI (w / 4 ^ 0) from by rw [Nat.pow_zero, Nat.div_one])) hl
  exact L4 _ 0 (by omega) (Nat.lt_succ_self _) _ _ _ hP hD hS (lv_sub hl [2, 1, 0] rfl)

set_option maxHeartbeats 1000000 in
set_option maxRecDepth 100000 in
theorem k_X11_letter (lY : Launch) (D : va_G) (cA : Nat → ClassId) (w j : Nat) (hw : vw 13 w) (hj : j < len w) : MetI lY D cA yX11_letter wsX11_letter 1 22 [.int (nI w), .int (nI j)] ([]) (fun rY wY => rY = nI (lt4 w j) ∧ wY = []) := by
  refine MetI.of (cc := cX11_letter) (maxL := 2) (ret := (some .int)) (by decide) rfl (Nat.le_of_ble_eq_true rfl) (Or.inl rfl) ?_
  intro pY eY sY mY aY bY tY cY QY AY ls h0 hP hK hN hD hA hS hl hret
  obtain ⟨hx, hb, hml, hown, hts⟩ := id h0
  have hl : lv_has ls 2 [(0, .int (nI w)), (1, .int (nI j))] := hl
  have hP : va_P D vwCl ([]) sY.heap := hP
  have hD : va_D AY ([]) := hD
  have hB : w < 134217728 := vw_B hw (by decide)
  have h12 := hw.2
  refine lv_iload_n hx hb dX11_letter_0 rfl (lv_at hl 0 rfl) ?_
  refine lv_iconst (v := nI 2) hx hb dX11_letter_1 (by decide +kernel) ?_
  refine lv_iload_n hx hb dX11_letter_2 rfl (lv_at hl 0 rfl) ?_
  refine ci_S (As := [.int (nI w)]) (rest := [.int (nI 2), .int (nI w)]) h0 hK hN hP hD hS hA hl.1 (k_X11_length lY D cA w (hw.1) (by omega)) [] rfl (by decide) (va_cwS 1 hts gX11_letter_X11_length rfl rfl rfl (by decide +kernel) ⟨Nat.le_of_ble_eq_true rfl, Nat.le_of_ble_eq_true rfl⟩) rfl rfl (Nat.le_of_ble_eq_true rfl) dX11_letter_3 ⟨Nat.zero_le _, Nat.zero_le _⟩ (fun rY wY H locs hwY hJ hS => ?_)
  obtain ⟨e1Y, e2Y⟩ := hwY
  have e3Y := e1Y.symm
  clear e1Y
  subst e3Y
  have e3Y := e2Y.symm
  clear e2Y
  subst e3Y
  obtain ⟨hP, hD⟩ := hJ rfl
  have hP : va_P D vwCl [] H := hP
  have hD : va_D AY [] := hD
  refine lv_iconst (v := nI 1) hx hb dX11_letter_6 (by decide +kernel) ?_
  refine lv_isub hx hb dX11_letter_7 ?_
  refine xt (show (nI (len w)) - (nI 1) = nI ((len w) - 1) from pk_sub (by omega)) ?_
  refine lv_iload_n hx hb dX11_letter_8 rfl (lv_at hl 1 rfl) ?_
  refine lv_isub hx hb dX11_letter_9 ?_
  refine xt (show (nI ((len w) - 1)) - (nI j) = nI (((len w) - 1) - j) from pk_sub (by omega)) ?_
  refine lv_imul hx hb dX11_letter_10 ?_
  refine xt (show (nI 2) * (nI (((len w) - 1) - j)) = nI (2 * (((len w) - 1) - j)) from pk_mul _ _) ?_
  refine lv_ishr hx hb dX11_letter_11 ?_
  refine xt (show (nI w) >>> ((nI (2 * (((len w) - 1) - j))) &&& 31) = nI (w / 4 ^ (len w - 1 - j)) from sh_r (by omega) (by omega)) ?_
  refine lv_iconst (v := nI 3) hx hb dX11_letter_12 (by decide +kernel) ?_
  refine lv_iand hx hb dX11_letter_13 ?_
  refine xt (show (nI (w / 4 ^ (len w - 1 - j))) &&& (nI 3) = nI (lt4 w j) from sh_m (k := 1) (by decide)) ?_
  exact hret _ _ _ _ _ _ dX11_letter_14 ⟨rfl, rfl⟩ hP hD hS

set_option maxHeartbeats 1000000 in
set_option maxRecDepth 100000 in
theorem k_X11_letterOf (lY : Launch) (D : va_G) (cA : Nat → ClassId) (w : Nat) (x : Int32) (hw : vw 13 w) (hx0 : 0 ≤ x.toInt) : MetI lY D cA yX11_letterOf wsX11_letterOf 2 43 [.int (nI w), .int x] ([]) (fun rY wY => rY = ltI w x ∧ wY = []) := by
  refine MetI.of (cc := cX11_letterOf) (maxL := 2) (ret := (some .int)) (by decide) rfl (Nat.le_of_ble_eq_true rfl) (Or.inl rfl) ?_
  intro pY eY sY mY aY bY tY cY QY AY ls h0 hP hK hN hD hA hS hl hret
  obtain ⟨hx, hb, hml, hown, hts⟩ := id h0
  have hl : lv_has ls 2 [(0, .int (nI w)), (1, .int x)] := hl
  have hP : va_P D vwCl ([]) sY.heap := hP
  have hD : va_D AY ([]) := hD
  have h12 := hw.2
  have e2 : (nI (len w)).toInt = (len w : Int) := nI_toInt (by omega)
  refine lv_iload_n hx hb dX11_letterOf_0 rfl (lv_at hl 1 rfl) ?_
  refine lv_iload_n hx hb dX11_letterOf_1 rfl (lv_at hl 0 rfl) ?_
  refine ci_S (As := [.int (nI w)]) (rest := [.int x]) h0 hK hN hP hD hS hA hl.1 (k_X11_length lY D cA w (hw.1) (by omega)) [] rfl (by decide) (va_cwS 1 hts gX11_letterOf_X11_length rfl rfl rfl (by decide +kernel) ⟨Nat.le_of_ble_eq_true rfl, Nat.le_of_ble_eq_true rfl⟩) rfl rfl (Nat.le_of_ble_eq_true rfl) dX11_letterOf_2 ⟨Nat.zero_le _, Nat.zero_le _⟩ (fun rY wY H locs hwY hJ hS => ?_)
  obtain ⟨e1Y, e2Y⟩ := hwY
  have e3Y := e1Y.symm
  clear e1Y
  subst e3Y
  have e3Y := e2Y.symm
  clear e2Y
  subst e3Y
  obtain ⟨hP, hD⟩ := hJ rfl
  have hP : va_P D vwCl [] H := hP
  have hD : va_D AY [] := hD
  refine xr_ge (tgt := 16) hx hb dX11_letterOf_5 (by decide) (fun c5 => ?_) (fun c5 => ?_)
  · refine lv_ldc (v := (-1000004)) hx hb hown (hts (.constant RX11 43 (-1000004)) (by decide +kernel)) dX11_letterOf_16 ?_
    exact hret _ _ _ _ _ _ dX11_letterOf_18 ⟨((ltI_out (by omega)).symm), rfl⟩ hP hD hS
  · obtain ⟨j, hj, rfl⟩ : ∃ j : Nat, j < len w ∧ x = nI j := i32_of hx0 (by omega)
    refine lv_iload_n hx hb dX11_letterOf_8 rfl (lv_at hl 0 rfl) ?_
    refine lv_iload_n hx hb dX11_letterOf_9 rfl (lv_at hl 1 rfl) ?_
    refine ci_S (As := [.int (nI w), .int (nI j)]) (rest := []) h0 hK hN hP hD hS hA hl.1 (k_X11_letter lY D cA w j (by first | assumption | omega) (by first | assumption | omega)) [] rfl (by decide) (va_cwS 2 hts gX11_letterOf_X11_letter rfl rfl rfl (by decide +kernel) ⟨Nat.le_of_ble_eq_true rfl, Nat.le_of_ble_eq_true rfl⟩) rfl rfl (Nat.le_of_ble_eq_true rfl) dX11_letterOf_10 ⟨Nat.zero_le _, Nat.zero_le _⟩ (fun rY wY H locs hwY hJ hS => ?_)
    obtain ⟨e1Y, e2Y⟩ := hwY
    have e3Y := e1Y.symm
    clear e1Y
    subst e3Y
    have e3Y := e2Y.symm
    clear e2Y
    subst e3Y
    obtain ⟨hP, hD⟩ := hJ rfl
    have hP : va_P D vwCl [] H := hP
    have hD : va_D AY [] := hD
    refine lv_goto (tgt := 18) hx hb dX11_letterOf_13 (by decide) ?_
    exact hret _ _ _ _ _ _ dX11_letterOf_18 ⟨((ltI_in hw hj).symm), rfl⟩ hP hD hS

theorem hi_X11_left_X11 : ∀ w ∈ u_ws RX11 TX11 27, w ∈ wsX11_left := by decide +kernel
set_option maxHeartbeats 1000000 in
set_option maxRecDepth 100000 in
theorem k_X11_left (lY : Launch) (D : va_G) (cA : Nat → ClassId) (B : Nat → Nat) (S : St) (WA BG AS TX RW RR FD : Nat → Int32) (m1 m2 m3 m4 m5 m6 m7 m8 m9 m10 m11 m12 m13 m14 m15 m16 m17 m18 m19 : Int32) (r : Nat) (hr10 : r < 10) : MetI lY D cA yX11_left wsX11_left 0 0 [.ref (B 0), .int (nI r)] (gMo cA B (fN S) WA BG AS TX RW RR FD m1 m2 m3 m4 m5 m6 m7 m8 m9 m10 m11 m12 m13 m14 m15 m16 m17 m18 m19) (fun rY wY => rY = nI (lf S r) ∧ wY = gMo cA B (fN S) WA BG AS TX RW RR FD m1 m2 m3 m4 m5 m6 m7 m8 m9 m10 m11 m12 m13 m14 m15 m16 m17 m18 m19) := by
  refine MetI.of (cc := cX11_left) (maxL := 2) (ret := (some .int)) (by decide) rfl (Nat.le_of_ble_eq_true rfl) (Or.inl rfl) ?_
  intro pY eY sY mY aY bY tY cY QY AY ls h0 hP hK hN hD hA hS hl hret
  obtain ⟨hx, hb, hml, hown, hts⟩ := id h0
  have hl : lv_has ls 2 [(0, .ref (B 0)), (1, .int (nI r))] := hl
  have hP : va_P D vwCl (gMo cA B (fN S) WA BG AS TX RW RR FD m1 m2 m3 m4 m5 m6 m7 m8 m9 m10 m11 m12 m13 m14 m15 m16 m17 m18 m19) sY.heap := hP
  have hD : va_D AY (gMo cA B (fN S) WA BG AS TX RW RR FD m1 m2 m3 m4 m5 m6 m7 m8 m9 m10 m11 m12 m13 m14 m15 m16 m17 m18 m19) := hD
  refine lv_aload_n hx hb dX11_left_0 rfl (lv_at hl 0 rfl) ?_
  refine va_get (D := D) (ci := 10) (v := .ref (B 1)) (C := RX11) (T := TX11) (N := 27) hx hb hts hi_X11_left_X11 hown hK hP 0 rfl rfl 0 (by decide) (hts (.fieldLink RX11 7 "FallingWordsModel" "s" "[I") (by decide +kernel)) (fun _ h9 => h9) rfl dX11_left_1 ?_
  refine lv_bipush (v := nI 6) hx hb dX11_left_4 (by decide +kernel) ?_
  refine lv_iconst (v := nI 3) hx hb dX11_left_6 (by decide +kernel) ?_
  refine lv_iload_n hx hb dX11_left_7 rfl (lv_at hl 1 rfl) ?_
  refine lv_imul hx hb dX11_left_8 ?_
  refine xt (show (nI 3) * (nI r) = nI (3 * r) from pk_mul _ _) ?_
  refine lv_iadd hx hb dX11_left_9 ?_
  refine xt (show (nI 6) + (nI (3 * r)) = nI (6 + (3 * r)) from nI_add _ _) ?_
  refine xa_ld (v := nI (lf S r)) hx hb hK hP 1 rfl (by omega) (by decide) (rfl) dX11_left_10 ?_
  exact hret _ _ _ _ _ _ dX11_left_11 ⟨rfl, rfl⟩ hP hD hS

theorem hi_X11_right_X11 : ∀ w ∈ u_ws RX11 TX11 27, w ∈ wsX11_right := by decide +kernel
set_option maxHeartbeats 1000000 in
set_option maxRecDepth 100000 in
theorem k_X11_right (lY : Launch) (D : va_G) (cA : Nat → ClassId) (B : Nat → Nat) (S : St) (WA BG AS TX RW RR FD : Nat → Int32) (m1 m2 m3 m4 m5 m6 m7 m8 m9 m10 m11 m12 m13 m14 m15 m16 m17 m18 m19 : Int32) (r : Nat) (hr10 : r < 10) : MetI lY D cA yX11_right wsX11_right 0 0 [.ref (B 0), .int (nI r)] (gMo cA B (fN S) WA BG AS TX RW RR FD m1 m2 m3 m4 m5 m6 m7 m8 m9 m10 m11 m12 m13 m14 m15 m16 m17 m18 m19) (fun rY wY => rY = nI (rt S r) ∧ wY = gMo cA B (fN S) WA BG AS TX RW RR FD m1 m2 m3 m4 m5 m6 m7 m8 m9 m10 m11 m12 m13 m14 m15 m16 m17 m18 m19) := by
  refine MetI.of (cc := cX11_right) (maxL := 2) (ret := (some .int)) (by decide) rfl (Nat.le_of_ble_eq_true rfl) (Or.inl rfl) ?_
  intro pY eY sY mY aY bY tY cY QY AY ls h0 hP hK hN hD hA hS hl hret
  obtain ⟨hx, hb, hml, hown, hts⟩ := id h0
  have hl : lv_has ls 2 [(0, .ref (B 0)), (1, .int (nI r))] := hl
  have hP : va_P D vwCl (gMo cA B (fN S) WA BG AS TX RW RR FD m1 m2 m3 m4 m5 m6 m7 m8 m9 m10 m11 m12 m13 m14 m15 m16 m17 m18 m19) sY.heap := hP
  have hD : va_D AY (gMo cA B (fN S) WA BG AS TX RW RR FD m1 m2 m3 m4 m5 m6 m7 m8 m9 m10 m11 m12 m13 m14 m15 m16 m17 m18 m19) := hD
  refine lv_aload_n hx hb dX11_right_0 rfl (lv_at hl 0 rfl) ?_
  refine va_get (D := D) (ci := 10) (v := .ref (B 1)) (C := RX11) (T := TX11) (N := 27) hx hb hts hi_X11_right_X11 hown hK hP 0 rfl rfl 0 (by decide) (hts (.fieldLink RX11 7 "FallingWordsModel" "s" "[I") (by decide +kernel)) (fun _ h9 => h9) rfl dX11_right_1 ?_
  refine lv_bipush (v := nI 6) hx hb dX11_right_4 (by decide +kernel) ?_
  refine lv_iconst (v := nI 3) hx hb dX11_right_6 (by decide +kernel) ?_
  refine lv_iload_n hx hb dX11_right_7 rfl (lv_at hl 1 rfl) ?_
  refine lv_imul hx hb dX11_right_8 ?_
  refine xt (show (nI 3) * (nI r) = nI (3 * r) from pk_mul _ _) ?_
  refine lv_iadd hx hb dX11_right_9 ?_
  refine xt (show (nI 6) + (nI (3 * r)) = nI (6 + (3 * r)) from nI_add _ _) ?_
  refine lv_iconst (v := nI 1) hx hb dX11_right_10 (by decide +kernel) ?_
  refine lv_iadd hx hb dX11_right_11 ?_
  refine xt (show (nI (6 + (3 * r))) + (nI 1) = nI (6 + (3 * r) + 1) from nI_add _ _) ?_
  refine xa_ld (v := nI (rt S r)) hx hb hK hP 1 rfl (by omega) (by decide) (rfl) dX11_right_12 ?_
  exact hret _ _ _ _ _ _ dX11_right_13 ⟨rfl, rfl⟩ hP hD hS

theorem hi_X11_isRule_X11 : ∀ w ∈ u_ws RX11 TX11 27, w ∈ wsX11_isRule := by decide +kernel
set_option maxHeartbeats 1000000 in
set_option maxRecDepth 100000 in
theorem k_X11_isRule (lY : Launch) (D : va_G) (cA : Nat → ClassId) (B : Nat → Nat) (S : St) (WA BG AS TX RW RR FD : Nat → Int32) (m1 m2 m3 m4 m5 m6 m7 m8 m9 m10 m11 m12 m13 m14 m15 m16 m17 m18 m19 : Int32) (x : Int32) (h10 : S 1 ≤ 10) : MetI lY D cA yX11_isRule wsX11_isRule 1 22 [.ref (B 0), .int x] (gMo cA B (fN S) WA BG AS TX RW RR FD m1 m2 m3 m4 m5 m6 m7 m8 m9 m10 m11 m12 m13 m14 m15 m16 m17 m18 m19) (fun rY wY => rY = bI (inR S x) ∧ wY = gMo cA B (fN S) WA BG AS TX RW RR FD m1 m2 m3 m4 m5 m6 m7 m8 m9 m10 m11 m12 m13 m14 m15 m16 m17 m18 m19) := by
  refine MetI.of (cc := cX11_isRule) (maxL := 2) (ret := (some .boolean)) (by decide) rfl (Nat.le_of_ble_eq_true rfl) (Or.inr ⟨rfl, fun r w' h => by obtain ⟨h, -⟩ := h; rw [h]; exact bI_nar _⟩) ?_
  intro pY eY sY mY aY bY tY cY QY AY ls h0 hP hK hN hD hA hS hl hret
  obtain ⟨hx, hb, hml, hown, hts⟩ := id h0
  have hl : lv_has ls 2 [(0, .ref (B 0)), (1, .int x)] := hl
  have hP : va_P D vwCl (gMo cA B (fN S) WA BG AS TX RW RR FD m1 m2 m3 m4 m5 m6 m7 m8 m9 m10 m11 m12 m13 m14 m15 m16 m17 m18 m19) sY.heap := hP
  have hD : va_D AY (gMo cA B (fN S) WA BG AS TX RW RR FD m1 m2 m3 m4 m5 m6 m7 m8 m9 m10 m11 m12 m13 m14 m15 m16 m17 m18 m19) := hD
  refine lv_iload_n hx hb dX11_isRule_0 rfl (lv_at hl 1 rfl) ?_
  refine lv_iconst (v := nI 0) hx hb dX11_isRule_1 (by decide +kernel) ?_
  refine lv_aload_n hx hb dX11_isRule_2 rfl (lv_at hl 0 rfl) ?_
  refine va_get (D := D) (ci := 10) (v := .ref (B 1)) (C := RX11) (T := TX11) (N := 27) hx hb hts hi_X11_isRule_X11 hown hK hP 0 rfl rfl 0 (by decide) (hts (.fieldLink RX11 7 "FallingWordsModel" "s" "[I") (by decide +kernel)) (fun _ h9 => h9) rfl dX11_isRule_3 ?_
  refine lv_iconst (v := nI 1) hx hb dX11_isRule_6 (by decide +kernel) ?_
  refine xa_ld (v := nI (S 1)) hx hb hK hP 1 rfl (by omega) (by decide) (rfl) dX11_isRule_7 ?_
  refine lv_iconst (v := nI 1) hx hb dX11_isRule_8 (by decide +kernel) ?_
  refine lv_isub hx hb dX11_isRule_9 ?_
  refine xt (show (nI (S 1)) - (nI 1) = nI (S 1) - nI 1 from rfl) ?_
  have ed : (nI (S 1) - nI 1).toInt = (S 1 : Int) - 1 := pk_sub_toInt (by omega) (by omega)
  have e0 : (nI 0).toInt = 0 := rfl
  refine ci_S (As := [.int x, .int (nI 0), .int (nI (S 1) - nI 1)]) (rest := []) h0 hK hN hP hD hS hA hl.1 (k_X11_in lY D cA x (nI 0) (nI (S 1) - nI 1) ) [] rfl (by decide) (va_cwS 3 hts gX11_isRule_X11_in rfl rfl rfl (by decide +kernel) ⟨Nat.le_of_ble_eq_true rfl, Nat.le_of_ble_eq_true rfl⟩) rfl rfl (Nat.le_of_ble_eq_true rfl) dX11_isRule_10 ⟨Nat.zero_le _, Nat.zero_le _⟩ (fun rY wY H locs hwY hJ hS => ?_)
  obtain ⟨e1Y, e2Y⟩ := hwY
  have e3Y := e1Y.symm
  clear e1Y
  subst e3Y
  have e3Y := e2Y.symm
  clear e2Y
  subst e3Y
  obtain ⟨hP, hD⟩ := hJ rfl
  have hP : va_P D vwCl (gMo cA B (fN S) WA BG AS TX RW RR FD m1 m2 m3 m4 m5 m6 m7 m8 m9 m10 m11 m12 m13 m14 m15 m16 m17 m18 m19) H := hP
  have hD : va_D AY (gMo cA B (fN S) WA BG AS TX RW RR FD m1 m2 m3 m4 m5 m6 m7 m8 m9 m10 m11 m12 m13 m14 m15 m16 m17 m18 m19) := hD
  refine xt (show bI (inI x (nI 0) (nI (S 1) - nI 1)) = bI (inR S x) from congrArg bI (inI_is (fun h => by have := of_decide_eq_true h; omega) (fun h => by have := of_decide_eq_false h; omega))) ?_
  exact hret _ _ _ _ _ _ dX11_isRule_13 ⟨rfl, rfl⟩ hP hD hS

set_option maxHeartbeats 1000000 in
set_option maxRecDepth 100000 in
theorem k_X11_stands (lY : Launch) (D : va_G) (cA : Nat → ClassId) (u w p : Nat) (hu : vw 4 u) (hw : vw 12 w) (hp : p ≤ 12) : MetI lY D cA yX11_stands wsX11_stands 1 22 [.int (nI u), .int (nI w), .int (nI p)] ([]) (fun rY wY => rY = bI (stn u w p) ∧ wY = []) := by
  refine MetI.of (cc := cX11_stands) (maxL := 6) (ret := (some .boolean)) (by decide) rfl (Nat.le_of_ble_eq_true rfl) (Or.inr ⟨rfl, fun r w' h => by obtain ⟨h, -⟩ := h; rw [h]; exact bI_nar _⟩) ?_
  intro pY eY sY mY aY bY tY cY QY AY ls h0 hP hK hN hD hA hS hl hret
  obtain ⟨hx, hb, hml, hown, hts⟩ := id h0
  have hl : lv_has ls 6 [(0, .int (nI u)), (1, .int (nI w)), (2, .int (nI p))] := hl
  have hP : va_P D vwCl ([]) sY.heap := hP
  have hD : va_D AY ([]) := hD
  have hB : w < 134217728 := vw_B hw (by decide)
  have h12 := hw.2
  have hu4 := hu.2
  have hBu : u < 134217728 := vw_B hu (by decide)
  refine lv_iload_n hx hb dX11_stands_0 rfl (lv_at hl 0 rfl) ?_
  refine ci_S (As := [.int (nI u)]) (rest := []) h0 hK hN hP hD hS hA hl.1 (k_X11_length lY D cA u (hu.1) (by omega)) [] rfl (by decide) (va_cwS 1 hts gX11_stands_X11_length rfl rfl rfl (by decide +kernel) ⟨Nat.le_of_ble_eq_true rfl, Nat.le_of_ble_eq_true rfl⟩) rfl rfl (Nat.le_of_ble_eq_true rfl) dX11_stands_1 ⟨Nat.zero_le _, Nat.zero_le _⟩ (fun rY wY H locs hwY hJ hS => ?_)
  obtain ⟨e1Y, e2Y⟩ := hwY
  have e3Y := e1Y.symm
  clear e1Y
  subst e3Y
  have e3Y := e2Y.symm
  clear e2Y
  subst e3Y
  obtain ⟨hP, hD⟩ := hJ rfl
  have hP : va_P D vwCl [] H := hP
  have hD : va_D AY [] := hD
  refine lv_istore_n (lv' := [(3, .int (nI (len u))), (0, .int (nI u)), (1, .int (nI w)), (2, .int (nI p))]) hx hb dX11_stands_4 rfl hl (by decide) rfl (fun ls hl => ?_)
  refine lv_iload_n hx hb dX11_stands_5 rfl (lv_at hl 2 rfl) ?_
  refine ci_S (As := [.int (nI w)]) (rest := []) h0 hK hN hP hD hS hA hl.1 (k_X11_length lY D cA w (hw.1) (by omega)) [] rfl (by decide) (va_cwS 1 hts gX11_stands_X11_length rfl rfl rfl (by decide +kernel) ⟨Nat.le_of_ble_eq_true rfl, Nat.le_of_ble_eq_true rfl⟩) rfl rfl (Nat.le_of_ble_eq_true rfl) dX11_stands_6 ⟨Nat.zero_le _, Nat.zero_le _⟩ (fun rY wY H locs hwY hJ hS => ?_)
  obtain ⟨e1Y, e2Y⟩ := hwY
  have e3Y := e1Y.symm
  clear e1Y
  subst e3Y
  have e3Y := e2Y.symm
  clear e2Y
  subst e3Y
  obtain ⟨hP, hD⟩ := hJ rfl
  have hP : va_P D vwCl [] H := hP
  have hD : va_D AY [] := hD
  refine lv_iload_n hx hb dX11_stands_9 rfl (lv_at hl 3 rfl) ?_
  refine lv_isub hx hb dX11_stands_10 ?_
  refine xt (show (nI (len w)) - (nI p) = nI (len w) - nI p from rfl) ?_
  refine lv_iload_n hx hb dX11_stands_11 rfl (lv_at hl 0 rfl) ?_
  refine lv_isub hx hb dX11_stands_12 ?_
  refine xt (show (nI (len w) - nI p) - (nI (len u)) = nI (len w) - nI (p + (len u)) from sub_sub_nI _ _ _) ?_
  refine lv_istore (lv' := [(4, .int (nI (len w) - nI (p + (len u)))), (3, .int (nI (len u))), (0, .int (nI u)), (1, .int (nI w)), (2, .int (nI p))]) hx hb dX11_stands_13 hl (by decide) rfl (fun ls hl => ?_)
  refine lv_iconst (v := nI 1) hx hb dX11_stands_15 (by decide +kernel) ?_
  refine lv_iconst (v := nI 2) hx hb dX11_stands_16 (by decide +kernel) ?_
  refine lv_iload_n hx hb dX11_stands_17 rfl (lv_at hl 1 rfl) ?_
  refine lv_imul hx hb dX11_stands_18 ?_
  refine xt (show (nI 2) * (nI (len u)) = nI (2 * (len u)) from pk_mul _ _) ?_
  refine lv_ishl hx hb dX11_stands_19 ?_
  refine xt (show (nI 1) <<< ((nI (2 * (len u))) &&& 31) = nI (4 ^ len u) from sh_1 (by omega)) ?_
  refine lv_iconst (v := nI 1) hx hb dX11_stands_20 (by decide +kernel) ?_
  refine lv_isub hx hb dX11_stands_21 ?_
  refine xt (show (nI (4 ^ len u)) - (nI 1) = nI (4 ^ len u - 1) from pk_sub (four_pos _)) ?_
  refine lv_istore (lv' := [(5, .int (nI (4 ^ len u - 1))), (4, .int (nI (len w) - nI (p + (len u)))), (3, .int (nI (len u))), (0, .int (nI u)), (1, .int (nI w)), (2, .int (nI p))]) hx hb dX11_stands_22 hl (by decide) rfl (fun ls hl => ?_)
  refine lv_iload hx hb dX11_stands_24 (lv_at hl 1 rfl) ?_
  refine xd_lt (tgt := 49) hx hb dX11_stands_26 (by decide) (by omega) (by omega) (fun c26 => ?_) (fun c26 => ?_)
  · refine lv_iconst (v := nI 0) hx hb dX11_stands_49 (by decide +kernel) ?_
    exact hret _ _ _ _ _ _ dX11_stands_50 ⟨(by rw [stn_F c26]; rfl), rfl⟩ hP hD hS
  · have hl : lv_has ls 6 [(5, .int (nI (4 ^ len u - 1))), (4, .int (nI (len w - (p + len u)))), (3, .int (nI (len u))), (0, .int (nI u)), (1, .int (nI w)), (2, .int (nI p))] := Eq.mp (congrArg (fun zY : Int32 => lv_has ls 6 [(5, .int (nI (4 ^ len u - 1))), (4, .int zY), (3, .int (nI (len u))), (0, .int (nI u)), (1, .int (nI w)), (2, .int (nI p))]) (show nI (len w) - nI (p + (len u)) = nI (len w - (p + len u)) from pk_sub c26)) hl
    refine lv_iload_n hx hb dX11_stands_29 rfl (lv_at hl 4 rfl) ?_
    refine lv_iconst (v := nI 2) hx hb dX11_stands_30 (by decide +kernel) ?_
    refine lv_iload hx hb dX11_stands_31 (lv_at hl 1 rfl) ?_
    refine lv_imul hx hb dX11_stands_33 ?_
    refine xt (show (nI 2) * (nI (len w - (p + len u))) = nI (2 * (len w - (p + len u))) from pk_mul _ _) ?_
    refine lv_ishr hx hb dX11_stands_34 ?_
    refine xt (show (nI w) >>> ((nI (2 * (len w - (p + len u)))) &&& 31) = nI (w / 4 ^ (len w - (p + len u))) from sh_r (by omega) (by omega)) ?_
    refine lv_iload hx hb dX11_stands_35 (lv_at hl 0 rfl) ?_
    refine lv_iand hx hb dX11_stands_37 ?_
    refine xt (show (nI (w / 4 ^ (len w - (p + len u)))) &&& (nI (4 ^ len u - 1)) = nI (w / 4 ^ (len w - (p + len u)) % 4 ^ len u) from sh_m (by omega)) ?_
    refine lv_iload_n hx hb dX11_stands_38 rfl (lv_at hl 3 rfl) ?_
    refine lv_iload hx hb dX11_stands_39 (lv_at hl 0 rfl) ?_
    refine lv_iand hx hb dX11_stands_41 ?_
    refine xt (show (nI u) &&& (nI (4 ^ len u - 1)) = nI (u % 4 ^ len u) from sh_m (by omega)) ?_
    have hm4 : 4 ^ len u ≤ 256 := Nat.le_trans (four_le hu4) (by decide)
    have hb1 := Nat.mod_lt (w / 4 ^ (len w - (p + len u))) (four_pos (len u))
    have hb3 := Nat.mod_lt u (four_pos (len u))
    refine xc_ne (tgt := 49) hx hb dX11_stands_42 (by decide) (by omega) (by omega) (fun c42 => ?_) (fun c42 => ?_)
    · refine lv_iconst (v := nI 0) hx hb dX11_stands_49 (by decide +kernel) ?_
      exact hret _ _ _ _ _ _ dX11_stands_50 ⟨(by rw [stn_F2 c42]; rfl), rfl⟩ hP hD hS
    · refine lv_iconst (v := nI 1) hx hb dX11_stands_45 (by decide +kernel) ?_
      refine lv_goto (tgt := 50) hx hb dX11_stands_46 (by decide) ?_
      exact hret _ _ _ _ _ _ dX11_stands_50 ⟨(by rw [stn_T c26 c42]; rfl), rfl⟩ hP hD hS

set_option maxHeartbeats 1000000 in
set_option maxRecDepth 100000 in
theorem k_X11_applied (lY : Launch) (D : va_G) (cA : Nat → ClassId) (B : Nat → Nat) (S : St) (WA BG AS TX RW RR FD : Nat → Int32) (m1 m2 m3 m4 m5 m6 m7 m8 m9 m10 m11 m12 m13 m14 m15 m16 m17 m18 m19 : Int32) (w r p : Nat) (hI : IR S) (hw : vw 12 w) (hr1 : r < S 1) (hp : p + len (lf S r) ≤ len w) : MetI lY D cA yX11_applied wsX11_applied 1 22 [.ref (B 0), .int (nI w), .int (nI r), .int (nI p)] (gMo cA B (fN S) WA BG AS TX RW RR FD m1 m2 m3 m4 m5 m6 m7 m8 m9 m10 m11 m12 m13 m14 m15 m16 m17 m18 m19) (fun rY wY => rY = nI (app (lf S r) (rt S r) w p) ∧ wY = gMo cA B (fN S) WA BG AS TX RW RR FD m1 m2 m3 m4 m5 m6 m7 m8 m9 m10 m11 m12 m13 m14 m15 m16 m17 m18 m19) := by
  refine MetI.of (cc := cX11_applied) (maxL := 7) (ret := (some .int)) (by decide) rfl (Nat.le_of_ble_eq_true rfl) (Or.inl rfl) ?_
  intro pY eY sY mY aY bY tY cY QY AY ls h0 hP hK hN hD hA hS hl hret
  obtain ⟨hx, hb, hml, hown, hts⟩ := id h0
  have hl : lv_has ls 7 [(0, .ref (B 0)), (1, .int (nI w)), (2, .int (nI r)), (3, .int (nI p))] := hl
  have hP : va_P D vwCl (gMo cA B (fN S) WA BG AS TX RW RR FD m1 m2 m3 m4 m5 m6 m7 m8 m9 m10 m11 m12 m13 m14 m15 m16 m17 m18 m19) sY.heap := hP
  have hD : va_D AY (gMo cA B (fN S) WA BG AS TX RW RR FD m1 m2 m3 m4 m5 m6 m7 m8 m9 m10 m11 m12 m13 m14 m15 m16 m17 m18 m19) := hD
  have hB : w < 134217728 := vw_B hw (by decide)
  have h12 := hw.2
  have h10 := hI.1
  obtain ⟨v1, v2, v3, v4⟩ := hI.2.2 r hr1
  have v1l := v1.2
  have v2l := v2.2
  obtain ⟨b1, b2, b3, b4⟩ := app_ok hw v1 v2 v4 hp
  refine lv_iload_n hx hb dX11_applied_0 rfl (lv_at hl 1 rfl) ?_
  refine ci_S (As := [.int (nI w)]) (rest := []) h0 hK hN hP hD hS hA hl.1 (k_X11_length lY D cA w (hw.1) (by omega)) [] rfl (by decide) (va_cwS 1 hts gX11_applied_X11_length rfl rfl rfl (by decide +kernel) ⟨Nat.le_of_ble_eq_true rfl, Nat.le_of_ble_eq_true rfl⟩) rfl rfl (Nat.le_of_ble_eq_true rfl) dX11_applied_1 ⟨Nat.zero_le _, Nat.zero_le _⟩ (fun rY wY H locs hwY hJ hS => ?_)
  obtain ⟨e1Y, e2Y⟩ := hwY
  have e3Y := e1Y.symm
  clear e1Y
  subst e3Y
  have e3Y := e2Y.symm
  clear e2Y
  subst e3Y
  obtain ⟨hP, hD⟩ := hJ rfl
  have hP : va_P D vwCl (gMo cA B (fN S) WA BG AS TX RW RR FD m1 m2 m3 m4 m5 m6 m7 m8 m9 m10 m11 m12 m13 m14 m15 m16 m17 m18 m19) H := hP
  have hD : va_D AY (gMo cA B (fN S) WA BG AS TX RW RR FD m1 m2 m3 m4 m5 m6 m7 m8 m9 m10 m11 m12 m13 m14 m15 m16 m17 m18 m19) := hD
  refine lv_iload_n hx hb dX11_applied_4 rfl (lv_at hl 3 rfl) ?_
  refine lv_isub hx hb dX11_applied_5 ?_
  refine xt (show (nI (len w)) - (nI p) = nI ((len w) - p) from pk_sub (by omega)) ?_
  refine lv_aload_n hx hb dX11_applied_6 rfl (lv_at hl 0 rfl) ?_
  refine lv_iload_n hx hb dX11_applied_7 rfl (lv_at hl 2 rfl) ?_
  refine ci_V (As := [.int (nI r)]) (rest := [.int (nI ((len w) - p))]) h0 hK hN hP hD hS hA hl.1 (k_X11_left lY D cA B S WA BG AS TX RW RR FD m1 m2 m3 m4 m5 m6 m7 m8 m9 m10 m11 m12 m13 m14 m15 m16 m17 m18 m19 r (by omega)) [0, 1, 2, 3, 4, 5, 6, 7, 8] rfl (by decide) (cwV 1 hts gX11_applied_X11_left rfl rfl rfl (by decide +kernel) ⟨Nat.le_of_ble_eq_true rfl, Nat.le_of_ble_eq_true rfl⟩) (cl_recv (ci := 10) (q := (RX11, TX11, 27)) (q0 := 0) hP hK rfl rfl) rfl rfl (Nat.le_of_ble_eq_true rfl) dX11_applied_8 ⟨Nat.zero_le _, Nat.zero_le _⟩ (fun rY wY H locs hwY hJ hS => ?_)
  obtain ⟨e1Y, e2Y⟩ := hwY
  have e3Y := e1Y.symm
  clear e1Y
  subst e3Y
  have e3Y := e2Y.symm
  clear e2Y
  subst e3Y
  obtain ⟨hP, hD⟩ := hJ rfl
  have hP : va_P D vwCl (gMo cA B (fN S) WA BG AS TX RW RR FD m1 m2 m3 m4 m5 m6 m7 m8 m9 m10 m11 m12 m13 m14 m15 m16 m17 m18 m19) H := hP
  have hD : va_D AY (gMo cA B (fN S) WA BG AS TX RW RR FD m1 m2 m3 m4 m5 m6 m7 m8 m9 m10 m11 m12 m13 m14 m15 m16 m17 m18 m19) := hD
  refine ci_S (As := [.int (nI (lf S r))]) (rest := [.int (nI ((len w) - p))]) h0 hK hN hP hD hS hA hl.1 (k_X11_length lY D cA (lf S r) (v1.1) (by omega)) [] rfl (by decide) (va_cwS 1 hts gX11_applied_X11_length rfl rfl rfl (by decide +kernel) ⟨Nat.le_of_ble_eq_true rfl, Nat.le_of_ble_eq_true rfl⟩) rfl rfl (Nat.le_of_ble_eq_true rfl) dX11_applied_11 ⟨Nat.zero_le _, Nat.zero_le _⟩ (fun rY wY H locs hwY hJ hS => ?_)
  obtain ⟨e1Y, e2Y⟩ := hwY
  have e3Y := e1Y.symm
  clear e1Y
  subst e3Y
  have e3Y := e2Y.symm
  clear e2Y
  subst e3Y
  obtain ⟨hP, hD⟩ := hJ rfl
  have hP : va_P D vwCl (gMo cA B (fN S) WA BG AS TX RW RR FD m1 m2 m3 m4 m5 m6 m7 m8 m9 m10 m11 m12 m13 m14 m15 m16 m17 m18 m19) H := hP
  have hD : va_D AY (gMo cA B (fN S) WA BG AS TX RW RR FD m1 m2 m3 m4 m5 m6 m7 m8 m9 m10 m11 m12 m13 m14 m15 m16 m17 m18 m19) := hD
  refine lv_isub hx hb dX11_applied_14 ?_
  refine xt (show (nI ((len w) - p)) - (nI (len (lf S r))) = nI (((len w) - p) - (len (lf S r))) from pk_sub (by omega)) ?_
  refine lv_istore (lv' := [(4, .int (nI (((len w) - p) - (len (lf S r))))), (0, .ref (B 0)), (1, .int (nI w)), (2, .int (nI r)), (3, .int (nI p))]) hx hb dX11_applied_15 hl (by decide) rfl (fun ls hl => ?_)
  refine lv_iload_n hx hb dX11_applied_17 rfl (lv_at hl 2 rfl) ?_
  refine lv_iconst (v := nI 2) hx hb dX11_applied_18 (by decide +kernel) ?_
  refine lv_iload_n hx hb dX11_applied_19 rfl (lv_at hl 2 rfl) ?_
  refine ci_S (As := [.int (nI w)]) (rest := [.int (nI 2), .int (nI w)]) h0 hK hN hP hD hS hA hl.1 (k_X11_length lY D cA w (hw.1) (by omega)) [] rfl (by decide) (va_cwS 1 hts gX11_applied_X11_length rfl rfl rfl (by decide +kernel) ⟨Nat.le_of_ble_eq_true rfl, Nat.le_of_ble_eq_true rfl⟩) rfl rfl (Nat.le_of_ble_eq_true rfl) dX11_applied_20 ⟨Nat.zero_le _, Nat.zero_le _⟩ (fun rY wY H locs hwY hJ hS => ?_)
  obtain ⟨e1Y, e2Y⟩ := hwY
  have e3Y := e1Y.symm
  clear e1Y
  subst e3Y
  have e3Y := e2Y.symm
  clear e2Y
  subst e3Y
  obtain ⟨hP, hD⟩ := hJ rfl
  have hP : va_P D vwCl (gMo cA B (fN S) WA BG AS TX RW RR FD m1 m2 m3 m4 m5 m6 m7 m8 m9 m10 m11 m12 m13 m14 m15 m16 m17 m18 m19) H := hP
  have hD : va_D AY (gMo cA B (fN S) WA BG AS TX RW RR FD m1 m2 m3 m4 m5 m6 m7 m8 m9 m10 m11 m12 m13 m14 m15 m16 m17 m18 m19) := hD
  refine lv_iload_n hx hb dX11_applied_23 rfl (lv_at hl 4 rfl) ?_
  refine lv_isub hx hb dX11_applied_24 ?_
  refine xt (show (nI (len w)) - (nI p) = nI ((len w) - p) from pk_sub (by omega)) ?_
  refine lv_imul hx hb dX11_applied_25 ?_
  refine xt (show (nI 2) * (nI ((len w) - p)) = nI (2 * ((len w) - p)) from pk_mul _ _) ?_
  refine lv_ishr hx hb dX11_applied_26 ?_
  refine xt (show (nI w) >>> ((nI (2 * ((len w) - p))) &&& 31) = nI (w / 4 ^ (len w - p)) from sh_r (by omega) (by omega)) ?_
  refine lv_istore (lv' := [(5, .int (nI (w / 4 ^ (len w - p)))), (4, .int (nI (((len w) - p) - (len (lf S r))))), (0, .ref (B 0)), (1, .int (nI w)), (2, .int (nI r)), (3, .int (nI p))]) hx hb dX11_applied_27 hl (by decide) rfl (fun ls hl => ?_)
  refine lv_aload_n hx hb dX11_applied_29 rfl (lv_at hl 2 rfl) ?_
  refine lv_iload_n hx hb dX11_applied_30 rfl (lv_at hl 4 rfl) ?_
  refine ci_V (As := [.int (nI r)]) (rest := []) h0 hK hN hP hD hS hA hl.1 (k_X11_right lY D cA B S WA BG AS TX RW RR FD m1 m2 m3 m4 m5 m6 m7 m8 m9 m10 m11 m12 m13 m14 m15 m16 m17 m18 m19 r (by omega)) [0, 1, 2, 3, 4, 5, 6, 7, 8] rfl (by decide) (cwV 1 hts gX11_applied_X11_right rfl rfl rfl (by decide +kernel) ⟨Nat.le_of_ble_eq_true rfl, Nat.le_of_ble_eq_true rfl⟩) (cl_recv (ci := 10) (q := (RX11, TX11, 27)) (q0 := 0) hP hK rfl rfl) rfl rfl (Nat.le_of_ble_eq_true rfl) dX11_applied_31 ⟨Nat.zero_le _, Nat.zero_le _⟩ (fun rY wY H locs hwY hJ hS => ?_)
  obtain ⟨e1Y, e2Y⟩ := hwY
  have e3Y := e1Y.symm
  clear e1Y
  subst e3Y
  have e3Y := e2Y.symm
  clear e2Y
  subst e3Y
  obtain ⟨hP, hD⟩ := hJ rfl
  have hP : va_P D vwCl (gMo cA B (fN S) WA BG AS TX RW RR FD m1 m2 m3 m4 m5 m6 m7 m8 m9 m10 m11 m12 m13 m14 m15 m16 m17 m18 m19) H := hP
  have hD : va_D AY (gMo cA B (fN S) WA BG AS TX RW RR FD m1 m2 m3 m4 m5 m6 m7 m8 m9 m10 m11 m12 m13 m14 m15 m16 m17 m18 m19) := hD
  refine ci_S (As := [.int (nI (rt S r))]) (rest := []) h0 hK hN hP hD hS hA hl.1 (k_X11_length lY D cA (rt S r) (v2.1) (by omega)) [] rfl (by decide) (va_cwS 1 hts gX11_applied_X11_length rfl rfl rfl (by decide +kernel) ⟨Nat.le_of_ble_eq_true rfl, Nat.le_of_ble_eq_true rfl⟩) rfl rfl (Nat.le_of_ble_eq_true rfl) dX11_applied_34 ⟨Nat.zero_le _, Nat.zero_le _⟩ (fun rY wY H locs hwY hJ hS => ?_)
  obtain ⟨e1Y, e2Y⟩ := hwY
  have e3Y := e1Y.symm
  clear e1Y
  subst e3Y
  have e3Y := e2Y.symm
  clear e2Y
  subst e3Y
  obtain ⟨hP, hD⟩ := hJ rfl
  have hP : va_P D vwCl (gMo cA B (fN S) WA BG AS TX RW RR FD m1 m2 m3 m4 m5 m6 m7 m8 m9 m10 m11 m12 m13 m14 m15 m16 m17 m18 m19) H := hP
  have hD : va_D AY (gMo cA B (fN S) WA BG AS TX RW RR FD m1 m2 m3 m4 m5 m6 m7 m8 m9 m10 m11 m12 m13 m14 m15 m16 m17 m18 m19) := hD
  refine lv_istore (lv' := [(6, .int (nI (len (rt S r)))), (5, .int (nI (w / 4 ^ (len w - p)))), (4, .int (nI (((len w) - p) - (len (lf S r))))), (0, .ref (B 0)), (1, .int (nI w)), (2, .int (nI r)), (3, .int (nI p))]) hx hb dX11_applied_37 hl (by decide) rfl (fun ls hl => ?_)
  refine lv_iload hx hb dX11_applied_39 (lv_at hl 1 rfl) ?_
  refine lv_iconst (v := nI 2) hx hb dX11_applied_41 (by decide +kernel) ?_
  refine lv_iload hx hb dX11_applied_42 (lv_at hl 0 rfl) ?_
  refine lv_imul hx hb dX11_applied_44 ?_
  refine xt (show (nI 2) * (nI (len (rt S r))) = nI (2 * (len (rt S r))) from pk_mul _ _) ?_
  refine lv_ishl hx hb dX11_applied_45 ?_
  refine xt (show (nI (w / 4 ^ (len w - p))) <<< ((nI (2 * (len (rt S r)))) &&& 31) = nI (w / 4 ^ (len w - p) * 4 ^ len (rt S r)) from sh_l (by omega) (by omega)) ?_
  refine lv_aload_n hx hb dX11_applied_46 rfl (lv_at hl 3 rfl) ?_
  refine lv_iload_n hx hb dX11_applied_47 rfl (lv_at hl 5 rfl) ?_
  refine ci_V (As := [.int (nI r)]) (rest := [.int (nI (w / 4 ^ (len w - p) * 4 ^ len (rt S r)))]) h0 hK hN hP hD hS hA hl.1 (k_X11_right lY D cA B S WA BG AS TX RW RR FD m1 m2 m3 m4 m5 m6 m7 m8 m9 m10 m11 m12 m13 m14 m15 m16 m17 m18 m19 r (by omega)) [0, 1, 2, 3, 4, 5, 6, 7, 8] rfl (by decide) (cwV 1 hts gX11_applied_X11_right rfl rfl rfl (by decide +kernel) ⟨Nat.le_of_ble_eq_true rfl, Nat.le_of_ble_eq_true rfl⟩) (cl_recv (ci := 10) (q := (RX11, TX11, 27)) (q0 := 0) hP hK rfl rfl) rfl rfl (Nat.le_of_ble_eq_true rfl) dX11_applied_48 ⟨Nat.zero_le _, Nat.zero_le _⟩ (fun rY wY H locs hwY hJ hS => ?_)
  obtain ⟨e1Y, e2Y⟩ := hwY
  have e3Y := e1Y.symm
  clear e1Y
  subst e3Y
  have e3Y := e2Y.symm
  clear e2Y
  subst e3Y
  obtain ⟨hP, hD⟩ := hJ rfl
  have hP : va_P D vwCl (gMo cA B (fN S) WA BG AS TX RW RR FD m1 m2 m3 m4 m5 m6 m7 m8 m9 m10 m11 m12 m13 m14 m15 m16 m17 m18 m19) H := hP
  have hD : va_D AY (gMo cA B (fN S) WA BG AS TX RW RR FD m1 m2 m3 m4 m5 m6 m7 m8 m9 m10 m11 m12 m13 m14 m15 m16 m17 m18 m19) := hD
  refine lv_iconst (v := nI 1) hx hb dX11_applied_51 (by decide +kernel) ?_
  refine lv_iconst (v := nI 2) hx hb dX11_applied_52 (by decide +kernel) ?_
  refine lv_iload hx hb dX11_applied_53 (lv_at hl 0 rfl) ?_
  refine lv_imul hx hb dX11_applied_55 ?_
  refine xt (show (nI 2) * (nI (len (rt S r))) = nI (2 * (len (rt S r))) from pk_mul _ _) ?_
  refine lv_ishl hx hb dX11_applied_56 ?_
  refine xt (show (nI 1) <<< ((nI (2 * (len (rt S r)))) &&& 31) = nI (4 ^ len (rt S r)) from sh_1 (by omega)) ?_
  refine lv_iconst (v := nI 1) hx hb dX11_applied_57 (by decide +kernel) ?_
  refine lv_isub hx hb dX11_applied_58 ?_
  refine xt (show (nI (4 ^ len (rt S r))) - (nI 1) = nI (4 ^ len (rt S r) - 1) from pk_sub (four_pos _)) ?_
  refine lv_iand hx hb dX11_applied_59 ?_
  refine xt (show (nI (rt S r)) &&& (nI (4 ^ len (rt S r) - 1)) = nI (rt S r % 4 ^ len (rt S r)) from sh_m (by omega)) ?_
  refine lv_ior hx hb dX11_applied_60 ?_
  refine xt (show (nI (w / 4 ^ (len w - p) * 4 ^ len (rt S r))) ||| (nI (rt S r % 4 ^ len (rt S r))) = nI (w / 4 ^ (len w - p) * 4 ^ len (rt S r) + rt S r % 4 ^ len (rt S r)) from sh_o b3) ?_
  refine lv_istore (lv' := [(5, .int (nI (w / 4 ^ (len w - p) * 4 ^ len (rt S r) + rt S r % 4 ^ len (rt S r)))), (6, .int (nI (len (rt S r)))), (4, .int (nI (((len w) - p) - (len (lf S r))))), (0, .ref (B 0)), (1, .int (nI w)), (2, .int (nI r)), (3, .int (nI p))]) hx hb dX11_applied_61 hl (by decide) rfl (fun ls hl => ?_)
  refine lv_iload hx hb dX11_applied_63 (lv_at hl 0 rfl) ?_
  refine lv_iconst (v := nI 2) hx hb dX11_applied_65 (by decide +kernel) ?_
  refine lv_iload hx hb dX11_applied_66 (lv_at hl 2 rfl) ?_
  refine lv_imul hx hb dX11_applied_68 ?_
  refine xt (show (nI 2) * (nI (((len w) - p) - (len (lf S r)))) = nI (2 * (((len w) - p) - (len (lf S r)))) from pk_mul _ _) ?_
  refine lv_ishl hx hb dX11_applied_69 ?_
  refine xt (show (nI (w / 4 ^ (len w - p) * 4 ^ len (rt S r) + rt S r % 4 ^ len (rt S r))) <<< ((nI (2 * (((len w) - p) - (len (lf S r))))) &&& 31) = nI ((w / 4 ^ (len w - p) * 4 ^ len (rt S r) + rt S r % 4 ^ len (rt S r)) * 4 ^ (len w - p - len (lf S r))) from sh_l (by omega) (by omega)) ?_
  refine lv_iload_n hx hb dX11_applied_70 rfl (lv_at hl 4 rfl) ?_
  refine lv_iconst (v := nI 1) hx hb dX11_applied_71 (by decide +kernel) ?_
  refine lv_iconst (v := nI 2) hx hb dX11_applied_72 (by decide +kernel) ?_
  refine lv_iload hx hb dX11_applied_73 (lv_at hl 2 rfl) ?_
  refine lv_imul hx hb dX11_applied_75 ?_
  refine xt (show (nI 2) * (nI (((len w) - p) - (len (lf S r)))) = nI (2 * (((len w) - p) - (len (lf S r)))) from pk_mul _ _) ?_
  refine lv_ishl hx hb dX11_applied_76 ?_
  refine xt (show (nI 1) <<< ((nI (2 * (((len w) - p) - (len (lf S r))))) &&& 31) = nI (4 ^ (len w - p - len (lf S r))) from sh_1 (by omega)) ?_
  refine lv_iconst (v := nI 1) hx hb dX11_applied_77 (by decide +kernel) ?_
  refine lv_isub hx hb dX11_applied_78 ?_
  refine xt (show (nI (4 ^ (len w - p - len (lf S r)))) - (nI 1) = nI (4 ^ (len w - p - len (lf S r)) - 1) from pk_sub (four_pos _)) ?_
  refine lv_iand hx hb dX11_applied_79 ?_
  refine xt (show (nI w) &&& (nI (4 ^ (len w - p - len (lf S r)) - 1)) = nI (w % 4 ^ (len w - p - len (lf S r))) from sh_m (by omega)) ?_
  refine lv_ior hx hb dX11_applied_80 ?_
  refine xt (show (nI ((w / 4 ^ (len w - p) * 4 ^ len (rt S r) + rt S r % 4 ^ len (rt S r)) * 4 ^ (len w - p - len (lf S r)))) ||| (nI (w % 4 ^ (len w - p - len (lf S r)))) = nI (app (lf S r) (rt S r) w p) from sh_o b4) ?_
  exact hret _ _ _ _ _ _ dX11_applied_81 ⟨rfl, rfl⟩ hP hD hS
