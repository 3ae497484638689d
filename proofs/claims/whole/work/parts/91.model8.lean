/-! the reference: texts -/
theorem rdF_2 {txt : Nat → Nat} {n : Nat} : ∀ (f a w w' c : Nat), (rdF txt n 12 f a w c).2 = (rdF txt n 13 f a w' c).2
  | 0, a, w, w', c => rfl
  | f + 1, a, w, w', c => by
    unfold rdF
    by_cases h : a < n ∧ 97 ≤ txt a ∧ txt a ≤ 100
    · rw [if_pos h, if_pos h]; exact rdF_2 f _ _ _ _
    · rw [if_neg h, if_neg h]
theorem rdF_c {txt : Nat → Nat} {n l : Nat} : ∀ (f a w c : Nat), c ≤ (rdF txt n l f a w c).2.1
  | 0, a, w, c => Nat.le_refl _
  | f + 1, a, w, c => by
    unfold rdF
    by_cases h : a < n ∧ 97 ≤ txt a ∧ txt a ≤ 100
    · rw [if_pos h]; have := rdF_c (txt := txt) (n := n) (l := l) f (a + 1) (if c < l then w * 4 + (txt a - 97) else w) (c + 1); omega
    · rw [if_neg h]; exact Nat.le_refl _
theorem rdF_1 {txt : Nat → Nat} {n : Nat} : ∀ (f a w c : Nat), (rdF txt n 12 f a w c).2.1 ≤ 12 → (rdF txt n 12 f a w c).1 = (rdF txt n 13 f a w c).1
  | 0, a, w, c, _ => rfl
  | f + 1, a, w, c, hc => by
    unfold rdF at hc ⊢
    by_cases h : a < n ∧ 97 ≤ txt a ∧ txt a ≤ 100
    · rw [if_pos h] at hc ⊢
      rw [if_pos h]
      have h2 := rdF_c (txt := txt) (n := n) (l := 12) f (a + 1) (if c < 12 then w * 4 + (txt a - 97) else w) (c + 1)
      have h3 : c < 12 := by omega
      rw [if_pos h3] at hc ⊢
      rw [if_pos (show c < 13 by omega)]
      exact rdF_1 f _ _ _ hc
    · rw [if_neg h, if_neg h]
theorem rd_2 {txt : Nat → Nat} {n a : Nat} : (rd txt n 12 a).2 = (rd txt n 13 a).2 := by unfold rd; rw [sl_eq, sl_eq]; exact rdF_2 _ _ _ _ _
theorem rd_1 {txt : Nat → Nat} {n a : Nat} (h : (rd txt n 13 a).2.1 ≤ 12) : (rd txt n 12 a).1 = (rd txt n 13 a).1 := by
  rw [← rd_2] at h
  unfold rd at h ⊢
  rw [sl_eq] at h
  rw [sl_eq, sl_eq]
  exact rdF_1 _ _ _ _ h
theorem rd_len {txt : Nat → Nat} {n a : Nat} (ha : a ≤ n) : len (rd txt n 13 a).1 = min (rd txt n 13 a).2.1 13 := len_wd (rd_ok ha).2.2.1
theorem sg_in {txt : Nat → Nat} {n a : Nat} (h : a < n) : sgI txt n a = nI (txt a) := if_pos h
theorem sg_out {txt : Nat → Nat} {n a : Nat} (h : ¬ a < n) : sgI txt n a = (-1) := if_neg h
theorem sg_eq {txt : Nat → Nat} {n a c : Nat} (hb2 : a < n → txt a < 127) (hc : c < 127) : (sgI txt n a).toInt = (nI c).toInt ↔ (a < n ∧ txt a = c) := by
  have ec : (nI c).toInt = (c : Int) := nI_toInt (by omega)
  have em1 : (-1 : Int32).toInt = -1 := rfl
  by_cases h : a < n
  · have h1 := hb2 h
    have e1 : (nI (txt a)).toInt = (txt a : Int) := nI_toInt (by omega)
    rw [sg_in h, ec, e1]
    omega
  · rw [sg_out h, ec, em1]
    omega
theorem sg_rng {txt : Nat → Nat} {n a lo hi : Nat} (hb2 : a < n → txt a < 127) (hl : lo < 127) (hh : hi < 127) (h0 : 0 < lo) : inI (sgI txt n a) (nI lo) (nI hi) = decide (a < n ∧ lo ≤ txt a ∧ txt a ≤ hi) := by
  have el : (nI lo).toInt = (lo : Int) := nI_toInt (by omega)
  have eh : (nI hi).toInt = (hi : Int) := nI_toInt (by omega)
  have em1 : (-1 : Int32).toInt = -1 := rfl
  unfold inI
  rw [el, eh]
  by_cases h : a < n
  · have h1 := hb2 h
    have e1 : (nI (txt a)).toInt = (txt a : Int) := nI_toInt (by omega)
    rw [sg_in h, e1]
    by_cases q : lo ≤ txt a ∧ txt a ≤ hi
    · rw [decide_eq_true (by omega), decide_eq_true ⟨h, q.1, q.2⟩]
    · rw [decide_eq_false (by omega), decide_eq_false (fun z => q ⟨z.2.1, z.2.2⟩)]
  · rw [sg_out h, em1, decide_eq_false (by omega), decide_eq_false (fun z => h z.1)]
theorem dg_rng {txt : Nat → Nat} {n a : Nat} (hb2 : a < n → txt a < 127) : inI (sgI txt n a - nI 48) (nI 0) (nI 9) = dgB txt n a := by
  have e0 : (nI 0).toInt = 0 := rfl
  have e9 : (nI 9).toInt = 9 := rfl
  unfold inI dgB
  rw [e0, e9]
  by_cases h : a < n
  · have h1 := hb2 h
    have e1 : (nI (txt a) - nI 48).toInt = (txt a : Int) - 48 := pk_sub_toInt (by omega) (by omega)
    rw [sg_in h, e1]
    by_cases q : 48 ≤ txt a ∧ txt a ≤ 57
    · rw [decide_eq_true (by omega), decide_eq_true ⟨h, q.1, q.2⟩]
    · rw [decide_eq_false (by omega), decide_eq_false (fun z => q ⟨z.2.1, z.2.2⟩)]
  · have e1 : ((-1 : Int32) - nI 48).toInt = -49 := rfl
    rw [sg_out h, e1, decide_eq_false (by omega), decide_eq_false (fun z => h z.1)]
def csI (d : Nat × Nat × St) : Int32 := if d.1 = 2 then (-1000004) else nI d.2.1
theorem dropR_y {S : St} {d : Nat} (h : d < S 1) (hb2 : d < 1000) : dropR S (nI d) = (nI (S 1 - 1), dropS S d) := by
  have e : (nI d).toInt = (d : Int) := nI_toInt (by omega)
  unfold dropR
  rw [if_pos (show inR S (nI d) = true from decide_eq_true (by omega)), e, Int.toNat_natCast]
theorem dropR_n {S : St} {d : Nat} (h : ¬ d < S 1) (hb2 : d < 1000) : dropR S (nI d) = ((-1000001), S) := by
  have e : (nI d).toInt = (d : Int) := nI_toInt (by omega)
  unfold dropR
  rw [show inR S (nI d) = false from decide_eq_false (by omega)]; rfl
theorem wayR_y {S : St} {d : Nat} (h : d ≤ 2) : wayR S (nI d) = (nI (S 2), wayS S d) := by
  have e : (nI d).toInt = (d : Int) := nI_toInt (by omega)
  unfold wayR
  rw [if_pos (by omega), e, Int.toNat_natCast]
theorem wayR_n {S : St} {d : Nat} (h : ¬ d ≤ 2) (hb2 : d < 1000) : wayR S (nI d) = ((-1000001), S) := by
  have e : (nI d).toInt = (d : Int) := nI_toInt (by omega)
  unfold wayR
  rw [if_neg (by omega)]
theorem stepR_bad {S : St} (hc : nrm S (S 0) = false → chr S (S 0) < 10) (h : (stepR S).1.toInt ≤ -1000001) : nrm S (S 0) = true := by
  cases e : nrm S (S 0) with
  | true => rfl
  | false =>
    exfalso
    have h9 := hc e
    have h1 : (stepR S).1 = nI (chr S (S 0)) := by unfold stepR; rw [e]; rfl
    rw [h1, nI_toInt (by omega)] at h
    omega
theorem stepR_good {S : St} (h : -1000001 < (stepR S).1.toInt) : nrm S (S 0) = false := by
  cases e : nrm S (S 0) with
  | false => rfl
  | true =>
    exfalso
    have h1 : (stepR S).1 = (-1000002) := by unfold stepR; rw [if_pos e]
    rw [h1] at h
    exact absurd h (by decide)
theorem normR_good {S : St} (hI : IR S) (hw : vw 12 (S 0)) (h : -1000001 < (normR S).1.toInt) : ¬ (normR S).1.toInt < 0 := by
  by_cases e : fs S (S 0) < S 3
  · rw [normR_f e]; exact (by decide : ¬ (0 : Int32).toInt < 0)
  · by_cases e2 : (red S (S 0)).1 = 0
    · obtain ⟨z1, -⟩ := red_ok hI hw
      rw [normR_z e e2]
      show ¬ (nI (red S (S 0)).2.1).toInt < 0
      rw [nI_toInt (by omega)]
      omega
    · by_cases e4 : (red S (S 0)).1 = 1
      · rw [normR_r e e4] at h; exact absurd (show (-1000001 : Int) < (-1000002 : Int32).toInt from h) (by decide)
      · rw [normR_g e e2 e4] at h; exact absurd (show (-1000001 : Int) < (-1000003 : Int32).toInt from h) (by decide)

theorem hi_X11_sign_X11 : ∀ w ∈ u_ws RX11 TX11 27, w ∈ wsX11_sign := by decide +kernel
set_option maxHeartbeats 1000000 in
set_option maxRecDepth 100000 in
theorem k_X11_sign (lY : Launch) (D : va_G) (cA : Nat → ClassId) (B : Nat → Nat) (S : St) (WA BG AS TX RW RR FD : Nat → Int32) (m1 m4 m5 m6 m7 m8 m9 m10 m11 m12 m13 m14 m15 m16 m17 m18 m19 : Int32) (txt : Nat → Nat) (m a : Nat) (htx : rTx txt m TX) (ha : a ≤ 200) : MetI lY D cA yX11_sign wsX11_sign 0 0 [.ref (B 0)] (gMo cA B (fN S) WA BG AS TX RW RR FD m1 (nI m) (nI a) m4 m5 m6 m7 m8 m9 m10 m11 m12 m13 m14 m15 m16 m17 m18 m19) (fun rY wY => rY = sgI txt m a ∧ wY = gMo cA B (fN S) WA BG AS TX RW RR FD m1 (nI m) (nI a) m4 m5 m6 m7 m8 m9 m10 m11 m12 m13 m14 m15 m16 m17 m18 m19) := by
  refine MetI.of (cc := cX11_sign) (maxL := 1) (ret := (some .int)) (by decide) rfl (Nat.le_of_ble_eq_true rfl) (Or.inl rfl) ?_
  intro pY eY sY mY aY bY tY cY QY AY ls h0 hP hK hN hD hA hS hl hret
  obtain ⟨hx, hb, hml, hown, hts⟩ := id h0
  have hl : lv_has ls 1 [(0, .ref (B 0))] := hl
  have hP : va_P D vwCl (gMo cA B (fN S) WA BG AS TX RW RR FD m1 (nI m) (nI a) m4 m5 m6 m7 m8 m9 m10 m11 m12 m13 m14 m15 m16 m17 m18 m19) sY.heap := hP
  have hD : va_D AY (gMo cA B (fN S) WA BG AS TX RW RR FD m1 (nI m) (nI a) m4 m5 m6 m7 m8 m9 m10 m11 m12 m13 m14 m15 m16 m17 m18 m19) := hD
  have h80 := htx.1
  refine lv_aload_n hx hb dX11_sign_0 rfl (lv_at hl 0 rfl) ?_
  refine va_get (D := D) (ci := 10) (v := .int (nI a)) (C := RX11) (T := TX11) (N := 27) hx hb hts hi_X11_sign_X11 hown hK hP 0 rfl rfl 7 (by decide) (hts (.fieldLink RX11 179 "FallingWordsModel" "at" "I") (by decide +kernel)) (fun _ h9 => h9) rfl dX11_sign_1 ?_
  refine lv_aload_n hx hb dX11_sign_4 rfl (lv_at hl 0 rfl) ?_
  refine va_get (D := D) (ci := 10) (v := .int (nI m)) (C := RX11) (T := TX11) (N := 27) hx hb hts hi_X11_sign_X11 hown hK hP 0 rfl rfl 6 (by decide) (hts (.fieldLink RX11 176 "FallingWordsModel" "typed" "I") (by decide +kernel)) (fun _ h9 => h9) rfl dX11_sign_5 ?_
  refine xc_ge (tgt := 23) hx hb dX11_sign_8 (by decide) (by omega) (by omega) (fun c8 => ?_) (fun c8 => ?_)
  · refine lv_iconst (v := (-1)) hx hb dX11_sign_23 (by decide +kernel) ?_
    exact hret _ _ _ _ _ _ dX11_sign_24 ⟨((sg_out (by omega)).symm), rfl⟩ hP hD hS
  · obtain ⟨g1, g2⟩ := htx.2 a c8
    refine lv_aload_n hx hb dX11_sign_11 rfl (lv_at hl 0 rfl) ?_
    refine va_get (D := D) (ci := 10) (v := .ref (B 5)) (C := RX11) (T := TX11) (N := 27) hx hb hts hi_X11_sign_X11 hown hK hP 0 rfl rfl 5 (by decide) (hts (.fieldLink RX11 22 "FallingWordsModel" "text" "[C") (by decide +kernel)) (fun _ h9 => h9) rfl dX11_sign_12 ?_
    refine lv_aload_n hx hb dX11_sign_15 rfl (lv_at hl 0 rfl) ?_
    refine va_get (D := D) (ci := 10) (v := .int (nI a)) (C := RX11) (T := TX11) (N := 27) hx hb hts hi_X11_sign_X11 hown hK hP 0 rfl rfl 7 (by decide) (hts (.fieldLink RX11 179 "FallingWordsModel" "at" "I") (by decide +kernel)) (fun _ h9 => h9) rfl dX11_sign_16 ?_
    refine xa_cld (v := nI (txt a)) hx hb hK hP 5 rfl (by omega) (by decide) (g1) dX11_sign_19 ?_
    refine lv_goto (tgt := 24) hx hb dX11_sign_20 (by decide) ?_
    exact hret _ _ _ _ _ _ dX11_sign_24 ⟨((sg_in c8).symm), rfl⟩ hP hD hS

theorem hi_X11_takes_X11 : ∀ w ∈ u_ws RX11 TX11 27, w ∈ wsX11_takes := by decide +kernel
set_option maxHeartbeats 1000000 in
set_option maxRecDepth 100000 in
theorem k_X11_takes (lY : Launch) (D : va_G) (cA : Nat → ClassId) (B : Nat → Nat) (S : St) (WA BG AS TX RW RR FD : Nat → Int32) (m1 m4 m5 m6 m7 m8 m9 m10 m11 m12 m13 m14 m15 m16 m17 m18 m19 : Int32) (txt : Nat → Nat) (m a c : Nat) (htx : rTx txt m TX) (ha : a ≤ 200) (hc : c < 127) : MetI lY D cA yX11_takes wsX11_takes 1 20 [.ref (B 0), .int (nI c)] (gMo cA B (fN S) WA BG AS TX RW RR FD m1 (nI m) (nI a) m4 m5 m6 m7 m8 m9 m10 m11 m12 m13 m14 m15 m16 m17 m18 m19) (fun rY wY => rY = bI (psB txt m a c) ∧ wY = gMo cA B (fN S) WA BG AS TX RW RR FD m1 (nI m) (nI (psA txt m a c)) m4 m5 m6 m7 m8 m9 m10 m11 m12 m13 m14 m15 m16 m17 m18 m19) := by
  refine MetI.of (cc := cX11_takes) (maxL := 3) (ret := (some .boolean)) (by decide) rfl (Nat.le_of_ble_eq_true rfl) (Or.inr ⟨rfl, fun r w' h => by obtain ⟨h, -⟩ := h; rw [h]; exact bI_nar _⟩) ?_
  intro pY eY sY mY aY bY tY cY QY AY ls h0 hP hK hN hD hA hS hl hret
  obtain ⟨hx, hb, hml, hown, hts⟩ := id h0
  have hl : lv_has ls 3 [(0, .ref (B 0)), (1, .int (nI c))] := hl
  have hP : va_P D vwCl (gMo cA B (fN S) WA BG AS TX RW RR FD m1 (nI m) (nI a) m4 m5 m6 m7 m8 m9 m10 m11 m12 m13 m14 m15 m16 m17 m18 m19) sY.heap := hP
  have hD : va_D AY (gMo cA B (fN S) WA BG AS TX RW RR FD m1 (nI m) (nI a) m4 m5 m6 m7 m8 m9 m10 m11 m12 m13 m14 m15 m16 m17 m18 m19) := hD
  have h80 := htx.1
  refine lv_aload_n hx hb dX11_takes_0 rfl (lv_at hl 0 rfl) ?_
  refine ci_V (As := []) (rest := []) h0 hK hN hP hD hS hA hl.1 (k_X11_sign lY D cA B S WA BG AS TX RW RR FD m1 m4 m5 m6 m7 m8 m9 m10 m11 m12 m13 m14 m15 m16 m17 m18 m19 txt m a (by first | assumption | omega) (by first | assumption | omega)) [0, 1, 2, 3, 4, 5, 6, 7, 8] rfl (by decide) (cwV 0 hts gX11_takes_X11_sign rfl rfl rfl (by decide +kernel) ⟨Nat.le_of_ble_eq_true rfl, Nat.le_of_ble_eq_true rfl⟩) (cl_recv (ci := 10) (q := (RX11, TX11, 27)) (q0 := 0) hP hK rfl rfl) rfl rfl (Nat.le_of_ble_eq_true rfl) dX11_takes_1 ⟨Nat.zero_le _, Nat.zero_le _⟩ (fun rY wY H locs hwY hJ hS => ?_)
  obtain ⟨e1Y, e2Y⟩ := hwY
  have e3Y := e1Y.symm
  clear e1Y
  subst e3Y
  have e3Y := e2Y.symm
  clear e2Y
  subst e3Y
  obtain ⟨hP, hD⟩ := hJ rfl
  have hP : va_P D vwCl (gMo cA B (fN S) WA BG AS TX RW RR FD m1 (nI m) (nI a) m4 m5 m6 m7 m8 m9 m10 m11 m12 m13 m14 m15 m16 m17 m18 m19) H := hP
  have hD : va_D AY (gMo cA B (fN S) WA BG AS TX RW RR FD m1 (nI m) (nI a) m4 m5 m6 m7 m8 m9 m10 m11 m12 m13 m14 m15 m16 m17 m18 m19) := hD
  refine lv_iload_n hx hb dX11_takes_4 rfl (lv_at hl 1 rfl) ?_
  refine xr_ne (tgt := 12) hx hb dX11_takes_5 (by decide) (fun c5 => ?_) (fun c5 => ?_)
  · refine lv_iconst (v := nI 0) hx hb dX11_takes_12 (by decide +kernel) ?_
    refine lv_istore_n (lv' := [(2, .int (nI 0)), (0, .ref (B 0)), (1, .int (nI c))]) hx hb dX11_takes_13 rfl hl (by decide) rfl (fun ls hl => ?_)
    refine lv_aload_n hx hb dX11_takes_14 rfl (lv_at hl 1 rfl) ?_
    refine lv_dup hx hb dX11_takes_15 rfl ?_
    refine va_get (D := D) (ci := 10) (v := .int (nI a)) (C := RX11) (T := TX11) (N := 27) hx hb hts hi_X11_takes_X11 hown hK hP 0 rfl rfl 7 (by decide) (hts (.fieldLink RX11 179 "FallingWordsModel" "at" "I") (by decide +kernel)) (fun _ h9 => h9) rfl dX11_takes_16 ?_
    refine lv_iload_n hx hb dX11_takes_19 rfl (lv_at hl 0 rfl) ?_
    refine lv_if_eq (tgt := 27) hx hb dX11_takes_20 (by decide) (fun c20 => ?_) (fun c20 => ?_)
    rotate_left
    · exact absurd (by decide +kernel) c20
    refine lv_iconst (v := nI 0) hx hb dX11_takes_27 (by decide +kernel) ?_
    refine lv_iadd hx hb dX11_takes_28 ?_
    refine xt (show (nI a) + (nI 0) = nI (a + 0) from nI_add _ _) ?_
    refine va_put (D := D) (ci := 10) (v := .int (nI (a + 0))) (ty := .int) (C := RX11) (T := TX11) (N := 27) hx hb hts hi_X11_takes_X11 tyX11 tyX11_ok nmX11 hown hK hP hD hS 0 rfl rfl 7 (by decide) (hts (.fieldLink RX11 179 "FallingWordsModel" "at" "I") (by decide +kernel)) (fun _ h9 => h9) rfl (by decide +kernel) rfl rfl (Nat.le_of_ble_eq_true rfl) dX11_takes_29 (fun H locs hP hD hS => ?_)
    have hP : va_P D vwCl (gMo cA B (fN S) WA BG AS TX RW RR FD m1 (nI m) (nI (a + 0)) m4 m5 m6 m7 m8 m9 m10 m11 m12 m13 m14 m15 m16 m17 m18 m19) H := hP
    have hD : va_D AY (gMo cA B (fN S) WA BG AS TX RW RR FD m1 (nI m) (nI (a + 0)) m4 m5 m6 m7 m8 m9 m10 m11 m12 m13 m14 m15 m16 m17 m18 m19) := hD
    refine lv_iload_n hx hb dX11_takes_32 rfl (lv_at hl 0 rfl) ?_
    have hz : psB txt m a c = false := decide_eq_false (fun z => c5 ((sg_eq (fun z => (htx.2 a z).2) hc).mpr z))
    exact hret _ _ _ _ _ _ dX11_takes_33 ⟨(by rw [hz]; rfl), (by rw [psA_f hz]; rfl)⟩ hP hD hS
  · refine lv_iconst (v := nI 1) hx hb dX11_takes_8 (by decide +kernel) ?_
    refine lv_goto (tgt := 13) hx hb dX11_takes_9 (by decide) ?_
    refine lv_istore_n (lv' := [(2, .int (nI 1)), (0, .ref (B 0)), (1, .int (nI c))]) hx hb dX11_takes_13 rfl hl (by decide) rfl (fun ls hl => ?_)
    refine lv_aload_n hx hb dX11_takes_14 rfl (lv_at hl 1 rfl) ?_
    refine lv_dup hx hb dX11_takes_15 rfl ?_
    refine va_get (D := D) (ci := 10) (v := .int (nI a)) (C := RX11) (T := TX11) (N := 27) hx hb hts hi_X11_takes_X11 hown hK hP 0 rfl rfl 7 (by decide) (hts (.fieldLink RX11 179 "FallingWordsModel" "at" "I") (by decide +kernel)) (fun _ h9 => h9) rfl dX11_takes_16 ?_
    refine lv_iload_n hx hb dX11_takes_19 rfl (lv_at hl 0 rfl) ?_
    refine lv_if_eq (tgt := 27) hx hb dX11_takes_20 (by decide) (fun c20 => ?_) (fun c20 => ?_)
    · exact absurd c20 (by decide +kernel)
    refine lv_iconst (v := nI 1) hx hb dX11_takes_23 (by decide +kernel) ?_
    refine lv_goto (tgt := 28) hx hb dX11_takes_24 (by decide) ?_
    refine lv_iadd hx hb dX11_takes_28 ?_
    refine xt (show (nI a) + (nI 1) = nI (a + 1) from nI_add _ _) ?_
    refine va_put (D := D) (ci := 10) (v := .int (nI (a + 1))) (ty := .int) (C := RX11) (T := TX11) (N := 27) hx hb hts hi_X11_takes_X11 tyX11 tyX11_ok nmX11 hown hK hP hD hS 0 rfl rfl 7 (by decide) (hts (.fieldLink RX11 179 "FallingWordsModel" "at" "I") (by decide +kernel)) (fun _ h9 => h9) rfl (by decide +kernel) rfl rfl (Nat.le_of_ble_eq_true rfl) dX11_takes_29 (fun H locs hP hD hS => ?_)
    have hP : va_P D vwCl (gMo cA B (fN S) WA BG AS TX RW RR FD m1 (nI m) (nI (a + 1)) m4 m5 m6 m7 m8 m9 m10 m11 m12 m13 m14 m15 m16 m17 m18 m19) H := hP
    have hD : va_D AY (gMo cA B (fN S) WA BG AS TX RW RR FD m1 (nI m) (nI (a + 1)) m4 m5 m6 m7 m8 m9 m10 m11 m12 m13 m14 m15 m16 m17 m18 m19) := hD
    refine lv_iload_n hx hb dX11_takes_32 rfl (lv_at hl 0 rfl) ?_
    have hz : psB txt m a c = true := decide_eq_true ((sg_eq (fun z => (htx.2 a z).2) hc).mp c5)
    exact hret _ _ _ _ _ _ dX11_takes_33 ⟨(by rw [hz]; rfl), (by rw [psA_t hz])⟩ hP hD hS

theorem hi_X11_readsWord_X11 : ∀ w ∈ u_ws RX11 TX11 27, w ∈ wsX11_readsWord := by decide +kernel
set_option maxHeartbeats 1000000 in
set_option maxRecDepth 100000 in
theorem k_X11_readsWord (lY : Launch) (D : va_G) (cA : Nat → ClassId) (B : Nat → Nat) (S : St) (WA BG AS TX RW RR FD : Nat → Int32) (m1 m4 m5 m6 m7 m8 m9 m10 m11 m12 m13 m14 m15 m16 m17 m18 m19 : Int32) (txt : Nat → Nat) (m a : Nat) (htx : rTx txt m TX) (ha : a ≤ m) : MetV lY D cA yX11_readsWord wsX11_readsWord 1 22 0 0 [.ref (B 0)] (gMo cA B (fN S) WA BG AS TX RW RR FD m1 (nI m) (nI a) m4 m5 m6 m7 m8 m9 m10 m11 m12 m13 m14 m15 m16 m17 m18 m19) (fun wY => wY = gMo cA B (fN S) WA BG AS TX RW RR FD m1 (nI m) (nI ((rd txt m 13 a).2.2)) m4 m5 (nI ((rd txt m 12 a).1)) (nI ((rd txt m 13 a).2.1)) m8 m9 m10 m11 m12 m13 m14 m15 m16 m17 m18 m19) := by
  refine MetV.of (cc := cX11_readsWord) (maxL := 1) (by decide) rfl (Nat.le_of_ble_eq_true rfl) ?_
  intro pY eY sY mY aY bY tY cY QY AY ls h0 hP hK hN hD hA hS hl hin hret
  obtain ⟨hx, hb, hml, hown, hts⟩ := id h0
  have hl : lv_has ls 1 [(0, .ref (B 0))] := hl
  have hP : va_P D vwCl (gMo cA B (fN S) WA BG AS TX RW RR FD m1 (nI m) (nI a) m4 m5 m6 m7 m8 m9 m10 m11 m12 m13 m14 m15 m16 m17 m18 m19) sY.heap := hP
  have hD : va_D AY (gMo cA B (fN S) WA BG AS TX RW RR FD m1 (nI m) (nI a) m4 m5 m6 m7 m8 m9 m10 m11 m12 m13 m14 m15 m16 m17 m18 m19) := hD
  have h80 := htx.1
  refine lv_aload_n hx hb dX11_readsWord_0 rfl (lv_at hl 0 rfl) ?_
  refine lv_iconst (v := nI 1) hx hb dX11_readsWord_1 (by decide +kernel) ?_
  refine va_put (D := D) (ci := 10) (v := .int (nI 1)) (ty := .int) (C := RX11) (T := TX11) (N := 27) hx hb hts hi_X11_readsWord_X11 tyX11 tyX11_ok nmX11 hown hK hP hD hS 0 rfl rfl 10 (by decide) (hts (.fieldLink RX11 185 "FallingWordsModel" "read" "I") (by decide +kernel)) (fun _ h9 => h9) rfl (by decide +kernel) rfl rfl (Nat.le_of_ble_eq_true rfl) dX11_readsWord_2 (fun H locs hP hD hS => ?_)
  have hP : va_P D vwCl (gMo cA B (fN S) WA BG AS TX RW RR FD m1 (nI m) (nI a) m4 m5 (nI 1) m7 m8 m9 m10 m11 m12 m13 m14 m15 m16 m17 m18 m19) H := hP
  have hD : va_D AY (gMo cA B (fN S) WA BG AS TX RW RR FD m1 (nI m) (nI a) m4 m5 (nI 1) m7 m8 m9 m10 m11 m12 m13 m14 m15 m16 m17 m18 m19) := hD
  refine lv_aload_n hx hb dX11_readsWord_5 rfl (lv_at hl 0 rfl) ?_
  refine lv_iconst (v := nI 0) hx hb dX11_readsWord_6 (by decide +kernel) ?_
  refine va_put (D := D) (ci := 10) (v := .int (nI 0)) (ty := .int) (C := RX11) (T := TX11) (N := 27) hx hb hts hi_X11_readsWord_X11 tyX11 tyX11_ok nmX11 hown hK hP hD hS 0 rfl rfl 11 (by decide) (hts (.fieldLink RX11 188 "FallingWordsModel" "readLength" "I") (by decide +kernel)) (fun _ h9 => h9) rfl (by decide +kernel) rfl rfl (Nat.le_of_ble_eq_true rfl) dX11_readsWord_7 (fun H locs hP hD hS => ?_)
  have hP : va_P D vwCl (gMo cA B (fN S) WA BG AS TX RW RR FD m1 (nI m) (nI a) m4 m5 (nI 1) (nI 0) m8 m9 m10 m11 m12 m13 m14 m15 m16 m17 m18 m19) H := hP
  have hD : va_D AY (gMo cA B (fN S) WA BG AS TX RW RR FD m1 (nI m) (nI a) m4 m5 (nI 1) (nI 0) m8 m9 m10 m11 m12 m13 m14 m15 m16 m17 m18 m19) := hD
  have L10 : ∀ (nY : Nat), ∀ (b : Nat) (w : Nat) (c : Nat) (f : Nat), (m - b < f) → (b ≤ m) → (c ≤ b) → (wd (min c 12) w) → (rdF txt m 12 f b w c = (rd txt m 12 a)) → (m - b < nY) → ∀ (H : Heap) (locs : List Loc) (ls : Array Slot), va_P D vwCl (gMo cA B (fN S) WA BG AS TX RW RR FD m1 (nI m) (nI b) m4 m5 (nI w) (nI c) m8 m9 m10 m11 m12 m13 m14 m15 m16 m17 m18 m19) H → va_D AY (gMo cA B (fN S) WA BG AS TX RW RR FD m1 (nI m) (nI b) m4 m5 (nI w) (nI c) m8 m9 m10 m11 m12 m13 m14 m15 m16 m17 m18 m19) → va_S AY sY.heap H locs → lv_has ls 1 [(0, .ref (B 0))] → W pY lY eY { frames := 1, cells := 0, slots := 0, locals := 22 } sY mY aY bY tY cY H locs 0 0 QY (F0 mY 10 ls []) := by
    intro nY10
    induction nY10 with
    | zero => intro b w c f hf hbm hca hw1 hrd hm10; exact absurd hm10 (Nat.not_lt_zero _)
    | succ nY10 ih10 =>
      intro b w c f hf hbm hca hw1 hrd hm10 H locs ls hP hD hS hl
      have hwB := wd_lt hw1 (m := 12) (by omega)
      have e12 : 2 * 4 ^ 12 = 33554432 := by decide
      refine lv_aload_n hx hb dX11_readsWord_10 rfl (lv_at hl 0 rfl) ?_
      refine ci_V (As := []) (rest := []) h0 hK hN hP hD hS hA hl.1 (k_X11_sign lY D cA B S WA BG AS TX RW RR FD m1 m4 m5 (nI w) (nI c) m8 m9 m10 m11 m12 m13 m14 m15 m16 m17 m18 m19 txt m b (by first | assumption | omega) (by omega)) [0, 1, 2, 3, 4, 5, 6, 7, 8] rfl (by decide) (cwV 0 hts gX11_readsWord_X11_sign rfl rfl rfl (by decide +kernel) ⟨Nat.le_of_ble_eq_true rfl, Nat.le_of_ble_eq_true rfl⟩) (cl_recv (ci := 10) (q := (RX11, TX11, 27)) (q0 := 0) hP hK rfl rfl) rfl rfl (Nat.le_of_ble_eq_true rfl) dX11_readsWord_11 ⟨Nat.zero_le _, Nat.zero_le _⟩ (fun rY wY H locs hwY hJ hS => ?_)
      obtain ⟨e1Y, e2Y⟩ := hwY
      have e3Y := e1Y.symm
      clear e1Y
      subst e3Y
      have e3Y := e2Y.symm
      clear e2Y
      subst e3Y
      obtain ⟨hP, hD⟩ := hJ rfl
      have hP : va_P D vwCl (gMo cA B (fN S) WA BG AS TX RW RR FD m1 (nI m) (nI b) m4 m5 (nI w) (nI c) m8 m9 m10 m11 m12 m13 m14 m15 m16 m17 m18 m19) H := hP
      have hD : va_D AY (gMo cA B (fN S) WA BG AS TX RW RR FD m1 (nI m) (nI b) m4 m5 (nI w) (nI c) m8 m9 m10 m11 m12 m13 m14 m15 m16 m17 m18 m19) := hD
      refine lv_bipush (v := nI 97) hx hb dX11_readsWord_14 (by decide +kernel) ?_
      refine lv_bipush (v := nI 100) hx hb dX11_readsWord_16 (by decide +kernel) ?_
      refine ci_S (As := [.int (sgI txt m b), .int (nI 97), .int (nI 100)]) (rest := []) h0 hK hN hP hD hS hA hl.1 (k_X11_in lY D cA (sgI txt m b) (nI 97) (nI 100) ) [] rfl (by decide) (va_cwS 3 hts gX11_readsWord_X11_in rfl rfl rfl (by decide +kernel) ⟨Nat.le_of_ble_eq_true rfl, Nat.le_of_ble_eq_true rfl⟩) rfl rfl (Nat.le_of_ble_eq_true rfl) dX11_readsWord_18 ⟨Nat.zero_le _, Nat.zero_le _⟩ (fun rY wY H locs hwY hJ hS => ?_)
      obtain ⟨e1Y, e2Y⟩ := hwY
      have e3Y := e1Y.symm
      clear e1Y
      subst e3Y
      have e3Y := e2Y.symm
      clear e2Y
      subst e3Y
      obtain ⟨hP, hD⟩ := hJ rfl
      have hP : va_P D vwCl (gMo cA B (fN S) WA BG AS TX RW RR FD m1 (nI m) (nI b) m4 m5 (nI w) (nI c) m8 m9 m10 m11 m12 m13 m14 m15 m16 m17 m18 m19) H := hP
      have hD : va_D AY (gMo cA B (fN S) WA BG AS TX RW RR FD m1 (nI m) (nI b) m4 m5 (nI w) (nI c) m8 m9 m10 m11 m12 m13 m14 m15 m16 m17 m18 m19) := hD
      refine xt (show bI (inI (sgI txt m b) (nI 97) (nI 100)) = bI (decide (b < m ∧ 97 ≤ txt b ∧ txt b ≤ 100)) from congrArg bI (sg_rng (fun z => (htx.2 b z).2) (by decide) (by decide) (by decide))) ?_
      refine xb_eq (tgt := 81) hx hb dX11_readsWord_21 (by decide) (fun c21 => ?_) (fun c21 => ?_)
      · have hfin : (rd txt m 12 a) = (w, c, b) := by rw [← hrd, show f = (f - 1) + 1 by omega, rdF, if_neg (fun z => of_decide_eq_false c21 z)]
        exact hret _ _ _ _ _ dX11_readsWord_81 (by rw [← rd_2, hfin]) hP hD hS
      · obtain ⟨d1, d2, d3⟩ := of_decide_eq_true c21
        refine lv_aload_n hx hb dX11_readsWord_24 rfl (lv_at hl 0 rfl) ?_
        refine lv_aload_n hx hb dX11_readsWord_25 rfl (lv_at hl 0 rfl) ?_
        refine va_get (D := D) (ci := 10) (v := .int (nI c)) (C := RX11) (T := TX11) (N := 27) hx hb hts hi_X11_readsWord_X11 hown hK hP 0 rfl rfl 11 (by decide) (hts (.fieldLink RX11 188 "FallingWordsModel" "readLength" "I") (by decide +kernel)) (fun _ h9 => h9) rfl dX11_readsWord_26 ?_
        refine lv_bipush (v := nI 12) hx hb dX11_readsWord_29 (by decide +kernel) ?_
        refine xc_ge (tgt := 51) hx hb dX11_readsWord_31 (by decide) (by omega) (by omega) (fun c31 => ?_) (fun c31 => ?_)
        · refine lv_aload_n hx hb dX11_readsWord_51 rfl (lv_at hl 0 rfl) ?_
          refine va_get (D := D) (ci := 10) (v := .int (nI w)) (C := RX11) (T := TX11) (N := 27) hx hb hts hi_X11_readsWord_X11 hown hK hP 0 rfl rfl 10 (by decide) (hts (.fieldLink RX11 185 "FallingWordsModel" "read" "I") (by decide +kernel)) (fun _ h9 => h9) rfl dX11_readsWord_52 ?_
          refine va_put (D := D) (ci := 10) (v := .int (nI w)) (ty := .int) (C := RX11) (T := TX11) (N := 27) hx hb hts hi_X11_readsWord_X11 tyX11 tyX11_ok nmX11 hown hK hP hD hS 0 rfl rfl 10 (by decide) (hts (.fieldLink RX11 185 "FallingWordsModel" "read" "I") (by decide +kernel)) (fun _ h9 => h9) rfl (by decide +kernel) rfl rfl (Nat.le_of_ble_eq_true rfl) dX11_readsWord_55 (fun H locs hP hD hS => ?_)
          have hP : va_P D vwCl (gMo cA B (fN S) WA BG AS TX RW RR FD m1 (nI m) (nI b) m4 m5 (nI w) (nI c) m8 m9 m10 m11 m12 m13 m14 m15 m16 m17 m18 m19) H := hP
          have hD : va_D AY (gMo cA B (fN S) WA BG AS TX RW RR FD m1 (nI m) (nI b) m4 m5 (nI w) (nI c) m8 m9 m10 m11 m12 m13 m14 m15 m16 m17 m18 m19) := hD
          refine lv_aload_n hx hb dX11_readsWord_58 rfl (lv_at hl 0 rfl) ?_
          refine lv_dup hx hb dX11_readsWord_59 rfl ?_
          refine va_get (D := D) (ci := 10) (v := .int (nI c)) (C := RX11) (T := TX11) (N := 27) hx hb hts hi_X11_readsWord_X11 hown hK hP 0 rfl rfl 11 (by decide) (hts (.fieldLink RX11 188 "FallingWordsModel" "readLength" "I") (by decide +kernel)) (fun _ h9 => h9) rfl dX11_readsWord_60 ?_
          refine lv_iconst (v := nI 1) hx hb dX11_readsWord_63 (by decide +kernel) ?_
          refine lv_iadd hx hb dX11_readsWord_64 ?_
          refine xt (show (nI c) + (nI 1) = nI (c + 1) from nI_add _ _) ?_
          refine va_put (D := D) (ci := 10) (v := .int (nI (c + 1))) (ty := .int) (C := RX11) (T := TX11) (N := 27) hx hb hts hi_X11_readsWord_X11 tyX11 tyX11_ok nmX11 hown hK hP hD hS 0 rfl rfl 11 (by decide) (hts (.fieldLink RX11 188 "FallingWordsModel" "readLength" "I") (by decide +kernel)) (fun _ h9 => h9) rfl (by decide +kernel) rfl rfl (Nat.le_of_ble_eq_true rfl) dX11_readsWord_65 (fun H locs hP hD hS => ?_)
          have hP : va_P D vwCl (gMo cA B (fN S) WA BG AS TX RW RR FD m1 (nI m) (nI b) m4 m5 (nI w) (nI (c + 1)) m8 m9 m10 m11 m12 m13 m14 m15 m16 m17 m18 m19) H := hP
          have hD : va_D AY (gMo cA B (fN S) WA BG AS TX RW RR FD m1 (nI m) (nI b) m4 m5 (nI w) (nI (c + 1)) m8 m9 m10 m11 m12 m13 m14 m15 m16 m17 m18 m19) := hD
          refine lv_aload_n hx hb dX11_readsWord_68 rfl (lv_at hl 0 rfl) ?_
          refine lv_dup hx hb dX11_readsWord_69 rfl ?_
          refine va_get (D := D) (ci := 10) (v := .int (nI b)) (C := RX11) (T := TX11) (N := 27) hx hb hts hi_X11_readsWord_X11 hown hK hP 0 rfl rfl 7 (by decide) (hts (.fieldLink RX11 179 "FallingWordsModel" "at" "I") (by decide +kernel)) (fun _ h9 => h9) rfl dX11_readsWord_70 ?_
          refine lv_iconst (v := nI 1) hx hb dX11_readsWord_73 (by decide +kernel) ?_
          refine lv_iadd hx hb dX11_readsWord_74 ?_
          refine xt (show (nI b) + (nI 1) = nI (b + 1) from nI_add _ _) ?_
          refine va_put (D := D) (ci := 10) (v := .int (nI (b + 1))) (ty := .int) (C := RX11) (T := TX11) (N := 27) hx hb hts hi_X11_readsWord_X11 tyX11 tyX11_ok nmX11 hown hK hP hD hS 0 rfl rfl 7 (by decide) (hts (.fieldLink RX11 179 "FallingWordsModel" "at" "I") (by decide +kernel)) (fun _ h9 => h9) rfl (by decide +kernel) rfl rfl (Nat.le_of_ble_eq_true rfl) dX11_readsWord_75 (fun H locs hP hD hS => ?_)
          have hP : va_P D vwCl (gMo cA B (fN S) WA BG AS TX RW RR FD m1 (nI m) (nI (b + 1)) m4 m5 (nI w) (nI (c + 1)) m8 m9 m10 m11 m12 m13 m14 m15 m16 m17 m18 m19) H := hP
          have hD : va_D AY (gMo cA B (fN S) WA BG AS TX RW RR FD m1 (nI m) (nI (b + 1)) m4 m5 (nI w) (nI (c + 1)) m8 m9 m10 m11 m12 m13 m14 m15 m16 m17 m18 m19) := hD
          refine lv_goto (tgt := 10) hx hb dX11_readsWord_78 (by decide) ?_
          exact ih10 (b + 1) w (c + 1) (f - 1) (by omega) (by omega) (by omega) (by rw [show min (c + 1) 12 = min c 12 by omega]; exact hw1) (by rw [← hrd, show f = (f - 1) + 1 by omega, rdF, if_pos ⟨by omega, by omega, by omega⟩, if_neg (by omega), show f - 1 + 1 - 1 = f - 1 by omega]) (by omega) _ _ _ hP hD hS hl
        · refine lv_iconst (v := nI 4) hx hb dX11_readsWord_34 (by decide +kernel) ?_
          refine lv_aload_n hx hb dX11_readsWord_35 rfl (lv_at hl 0 rfl) ?_
          refine va_get (D := D) (ci := 10) (v := .int (nI w)) (C := RX11) (T := TX11) (N := 27) hx hb hts hi_X11_readsWord_X11 hown hK hP 0 rfl rfl 10 (by decide) (hts (.fieldLink RX11 185 "FallingWordsModel" "read" "I") (by decide +kernel)) (fun _ h9 => h9) rfl dX11_readsWord_36 ?_
          refine lv_imul hx hb dX11_readsWord_39 ?_
          refine xt (show (nI 4) * (nI w) = nI (4 * w) from pk_mul _ _) ?_
          refine lv_aload_n hx hb dX11_readsWord_40 rfl (lv_at hl 0 rfl) ?_
          refine ci_V (As := []) (rest := [.int (nI (4 * w)), .ref (B 0)]) h0 hK hN hP hD hS hA hl.1 (k_X11_sign lY D cA B S WA BG AS TX RW RR FD m1 m4 m5 (nI w) (nI c) m8 m9 m10 m11 m12 m13 m14 m15 m16 m17 m18 m19 txt m b (by first | assumption | omega) (by omega)) [0, 1, 2, 3, 4, 5, 6, 7, 8] rfl (by decide) (cwV 0 hts gX11_readsWord_X11_sign rfl rfl rfl (by decide +kernel) ⟨Nat.le_of_ble_eq_true rfl, Nat.le_of_ble_eq_true rfl⟩) (cl_recv (ci := 10) (q := (RX11, TX11, 27)) (q0 := 0) hP hK rfl rfl) rfl rfl (Nat.le_of_ble_eq_true rfl) dX11_readsWord_41 ⟨Nat.zero_le _, Nat.zero_le _⟩ (fun rY wY H locs hwY hJ hS => ?_)
          obtain ⟨e1Y, e2Y⟩ := hwY
          have e3Y := e1Y.symm
          clear e1Y
          subst e3Y
          have e3Y := e2Y.symm
          clear e2Y
          subst e3Y
          obtain ⟨hP, hD⟩ := hJ rfl
          have hP : va_P D vwCl (gMo cA B (fN S) WA BG AS TX RW RR FD m1 (nI m) (nI b) m4 m5 (nI w) (nI c) m8 m9 m10 m11 m12 m13 m14 m15 m16 m17 m18 m19) H := hP
          have hD : va_D AY (gMo cA B (fN S) WA BG AS TX RW RR FD m1 (nI m) (nI b) m4 m5 (nI w) (nI c) m8 m9 m10 m11 m12 m13 m14 m15 m16 m17 m18 m19) := hD
          refine xt (show sgI txt m b = nI (txt b) from sg_in d1) ?_
          refine lv_iadd hx hb dX11_readsWord_44 ?_
          refine xt (show (nI (4 * w)) + (nI (txt b)) = nI (4 * w + (txt b)) from nI_add _ _) ?_
          refine lv_bipush (v := nI 97) hx hb dX11_readsWord_45 (by decide +kernel) ?_
          refine lv_isub hx hb dX11_readsWord_47 ?_
          refine xt (show (nI (4 * w + (txt b))) - (nI 97) = nI (w * 4 + (txt b - 97)) from (pk_sub (by omega)).trans (congrArg nI (by omega))) ?_
          refine lv_goto (tgt := 55) hx hb dX11_readsWord_48 (by decide) ?_
          refine va_put (D := D) (ci := 10) (v := .int (nI (w * 4 + (txt b - 97)))) (ty := .int) (C := RX11) (T := TX11) (N := 27) hx hb hts hi_X11_readsWord_X11 tyX11 tyX11_ok nmX11 hown hK hP hD hS 0 rfl rfl 10 (by decide) (hts (.fieldLink RX11 185 "FallingWordsModel" "read" "I") (by decide +kernel)) (fun _ h9 => h9) rfl (by decide +kernel) rfl rfl (Nat.le_of_ble_eq_true rfl) dX11_readsWord_55 (fun H locs hP hD hS => ?_)
          have hP : va_P D vwCl (gMo cA B (fN S) WA BG AS TX RW RR FD m1 (nI m) (nI b) m4 m5 (nI (w * 4 + (txt b - 97))) (nI c) m8 m9 m10 m11 m12 m13 m14 m15 m16 m17 m18 m19) H := hP
          have hD : va_D AY (gMo cA B (fN S) WA BG AS TX RW RR FD m1 (nI m) (nI b) m4 m5 (nI (w * 4 + (txt b - 97))) (nI c) m8 m9 m10 m11 m12 m13 m14 m15 m16 m17 m18 m19) := hD
          refine lv_aload_n hx hb dX11_readsWord_58 rfl (lv_at hl 0 rfl) ?_
          refine lv_dup hx hb dX11_readsWord_59 rfl ?_
          refine va_get (D := D) (ci := 10) (v := .int (nI c)) (C := RX11) (T := TX11) (N := 27) hx hb hts hi_X11_readsWord_X11 hown hK hP 0 rfl rfl 11 (by decide) (hts (.fieldLink RX11 188 "FallingWordsModel" "readLength" "I") (by decide +kernel)) (fun _ h9 => h9) rfl dX11_readsWord_60 ?_
          refine lv_iconst (v := nI 1) hx hb dX11_readsWord_63 (by decide +kernel) ?_
          refine lv_iadd hx hb dX11_readsWord_64 ?_
          refine xt (show (nI c) + (nI 1) = nI (c + 1) from nI_add _ _) ?_
          refine va_put (D := D) (ci := 10) (v := .int (nI (c + 1))) (ty := .int) (C := RX11) (T := TX11) (N := 27) hx hb hts hi_X11_readsWord_X11 tyX11 tyX11_ok nmX11 hown hK hP hD hS 0 rfl rfl 11 (by decide) (hts (.fieldLink RX11 188 "FallingWordsModel" "readLength" "I") (by decide +kernel)) (fun _ h9 => h9) rfl (by decide +kernel) rfl rfl (Nat.le_of_ble_eq_true rfl) dX11_readsWord_65 (fun H locs hP hD hS => ?_)
          have hP : va_P D vwCl (gMo cA B (fN S) WA BG AS TX RW RR FD m1 (nI m) (nI b) m4 m5 (nI (w * 4 + (txt b - 97))) (nI (c + 1)) m8 m9 m10 m11 m12 m13 m14 m15 m16 m17 m18 m19) H := hP
          have hD : va_D AY (gMo cA B (fN S) WA BG AS TX RW RR FD m1 (nI m) (nI b) m4 m5 (nI (w * 4 + (txt b - 97))) (nI (c + 1)) m8 m9 m10 m11 m12 m13 m14 m15 m16 m17 m18 m19) := hD
          refine lv_aload_n hx hb dX11_readsWord_68 rfl (lv_at hl 0 rfl) ?_
          refine lv_dup hx hb dX11_readsWord_69 rfl ?_
          refine va_get (D := D) (ci := 10) (v := .int (nI b)) (C := RX11) (T := TX11) (N := 27) hx hb hts hi_X11_readsWord_X11 hown hK hP 0 rfl rfl 7 (by decide) (hts (.fieldLink RX11 179 "FallingWordsModel" "at" "I") (by decide +kernel)) (fun _ h9 => h9) rfl dX11_readsWord_70 ?_
          refine lv_iconst (v := nI 1) hx hb dX11_readsWord_73 (by decide +kernel) ?_
          refine lv_iadd hx hb dX11_readsWord_74 ?_
          refine xt (show (nI b) + (nI 1) = nI (b + 1) from nI_add _ _) ?_
          refine va_put (D := D) (ci := 10) (v := .int (nI (b + 1))) (ty := .int) (C := RX11) (T := TX11) (N := 27) hx hb hts hi_X11_readsWord_X11 tyX11 tyX11_ok nmX11 hown hK hP hD hS 0 rfl rfl 7 (by decide) (hts (.fieldLink RX11 179 "FallingWordsModel" "at" "I") (by decide +kernel)) (fun _ h9 => h9) rfl (by decide +kernel) rfl rfl (Nat.le_of_ble_eq_true rfl) dX11_readsWord_75 (fun H locs hP hD hS => ?_)
          have hP : va_P D vwCl (gMo cA B (fN S) WA BG AS TX RW RR FD m1 (nI m) (nI (b + 1)) m4 m5 (nI (w * 4 + (txt b - 97))) (nI (c + 1)) m8 m9 m10 m11 m12 m13 m14 m15 m16 m17 m18 m19) H := hP
          have hD : va_D AY (gMo cA B (fN S) WA BG AS TX RW RR FD m1 (nI m) (nI (b + 1)) m4 m5 (nI (w * 4 + (txt b - 97))) (nI (c + 1)) m8 m9 m10 m11 m12 m13 m14 m15 m16 m17 m18 m19) := hD
          refine lv_goto (tgt := 10) hx hb dX11_readsWord_78 (by decide) ?_
          exact ih10 (b + 1) (w * 4 + (txt b - 97)) (c + 1) (f - 1) (by omega) (by omega) (by omega) (by rw [show min (c + 1) 12 = min c 12 + 1 by omega]; exact wd_app (k := 1) hw1 (by omega)) (by rw [← hrd, show f = (f - 1) + 1 by omega, rdF, if_pos ⟨by omega, by omega, by omega⟩, if_pos (by omega), show f - 1 + 1 - 1 = f - 1 by omega]) (by omega) _ _ _ hP hD hS hl
  exact L10 _ a 1 0 81 (by omega) (by omega) (by omega) (wd_one) (by unfold rd; rw [sl_eq]) (Nat.lt_succ_self _) _ _ _ hP hD hS hl

theorem hi_X11_says_X11 : ∀ w ∈ u_ws RX11 TX11 27, w ∈ wsX11_says := by decide +kernel
set_option maxHeartbeats 1000000 in
set_option maxRecDepth 100000 in
theorem k_X11_says (lY : Launch) (D : va_G) (cA : Nat → ClassId) (B : Nat → Nat) (S : St) (WA BG AS TX RW RR FD : Nat → Int32) (m1 m2 m3 m4 m5 m6 m7 m8 m9 m10 m11 m12 m13 m14 m15 m16 m17 m18 m19 : Int32) (w b : Int32)  : MetI lY D cA yX11_says wsX11_says 0 0 [.ref (B 0), .int w, .int b] (gMo cA B (fN S) WA BG AS TX RW RR FD m1 m2 m3 m4 m5 m6 m7 m8 m9 m10 m11 m12 m13 m14 m15 m16 m17 m18 m19) (fun rY wY => rY = w ∧ wY = gMo cA B (fN S) WA BG AS TX RW RR FD m1 m2 m3 m4 b m6 m7 m8 m9 m10 m11 m12 m13 m14 m15 m16 m17 m18 m19) := by
  refine MetI.of (cc := cX11_says) (maxL := 3) (ret := (some .int)) (by decide) rfl (Nat.le_of_ble_eq_true rfl) (Or.inl rfl) ?_
  intro pY eY sY mY aY bY tY cY QY AY ls h0 hP hK hN hD hA hS hl hret
  obtain ⟨hx, hb, hml, hown, hts⟩ := id h0
  have hl : lv_has ls 3 [(0, .ref (B 0)), (1, .int w), (2, .int b)] := hl
  have hP : va_P D vwCl (gMo cA B (fN S) WA BG AS TX RW RR FD m1 m2 m3 m4 m5 m6 m7 m8 m9 m10 m11 m12 m13 m14 m15 m16 m17 m18 m19) sY.heap := hP
  have hD : va_D AY (gMo cA B (fN S) WA BG AS TX RW RR FD m1 m2 m3 m4 m5 m6 m7 m8 m9 m10 m11 m12 m13 m14 m15 m16 m17 m18 m19) := hD
  refine lv_aload_n hx hb dX11_says_0 rfl (lv_at hl 0 rfl) ?_
  refine lv_iload_n hx hb dX11_says_1 rfl (lv_at hl 2 rfl) ?_
  refine va_put (D := D) (ci := 10) (v := .int b) (ty := .int) (C := RX11) (T := TX11) (N := 27) hx hb hts hi_X11_says_X11 tyX11 tyX11_ok nmX11 hown hK hP hD hS 0 rfl rfl 9 (by decide) (hts (.fieldLink RX11 191 "FallingWordsModel" "cause" "I") (by decide +kernel)) (fun _ h9 => h9) rfl (by decide +kernel) rfl rfl (Nat.le_of_ble_eq_true rfl) dX11_says_2 (fun H locs hP hD hS => ?_)
  have hP : va_P D vwCl (gMo cA B (fN S) WA BG AS TX RW RR FD m1 m2 m3 m4 b m6 m7 m8 m9 m10 m11 m12 m13 m14 m15 m16 m17 m18 m19) H := hP
  have hD : va_D AY (gMo cA B (fN S) WA BG AS TX RW RR FD m1 m2 m3 m4 b m6 m7 m8 m9 m10 m11 m12 m13 m14 m15 m16 m17 m18 m19) := hD
  refine lv_iload_n hx hb dX11_says_5 rfl (lv_at hl 1 rfl) ?_
  exact hret _ _ _ _ _ _ dX11_says_6 ⟨rfl, rfl⟩ hP hD hS

theorem hi_X11_readsRule_X11 : ∀ w ∈ u_ws RX11 TX11 27, w ∈ wsX11_readsRule := by decide +kernel
set_option maxHeartbeats 4000000 in
set_option maxRecDepth 100000 in
theorem k_X11_readsRule (lY : Launch) (D : va_G) (cA : Nat → ClassId) (B : Nat → Nat) (S : St) (WA BG AS TX RW RR FD : Nat → Int32) (m1 m4 m5 m6 m7 m8 m9 m10 m11 m12 m13 m14 m15 m16 m17 m18 m19 : Int32) (txt : Nat → Nat) (m a : Nat) (htx : rTx txt m TX) (ham : a < m) (hI : IV S) (hk : txt a = 43) : MetI lY D cA yX11_readsRule wsX11_readsRule 2 42 [.ref (B 0), .int (nI a)] (gMo cA B (fN S) WA BG AS TX RW RR FD m1 (nI m) (nI (a + 1)) m4 m5 m6 m7 m8 m9 m10 m11 m12 m13 m14 m15 m16 m17 m18 m19) (fun rY wY => ∃ (x3 : Int32) (x5 : Int32) (x6 : Int32) (x7 : Int32), rY = nI ((doC txt m a S).1) ∧ wY = gMo cA B (fN ((doC txt m a S).2.2)) WA BG AS TX RW RR FD m1 (nI m) x3 m4 x5 x6 x7 m8 m9 m10 m11 m12 m13 m14 m15 m16 m17 m18 m19 ∧ ((doC txt m a S).1 = 0 → x3 = nI (okP txt m a).2) ∧ ((doC txt m a S).1 ≠ 0 → x5 = csI (doC txt m a S))) := by
  refine MetI.of (cc := cX11_readsRule) (maxL := 6) (ret := (some .int)) (by decide) rfl (Nat.le_of_ble_eq_true rfl) (Or.inl rfl) ?_
  intro pY eY sY mY aY bY tY cY QY AY ls h0 hP hK hN hD hA hS hl hret
  obtain ⟨hx, hb, hml, hown, hts⟩ := id h0
  have hl : lv_has ls 6 [(0, .ref (B 0)), (1, .int (nI a))] := hl
  have hP : va_P D vwCl (gMo cA B (fN S) WA BG AS TX RW RR FD m1 (nI m) (nI (a + 1)) m4 m5 m6 m7 m8 m9 m10 m11 m12 m13 m14 m15 m16 m17 m18 m19) sY.heap := hP
  have hD : va_D AY (gMo cA B (fN S) WA BG AS TX RW RR FD m1 (nI m) (nI (a + 1)) m4 m5 m6 m7 m8 m9 m10 m11 m12 m13 m14 m15 m16 m17 m18 m19) := hD
  have h80 := htx.1
  have hIR := hI.1
  have h10 := hIR.1
  obtain ⟨r1, r2, -, r4⟩ := rd_ok (txt := txt) (n := m) (lim := 13) (a := a + 1) (by omega)
  have rl1 := rd_len (txt := txt) (n := m) (a := a + 1) (by omega)
  have rv1 : vw 13 (rd txt m 13 (a + 1)).1 := rd_vw (by omega)
  refine lv_aload_n hx hb dX11_readsRule_0 rfl (lv_at hl 0 rfl) ?_
  refine cv_V (As := []) (rest := []) h0 hK hN hP hD hS hA hl.1 (k_X11_readsWord lY D cA B S WA BG AS TX RW RR FD m1 m4 m5 m6 m7 m8 m9 m10 m11 m12 m13 m14 m15 m16 m17 m18 m19 txt m (a + 1) (by first | assumption | omega) (by omega)) [0, 1, 2, 3, 4, 5, 6, 7, 8] rfl (by decide) (cwV 0 hts gX11_readsRule_X11_readsWord rfl rfl rfl (by decide +kernel) ⟨Nat.le_of_ble_eq_true rfl, Nat.le_of_ble_eq_true rfl⟩) (cl_recv (ci := 10) (q := (RX11, TX11, 27)) (q0 := 0) hP hK rfl rfl) rfl rfl (Nat.le_of_ble_eq_true rfl) dX11_readsRule_1 ⟨Nat.zero_le _, Nat.zero_le _⟩ (fun wY H locs hwY hJ hS => ?_)
  have e2Y := hwY
  have e3Y := e2Y.symm
  clear e2Y
  subst e3Y
  obtain ⟨hP, hD⟩ := hJ rfl
  have hP : va_P D vwCl (gMo cA B (fN S) WA BG AS TX RW RR FD m1 (nI m) (nI ((rd txt m 13 (a + 1)).2.2)) m4 m5 (nI ((rd txt m 12 (a + 1)).1)) (nI ((rd txt m 13 (a + 1)).2.1)) m8 m9 m10 m11 m12 m13 m14 m15 m16 m17 m18 m19) H := hP
  have hD : va_D AY (gMo cA B (fN S) WA BG AS TX RW RR FD m1 (nI m) (nI ((rd txt m 13 (a + 1)).2.2)) m4 m5 (nI ((rd txt m 12 (a + 1)).1)) (nI ((rd txt m 13 (a + 1)).2.1)) m8 m9 m10 m11 m12 m13 m14 m15 m16 m17 m18 m19) := hD
  refine lv_aload_n hx hb dX11_readsRule_4 rfl (lv_at hl 0 rfl) ?_
  refine va_get (D := D) (ci := 10) (v := .int (nI ((rd txt m 12 (a + 1)).1))) (C := RX11) (T := TX11) (N := 27) hx hb hts hi_X11_readsRule_X11 hown hK hP 0 rfl rfl 10 (by decide) (hts (.fieldLink RX11 185 "FallingWordsModel" "read" "I") (by decide +kernel)) (fun _ h9 => h9) rfl dX11_readsRule_5 ?_
  refine lv_istore_n (lv' := [(2, .int (nI ((rd txt m 12 (a + 1)).1))), (0, .ref (B 0)), (1, .int (nI a))]) hx hb dX11_readsRule_8 rfl hl (by decide) rfl (fun ls hl => ?_)
  refine lv_aload_n hx hb dX11_readsRule_9 rfl (lv_at hl 1 rfl) ?_
  refine va_get (D := D) (ci := 10) (v := .int (nI ((rd txt m 13 (a + 1)).2.1))) (C := RX11) (T := TX11) (N := 27) hx hb hts hi_X11_readsRule_X11 hown hK hP 0 rfl rfl 11 (by decide) (hts (.fieldLink RX11 188 "FallingWordsModel" "readLength" "I") (by decide +kernel)) (fun _ h9 => h9) rfl dX11_readsRule_10 ?_
  refine lv_istore_n (lv' := [(3, .int (nI ((rd txt m 13 (a + 1)).2.1))), (2, .int (nI ((rd txt m 12 (a + 1)).1))), (0, .ref (B 0)), (1, .int (nI a))]) hx hb dX11_readsRule_13 rfl hl (by decide) rfl (fun ls hl => ?_)
  refine lv_aload_n hx hb dX11_readsRule_14 rfl (lv_at hl 2 rfl) ?_
  refine lv_bipush (v := nI 62) hx hb dX11_readsRule_15 (by decide +kernel) ?_
  refine ci_V (As := [.int (nI 62)]) (rest := []) h0 hK hN hP hD hS hA hl.1 (k_X11_takes lY D cA B S WA BG AS TX RW RR FD m1 m4 m5 (nI ((rd txt m 12 (a + 1)).1)) (nI ((rd txt m 13 (a + 1)).2.1)) m8 m9 m10 m11 m12 m13 m14 m15 m16 m17 m18 m19 txt m ((rd txt m 13 (a + 1)).2.2) 62 (by first | assumption | omega) (by omega) (by decide)) [0, 1, 2, 3, 4, 5, 6, 7, 8] rfl (by decide) (cwV 1 hts gX11_readsRule_X11_takes rfl rfl rfl (by decide +kernel) ⟨Nat.le_of_ble_eq_true rfl, Nat.le_of_ble_eq_true rfl⟩) (cl_recv (ci := 10) (q := (RX11, TX11, 27)) (q0 := 0) hP hK rfl rfl) rfl rfl (Nat.le_of_ble_eq_true rfl) dX11_readsRule_17 ⟨Nat.zero_le _, Nat.zero_le _⟩ (fun rY wY H locs hwY hJ hS => ?_)
  obtain ⟨e1Y, e2Y⟩ := hwY
  have e3Y := e1Y.symm
  clear e1Y
  subst e3Y
  have e3Y := e2Y.symm
  clear e2Y
  subst e3Y
  obtain ⟨hP, hD⟩ := hJ rfl
  have hP : va_P D vwCl (gMo cA B (fN S) WA BG AS TX RW RR FD m1 (nI m) (nI (psA txt m ((rd txt m 13 (a + 1)).2.2) 62)) m4 m5 (nI ((rd txt m 12 (a + 1)).1)) (nI ((rd txt m 13 (a + 1)).2.1)) m8 m9 m10 m11 m12 m13 m14 m15 m16 m17 m18 m19) H := hP
  have hD : va_D AY (gMo cA B (fN S) WA BG AS TX RW RR FD m1 (nI m) (nI (psA txt m ((rd txt m 13 (a + 1)).2.2) 62)) m4 m5 (nI ((rd txt m 12 (a + 1)).1)) (nI ((rd txt m 13 (a + 1)).2.1)) m8 m9 m10 m11 m12 m13 m14 m15 m16 m17 m18 m19) := hD
  refine xb_ne (tgt := 35) hx hb dX11_readsRule_20 (by decide) (fun c20 => ?_) (fun c20 => ?_)
  · have pa := psA_t c20
    have pb := (of_decide_eq_true c20).1
    rw [pa] at hP hD
    obtain ⟨s1, s2, -, s4⟩ := rd_ok (txt := txt) (n := m) (lim := 13) (a := (rd txt m 13 (a + 1)).2.2 + 1) (by omega)
    have rl2 := rd_len (txt := txt) (n := m) (a := (rd txt m 13 (a + 1)).2.2 + 1) (by omega)
    have rv2 : vw 13 (rd txt m 13 ((rd txt m 13 (a + 1)).2.2 + 1)).1 := rd_vw (by omega)
    have hP : va_P D vwCl (gMo cA B (fN S) WA BG AS TX RW RR FD m1 (nI m) (nI ((rd txt m 13 (a + 1)).2.2 + 1)) m4 m5 (nI ((rd txt m 12 (a + 1)).1)) (nI ((rd txt m 13 (a + 1)).2.1)) m8 m9 m10 m11 m12 m13 m14 m15 m16 m17 m18 m19) H := hP
    have hD : va_D AY (gMo cA B (fN S) WA BG AS TX RW RR FD m1 (nI m) (nI ((rd txt m 13 (a + 1)).2.2 + 1)) m4 m5 (nI ((rd txt m 12 (a + 1)).1)) (nI ((rd txt m 13 (a + 1)).2.1)) m8 m9 m10 m11 m12 m13 m14 m15 m16 m17 m18 m19) := hD
    refine lv_aload_n hx hb dX11_readsRule_35 rfl (lv_at hl 2 rfl) ?_
    refine cv_V (As := []) (rest := []) h0 hK hN hP hD hS hA hl.1 (k_X11_readsWord lY D cA B S WA BG AS TX RW RR FD m1 m4 m5 (nI ((rd txt m 12 (a + 1)).1)) (nI ((rd txt m 13 (a + 1)).2.1)) m8 m9 m10 m11 m12 m13 m14 m15 m16 m17 m18 m19 txt m ((rd txt m 13 (a + 1)).2.2 + 1) (by first | assumption | omega) (by omega)) [0, 1, 2, 3, 4, 5, 6, 7, 8] rfl (by decide) (cwV 0 hts gX11_readsRule_X11_readsWord rfl rfl rfl (by decide +kernel) ⟨Nat.le_of_ble_eq_true rfl, Nat.le_of_ble_eq_true rfl⟩) (cl_recv (ci := 10) (q := (RX11, TX11, 27)) (q0 := 0) hP hK rfl rfl) rfl rfl (Nat.le_of_ble_eq_true rfl) dX11_readsRule_36 ⟨Nat.zero_le _, Nat.zero_le _⟩ (fun wY H locs hwY hJ hS => ?_)
    have e2Y := hwY
    have e3Y := e2Y.symm
    clear e2Y
    subst e3Y
    obtain ⟨hP, hD⟩ := hJ rfl
    have hP : va_P D vwCl (gMo cA B (fN S) WA BG AS TX RW RR FD m1 (nI m) (nI ((rd txt m 13 ((rd txt m 13 (a + 1)).2.2 + 1)).2.2)) m4 m5 (nI ((rd txt m 12 ((rd txt m 13 (a + 1)).2.2 + 1)).1)) (nI ((rd txt m 13 ((rd txt m 13 (a + 1)).2.2 + 1)).2.1)) m8 m9 m10 m11 m12 m13 m14 m15 m16 m17 m18 m19) H := hP
    have hD : va_D AY (gMo cA B (fN S) WA BG AS TX RW RR FD m1 (nI m) (nI ((rd txt m 13 ((rd txt m 13 (a + 1)).2.2 + 1)).2.2)) m4 m5 (nI ((rd txt m 12 ((rd txt m 13 (a + 1)).2.2 + 1)).1)) (nI ((rd txt m 13 ((rd txt m 13 (a + 1)).2.2 + 1)).2.1)) m8 m9 m10 m11 m12 m13 m14 m15 m16 m17 m18 m19) := hD
    refine lv_aload_n hx hb dX11_readsRule_39 rfl (lv_at hl 2 rfl) ?_
    refine va_get (D := D) (ci := 10) (v := .int (nI ((rd txt m 13 ((rd txt m 13 (a + 1)).2.2 + 1)).2.1))) (C := RX11) (T := TX11) (N := 27) hx hb hts hi_X11_readsRule_X11 hown hK hP 0 rfl rfl 11 (by decide) (hts (.fieldLink RX11 188 "FallingWordsModel" "readLength" "I") (by decide +kernel)) (fun _ h9 => h9) rfl dX11_readsRule_40 ?_
    refine lv_istore (lv' := [(4, .int (nI ((rd txt m 13 ((rd txt m 13 (a + 1)).2.2 + 1)).2.1))), (3, .int (nI ((rd txt m 13 (a + 1)).2.1))), (2, .int (nI ((rd txt m 12 (a + 1)).1))), (0, .ref (B 0)), (1, .int (nI a))]) hx hb dX11_readsRule_43 hl (by decide) rfl (fun ls hl => ?_)
    refine lv_aload_n hx hb dX11_readsRule_45 rfl (lv_at hl 3 rfl) ?_
    refine lv_bipush (v := nI 59) hx hb dX11_readsRule_46 (by decide +kernel) ?_
    refine ci_V (As := [.int (nI 59)]) (rest := []) h0 hK hN hP hD hS hA hl.1 (k_X11_takes lY D cA B S WA BG AS TX RW RR FD m1 m4 m5 (nI ((rd txt m 12 ((rd txt m 13 (a + 1)).2.2 + 1)).1)) (nI ((rd txt m 13 ((rd txt m 13 (a + 1)).2.2 + 1)).2.1)) m8 m9 m10 m11 m12 m13 m14 m15 m16 m17 m18 m19 txt m ((rd txt m 13 ((rd txt m 13 (a + 1)).2.2 + 1)).2.2) 59 (by first | assumption | omega) (by omega) (by decide)) [0, 1, 2, 3, 4, 5, 6, 7, 8] rfl (by decide) (cwV 1 hts gX11_readsRule_X11_takes rfl rfl rfl (by decide +kernel) ⟨Nat.le_of_ble_eq_true rfl, Nat.le_of_ble_eq_true rfl⟩) (cl_recv (ci := 10) (q := (RX11, TX11, 27)) (q0 := 0) hP hK rfl rfl) rfl rfl (Nat.le_of_ble_eq_true rfl) dX11_readsRule_48 ⟨Nat.zero_le _, Nat.zero_le _⟩ (fun rY wY H locs hwY hJ hS => ?_)
    obtain ⟨e1Y, e2Y⟩ := hwY
    have e3Y := e1Y.symm
    clear e1Y
    subst e3Y
    have e3Y := e2Y.symm
    clear e2Y
    subst e3Y
    obtain ⟨hP, hD⟩ := hJ rfl
    have hP : va_P D vwCl (gMo cA B (fN S) WA BG AS TX RW RR FD m1 (nI m) (nI (psA txt m ((rd txt m 13 ((rd txt m 13 (a + 1)).2.2 + 1)).2.2) 59)) m4 m5 (nI ((rd txt m 12 ((rd txt m 13 (a + 1)).2.2 + 1)).1)) (nI ((rd txt m 13 ((rd txt m 13 (a + 1)).2.2 + 1)).2.1)) m8 m9 m10 m11 m12 m13 m14 m15 m16 m17 m18 m19) H := hP
    have hD : va_D AY (gMo cA B (fN S) WA BG AS TX RW RR FD m1 (nI m) (nI (psA txt m ((rd txt m 13 ((rd txt m 13 (a + 1)).2.2 + 1)).2.2) 59)) m4 m5 (nI ((rd txt m 12 ((rd txt m 13 (a + 1)).2.2 + 1)).1)) (nI ((rd txt m 13 ((rd txt m 13 (a + 1)).2.2 + 1)).2.1)) m8 m9 m10 m11 m12 m13 m14 m15 m16 m17 m18 m19) := hD
    refine xb_ne (tgt := 66) hx hb dX11_readsRule_51 (by decide) (fun c51 => ?_) (fun c51 => ?_)
    · have hok : (okP txt m a) = (true, psA txt m (rd txt m 13 ((rd txt m 13 (a + 1)).2.2 + 1)).2.2 59) := by rw [okP_43 hk, c20, c51]; rfl
      have hD0 : (doC txt m a S) = addC S (rW1 txt m a) (rW2 txt m a) := (doC_t (by rw [hok])).trans (prf_43 hk)
      have hat : nI (psA txt m (rd txt m 13 ((rd txt m 13 (a + 1)).2.2 + 1)).2.2 59) = nI (okP txt m a).2 := by rw [hok]
      have la : len (rW1 txt m a) = min (rd txt m 13 (a + 1)).2.1 13 := rl1
      have lb : len (rW2 txt m a) = min (rd txt m 13 ((rd txt m 13 (a + 1)).2.2 + 1)).2.1 13 := rl2
      refine lv_iload_n hx hb dX11_readsRule_66 rfl (lv_at hl 1 rfl) ?_
      refine x0_eq (tgt := 81) hx hb dX11_readsRule_67 (by decide) (by omega) (fun c67 => ?_) (fun c67 => ?_)
      · refine lv_aload_n hx hb dX11_readsRule_81 rfl (lv_at hl 3 rfl) ?_
        refine lv_iconst (v := nI 2) hx hb dX11_readsRule_82 (by decide +kernel) ?_
        refine lv_ldc (v := (-1000004)) hx hb hown (hts (.constant RX11 43 (-1000004)) (by decide +kernel)) dX11_readsRule_83 ?_
        refine ci_V (As := [.int (nI 2), .int (-1000004)]) (rest := []) h0 hK hN hP hD hS hA hl.1 (k_X11_says lY D cA B S WA BG AS TX RW RR FD m1 (nI m) (nI (psA txt m ((rd txt m 13 ((rd txt m 13 (a + 1)).2.2 + 1)).2.2) 59)) m4 m5 (nI ((rd txt m 12 ((rd txt m 13 (a + 1)).2.2 + 1)).1)) (nI ((rd txt m 13 ((rd txt m 13 (a + 1)).2.2 + 1)).2.1)) m8 m9 m10 m11 m12 m13 m14 m15 m16 m17 m18 m19 (nI 2) (-1000004) ) [0, 1, 2, 3, 4, 5, 6, 7, 8] rfl (by decide) (cwV 2 hts gX11_readsRule_X11_says rfl rfl rfl (by decide +kernel) ⟨Nat.le_of_ble_eq_true rfl, Nat.le_of_ble_eq_true rfl⟩) (cl_recv (ci := 10) (q := (RX11, TX11, 27)) (q0 := 0) hP hK rfl rfl) rfl rfl (Nat.le_of_ble_eq_true rfl) dX11_readsRule_85 ⟨Nat.zero_le _, Nat.zero_le _⟩ (fun rY wY H locs hwY hJ hS => ?_)
        obtain ⟨e1Y, e2Y⟩ := hwY
        have e3Y := e1Y.symm
        clear e1Y
        subst e3Y
        have e3Y := e2Y.symm
        clear e2Y
        subst e3Y
        obtain ⟨hP, hD⟩ := hJ rfl
        have hP : va_P D vwCl (gMo cA B (fN S) WA BG AS TX RW RR FD m1 (nI m) (nI (psA txt m ((rd txt m 13 ((rd txt m 13 (a + 1)).2.2 + 1)).2.2) 59)) m4 (-1000004) (nI ((rd txt m 12 ((rd txt m 13 (a + 1)).2.2 + 1)).1)) (nI ((rd txt m 13 ((rd txt m 13 (a + 1)).2.2 + 1)).2.1)) m8 m9 m10 m11 m12 m13 m14 m15 m16 m17 m18 m19) H := hP
        have hD : va_D AY (gMo cA B (fN S) WA BG AS TX RW RR FD m1 (nI m) (nI (psA txt m ((rd txt m 13 ((rd txt m 13 (a + 1)).2.2 + 1)).2.2) 59)) m4 (-1000004) (nI ((rd txt m 12 ((rd txt m 13 (a + 1)).2.2 + 1)).1)) (nI ((rd txt m 13 ((rd txt m 13 (a + 1)).2.2 + 1)).2.1)) m8 m9 m10 m11 m12 m13 m14 m15 m16 m17 m18 m19) := hD
        have hDc : (doC txt m a S) = (2, 0, S) := by rw [hD0]; unfold addC; rw [if_pos (by omega)]
        exact hret _ _ _ _ _ _ dX11_readsRule_88 ⟨((nI (psA txt m ((rd txt m 13 ((rd txt m 13 (a + 1)).2.2 + 1)).2.2) 59))), (-1000004), ((nI ((rd txt m 12 ((rd txt m 13 (a + 1)).2.2 + 1)).1))), ((nI ((rd txt m 13 ((rd txt m 13 (a + 1)).2.2 + 1)).2.1))), (by rw [hDc]), (by rw [hDc]), (fun h => by rw [hDc] at h; cases h), (fun _ => by rw [hDc]; rfl)⟩ hP hD hS
      · refine lv_iload_n hx hb dX11_readsRule_70 rfl (lv_at hl 1 rfl) ?_
        refine lv_iconst (v := nI 4) hx hb dX11_readsRule_71 (by decide +kernel) ?_
        refine xc_gt (tgt := 81) hx hb dX11_readsRule_72 (by decide) (by omega) (by omega) (fun c72 => ?_) (fun c72 => ?_)
        · refine lv_aload_n hx hb dX11_readsRule_81 rfl (lv_at hl 3 rfl) ?_
          refine lv_iconst (v := nI 2) hx hb dX11_readsRule_82 (by decide +kernel) ?_
          refine lv_ldc (v := (-1000004)) hx hb hown (hts (.constant RX11 43 (-1000004)) (by decide +kernel)) dX11_readsRule_83 ?_
          refine ci_V (As := [.int (nI 2), .int (-1000004)]) (rest := []) h0 hK hN hP hD hS hA hl.1 (k_X11_says lY D cA B S WA BG AS TX RW RR FD m1 (nI m) (nI (psA txt m ((rd txt m 13 ((rd txt m 13 (a + 1)).2.2 + 1)).2.2) 59)) m4 m5 (nI ((rd txt m 12 ((rd txt m 13 (a + 1)).2.2 + 1)).1)) (nI ((rd txt m 13 ((rd txt m 13 (a + 1)).2.2 + 1)).2.1)) m8 m9 m10 m11 m12 m13 m14 m15 m16 m17 m18 m19 (nI 2) (-1000004) ) [0, 1, 2, 3, 4, 5, 6, 7, 8] rfl (by decide) (cwV 2 hts gX11_readsRule_X11_says rfl rfl rfl (by decide +kernel) ⟨Nat.le_of_ble_eq_true rfl, Nat.le_of_ble_eq_true rfl⟩) (cl_recv (ci := 10) (q := (RX11, TX11, 27)) (q0 := 0) hP hK rfl rfl) rfl rfl (Nat.le_of_ble_eq_true rfl) dX11_readsRule_85 ⟨Nat.zero_le _, Nat.zero_le _⟩ (fun rY wY H locs hwY hJ hS => ?_)
          obtain ⟨e1Y, e2Y⟩ := hwY
          have e3Y := e1Y.symm
          clear e1Y
          subst e3Y
          have e3Y := e2Y.symm
          clear e2Y
          subst e3Y
          obtain ⟨hP, hD⟩ := hJ rfl
          have hP : va_P D vwCl (gMo cA B (fN S) WA BG AS TX RW RR FD m1 (nI m) (nI (psA txt m ((rd txt m 13 ((rd txt m 13 (a + 1)).2.2 + 1)).2.2) 59)) m4 (-1000004) (nI ((rd txt m 12 ((rd txt m 13 (a + 1)).2.2 + 1)).1)) (nI ((rd txt m 13 ((rd txt m 13 (a + 1)).2.2 + 1)).2.1)) m8 m9 m10 m11 m12 m13 m14 m15 m16 m17 m18 m19) H := hP
          have hD : va_D AY (gMo cA B (fN S) WA BG AS TX RW RR FD m1 (nI m) (nI (psA txt m ((rd txt m 13 ((rd txt m 13 (a + 1)).2.2 + 1)).2.2) 59)) m4 (-1000004) (nI ((rd txt m 12 ((rd txt m 13 (a + 1)).2.2 + 1)).1)) (nI ((rd txt m 13 ((rd txt m 13 (a + 1)).2.2 + 1)).2.1)) m8 m9 m10 m11 m12 m13 m14 m15 m16 m17 m18 m19) := hD
          have hDc : (doC txt m a S) = (2, 0, S) := by rw [hD0]; unfold addC; rw [if_pos (by omega)]
          exact hret _ _ _ _ _ _ dX11_readsRule_88 ⟨((nI (psA txt m ((rd txt m 13 ((rd txt m 13 (a + 1)).2.2 + 1)).2.2) 59))), (-1000004), ((nI ((rd txt m 12 ((rd txt m 13 (a + 1)).2.2 + 1)).1))), ((nI ((rd txt m 13 ((rd txt m 13 (a + 1)).2.2 + 1)).2.1))), (by rw [hDc]), (by rw [hDc]), (fun h => by rw [hDc] at h; cases h), (fun _ => by rw [hDc]; rfl)⟩ hP hD hS
        · refine lv_iload hx hb dX11_readsRule_75 (lv_at hl 0 rfl) ?_
          refine lv_iconst (v := nI 4) hx hb dX11_readsRule_77 (by decide +kernel) ?_
          refine xc_le (tgt := 89) hx hb dX11_readsRule_78 (by decide) (by omega) (by omega) (fun c78 => ?_) (fun c78 => ?_)
          · have w1 : (rd txt m 12 (a + 1)).1 = rW1 txt m a := rd_1 (by omega)
            have w2 : (rd txt m 12 ((rd txt m 13 (a + 1)).2.2 + 1)).1 = rW2 txt m a := rd_1 (by omega)
            have v1 : vw 4 (rW1 txt m a) := ⟨rv1.1, by show len (rW1 txt m a) ≤ 4; omega⟩
            have v2 : vw 4 (rW2 txt m a) := ⟨rv2.1, by show len (rW2 txt m a) ≤ 4; omega⟩
            have b1 := vw_B v1 (by decide)
            have b2 := vw_B v2 (by decide)
            rw [w2] at hP hD
            have hl : lv_has ls 6 [(4, .int (nI ((rd txt m 13 ((rd txt m 13 (a + 1)).2.2 + 1)).2.1))), (3, .int (nI ((rd txt m 13 (a + 1)).2.1))), (2, .int (nI (rW1 txt m a))), (0, .ref (B 0)), (1, .int (nI a))] := Eq.mp (congrArg (fun zY : Int32 => lv_has ls 6 [(4, .int (nI ((rd txt m 13 ((rd txt m 13 (a + 1)).2.2 + 1)).2.1))), (3, .int (nI ((rd txt m 13 (a + 1)).2.1))), (2, .int zY), (0, .ref (B 0)), (1, .int (nI a))]) (show nI ((rd txt m 12 (a + 1)).1) = nI (rW1 txt m a) from congrArg nI w1)) hl
            have hP : va_P D vwCl (gMo cA B (fN S) WA BG AS TX RW RR FD m1 (nI m) (nI (psA txt m ((rd txt m 13 ((rd txt m 13 (a + 1)).2.2 + 1)).2.2) 59)) m4 m5 (nI (rW2 txt m a)) (nI ((rd txt m 13 ((rd txt m 13 (a + 1)).2.2 + 1)).2.1)) m8 m9 m10 m11 m12 m13 m14 m15 m16 m17 m18 m19) H := hP
            have hD : va_D AY (gMo cA B (fN S) WA BG AS TX RW RR FD m1 (nI m) (nI (psA txt m ((rd txt m 13 ((rd txt m 13 (a + 1)).2.2 + 1)).2.2) 59)) m4 m5 (nI (rW2 txt m a)) (nI ((rd txt m 13 ((rd txt m 13 (a + 1)).2.2 + 1)).2.1)) m8 m9 m10 m11 m12 m13 m14 m15 m16 m17 m18 m19) := hD
            refine lv_iload hx hb dX11_readsRule_89 (lv_at hl 0 rfl) ?_
            refine lv_iload_n hx hb dX11_readsRule_91 rfl (lv_at hl 1 rfl) ?_
            refine xc_gt (tgt := 103) hx hb dX11_readsRule_92 (by decide) (by omega) (by omega) (fun c92 => ?_) (fun c92 => ?_)
            · refine lv_aload_n hx hb dX11_readsRule_103 rfl (lv_at hl 3 rfl) ?_
              refine lv_iconst (v := nI 3) hx hb dX11_readsRule_104 (by decide +kernel) ?_
              refine lv_iconst (v := nI 1) hx hb dX11_readsRule_105 (by decide +kernel) ?_
              refine ci_V (As := [.int (nI 3), .int (nI 1)]) (rest := []) h0 hK hN hP hD hS hA hl.1 (k_X11_says lY D cA B S WA BG AS TX RW RR FD m1 (nI m) (nI (psA txt m ((rd txt m 13 ((rd txt m 13 (a + 1)).2.2 + 1)).2.2) 59)) m4 m5 (nI (rW2 txt m a)) (nI ((rd txt m 13 ((rd txt m 13 (a + 1)).2.2 + 1)).2.1)) m8 m9 m10 m11 m12 m13 m14 m15 m16 m17 m18 m19 (nI 3) (nI 1) ) [0, 1, 2, 3, 4, 5, 6, 7, 8] rfl (by decide) (cwV 2 hts gX11_readsRule_X11_says rfl rfl rfl (by decide +kernel) ⟨Nat.le_of_ble_eq_true rfl, Nat.le_of_ble_eq_true rfl⟩) (cl_recv (ci := 10) (q := (RX11, TX11, 27)) (q0 := 0) hP hK rfl rfl) rfl rfl (Nat.le_of_ble_eq_true rfl) dX11_readsRule_106 ⟨Nat.zero_le _, Nat.zero_le _⟩ (fun rY wY H locs hwY hJ hS => ?_)
              obtain ⟨e1Y, e2Y⟩ := hwY
              have e3Y := e1Y.symm
              clear e1Y
              subst e3Y
              have e3Y := e2Y.symm
              clear e2Y
              subst e3Y
              obtain ⟨hP, hD⟩ := hJ rfl
              have hP : va_P D vwCl (gMo cA B (fN S) WA BG AS TX RW RR FD m1 (nI m) (nI (psA txt m ((rd txt m 13 ((rd txt m 13 (a + 1)).2.2 + 1)).2.2) 59)) m4 (nI 1) (nI (rW2 txt m a)) (nI ((rd txt m 13 ((rd txt m 13 (a + 1)).2.2 + 1)).2.1)) m8 m9 m10 m11 m12 m13 m14 m15 m16 m17 m18 m19) H := hP
              have hD : va_D AY (gMo cA B (fN S) WA BG AS TX RW RR FD m1 (nI m) (nI (psA txt m ((rd txt m 13 ((rd txt m 13 (a + 1)).2.2 + 1)).2.2) 59)) m4 (nI 1) (nI (rW2 txt m a)) (nI ((rd txt m 13 ((rd txt m 13 (a + 1)).2.2 + 1)).2.1)) m8 m9 m10 m11 m12 m13 m14 m15 m16 m17 m18 m19) := hD
              have hDc : (doC txt m a S) = (3, 1, S) := by rw [hD0]; unfold addC; rw [if_neg (show ¬ (len (rW1 txt m a) = 0 ∨ 4 < len (rW1 txt m a) ∨ 4 < len (rW2 txt m a)) by omega), if_pos (by omega)]
              exact hret _ _ _ _ _ _ dX11_readsRule_109 ⟨((nI (psA txt m ((rd txt m 13 ((rd txt m 13 (a + 1)).2.2 + 1)).2.2) 59))), ((nI 1)), ((nI (rW2 txt m a))), ((nI ((rd txt m 13 ((rd txt m 13 (a + 1)).2.2 + 1)).2.1))), (by rw [hDc]), (by rw [hDc]), (fun h => by rw [hDc] at h; cases h), (fun _ => by rw [hDc]; rfl)⟩ hP hD hS
            · refine lv_aload_n hx hb dX11_readsRule_95 rfl (lv_at hl 3 rfl) ?_
              refine va_get (D := D) (ci := 10) (v := .int (nI (rW2 txt m a))) (C := RX11) (T := TX11) (N := 27) hx hb hts hi_X11_readsRule_X11 hown hK hP 0 rfl rfl 10 (by decide) (hts (.fieldLink RX11 185 "FallingWordsModel" "read" "I") (by decide +kernel)) (fun _ h9 => h9) rfl dX11_readsRule_96 ?_
              refine lv_iload_n hx hb dX11_readsRule_99 rfl (lv_at hl 2 rfl) ?_
              refine xc_ne (tgt := 110) hx hb dX11_readsRule_100 (by decide) (by omega) (by omega) (fun c100 => ?_) (fun c100 => ?_)
              · have hng : ¬ (len (rW1 txt m a) < len (rW2 txt m a) ∨ rW1 txt m a = rW2 txt m a) := by omega
                refine lv_iconst (v := nI 0) hx hb dX11_readsRule_110 (by decide +kernel) ?_
                refine lv_istore (lv' := [(5, .int (nI 0)), (4, .int (nI ((rd txt m 13 ((rd txt m 13 (a + 1)).2.2 + 1)).2.1))), (3, .int (nI ((rd txt m 13 (a + 1)).2.1))), (2, .int (nI (rW1 txt m a))), (0, .ref (B 0)), (1, .int (nI a))]) hx hb dX11_readsRule_111 hl (by decide) rfl (fun ls hl => ?_)
                have L113 : ∀ (nY : Nat), ∀ (i : Nat), (i ≤ S 1) → (∀ k, k < i → decide (lf S k = rW1 txt m a ∧ rt S k = rW2 txt m a) = false) → (S 1 - i < nY) → ∀ (H : Heap) (locs : List Loc) (ls : Array Slot), va_P D vwCl (gMo cA B (fN S) WA BG AS TX RW RR FD m1 (nI m) (nI (psA txt m ((rd txt m 13 ((rd txt m 13 (a + 1)).2.2 + 1)).2.2) 59)) m4 m5 (nI (rW2 txt m a)) (nI ((rd txt m 13 ((rd txt m 13 (a + 1)).2.2 + 1)).2.1)) m8 m9 m10 m11 m12 m13 m14 m15 m16 m17 m18 m19) H → va_D AY (gMo cA B (fN S) WA BG AS TX RW RR FD m1 (nI m) (nI (psA txt m ((rd txt m 13 ((rd txt m 13 (a + 1)).2.2 + 1)).2.2) 59)) m4 m5 (nI (rW2 txt m a)) (nI ((rd txt m 13 ((rd txt m 13 (a + 1)).2.2 + 1)).2.1)) m8 m9 m10 m11 m12 m13 m14 m15 m16 m17 m18 m19) → va_S AY sY.heap H locs → lv_has ls 6 [(0, .ref (B 0)), (1, .int (nI a)), (2, .int (nI (rW1 txt m a))), (3, .int (nI ((rd txt m 13 (a + 1)).2.1))), (4, .int (nI ((rd txt m 13 ((rd txt m 13 (a + 1)).2.2 + 1)).2.1))), (5, .int (nI i))] → W pY lY eY { frames := 2, cells := 0, slots := 0, locals := 42 } sY mY aY bY tY cY H locs 0 0 QY (F0 mY 113 ls []) := by
                  intro nY113
                  induction nY113 with
                  | zero => intro i hi hno hm113; exact absurd hm113 (Nat.not_lt_zero _)
                  | succ nY113 ih113 =>
                    intro i hi hno hm113 H locs ls hP hD hS hl
                    refine lv_iload hx hb dX11_readsRule_113 (lv_at hl 5 rfl) ?_
                    refine lv_aload_n hx hb dX11_readsRule_115 rfl (lv_at hl 0 rfl) ?_
                    refine va_get (D := D) (ci := 10) (v := .ref (B 1)) (C := RX11) (T := TX11) (N := 27) hx hb hts hi_X11_readsRule_X11 hown hK hP 0 rfl rfl 0 (by decide) (hts (.fieldLink RX11 7 "FallingWordsModel" "s" "[I") (by decide +kernel)) (fun _ h9 => h9) rfl dX11_readsRule_116 ?_
                    refine lv_iconst (v := nI 1) hx hb dX11_readsRule_119 (by decide +kernel) ?_
                    refine xa_ld (v := nI (S 1)) hx hb hK hP 1 rfl (by omega) (by decide) (rfl) dX11_readsRule_120 ?_
                    refine xc_ge (tgt := 160) hx hb dX11_readsRule_121 (by decide) (by omega) (by omega) (fun c121 => ?_) (fun c121 => ?_)
                    · have hhs : hsd S (rW1 txt m a) (rW2 txt m a) = false := decide_eq_false (by rw [ff_none (fun j hj => hno j (by omega))]; omega)
                      refine lv_aload_n hx hb dX11_readsRule_160 rfl (lv_at hl 0 rfl) ?_
                      refine va_get (D := D) (ci := 10) (v := .ref (B 1)) (C := RX11) (T := TX11) (N := 27) hx hb hts hi_X11_readsRule_X11 hown hK hP 0 rfl rfl 0 (by decide) (hts (.fieldLink RX11 7 "FallingWordsModel" "s" "[I") (by decide +kernel)) (fun _ h9 => h9) rfl dX11_readsRule_161 ?_
                      refine lv_iconst (v := nI 1) hx hb dX11_readsRule_164 (by decide +kernel) ?_
                      refine xa_ld (v := nI (S 1)) hx hb hK hP 1 rfl (by omega) (by decide) (rfl) dX11_readsRule_165 ?_
                      refine lv_bipush (v := nI 10) hx hb dX11_readsRule_166 (by decide +kernel) ?_
                      refine xc_ne (tgt := 178) hx hb dX11_readsRule_168 (by decide) (by omega) (by omega) (fun c168 => ?_) (fun c168 => ?_)
                      · refine lv_aload_n hx hb dX11_readsRule_178 rfl (lv_at hl 0 rfl) ?_
                        refine lv_iload_n hx hb dX11_readsRule_179 rfl (lv_at hl 2 rfl) ?_
                        refine lv_aload_n hx hb dX11_readsRule_180 rfl (lv_at hl 0 rfl) ?_
                        refine va_get (D := D) (ci := 10) (v := .int (nI (rW2 txt m a))) (C := RX11) (T := TX11) (N := 27) hx hb hts hi_X11_readsRule_X11 hown hK hP 0 rfl rfl 10 (by decide) (hts (.fieldLink RX11 185 "FallingWordsModel" "read" "I") (by decide +kernel)) (fun _ h9 => h9) rfl dX11_readsRule_181 ?_
                        refine cv_V (As := [.int (nI (rW1 txt m a)), .int (nI (rW2 txt m a))]) (rest := []) h0 hK hN hP hD hS hA hl.1 (k_X11_adds lY D cA B S WA BG AS TX RW RR FD m1 (nI m) (nI (psA txt m ((rd txt m 13 ((rd txt m 13 (a + 1)).2.2 + 1)).2.2) 59)) m4 m5 (nI (rW2 txt m a)) (nI ((rd txt m 13 ((rd txt m 13 (a + 1)).2.2 + 1)).2.1)) m8 m9 m10 m11 m12 m13 m14 m15 m16 m17 m18 m19 (rW1 txt m a) (rW2 txt m a) (by omega)) [0, 1, 2, 3, 4, 5, 6, 7, 8] rfl (by decide) (cwV 2 hts gX11_readsRule_X11_adds rfl rfl rfl (by decide +kernel) ⟨Nat.le_of_ble_eq_true rfl, Nat.le_of_ble_eq_true rfl⟩) (cl_recv (ci := 10) (q := (RX11, TX11, 27)) (q0 := 0) hP hK rfl rfl) rfl rfl (Nat.le_of_ble_eq_true rfl) dX11_readsRule_184 ⟨Nat.zero_le _, Nat.zero_le _⟩ (fun wY H locs hwY hJ hS => ?_)
                        have e2Y := hwY
                        have e3Y := e2Y.symm
                        clear e2Y
                        subst e3Y
                        obtain ⟨hP, hD⟩ := hJ rfl
                        have hP : va_P D vwCl (gMo cA B (fN (addS S (rW1 txt m a) (rW2 txt m a))) WA BG AS TX RW RR FD m1 (nI m) (nI (psA txt m ((rd txt m 13 ((rd txt m 13 (a + 1)).2.2 + 1)).2.2) 59)) m4 m5 (nI (rW2 txt m a)) (nI ((rd txt m 13 ((rd txt m 13 (a + 1)).2.2 + 1)).2.1)) m8 m9 m10 m11 m12 m13 m14 m15 m16 m17 m18 m19) H := hP
                        have hD : va_D AY (gMo cA B (fN (addS S (rW1 txt m a) (rW2 txt m a))) WA BG AS TX RW RR FD m1 (nI m) (nI (psA txt m ((rd txt m 13 ((rd txt m 13 (a + 1)).2.2 + 1)).2.2) 59)) m4 m5 (nI (rW2 txt m a)) (nI ((rd txt m 13 ((rd txt m 13 (a + 1)).2.2 + 1)).2.1)) m8 m9 m10 m11 m12 m13 m14 m15 m16 m17 m18 m19) := hD
                        refine lv_iconst (v := nI 0) hx hb dX11_readsRule_187 (by decide +kernel) ?_
                        have hDc : (doC txt m a S) = (0, 0, addS S (rW1 txt m a) (rW2 txt m a)) := by rw [hD0]; unfold addC; rw [if_neg (show ¬ (len (rW1 txt m a) = 0 ∨ 4 < len (rW1 txt m a) ∨ 4 < len (rW2 txt m a)) by omega), if_neg hng, if_neg (by rw [hhs]; decide), if_neg (by omega)]
                        exact hret _ _ _ _ _ _ dX11_readsRule_188 ⟨((nI (psA txt m ((rd txt m 13 ((rd txt m 13 (a + 1)).2.2 + 1)).2.2) 59))), m5, ((nI (rW2 txt m a))), ((nI ((rd txt m 13 ((rd txt m 13 (a + 1)).2.2 + 1)).2.1))), (by rw [hDc]), (by rw [hDc]), (fun _ => hat), (fun h => absurd (by rw [hDc]) h)⟩ hP hD hS
                      · refine lv_aload_n hx hb dX11_readsRule_171 rfl (lv_at hl 0 rfl) ?_
                        refine lv_iconst (v := nI 3) hx hb dX11_readsRule_172 (by decide +kernel) ?_
                        refine lv_iconst (v := nI 3) hx hb dX11_readsRule_173 (by decide +kernel) ?_
                        refine ci_V (As := [.int (nI 3), .int (nI 3)]) (rest := []) h0 hK hN hP hD hS hA hl.1 (k_X11_says lY D cA B S WA BG AS TX RW RR FD m1 (nI m) (nI (psA txt m ((rd txt m 13 ((rd txt m 13 (a + 1)).2.2 + 1)).2.2) 59)) m4 m5 (nI (rW2 txt m a)) (nI ((rd txt m 13 ((rd txt m 13 (a + 1)).2.2 + 1)).2.1)) m8 m9 m10 m11 m12 m13 m14 m15 m16 m17 m18 m19 (nI 3) (nI 3) ) [0, 1, 2, 3, 4, 5, 6, 7, 8] rfl (by decide) (cwV 2 hts gX11_readsRule_X11_says rfl rfl rfl (by decide +kernel) ⟨Nat.le_of_ble_eq_true rfl, Nat.le_of_ble_eq_true rfl⟩) (cl_recv (ci := 10) (q := (RX11, TX11, 27)) (q0 := 0) hP hK rfl rfl) rfl rfl (Nat.le_of_ble_eq_true rfl) dX11_readsRule_174 ⟨Nat.zero_le _, Nat.zero_le _⟩ (fun rY wY H locs hwY hJ hS => ?_)
                        obtain ⟨e1Y, e2Y⟩ := hwY
                        have e3Y := e1Y.symm
                        clear e1Y
                        subst e3Y
                        have e3Y := e2Y.symm
                        clear e2Y
                        subst e3Y
                        obtain ⟨hP, hD⟩ := hJ rfl
                        have hP : va_P D vwCl (gMo cA B (fN S) WA BG AS TX RW RR FD m1 (nI m) (nI (psA txt m ((rd txt m 13 ((rd txt m 13 (a + 1)).2.2 + 1)).2.2) 59)) m4 (nI 3) (nI (rW2 txt m a)) (nI ((rd txt m 13 ((rd txt m 13 (a + 1)).2.2 + 1)).2.1)) m8 m9 m10 m11 m12 m13 m14 m15 m16 m17 m18 m19) H := hP
                        have hD : va_D AY (gMo cA B (fN S) WA BG AS TX RW RR FD m1 (nI m) (nI (psA txt m ((rd txt m 13 ((rd txt m 13 (a + 1)).2.2 + 1)).2.2) 59)) m4 (nI 3) (nI (rW2 txt m a)) (nI ((rd txt m 13 ((rd txt m 13 (a + 1)).2.2 + 1)).2.1)) m8 m9 m10 m11 m12 m13 m14 m15 m16 m17 m18 m19) := hD
                        have hDc : (doC txt m a S) = (3, 3, S) := by rw [hD0]; unfold addC; rw [if_neg (show ¬ (len (rW1 txt m a) = 0 ∨ 4 < len (rW1 txt m a) ∨ 4 < len (rW2 txt m a)) by omega), if_neg hng, if_neg (by rw [hhs]; decide), if_pos (by omega)]
                        exact hret _ _ _ _ _ _ dX11_readsRule_177 ⟨((nI (psA txt m ((rd txt m 13 ((rd txt m 13 (a + 1)).2.2 + 1)).2.2) 59))), ((nI 3)), ((nI (rW2 txt m a))), ((nI ((rd txt m 13 ((rd txt m 13 (a + 1)).2.2 + 1)).2.1))), (by rw [hDc]), (by rw [hDc]), (fun h => by rw [hDc] at h; cases h), (fun _ => by rw [hDc]; rfl)⟩ hP hD hS
                    · obtain ⟨g1, g2⟩ := hsd_b hIR i (by omega)
                      refine lv_aload_n hx hb dX11_readsRule_124 rfl (lv_at hl 0 rfl) ?_
                      refine lv_iload hx hb dX11_readsRule_125 (lv_at hl 5 rfl) ?_
                      refine ci_V (As := [.int (nI i)]) (rest := []) h0 hK hN hP hD hS hA hl.1 (k_X11_left lY D cA B S WA BG AS TX RW RR FD m1 (nI m) (nI (psA txt m ((rd txt m 13 ((rd txt m 13 (a + 1)).2.2 + 1)).2.2) 59)) m4 m5 (nI (rW2 txt m a)) (nI ((rd txt m 13 ((rd txt m 13 (a + 1)).2.2 + 1)).2.1)) m8 m9 m10 m11 m12 m13 m14 m15 m16 m17 m18 m19 i (by omega)) [0, 1, 2, 3, 4, 5, 6, 7, 8] rfl (by decide) (cwV 1 hts gX11_readsRule_X11_left rfl rfl rfl (by decide +kernel) ⟨Nat.le_of_ble_eq_true rfl, Nat.le_of_ble_eq_true rfl⟩) (cl_recv (ci := 10) (q := (RX11, TX11, 27)) (q0 := 0) hP hK rfl rfl) rfl rfl (Nat.le_of_ble_eq_true rfl) dX11_readsRule_127 ⟨Nat.zero_le _, Nat.zero_le _⟩ (fun rY wY H locs hwY hJ hS => ?_)
                      obtain ⟨e1Y, e2Y⟩ := hwY
                      have e3Y := e1Y.symm
                      clear e1Y
                      subst e3Y
                      have e3Y := e2Y.symm
                      clear e2Y
                      subst e3Y
                      obtain ⟨hP, hD⟩ := hJ rfl
                      have hP : va_P D vwCl (gMo cA B (fN S) WA BG AS TX RW RR FD m1 (nI m) (nI (psA txt m ((rd txt m 13 ((rd txt m 13 (a + 1)).2.2 + 1)).2.2) 59)) m4 m5 (nI (rW2 txt m a)) (nI ((rd txt m 13 ((rd txt m 13 (a + 1)).2.2 + 1)).2.1)) m8 m9 m10 m11 m12 m13 m14 m15 m16 m17 m18 m19) H := hP
                      have hD : va_D AY (gMo cA B (fN S) WA BG AS TX RW RR FD m1 (nI m) (nI (psA txt m ((rd txt m 13 ((rd txt m 13 (a + 1)).2.2 + 1)).2.2) 59)) m4 m5 (nI (rW2 txt m a)) (nI ((rd txt m 13 ((rd txt m 13 (a + 1)).2.2 + 1)).2.1)) m8 m9 m10 m11 m12 m13 m14 m15 m16 m17 m18 m19) := hD
                      refine lv_iload_n hx hb dX11_readsRule_130 rfl (lv_at hl 2 rfl) ?_
                      refine xc_ne (tgt := 154) hx hb dX11_readsRule_131 (by decide) (by omega) (by omega) (fun c131 => ?_) (fun c131 => ?_)
                      · refine lv_iinc (v := nI (i + 1)) (lv' := [(5, .int (nI (i + 1))), (0, .ref (B 0)), (1, .int (nI a)), (2, .int (nI (rW1 txt m a))), (3, .int (nI ((rd txt m 13 (a + 1)).2.1))), (4, .int (nI ((rd txt m 13 ((rd txt m 13 (a + 1)).2.2 + 1)).2.1)))]) hx hb dX11_readsRule_154 hl (k := 5) rfl (show nI i + Int32.ofInt 1 = nI (i + 1) from nI_add i 1) (by decide) rfl (fun ls hl => ?_)
                        refine lv_goto (tgt := 113) hx hb dX11_readsRule_157 (by decide) ?_
                        exact ih113 (i + 1) (by omega) (lt_s hno (decide_eq_false (fun z => c131 z.1))) (by omega) _ _ _ hP hD hS (lv_sub hl [1, 2, 3, 4, 5, 0] rfl)
                      · refine lv_aload_n hx hb dX11_readsRule_134 rfl (lv_at hl 0 rfl) ?_
                        refine lv_iload hx hb dX11_readsRule_135 (lv_at hl 5 rfl) ?_
                        refine ci_V (As := [.int (nI i)]) (rest := []) h0 hK hN hP hD hS hA hl.1 (k_X11_right lY D cA B S WA BG AS TX RW RR FD m1 (nI m) (nI (psA txt m ((rd txt m 13 ((rd txt m 13 (a + 1)).2.2 + 1)).2.2) 59)) m4 m5 (nI (rW2 txt m a)) (nI ((rd txt m 13 ((rd txt m 13 (a + 1)).2.2 + 1)).2.1)) m8 m9 m10 m11 m12 m13 m14 m15 m16 m17 m18 m19 i (by omega)) [0, 1, 2, 3, 4, 5, 6, 7, 8] rfl (by decide) (cwV 1 hts gX11_readsRule_X11_right rfl rfl rfl (by decide +kernel) ⟨Nat.le_of_ble_eq_true rfl, Nat.le_of_ble_eq_true rfl⟩) (cl_recv (ci := 10) (q := (RX11, TX11, 27)) (q0 := 0) hP hK rfl rfl) rfl rfl (Nat.le_of_ble_eq_true rfl) dX11_readsRule_137 ⟨Nat.zero_le _, Nat.zero_le _⟩ (fun rY wY H locs hwY hJ hS => ?_)
                        obtain ⟨e1Y, e2Y⟩ := hwY
                        have e3Y := e1Y.symm
                        clear e1Y
                        subst e3Y
                        have e3Y := e2Y.symm
                        clear e2Y
                        subst e3Y
                        obtain ⟨hP, hD⟩ := hJ rfl
                        have hP : va_P D vwCl (gMo cA B (fN S) WA BG AS TX RW RR FD m1 (nI m) (nI (psA txt m ((rd txt m 13 ((rd txt m 13 (a + 1)).2.2 + 1)).2.2) 59)) m4 m5 (nI (rW2 txt m a)) (nI ((rd txt m 13 ((rd txt m 13 (a + 1)).2.2 + 1)).2.1)) m8 m9 m10 m11 m12 m13 m14 m15 m16 m17 m18 m19) H := hP
                        have hD : va_D AY (gMo cA B (fN S) WA BG AS TX RW RR FD m1 (nI m) (nI (psA txt m ((rd txt m 13 ((rd txt m 13 (a + 1)).2.2 + 1)).2.2) 59)) m4 m5 (nI (rW2 txt m a)) (nI ((rd txt m 13 ((rd txt m 13 (a + 1)).2.2 + 1)).2.1)) m8 m9 m10 m11 m12 m13 m14 m15 m16 m17 m18 m19) := hD
                        refine lv_aload_n hx hb dX11_readsRule_140 rfl (lv_at hl 0 rfl) ?_
                        refine va_get (D := D) (ci := 10) (v := .int (nI (rW2 txt m a))) (C := RX11) (T := TX11) (N := 27) hx hb hts hi_X11_readsRule_X11 hown hK hP 0 rfl rfl 10 (by decide) (hts (.fieldLink RX11 185 "FallingWordsModel" "read" "I") (by decide +kernel)) (fun _ h9 => h9) rfl dX11_readsRule_141 ?_
                        refine xc_ne (tgt := 154) hx hb dX11_readsRule_144 (by decide) (by omega) (by omega) (fun c144 => ?_) (fun c144 => ?_)
                        · refine lv_iinc (v := nI (i + 1)) (lv' := [(5, .int (nI (i + 1))), (0, .ref (B 0)), (1, .int (nI a)), (2, .int (nI (rW1 txt m a))), (3, .int (nI ((rd txt m 13 (a + 1)).2.1))), (4, .int (nI ((rd txt m 13 ((rd txt m 13 (a + 1)).2.2 + 1)).2.1)))]) hx hb dX11_readsRule_154 hl (k := 5) rfl (show nI i + Int32.ofInt 1 = nI (i + 1) from nI_add i 1) (by decide) rfl (fun ls hl => ?_)
                          refine lv_goto (tgt := 113) hx hb dX11_readsRule_157 (by decide) ?_
                          exact ih113 (i + 1) (by omega) (lt_s hno (decide_eq_false (fun z => c144 z.2))) (by omega) _ _ _ hP hD hS (lv_sub hl [1, 2, 3, 4, 5, 0] rfl)
                        · refine lv_aload_n hx hb dX11_readsRule_147 rfl (lv_at hl 0 rfl) ?_
                          refine lv_iconst (v := nI 3) hx hb dX11_readsRule_148 (by decide +kernel) ?_
                          refine lv_iconst (v := nI 2) hx hb dX11_readsRule_149 (by decide +kernel) ?_
                          refine ci_V (As := [.int (nI 3), .int (nI 2)]) (rest := []) h0 hK hN hP hD hS hA hl.1 (k_X11_says lY D cA B S WA BG AS TX RW RR FD m1 (nI m) (nI (psA txt m ((rd txt m 13 ((rd txt m 13 (a + 1)).2.2 + 1)).2.2) 59)) m4 m5 (nI (rW2 txt m a)) (nI ((rd txt m 13 ((rd txt m 13 (a + 1)).2.2 + 1)).2.1)) m8 m9 m10 m11 m12 m13 m14 m15 m16 m17 m18 m19 (nI 3) (nI 2) ) [0, 1, 2, 3, 4, 5, 6, 7, 8] rfl (by decide) (cwV 2 hts gX11_readsRule_X11_says rfl rfl rfl (by decide +kernel) ⟨Nat.le_of_ble_eq_true rfl, Nat.le_of_ble_eq_true rfl⟩) (cl_recv (ci := 10) (q := (RX11, TX11, 27)) (q0 := 0) hP hK rfl rfl) rfl rfl (Nat.le_of_ble_eq_true rfl) dX11_readsRule_150 ⟨Nat.zero_le _, Nat.zero_le _⟩ (fun rY wY H locs hwY hJ hS => ?_)
                          obtain ⟨e1Y, e2Y⟩ := hwY
                          have e3Y := e1Y.symm
                          clear e1Y
                          subst e3Y
                          have e3Y := e2Y.symm
                          clear e2Y
                          subst e3Y
                          obtain ⟨hP, hD⟩ := hJ rfl
                          have hP : va_P D vwCl (gMo cA B (fN S) WA BG AS TX RW RR FD m1 (nI m) (nI (psA txt m ((rd txt m 13 ((rd txt m 13 (a + 1)).2.2 + 1)).2.2) 59)) m4 (nI 2) (nI (rW2 txt m a)) (nI ((rd txt m 13 ((rd txt m 13 (a + 1)).2.2 + 1)).2.1)) m8 m9 m10 m11 m12 m13 m14 m15 m16 m17 m18 m19) H := hP
                          have hD : va_D AY (gMo cA B (fN S) WA BG AS TX RW RR FD m1 (nI m) (nI (psA txt m ((rd txt m 13 ((rd txt m 13 (a + 1)).2.2 + 1)).2.2) 59)) m4 (nI 2) (nI (rW2 txt m a)) (nI ((rd txt m 13 ((rd txt m 13 (a + 1)).2.2 + 1)).2.1)) m8 m9 m10 m11 m12 m13 m14 m15 m16 m17 m18 m19) := hD
                          have hhs : hsd S (rW1 txt m a) (rW2 txt m a) = true := decide_eq_true (by rw [ff_is (k := i) (by omega) (decide_eq_true ⟨c131, c144⟩) hno]; omega)
                          have hDc : (doC txt m a S) = (3, 2, S) := by rw [hD0]; unfold addC; rw [if_neg (show ¬ (len (rW1 txt m a) = 0 ∨ 4 < len (rW1 txt m a) ∨ 4 < len (rW2 txt m a)) by omega), if_neg hng, if_pos hhs]
                          exact hret _ _ _ _ _ _ dX11_readsRule_153 ⟨((nI (psA txt m ((rd txt m 13 ((rd txt m 13 (a + 1)).2.2 + 1)).2.2) 59))), ((nI 2)), ((nI (rW2 txt m a))), ((nI ((rd txt m 13 ((rd txt m 13 (a + 1)).2.2 + 1)).2.1))), (by rw [hDc]), (by rw [hDc]), (fun h => by rw [hDc] at h; cases h), (fun _ => by rw [hDc]; rfl)⟩ hP hD hS
                exact L113 _ 0 (by omega) (fun k h => absurd h (Nat.not_lt_zero k)) (Nat.lt_succ_self _) _ _ _ hP hD hS (lv_sub hl [4, 5, 3, 2, 1, 0] rfl)
              · refine lv_aload_n hx hb dX11_readsRule_103 rfl (lv_at hl 3 rfl) ?_
                refine lv_iconst (v := nI 3) hx hb dX11_readsRule_104 (by decide +kernel) ?_
                refine lv_iconst (v := nI 1) hx hb dX11_readsRule_105 (by decide +kernel) ?_
                refine ci_V (As := [.int (nI 3), .int (nI 1)]) (rest := []) h0 hK hN hP hD hS hA hl.1 (k_X11_says lY D cA B S WA BG AS TX RW RR FD m1 (nI m) (nI (psA txt m ((rd txt m 13 ((rd txt m 13 (a + 1)).2.2 + 1)).2.2) 59)) m4 m5 (nI (rW2 txt m a)) (nI ((rd txt m 13 ((rd txt m 13 (a + 1)).2.2 + 1)).2.1)) m8 m9 m10 m11 m12 m13 m14 m15 m16 m17 m18 m19 (nI 3) (nI 1) ) [0, 1, 2, 3, 4, 5, 6, 7, 8] rfl (by decide) (cwV 2 hts gX11_readsRule_X11_says rfl rfl rfl (by decide +kernel) ⟨Nat.le_of_ble_eq_true rfl, Nat.le_of_ble_eq_true rfl⟩) (cl_recv (ci := 10) (q := (RX11, TX11, 27)) (q0 := 0) hP hK rfl rfl) rfl rfl (Nat.le_of_ble_eq_true rfl) dX11_readsRule_106 ⟨Nat.zero_le _, Nat.zero_le _⟩ (fun rY wY H locs hwY hJ hS => ?_)
                obtain ⟨e1Y, e2Y⟩ := hwY
                have e3Y := e1Y.symm
                clear e1Y
                subst e3Y
                have e3Y := e2Y.symm
                clear e2Y
                subst e3Y
                obtain ⟨hP, hD⟩ := hJ rfl
                have hP : va_P D vwCl (gMo cA B (fN S) WA BG AS TX RW RR FD m1 (nI m) (nI (psA txt m ((rd txt m 13 ((rd txt m 13 (a + 1)).2.2 + 1)).2.2) 59)) m4 (nI 1) (nI (rW2 txt m a)) (nI ((rd txt m 13 ((rd txt m 13 (a + 1)).2.2 + 1)).2.1)) m8 m9 m10 m11 m12 m13 m14 m15 m16 m17 m18 m19) H := hP
                have hD : va_D AY (gMo cA B (fN S) WA BG AS TX RW RR FD m1 (nI m) (nI (psA txt m ((rd txt m 13 ((rd txt m 13 (a + 1)).2.2 + 1)).2.2) 59)) m4 (nI 1) (nI (rW2 txt m a)) (nI ((rd txt m 13 ((rd txt m 13 (a + 1)).2.2 + 1)).2.1)) m8 m9 m10 m11 m12 m13 m14 m15 m16 m17 m18 m19) := hD
                have hDc : (doC txt m a S) = (3, 1, S) := by rw [hD0]; unfold addC; rw [if_neg (show ¬ (len (rW1 txt m a) = 0 ∨ 4 < len (rW1 txt m a) ∨ 4 < len (rW2 txt m a)) by omega), if_pos (by omega)]
                exact hret _ _ _ _ _ _ dX11_readsRule_109 ⟨((nI (psA txt m ((rd txt m 13 ((rd txt m 13 (a + 1)).2.2 + 1)).2.2) 59))), ((nI 1)), ((nI (rW2 txt m a))), ((nI ((rd txt m 13 ((rd txt m 13 (a + 1)).2.2 + 1)).2.1))), (by rw [hDc]), (by rw [hDc]), (fun h => by rw [hDc] at h; cases h), (fun _ => by rw [hDc]; rfl)⟩ hP hD hS
          · refine lv_aload_n hx hb dX11_readsRule_81 rfl (lv_at hl 3 rfl) ?_
            refine lv_iconst (v := nI 2) hx hb dX11_readsRule_82 (by decide +kernel) ?_
            refine lv_ldc (v := (-1000004)) hx hb hown (hts (.constant RX11 43 (-1000004)) (by decide +kernel)) dX11_readsRule_83 ?_
            refine ci_V (As := [.int (nI 2), .int (-1000004)]) (rest := []) h0 hK hN hP hD hS hA hl.1 (k_X11_says lY D cA B S WA BG AS TX RW RR FD m1 (nI m) (nI (psA txt m ((rd txt m 13 ((rd txt m 13 (a + 1)).2.2 + 1)).2.2) 59)) m4 m5 (nI ((rd txt m 12 ((rd txt m 13 (a + 1)).2.2 + 1)).1)) (nI ((rd txt m 13 ((rd txt m 13 (a + 1)).2.2 + 1)).2.1)) m8 m9 m10 m11 m12 m13 m14 m15 m16 m17 m18 m19 (nI 2) (-1000004) ) [0, 1, 2, 3, 4, 5, 6, 7, 8] rfl (by decide) (cwV 2 hts gX11_readsRule_X11_says rfl rfl rfl (by decide +kernel) ⟨Nat.le_of_ble_eq_true rfl, Nat.le_of_ble_eq_true rfl⟩) (cl_recv (ci := 10) (q := (RX11, TX11, 27)) (q0 := 0) hP hK rfl rfl) rfl rfl (Nat.le_of_ble_eq_true rfl) dX11_readsRule_85 ⟨Nat.zero_le _, Nat.zero_le _⟩ (fun rY wY H locs hwY hJ hS => ?_)
            obtain ⟨e1Y, e2Y⟩ := hwY
            have e3Y := e1Y.symm
            clear e1Y
            subst e3Y
            have e3Y := e2Y.symm
            clear e2Y
            subst e3Y
            obtain ⟨hP, hD⟩ := hJ rfl
            have hP : va_P D vwCl (gMo cA B (fN S) WA BG AS TX RW RR FD m1 (nI m) (nI (psA txt m ((rd txt m 13 ((rd txt m 13 (a + 1)).2.2 + 1)).2.2) 59)) m4 (-1000004) (nI ((rd txt m 12 ((rd txt m 13 (a + 1)).2.2 + 1)).1)) (nI ((rd txt m 13 ((rd txt m 13 (a + 1)).2.2 + 1)).2.1)) m8 m9 m10 m11 m12 m13 m14 m15 m16 m17 m18 m19) H := hP
            have hD : va_D AY (gMo cA B (fN S) WA BG AS TX RW RR FD m1 (nI m) (nI (psA txt m ((rd txt m 13 ((rd txt m 13 (a + 1)).2.2 + 1)).2.2) 59)) m4 (-1000004) (nI ((rd txt m 12 ((rd txt m 13 (a + 1)).2.2 + 1)).1)) (nI ((rd txt m 13 ((rd txt m 13 (a + 1)).2.2 + 1)).2.1)) m8 m9 m10 m11 m12 m13 m14 m15 m16 m17 m18 m19) := hD
            have hDc : (doC txt m a S) = (2, 0, S) := by rw [hD0]; unfold addC; rw [if_pos (by omega)]
            exact hret _ _ _ _ _ _ dX11_readsRule_88 ⟨((nI (psA txt m ((rd txt m 13 ((rd txt m 13 (a + 1)).2.2 + 1)).2.2) 59))), (-1000004), ((nI ((rd txt m 12 ((rd txt m 13 (a + 1)).2.2 + 1)).1))), ((nI ((rd txt m 13 ((rd txt m 13 (a + 1)).2.2 + 1)).2.1))), (by rw [hDc]), (by rw [hDc]), (fun h => by rw [hDc] at h; cases h), (fun _ => by rw [hDc]; rfl)⟩ hP hD hS
    · have pc := psA_f c51
      rw [pc] at hP hD
      have hP : va_P D vwCl (gMo cA B (fN S) WA BG AS TX RW RR FD m1 (nI m) (nI ((rd txt m 13 ((rd txt m 13 (a + 1)).2.2 + 1)).2.2)) m4 m5 (nI ((rd txt m 12 ((rd txt m 13 (a + 1)).2.2 + 1)).1)) (nI ((rd txt m 13 ((rd txt m 13 (a + 1)).2.2 + 1)).2.1)) m8 m9 m10 m11 m12 m13 m14 m15 m16 m17 m18 m19) H := hP
      have hD : va_D AY (gMo cA B (fN S) WA BG AS TX RW RR FD m1 (nI m) (nI ((rd txt m 13 ((rd txt m 13 (a + 1)).2.2 + 1)).2.2)) m4 m5 (nI ((rd txt m 12 ((rd txt m 13 (a + 1)).2.2 + 1)).1)) (nI ((rd txt m 13 ((rd txt m 13 (a + 1)).2.2 + 1)).2.1)) m8 m9 m10 m11 m12 m13 m14 m15 m16 m17 m18 m19) := hD
      refine lv_aload_n hx hb dX11_readsRule_54 rfl (lv_at hl 3 rfl) ?_
      refine lv_iconst (v := nI 1) hx hb dX11_readsRule_55 (by decide +kernel) ?_
      refine lv_aload_n hx hb dX11_readsRule_56 rfl (lv_at hl 3 rfl) ?_
      refine va_get (D := D) (ci := 10) (v := .int (nI ((rd txt m 13 ((rd txt m 13 (a + 1)).2.2 + 1)).2.2))) (C := RX11) (T := TX11) (N := 27) hx hb hts hi_X11_readsRule_X11 hown hK hP 0 rfl rfl 7 (by decide) (hts (.fieldLink RX11 179 "FallingWordsModel" "at" "I") (by decide +kernel)) (fun _ h9 => h9) rfl dX11_readsRule_57 ?_
      refine lv_iload_n hx hb dX11_readsRule_60 rfl (lv_at hl 4 rfl) ?_
      refine lv_isub hx hb dX11_readsRule_61 ?_
      refine xt (show (nI ((rd txt m 13 ((rd txt m 13 (a + 1)).2.2 + 1)).2.2)) - (nI a) = nI (((rd txt m 13 ((rd txt m 13 (a + 1)).2.2 + 1)).2.2) - a) from pk_sub (by omega)) ?_
      refine ci_V (As := [.int (nI 1), .int (nI (((rd txt m 13 ((rd txt m 13 (a + 1)).2.2 + 1)).2.2) - a))]) (rest := []) h0 hK hN hP hD hS hA hl.1 (k_X11_says lY D cA B S WA BG AS TX RW RR FD m1 (nI m) (nI ((rd txt m 13 ((rd txt m 13 (a + 1)).2.2 + 1)).2.2)) m4 m5 (nI ((rd txt m 12 ((rd txt m 13 (a + 1)).2.2 + 1)).1)) (nI ((rd txt m 13 ((rd txt m 13 (a + 1)).2.2 + 1)).2.1)) m8 m9 m10 m11 m12 m13 m14 m15 m16 m17 m18 m19 (nI 1) (nI (((rd txt m 13 ((rd txt m 13 (a + 1)).2.2 + 1)).2.2) - a)) ) [0, 1, 2, 3, 4, 5, 6, 7, 8] rfl (by decide) (cwV 2 hts gX11_readsRule_X11_says rfl rfl rfl (by decide +kernel) ⟨Nat.le_of_ble_eq_true rfl, Nat.le_of_ble_eq_true rfl⟩) (cl_recv (ci := 10) (q := (RX11, TX11, 27)) (q0 := 0) hP hK rfl rfl) rfl rfl (Nat.le_of_ble_eq_true rfl) dX11_readsRule_62 ⟨Nat.zero_le _, Nat.zero_le _⟩ (fun rY wY H locs hwY hJ hS => ?_)
      obtain ⟨e1Y, e2Y⟩ := hwY
      have e3Y := e1Y.symm
      clear e1Y
      subst e3Y
      have e3Y := e2Y.symm
      clear e2Y
      subst e3Y
      obtain ⟨hP, hD⟩ := hJ rfl
      have hP : va_P D vwCl (gMo cA B (fN S) WA BG AS TX RW RR FD m1 (nI m) (nI ((rd txt m 13 ((rd txt m 13 (a + 1)).2.2 + 1)).2.2)) m4 (nI (((rd txt m 13 ((rd txt m 13 (a + 1)).2.2 + 1)).2.2) - a)) (nI ((rd txt m 12 ((rd txt m 13 (a + 1)).2.2 + 1)).1)) (nI ((rd txt m 13 ((rd txt m 13 (a + 1)).2.2 + 1)).2.1)) m8 m9 m10 m11 m12 m13 m14 m15 m16 m17 m18 m19) H := hP
      have hD : va_D AY (gMo cA B (fN S) WA BG AS TX RW RR FD m1 (nI m) (nI ((rd txt m 13 ((rd txt m 13 (a + 1)).2.2 + 1)).2.2)) m4 (nI (((rd txt m 13 ((rd txt m 13 (a + 1)).2.2 + 1)).2.2) - a)) (nI ((rd txt m 12 ((rd txt m 13 (a + 1)).2.2 + 1)).1)) (nI ((rd txt m 13 ((rd txt m 13 (a + 1)).2.2 + 1)).2.1)) m8 m9 m10 m11 m12 m13 m14 m15 m16 m17 m18 m19) := hD
      have hok : (okP txt m a) = (false, (rd txt m 13 ((rd txt m 13 (a + 1)).2.2 + 1)).2.2) := by rw [okP_43 hk, c20, c51, psA_f c51]; rfl
      have hDc : (doC txt m a S) = (1, (okP txt m a).2 - a, S) := doC_f (by rw [hok])
      exact hret _ _ _ _ _ _ dX11_readsRule_65 ⟨((nI ((rd txt m 13 ((rd txt m 13 (a + 1)).2.2 + 1)).2.2))), ((nI (((rd txt m 13 ((rd txt m 13 (a + 1)).2.2 + 1)).2.2) - a))), ((nI ((rd txt m 12 ((rd txt m 13 (a + 1)).2.2 + 1)).1))), ((nI ((rd txt m 13 ((rd txt m 13 (a + 1)).2.2 + 1)).2.1))), (by rw [hDc]), (by rw [hDc]), (fun h => by rw [hDc] at h; cases h), (fun _ => by rw [hDc, hok]; rfl)⟩ hP hD hS
  · have pa := psA_f c20
    rw [pa] at hP hD
    have hP : va_P D vwCl (gMo cA B (fN S) WA BG AS TX RW RR FD m1 (nI m) (nI ((rd txt m 13 (a + 1)).2.2)) m4 m5 (nI ((rd txt m 12 (a + 1)).1)) (nI ((rd txt m 13 (a + 1)).2.1)) m8 m9 m10 m11 m12 m13 m14 m15 m16 m17 m18 m19) H := hP
    have hD : va_D AY (gMo cA B (fN S) WA BG AS TX RW RR FD m1 (nI m) (nI ((rd txt m 13 (a + 1)).2.2)) m4 m5 (nI ((rd txt m 12 (a + 1)).1)) (nI ((rd txt m 13 (a + 1)).2.1)) m8 m9 m10 m11 m12 m13 m14 m15 m16 m17 m18 m19) := hD
    refine lv_aload_n hx hb dX11_readsRule_23 rfl (lv_at hl 2 rfl) ?_
    refine lv_iconst (v := nI 1) hx hb dX11_readsRule_24 (by decide +kernel) ?_
    refine lv_aload_n hx hb dX11_readsRule_25 rfl (lv_at hl 2 rfl) ?_
    refine va_get (D := D) (ci := 10) (v := .int (nI ((rd txt m 13 (a + 1)).2.2))) (C := RX11) (T := TX11) (N := 27) hx hb hts hi_X11_readsRule_X11 hown hK hP 0 rfl rfl 7 (by decide) (hts (.fieldLink RX11 179 "FallingWordsModel" "at" "I") (by decide +kernel)) (fun _ h9 => h9) rfl dX11_readsRule_26 ?_
    refine lv_iload_n hx hb dX11_readsRule_29 rfl (lv_at hl 3 rfl) ?_
    refine lv_isub hx hb dX11_readsRule_30 ?_
    refine xt (show (nI ((rd txt m 13 (a + 1)).2.2)) - (nI a) = nI (((rd txt m 13 (a + 1)).2.2) - a) from pk_sub (by omega)) ?_
    refine ci_V (As := [.int (nI 1), .int (nI (((rd txt m 13 (a + 1)).2.2) - a))]) (rest := []) h0 hK hN hP hD hS hA hl.1 (k_X11_says lY D cA B S WA BG AS TX RW RR FD m1 (nI m) (nI ((rd txt m 13 (a + 1)).2.2)) m4 m5 (nI ((rd txt m 12 (a + 1)).1)) (nI ((rd txt m 13 (a + 1)).2.1)) m8 m9 m10 m11 m12 m13 m14 m15 m16 m17 m18 m19 (nI 1) (nI (((rd txt m 13 (a + 1)).2.2) - a)) ) [0, 1, 2, 3, 4, 5, 6, 7, 8] rfl (by decide) (cwV 2 hts gX11_readsRule_X11_says rfl rfl rfl (by decide +kernel) ⟨Nat.le_of_ble_eq_true rfl, Nat.le_of_ble_eq_true rfl⟩) (cl_recv (ci := 10) (q := (RX11, TX11, 27)) (q0 := 0) hP hK rfl rfl) rfl rfl (Nat.le_of_ble_eq_true rfl) dX11_readsRule_31 ⟨Nat.zero_le _, Nat.zero_le _⟩ (fun rY wY H locs hwY hJ hS => ?_)
    obtain ⟨e1Y, e2Y⟩ := hwY
    have e3Y := e1Y.symm
    clear e1Y
    subst e3Y
    have e3Y := e2Y.symm
    clear e2Y
    subst e3Y
    obtain ⟨hP, hD⟩ := hJ rfl
    have hP : va_P D vwCl (gMo cA B (fN S) WA BG AS TX RW RR FD m1 (nI m) (nI ((rd txt m 13 (a + 1)).2.2)) m4 (nI (((rd txt m 13 (a + 1)).2.2) - a)) (nI ((rd txt m 12 (a + 1)).1)) (nI ((rd txt m 13 (a + 1)).2.1)) m8 m9 m10 m11 m12 m13 m14 m15 m16 m17 m18 m19) H := hP
    have hD : va_D AY (gMo cA B (fN S) WA BG AS TX RW RR FD m1 (nI m) (nI ((rd txt m 13 (a + 1)).2.2)) m4 (nI (((rd txt m 13 (a + 1)).2.2) - a)) (nI ((rd txt m 12 (a + 1)).1)) (nI ((rd txt m 13 (a + 1)).2.1)) m8 m9 m10 m11 m12 m13 m14 m15 m16 m17 m18 m19) := hD
    have hok : (okP txt m a) = (false, (rd txt m 13 (a + 1)).2.2) := by rw [okP_43 hk, c20]; rfl
    have hDc : (doC txt m a S) = (1, (okP txt m a).2 - a, S) := doC_f (by rw [hok])
    exact hret _ _ _ _ _ _ dX11_readsRule_34 ⟨((nI ((rd txt m 13 (a + 1)).2.2))), ((nI (((rd txt m 13 (a + 1)).2.2) - a))), ((nI ((rd txt m 12 (a + 1)).1))), ((nI ((rd txt m 13 (a + 1)).2.1))), (by rw [hDc]), (by rw [hDc]), (fun h => by rw [hDc] at h; cases h), (fun _ => by rw [hDc, hok]; rfl)⟩ hP hD hS

theorem hi_X11_readsDigit_X11 : ∀ w ∈ u_ws RX11 TX11 27, w ∈ wsX11_readsDigit := by decide +kernel
set_option maxHeartbeats 4000000 in
set_option maxRecDepth 100000 in
theorem k_X11_readsDigit (lY : Launch) (D : va_G) (cA : Nat → ClassId) (B : Nat → Nat) (S : St) (WA BG AS TX RW RR FD : Nat → Int32) (m1 m4 m5 m6 m7 m8 m9 m10 m11 m12 m13 m14 m15 m16 m17 m18 m19 : Int32) (txt : Nat → Nat) (m a : Nat) (z : Bool) (htx : rTx txt m TX) (ham : a < m) (hI : IV S) (hk : (z = true → txt a = 45) ∧ (z = false → txt a = 119)) : MetI lY D cA yX11_readsDigit wsX11_readsDigit 3 65 [.ref (B 0), .int (nI a), .int (bI z)] (gMo cA B (fN S) WA BG AS TX RW RR FD m1 (nI m) (nI (a + 1)) m4 m5 m6 m7 m8 m9 m10 m11 m12 m13 m14 m15 m16 m17 m18 m19) (fun rY wY => ∃ (x3 : Int32) (x5 : Int32) (x6 : Int32) (x7 : Int32), rY = nI ((doC txt m a S).1) ∧ wY = gMo cA B (fN ((doC txt m a S).2.2)) WA BG AS TX RW RR FD m1 (nI m) x3 m4 x5 x6 x7 m8 m9 m10 m11 m12 m13 m14 m15 m16 m17 m18 m19 ∧ ((doC txt m a S).1 = 0 → x3 = nI (okP txt m a).2) ∧ ((doC txt m a S).1 ≠ 0 → x5 = csI (doC txt m a S))) := by
  refine MetI.of (cc := cX11_readsDigit) (maxL := 5) (ret := (some .int)) (by decide) rfl (Nat.le_of_ble_eq_true rfl) (Or.inl rfl) ?_
  intro pY eY sY mY aY bY tY cY QY AY ls h0 hP hK hN hD hA hS hl hret
  obtain ⟨hx, hb, hml, hown, hts⟩ := id h0
  have hl : lv_has ls 5 [(0, .ref (B 0)), (1, .int (nI a)), (2, .int (bI z))] := hl
  have hP : va_P D vwCl (gMo cA B (fN S) WA BG AS TX RW RR FD m1 (nI m) (nI (a + 1)) m4 m5 m6 m7 m8 m9 m10 m11 m12 m13 m14 m15 m16 m17 m18 m19) sY.heap := hP
  have hD : va_D AY (gMo cA B (fN S) WA BG AS TX RW RR FD m1 (nI m) (nI (a + 1)) m4 m5 m6 m7 m8 m9 m10 m11 m12 m13 m14 m15 m16 m17 m18 m19) := hD
  have h80 := htx.1
  have hIR := hI.1
  have h10 := hIR.1
  have hk2 : txt a = 45 ∨ txt a = 119 := by cases z; (exact Or.inr (hk.2 rfl)); exact Or.inl (hk.1 rfl)
  have em1 : ((-1000001) : Int32).toInt = -1000001 := rfl
  refine lv_aload_n hx hb dX11_readsDigit_0 rfl (lv_at hl 0 rfl) ?_
  refine ci_V (As := []) (rest := []) h0 hK hN hP hD hS hA hl.1 (k_X11_sign lY D cA B S WA BG AS TX RW RR FD m1 m4 m5 m6 m7 m8 m9 m10 m11 m12 m13 m14 m15 m16 m17 m18 m19 txt m (a + 1) (by first | assumption | omega) (by omega)) [0, 1, 2, 3, 4, 5, 6, 7, 8] rfl (by decide) (cwV 0 hts gX11_readsDigit_X11_sign rfl rfl rfl (by decide +kernel) ⟨Nat.le_of_ble_eq_true rfl, Nat.le_of_ble_eq_true rfl⟩) (cl_recv (ci := 10) (q := (RX11, TX11, 27)) (q0 := 0) hP hK rfl rfl) rfl rfl (Nat.le_of_ble_eq_true rfl) dX11_readsDigit_1 ⟨Nat.zero_le _, Nat.zero_le _⟩ (fun rY wY H locs hwY hJ hS => ?_)
  obtain ⟨e1Y, e2Y⟩ := hwY
  have e3Y := e1Y.symm
  clear e1Y
  subst e3Y
  have e3Y := e2Y.symm
  clear e2Y
  subst e3Y
  obtain ⟨hP, hD⟩ := hJ rfl
  have hP : va_P D vwCl (gMo cA B (fN S) WA BG AS TX RW RR FD m1 (nI m) (nI (a + 1)) m4 m5 m6 m7 m8 m9 m10 m11 m12 m13 m14 m15 m16 m17 m18 m19) H := hP
  have hD : va_D AY (gMo cA B (fN S) WA BG AS TX RW RR FD m1 (nI m) (nI (a + 1)) m4 m5 m6 m7 m8 m9 m10 m11 m12 m13 m14 m15 m16 m17 m18 m19) := hD
  refine lv_bipush (v := nI 48) hx hb dX11_readsDigit_4 (by decide +kernel) ?_
  refine lv_isub hx hb dX11_readsDigit_6 ?_
  refine lv_istore_n (lv' := [(3, .int ((sgI txt m (a + 1)) - (nI 48))), (0, .ref (B 0)), (1, .int (nI a)), (2, .int (bI z))]) hx hb dX11_readsDigit_7 rfl hl (by decide) rfl (fun ls hl => ?_)
  refine lv_iload_n hx hb dX11_readsDigit_8 rfl (lv_at hl 0 rfl) ?_
  refine lv_iconst (v := nI 0) hx hb dX11_readsDigit_9 (by decide +kernel) ?_
  refine lv_bipush (v := nI 9) hx hb dX11_readsDigit_10 (by decide +kernel) ?_
  refine ci_S (As := [.int ((sgI txt m (a + 1)) - (nI 48)), .int (nI 0), .int (nI 9)]) (rest := []) h0 hK hN hP hD hS hA hl.1 (k_X11_in lY D cA ((sgI txt m (a + 1)) - (nI 48)) (nI 0) (nI 9) ) [] rfl (by decide) (va_cwS 3 hts gX11_readsDigit_X11_in rfl rfl rfl (by decide +kernel) ⟨Nat.le_of_ble_eq_true rfl, Nat.le_of_ble_eq_true rfl⟩) rfl rfl (Nat.le_of_ble_eq_true rfl) dX11_readsDigit_12 ⟨Nat.zero_le _, Nat.zero_le _⟩ (fun rY wY H locs hwY hJ hS => ?_)
  obtain ⟨e1Y, e2Y⟩ := hwY
  have e3Y := e1Y.symm
  clear e1Y
  subst e3Y
  have e3Y := e2Y.symm
  clear e2Y
  subst e3Y
  obtain ⟨hP, hD⟩ := hJ rfl
  have hP : va_P D vwCl (gMo cA B (fN S) WA BG AS TX RW RR FD m1 (nI m) (nI (a + 1)) m4 m5 m6 m7 m8 m9 m10 m11 m12 m13 m14 m15 m16 m17 m18 m19) H := hP
  have hD : va_D AY (gMo cA B (fN S) WA BG AS TX RW RR FD m1 (nI m) (nI (a + 1)) m4 m5 m6 m7 m8 m9 m10 m11 m12 m13 m14 m15 m16 m17 m18 m19) := hD
  refine xt (show bI (inI ((sgI txt m (a + 1)) - (nI 48)) (nI 0) (nI 9)) = bI (dgB txt m (a + 1)) from congrArg bI (dg_rng (fun z => (htx.2 (a + 1) z).2))) ?_
  refine xb_ne (tgt := 30) hx hb dX11_readsDigit_15 (by decide) (fun c15 => ?_) (fun c15 => ?_)
  · obtain ⟨d1, d2, d3⟩ := of_decide_eq_true c15
    have hl : lv_has ls 5 [(3, .int (nI (txt (a + 1) - 48))), (0, .ref (B 0)), (1, .int (nI a)), (2, .int (bI z))] := Eq.mp (congrArg (fun zY : Int32 => lv_has ls 5 [(3, .int zY), (0, .ref (B 0)), (1, .int (nI a)), (2, .int (bI z))]) (show (sgI txt m (a + 1)) - (nI 48) = nI (txt (a + 1) - 48) from by rw [sg_in d1]; exact pk_sub d2)) hl
    refine lv_aload_n hx hb dX11_readsDigit_30 rfl (lv_at hl 1 rfl) ?_
    refine lv_dup hx hb dX11_readsDigit_31 rfl ?_
    refine va_get (D := D) (ci := 10) (v := .int (nI (a + 1))) (C := RX11) (T := TX11) (N := 27) hx hb hts hi_X11_readsDigit_X11 hown hK hP 0 rfl rfl 7 (by decide) (hts (.fieldLink RX11 179 "FallingWordsModel" "at" "I") (by decide +kernel)) (fun _ h9 => h9) rfl dX11_readsDigit_32 ?_
    refine lv_iconst (v := nI 1) hx hb dX11_readsDigit_35 (by decide +kernel) ?_
    refine lv_iadd hx hb dX11_readsDigit_36 ?_
    refine xt (show (nI (a + 1)) + (nI 1) = nI (a + 1 + 1) from nI_add _ _) ?_
    refine va_put (D := D) (ci := 10) (v := .int (nI (a + 1 + 1))) (ty := .int) (C := RX11) (T := TX11) (N := 27) hx hb hts hi_X11_readsDigit_X11 tyX11 tyX11_ok nmX11 hown hK hP hD hS 0 rfl rfl 7 (by decide) (hts (.fieldLink RX11 179 "FallingWordsModel" "at" "I") (by decide +kernel)) (fun _ h9 => h9) rfl (by decide +kernel) rfl rfl (Nat.le_of_ble_eq_true rfl) dX11_readsDigit_37 (fun H locs hP hD hS => ?_)
    have hP : va_P D vwCl (gMo cA B (fN S) WA BG AS TX RW RR FD m1 (nI m) (nI (a + 1 + 1)) m4 m5 m6 m7 m8 m9 m10 m11 m12 m13 m14 m15 m16 m17 m18 m19) H := hP
    have hD : va_D AY (gMo cA B (fN S) WA BG AS TX RW RR FD m1 (nI m) (nI (a + 1 + 1)) m4 m5 m6 m7 m8 m9 m10 m11 m12 m13 m14 m15 m16 m17 m18 m19) := hD
    refine lv_aload_n hx hb dX11_readsDigit_40 rfl (lv_at hl 1 rfl) ?_
    refine lv_bipush (v := nI 59) hx hb dX11_readsDigit_41 (by decide +kernel) ?_
    refine ci_V (As := [.int (nI 59)]) (rest := []) h0 hK hN hP hD hS hA hl.1 (k_X11_takes lY D cA B S WA BG AS TX RW RR FD m1 m4 m5 m6 m7 m8 m9 m10 m11 m12 m13 m14 m15 m16 m17 m18 m19 txt m (a + 1 + 1) 59 (by first | assumption | omega) (by omega) (by decide)) [0, 1, 2, 3, 4, 5, 6, 7, 8] rfl (by decide) (cwV 1 hts gX11_readsDigit_X11_takes rfl rfl rfl (by decide +kernel) ⟨Nat.le_of_ble_eq_true rfl, Nat.le_of_ble_eq_true rfl⟩) (cl_recv (ci := 10) (q := (RX11, TX11, 27)) (q0 := 0) hP hK rfl rfl) rfl rfl (Nat.le_of_ble_eq_true rfl) dX11_readsDigit_43 ⟨Nat.zero_le _, Nat.zero_le _⟩ (fun rY wY H locs hwY hJ hS => ?_)
    obtain ⟨e1Y, e2Y⟩ := hwY
    have e3Y := e1Y.symm
    clear e1Y
    subst e3Y
    have e3Y := e2Y.symm
    clear e2Y
    subst e3Y
    obtain ⟨hP, hD⟩ := hJ rfl
    have hP : va_P D vwCl (gMo cA B (fN S) WA BG AS TX RW RR FD m1 (nI m) (nI (psA txt m (a + 1 + 1) 59)) m4 m5 m6 m7 m8 m9 m10 m11 m12 m13 m14 m15 m16 m17 m18 m19) H := hP
    have hD : va_D AY (gMo cA B (fN S) WA BG AS TX RW RR FD m1 (nI m) (nI (psA txt m (a + 1 + 1) 59)) m4 m5 m6 m7 m8 m9 m10 m11 m12 m13 m14 m15 m16 m17 m18 m19) := hD
    refine xb_ne (tgt := 61) hx hb dX11_readsDigit_46 (by decide) (fun c46 => ?_) (fun c46 => ?_)
    · have hok : (okP txt m a) = (true, psA txt m (a + 1 + 1) 59) := by rw [okP_d hk2, c15, c46]; rfl
      have hD1 : (doC txt m a S) = prf (txt a) (rW1 txt m a) (rW2 txt m a) (txt (a + 1) - 48) S := doC_t (by rw [hok])
      have hat : nI (psA txt m (a + 1 + 1) 59) = nI (okP txt m a).2 := by rw [hok]
      have ed : (nI (txt (a + 1) - 48)).toInt = ((txt (a + 1) - 48) : Nat) := nI_toInt (by omega)
      refine lv_iload_n hx hb dX11_readsDigit_61 rfl (lv_at hl 3 rfl) ?_
      refine xb_eq (tgt := 73) hx hb dX11_readsDigit_62 (by decide) (fun c62 => ?_) (fun c62 => ?_)
      · refine lv_aload_n hx hb dX11_readsDigit_73 rfl (lv_at hl 1 rfl) ?_
        refine lv_iload_n hx hb dX11_readsDigit_74 rfl (lv_at hl 0 rfl) ?_
        refine ci_V (As := [.int (nI (txt (a + 1) - 48))]) (rest := []) h0 hK hN hP hD hS hA hl.1 (k_X11_goes lY D cA B S WA BG AS TX RW RR FD m1 (nI m) (nI (psA txt m (a + 1 + 1) 59)) m4 m5 m6 m7 m8 m9 m10 m11 m12 m13 m14 m15 m16 m17 m18 m19 (nI (txt (a + 1) - 48)) ) [0, 1, 2, 3, 4, 5, 6, 7, 8] rfl (by decide) (cwV 1 hts gX11_readsDigit_X11_goes rfl rfl rfl (by decide +kernel) ⟨Nat.le_of_ble_eq_true rfl, Nat.le_of_ble_eq_true rfl⟩) (cl_recv (ci := 10) (q := (RX11, TX11, 27)) (q0 := 0) hP hK rfl rfl) rfl rfl (Nat.le_of_ble_eq_true rfl) dX11_readsDigit_75 ⟨Nat.zero_le _, Nat.zero_le _⟩ (fun rY wY H locs hwY hJ hS => ?_)
        obtain ⟨e1Y, e2Y⟩ := hwY
        have e3Y := e1Y.symm
        clear e1Y
        subst e3Y
        have e3Y := e2Y.symm
        clear e2Y
        subst e3Y
        obtain ⟨hP, hD⟩ := hJ rfl
        have hP : va_P D vwCl (gMo cA B (fN ((wayR S (nI (txt (a + 1) - 48))).2)) WA BG AS TX RW RR FD m1 (nI m) (nI (psA txt m (a + 1 + 1) 59)) m4 m5 m6 m7 m8 m9 m10 m11 m12 m13 m14 m15 m16 m17 m18 m19) H := hP
        have hD : va_D AY (gMo cA B (fN ((wayR S (nI (txt (a + 1) - 48))).2)) WA BG AS TX RW RR FD m1 (nI m) (nI (psA txt m (a + 1 + 1) 59)) m4 m5 m6 m7 m8 m9 m10 m11 m12 m13 m14 m15 m16 m17 m18 m19) := hD
        refine lv_istore (lv' := [(4, .int ((wayR S (nI (txt (a + 1) - 48))).1)), (3, .int (nI (txt (a + 1) - 48))), (0, .ref (B 0)), (1, .int (nI a)), (2, .int (bI z))]) hx hb dX11_readsDigit_78 hl (by decide) rfl (fun ls hl => ?_)
        refine lv_iload hx hb dX11_readsDigit_80 (lv_at hl 0 rfl) ?_
        refine lv_ldc (v := (-1000001)) hx hb hown (hts (.constant RX11 78 (-1000001)) (by decide +kernel)) dX11_readsDigit_82 ?_
        refine xr_ne (tgt := 97) hx hb dX11_readsDigit_84 (by decide) (fun c84 => ?_) (fun c84 => ?_)
        · refine lv_iconst (v := nI 0) hx hb dX11_readsDigit_97 (by decide +kernel) ?_
          have hyc : (txt (a + 1) - 48) ≤ 2 := Decidable.byContradiction (fun z => c84 (by rw [wayR_n z (by omega)]))
          have hw0 : (wayR S (nI (txt (a + 1) - 48))).2 = wayS S (txt (a + 1) - 48) := by rw [wayR_y hyc]
          have hDc : (doC txt m a S) = (0, 0, wayS S (txt (a + 1) - 48)) := by rw [hD1, prf_119 (hk.2 c62), if_pos hyc]
          exact hret _ _ _ _ _ _ dX11_readsDigit_98 ⟨((nI (psA txt m (a + 1 + 1) 59))), m5, m6, m7, (by rw [hDc]), (by rw [hDc, hw0]), (fun _ => hat), (fun h => absurd (by rw [hDc]) h)⟩ hP hD hS
        · refine lv_aload_n hx hb dX11_readsDigit_87 rfl (lv_at hl 2 rfl) ?_
          refine lv_iconst (v := nI 2) hx hb dX11_readsDigit_88 (by decide +kernel) ?_
          refine lv_ldc (v := (-1000004)) hx hb hown (hts (.constant RX11 43 (-1000004)) (by decide +kernel)) dX11_readsDigit_89 ?_
          refine ci_V (As := [.int (nI 2), .int (-1000004)]) (rest := []) h0 hK hN hP hD hS hA hl.1 (k_X11_says lY D cA B ((wayR S (nI (txt (a + 1) - 48))).2) WA BG AS TX RW RR FD m1 (nI m) (nI (psA txt m (a + 1 + 1) 59)) m4 m5 m6 m7 m8 m9 m10 m11 m12 m13 m14 m15 m16 m17 m18 m19 (nI 2) (-1000004) ) [0, 1, 2, 3, 4, 5, 6, 7, 8] rfl (by decide) (cwV 2 hts gX11_readsDigit_X11_says rfl rfl rfl (by decide +kernel) ⟨Nat.le_of_ble_eq_true rfl, Nat.le_of_ble_eq_true rfl⟩) (cl_recv (ci := 10) (q := (RX11, TX11, 27)) (q0 := 0) hP hK rfl rfl) rfl rfl (Nat.le_of_ble_eq_true rfl) dX11_readsDigit_91 ⟨Nat.zero_le _, Nat.zero_le _⟩ (fun rY wY H locs hwY hJ hS => ?_)
          obtain ⟨e1Y, e2Y⟩ := hwY
          have e3Y := e1Y.symm
          clear e1Y
          subst e3Y
          have e3Y := e2Y.symm
          clear e2Y
          subst e3Y
          obtain ⟨hP, hD⟩ := hJ rfl
          have hP : va_P D vwCl (gMo cA B (fN ((wayR S (nI (txt (a + 1) - 48))).2)) WA BG AS TX RW RR FD m1 (nI m) (nI (psA txt m (a + 1 + 1) 59)) m4 (-1000004) m6 m7 m8 m9 m10 m11 m12 m13 m14 m15 m16 m17 m18 m19) H := hP
          have hD : va_D AY (gMo cA B (fN ((wayR S (nI (txt (a + 1) - 48))).2)) WA BG AS TX RW RR FD m1 (nI m) (nI (psA txt m (a + 1 + 1) 59)) m4 (-1000004) m6 m7 m8 m9 m10 m11 m12 m13 m14 m15 m16 m17 m18 m19) := hD
          refine lv_goto (tgt := 98) hx hb dX11_readsDigit_94 (by decide) ?_
          have hnc : ¬ (txt (a + 1) - 48) ≤ 2 := fun z => by have h5 : (wayR S (nI (txt (a + 1) - 48))).1.toInt = -1000001 := c84.trans em1; rw [wayR_y z] at h5; have h6 : (nI (S 2)).toInt = -1000001 := h5; have h7 : (nI (S 2)).toInt = ((S 2 : Nat) : Int) := nI_toInt (by have := hI.1.2.1; omega); omega
          have hw0 : (wayR S (nI (txt (a + 1) - 48))).2 = S := by rw [wayR_n hnc (by omega)]
          have hDc : (doC txt m a S) = (2, 0, S) := by rw [hD1, prf_119 (hk.2 c62), if_neg hnc]
          exact hret _ _ _ _ _ _ dX11_readsDigit_98 ⟨((nI (psA txt m (a + 1 + 1) 59))), (-1000004), m6, m7, (by rw [hDc]), (by rw [hDc, hw0]), (fun h => by rw [hDc] at h; cases h), (fun _ => by rw [hDc]; rfl)⟩ hP hD hS
      · refine lv_aload_n hx hb dX11_readsDigit_65 rfl (lv_at hl 1 rfl) ?_
        refine lv_iload_n hx hb dX11_readsDigit_66 rfl (lv_at hl 0 rfl) ?_
        refine ci_V (As := [.int (nI (txt (a + 1) - 48))]) (rest := []) h0 hK hN hP hD hS hA hl.1 (k_X11_drops lY D cA B S WA BG AS TX RW RR FD m1 (nI m) (nI (psA txt m (a + 1 + 1) 59)) m4 m5 m6 m7 m8 m9 m10 m11 m12 m13 m14 m15 m16 m17 m18 m19 (nI (txt (a + 1) - 48)) (h10)) [0, 1, 2, 3, 4, 5, 6, 7, 8] rfl (by decide) (cwV 1 hts gX11_readsDigit_X11_drops rfl rfl rfl (by decide +kernel) ⟨Nat.le_of_ble_eq_true rfl, Nat.le_of_ble_eq_true rfl⟩) (cl_recv (ci := 10) (q := (RX11, TX11, 27)) (q0 := 0) hP hK rfl rfl) rfl rfl (Nat.le_of_ble_eq_true rfl) dX11_readsDigit_67 ⟨Nat.zero_le _, Nat.zero_le _⟩ (fun rY wY H locs hwY hJ hS => ?_)
        obtain ⟨e1Y, e2Y⟩ := hwY
        have e3Y := e1Y.symm
        clear e1Y
        subst e3Y
        have e3Y := e2Y.symm
        clear e2Y
        subst e3Y
        obtain ⟨hP, hD⟩ := hJ rfl
        have hP : va_P D vwCl (gMo cA B (fN ((dropR S (nI (txt (a + 1) - 48))).2)) WA BG AS TX RW RR FD m1 (nI m) (nI (psA txt m (a + 1 + 1) 59)) m4 m5 m6 m7 m8 m9 m10 m11 m12 m13 m14 m15 m16 m17 m18 m19) H := hP
        have hD : va_D AY (gMo cA B (fN ((dropR S (nI (txt (a + 1) - 48))).2)) WA BG AS TX RW RR FD m1 (nI m) (nI (psA txt m (a + 1 + 1) 59)) m4 m5 m6 m7 m8 m9 m10 m11 m12 m13 m14 m15 m16 m17 m18 m19) := hD
        refine lv_goto (tgt := 78) hx hb dX11_readsDigit_70 (by decide) ?_
        refine lv_istore (lv' := [(4, .int ((dropR S (nI (txt (a + 1) - 48))).1)), (3, .int (nI (txt (a + 1) - 48))), (0, .ref (B 0)), (1, .int (nI a)), (2, .int (bI z))]) hx hb dX11_readsDigit_78 hl (by decide) rfl (fun ls hl => ?_)
        refine lv_iload hx hb dX11_readsDigit_80 (lv_at hl 0 rfl) ?_
        refine lv_ldc (v := (-1000001)) hx hb hown (hts (.constant RX11 78 (-1000001)) (by decide +kernel)) dX11_readsDigit_82 ?_
        refine xr_ne (tgt := 97) hx hb dX11_readsDigit_84 (by decide) (fun c84 => ?_) (fun c84 => ?_)
        · refine lv_iconst (v := nI 0) hx hb dX11_readsDigit_97 (by decide +kernel) ?_
          have hyc : (txt (a + 1) - 48) < S 1 := Decidable.byContradiction (fun z => c84 (by rw [dropR_n z (by omega)]))
          have hw0 : (dropR S (nI (txt (a + 1) - 48))).2 = dropS S (txt (a + 1) - 48) := by rw [dropR_y hyc (by omega)]
          have hDc : (doC txt m a S) = (0, 0, dropS S (txt (a + 1) - 48)) := by rw [hD1, prf_45 (hk.1 c62), if_pos hyc]
          exact hret _ _ _ _ _ _ dX11_readsDigit_98 ⟨((nI (psA txt m (a + 1 + 1) 59))), m5, m6, m7, (by rw [hDc]), (by rw [hDc, hw0]), (fun _ => hat), (fun h => absurd (by rw [hDc]) h)⟩ hP hD hS
        · refine lv_aload_n hx hb dX11_readsDigit_87 rfl (lv_at hl 2 rfl) ?_
          refine lv_iconst (v := nI 2) hx hb dX11_readsDigit_88 (by decide +kernel) ?_
          refine lv_ldc (v := (-1000004)) hx hb hown (hts (.constant RX11 43 (-1000004)) (by decide +kernel)) dX11_readsDigit_89 ?_
          refine ci_V (As := [.int (nI 2), .int (-1000004)]) (rest := []) h0 hK hN hP hD hS hA hl.1 (k_X11_says lY D cA B ((dropR S (nI (txt (a + 1) - 48))).2) WA BG AS TX RW RR FD m1 (nI m) (nI (psA txt m (a + 1 + 1) 59)) m4 m5 m6 m7 m8 m9 m10 m11 m12 m13 m14 m15 m16 m17 m18 m19 (nI 2) (-1000004) ) [0, 1, 2, 3, 4, 5, 6, 7, 8] rfl (by decide) (cwV 2 hts gX11_readsDigit_X11_says rfl rfl rfl (by decide +kernel) ⟨Nat.le_of_ble_eq_true rfl, Nat.le_of_ble_eq_true rfl⟩) (cl_recv (ci := 10) (q := (RX11, TX11, 27)) (q0 := 0) hP hK rfl rfl) rfl rfl (Nat.le_of_ble_eq_true rfl) dX11_readsDigit_91 ⟨Nat.zero_le _, Nat.zero_le _⟩ (fun rY wY H locs hwY hJ hS => ?_)
          obtain ⟨e1Y, e2Y⟩ := hwY
          have e3Y := e1Y.symm
          clear e1Y
          subst e3Y
          have e3Y := e2Y.symm
          clear e2Y
          subst e3Y
          obtain ⟨hP, hD⟩ := hJ rfl
          have hP : va_P D vwCl (gMo cA B (fN ((dropR S (nI (txt (a + 1) - 48))).2)) WA BG AS TX RW RR FD m1 (nI m) (nI (psA txt m (a + 1 + 1) 59)) m4 (-1000004) m6 m7 m8 m9 m10 m11 m12 m13 m14 m15 m16 m17 m18 m19) H := hP
          have hD : va_D AY (gMo cA B (fN ((dropR S (nI (txt (a + 1) - 48))).2)) WA BG AS TX RW RR FD m1 (nI m) (nI (psA txt m (a + 1 + 1) 59)) m4 (-1000004) m6 m7 m8 m9 m10 m11 m12 m13 m14 m15 m16 m17 m18 m19) := hD
          refine lv_goto (tgt := 98) hx hb dX11_readsDigit_94 (by decide) ?_
          have hnc : ¬ (txt (a + 1) - 48) < S 1 := fun z => by have h5 : (dropR S (nI (txt (a + 1) - 48))).1.toInt = -1000001 := c84.trans em1; rw [dropR_y z (by omega)] at h5; have h6 : (nI (S 1 - 1)).toInt = -1000001 := h5; have h7 : (nI (S 1 - 1)).toInt = ((S 1 - 1 : Nat) : Int) := nI_toInt (by have := hI.1.2.1; omega); omega
          have hw0 : (dropR S (nI (txt (a + 1) - 48))).2 = S := by rw [dropR_n hnc (by omega)]
          have hDc : (doC txt m a S) = (2, 0, S) := by rw [hD1, prf_45 (hk.1 c62), if_neg hnc]
          exact hret _ _ _ _ _ _ dX11_readsDigit_98 ⟨((nI (psA txt m (a + 1 + 1) 59))), (-1000004), m6, m7, (by rw [hDc]), (by rw [hDc, hw0]), (fun h => by rw [hDc] at h; cases h), (fun _ => by rw [hDc]; rfl)⟩ hP hD hS
    · have pc := psA_f c46
      rw [pc] at hP hD
      have hP : va_P D vwCl (gMo cA B (fN S) WA BG AS TX RW RR FD m1 (nI m) (nI (a + 1 + 1)) m4 m5 m6 m7 m8 m9 m10 m11 m12 m13 m14 m15 m16 m17 m18 m19) H := hP
      have hD : va_D AY (gMo cA B (fN S) WA BG AS TX RW RR FD m1 (nI m) (nI (a + 1 + 1)) m4 m5 m6 m7 m8 m9 m10 m11 m12 m13 m14 m15 m16 m17 m18 m19) := hD
      refine lv_aload_n hx hb dX11_readsDigit_49 rfl (lv_at hl 1 rfl) ?_
      refine lv_iconst (v := nI 1) hx hb dX11_readsDigit_50 (by decide +kernel) ?_
      refine lv_aload_n hx hb dX11_readsDigit_51 rfl (lv_at hl 1 rfl) ?_
      refine va_get (D := D) (ci := 10) (v := .int (nI (a + 1 + 1))) (C := RX11) (T := TX11) (N := 27) hx hb hts hi_X11_readsDigit_X11 hown hK hP 0 rfl rfl 7 (by decide) (hts (.fieldLink RX11 179 "FallingWordsModel" "at" "I") (by decide +kernel)) (fun _ h9 => h9) rfl dX11_readsDigit_52 ?_
      refine lv_iload_n hx hb dX11_readsDigit_55 rfl (lv_at hl 2 rfl) ?_
      refine lv_isub hx hb dX11_readsDigit_56 ?_
      refine xt (show (nI (a + 1 + 1)) - (nI a) = nI ((a + 1 + 1) - a) from pk_sub (by omega)) ?_
      refine ci_V (As := [.int (nI 1), .int (nI ((a + 1 + 1) - a))]) (rest := []) h0 hK hN hP hD hS hA hl.1 (k_X11_says lY D cA B S WA BG AS TX RW RR FD m1 (nI m) (nI (a + 1 + 1)) m4 m5 m6 m7 m8 m9 m10 m11 m12 m13 m14 m15 m16 m17 m18 m19 (nI 1) (nI ((a + 1 + 1) - a)) ) [0, 1, 2, 3, 4, 5, 6, 7, 8] rfl (by decide) (cwV 2 hts gX11_readsDigit_X11_says rfl rfl rfl (by decide +kernel) ⟨Nat.le_of_ble_eq_true rfl, Nat.le_of_ble_eq_true rfl⟩) (cl_recv (ci := 10) (q := (RX11, TX11, 27)) (q0 := 0) hP hK rfl rfl) rfl rfl (Nat.le_of_ble_eq_true rfl) dX11_readsDigit_57 ⟨Nat.zero_le _, Nat.zero_le _⟩ (fun rY wY H locs hwY hJ hS => ?_)
      obtain ⟨e1Y, e2Y⟩ := hwY
      have e3Y := e1Y.symm
      clear e1Y
      subst e3Y
      have e3Y := e2Y.symm
      clear e2Y
      subst e3Y
      obtain ⟨hP, hD⟩ := hJ rfl
      have hP : va_P D vwCl (gMo cA B (fN S) WA BG AS TX RW RR FD m1 (nI m) (nI (a + 1 + 1)) m4 (nI ((a + 1 + 1) - a)) m6 m7 m8 m9 m10 m11 m12 m13 m14 m15 m16 m17 m18 m19) H := hP
      have hD : va_D AY (gMo cA B (fN S) WA BG AS TX RW RR FD m1 (nI m) (nI (a + 1 + 1)) m4 (nI ((a + 1 + 1) - a)) m6 m7 m8 m9 m10 m11 m12 m13 m14 m15 m16 m17 m18 m19) := hD
      have hok : (okP txt m a) = (false, a + 1 + 1) := by rw [okP_d hk2, c15, c46, psA_f c46]; rfl
      have hDc : (doC txt m a S) = (1, (okP txt m a).2 - a, S) := doC_f (by rw [hok])
      exact hret _ _ _ _ _ _ dX11_readsDigit_60 ⟨((nI (a + 1 + 1))), ((nI ((a + 1 + 1) - a))), m6, m7, (by rw [hDc]), (by rw [hDc]), (fun h => by rw [hDc] at h; cases h), (fun _ => by rw [hDc, hok]; rfl)⟩ hP hD hS
  · refine lv_aload_n hx hb dX11_readsDigit_18 rfl (lv_at hl 1 rfl) ?_
    refine lv_iconst (v := nI 1) hx hb dX11_readsDigit_19 (by decide +kernel) ?_
    refine lv_aload_n hx hb dX11_readsDigit_20 rfl (lv_at hl 1 rfl) ?_
    refine va_get (D := D) (ci := 10) (v := .int (nI (a + 1))) (C := RX11) (T := TX11) (N := 27) hx hb hts hi_X11_readsDigit_X11 hown hK hP 0 rfl rfl 7 (by decide) (hts (.fieldLink RX11 179 "FallingWordsModel" "at" "I") (by decide +kernel)) (fun _ h9 => h9) rfl dX11_readsDigit_21 ?_
    refine lv_iload_n hx hb dX11_readsDigit_24 rfl (lv_at hl 2 rfl) ?_
    refine lv_isub hx hb dX11_readsDigit_25 ?_
    refine xt (show (nI (a + 1)) - (nI a) = nI ((a + 1) - a) from pk_sub (by omega)) ?_
    refine ci_V (As := [.int (nI 1), .int (nI ((a + 1) - a))]) (rest := []) h0 hK hN hP hD hS hA hl.1 (k_X11_says lY D cA B S WA BG AS TX RW RR FD m1 (nI m) (nI (a + 1)) m4 m5 m6 m7 m8 m9 m10 m11 m12 m13 m14 m15 m16 m17 m18 m19 (nI 1) (nI ((a + 1) - a)) ) [0, 1, 2, 3, 4, 5, 6, 7, 8] rfl (by decide) (cwV 2 hts gX11_readsDigit_X11_says rfl rfl rfl (by decide +kernel) ⟨Nat.le_of_ble_eq_true rfl, Nat.le_of_ble_eq_true rfl⟩) (cl_recv (ci := 10) (q := (RX11, TX11, 27)) (q0 := 0) hP hK rfl rfl) rfl rfl (Nat.le_of_ble_eq_true rfl) dX11_readsDigit_26 ⟨Nat.zero_le _, Nat.zero_le _⟩ (fun rY wY H locs hwY hJ hS => ?_)
    obtain ⟨e1Y, e2Y⟩ := hwY
    have e3Y := e1Y.symm
    clear e1Y
    subst e3Y
    have e3Y := e2Y.symm
    clear e2Y
    subst e3Y
    obtain ⟨hP, hD⟩ := hJ rfl
    have hP : va_P D vwCl (gMo cA B (fN S) WA BG AS TX RW RR FD m1 (nI m) (nI (a + 1)) m4 (nI ((a + 1) - a)) m6 m7 m8 m9 m10 m11 m12 m13 m14 m15 m16 m17 m18 m19) H := hP
    have hD : va_D AY (gMo cA B (fN S) WA BG AS TX RW RR FD m1 (nI m) (nI (a + 1)) m4 (nI ((a + 1) - a)) m6 m7 m8 m9 m10 m11 m12 m13 m14 m15 m16 m17 m18 m19) := hD
    have hok : (okP txt m a) = (false, a + 1) := by rw [okP_d hk2, c15]; rfl
    have hDc : (doC txt m a S) = (1, (okP txt m a).2 - a, S) := doC_f (by rw [hok])
    exact hret _ _ _ _ _ _ dX11_readsDigit_29 ⟨((nI (a + 1))), ((nI ((a + 1) - a))), m6, m7, (by rw [hDc]), (by rw [hDc]), (fun h => by rw [hDc] at h; cases h), (fun _ => by rw [hDc, hok]; rfl)⟩ hP hD hS

theorem hi_X11_readsSet_X11 : ∀ w ∈ u_ws RX11 TX11 27, w ∈ wsX11_readsSet := by decide +kernel
set_option maxHeartbeats 4000000 in
set_option maxRecDepth 100000 in
theorem k_X11_readsSet (lY : Launch) (D : va_G) (cA : Nat → ClassId) (B : Nat → Nat) (S : St) (WA BG AS TX RW RR FD : Nat → Int32) (m1 m4 m5 m6 m7 m8 m9 m10 m11 m12 m13 m14 m15 m16 m17 m18 m19 : Int32) (txt : Nat → Nat) (m a : Nat) (htx : rTx txt m TX) (ham : a < m) (hI : IV S) (hk : txt a = 61) : MetI lY D cA yX11_readsSet wsX11_readsSet 2 42 [.ref (B 0), .int (nI a)] (gMo cA B (fN S) WA BG AS TX RW RR FD m1 (nI m) (nI (a + 1)) m4 m5 m6 m7 m8 m9 m10 m11 m12 m13 m14 m15 m16 m17 m18 m19) (fun rY wY => ∃ (x3 : Int32) (x5 : Int32) (x6 : Int32) (x7 : Int32), rY = nI ((doC txt m a S).1) ∧ wY = gMo cA B (fN ((doC txt m a S).2.2)) WA BG AS TX RW RR FD m1 (nI m) x3 m4 x5 x6 x7 m8 m9 m10 m11 m12 m13 m14 m15 m16 m17 m18 m19 ∧ ((doC txt m a S).1 = 0 → x3 = nI (okP txt m a).2) ∧ ((doC txt m a S).1 ≠ 0 → x5 = csI (doC txt m a S))) := by
  refine MetI.of (cc := cX11_readsSet) (maxL := 2) (ret := (some .int)) (by decide) rfl (Nat.le_of_ble_eq_true rfl) (Or.inl rfl) ?_
  intro pY eY sY mY aY bY tY cY QY AY ls h0 hP hK hN hD hA hS hl hret
  obtain ⟨hx, hb, hml, hown, hts⟩ := id h0
  have hl : lv_has ls 2 [(0, .ref (B 0)), (1, .int (nI a))] := hl
  have hP : va_P D vwCl (gMo cA B (fN S) WA BG AS TX RW RR FD m1 (nI m) (nI (a + 1)) m4 m5 m6 m7 m8 m9 m10 m11 m12 m13 m14 m15 m16 m17 m18 m19) sY.heap := hP
  have hD : va_D AY (gMo cA B (fN S) WA BG AS TX RW RR FD m1 (nI m) (nI (a + 1)) m4 m5 m6 m7 m8 m9 m10 m11 m12 m13 m14 m15 m16 m17 m18 m19) := hD
  have h80 := htx.1
  have hIR := hI.1
  have h10 := hIR.1
  obtain ⟨r1, r2, -, r4⟩ := rd_ok (txt := txt) (n := m) (lim := 13) (a := a + 1) (by omega)
  have rl1 := rd_len (txt := txt) (n := m) (a := a + 1) (by omega)
  refine lv_aload_n hx hb dX11_readsSet_0 rfl (lv_at hl 0 rfl) ?_
  refine cv_V (As := []) (rest := []) h0 hK hN hP hD hS hA hl.1 (k_X11_readsWord lY D cA B S WA BG AS TX RW RR FD m1 m4 m5 m6 m7 m8 m9 m10 m11 m12 m13 m14 m15 m16 m17 m18 m19 txt m (a + 1) (by first | assumption | omega) (by omega)) [0, 1, 2, 3, 4, 5, 6, 7, 8] rfl (by decide) (cwV 0 hts gX11_readsSet_X11_readsWord rfl rfl rfl (by decide +kernel) ⟨Nat.le_of_ble_eq_true rfl, Nat.le_of_ble_eq_true rfl⟩) (cl_recv (ci := 10) (q := (RX11, TX11, 27)) (q0 := 0) hP hK rfl rfl) rfl rfl (Nat.le_of_ble_eq_true rfl) dX11_readsSet_1 ⟨Nat.zero_le _, Nat.zero_le _⟩ (fun wY H locs hwY hJ hS => ?_)
  have e2Y := hwY
  have e3Y := e2Y.symm
  clear e2Y
  subst e3Y
  obtain ⟨hP, hD⟩ := hJ rfl
  have hP : va_P D vwCl (gMo cA B (fN S) WA BG AS TX RW RR FD m1 (nI m) (nI ((rd txt m 13 (a + 1)).2.2)) m4 m5 (nI ((rd txt m 12 (a + 1)).1)) (nI ((rd txt m 13 (a + 1)).2.1)) m8 m9 m10 m11 m12 m13 m14 m15 m16 m17 m18 m19) H := hP
  have hD : va_D AY (gMo cA B (fN S) WA BG AS TX RW RR FD m1 (nI m) (nI ((rd txt m 13 (a + 1)).2.2)) m4 m5 (nI ((rd txt m 12 (a + 1)).1)) (nI ((rd txt m 13 (a + 1)).2.1)) m8 m9 m10 m11 m12 m13 m14 m15 m16 m17 m18 m19) := hD
  refine lv_aload_n hx hb dX11_readsSet_4 rfl (lv_at hl 0 rfl) ?_
  refine lv_bipush (v := nI 59) hx hb dX11_readsSet_5 (by decide +kernel) ?_
  refine ci_V (As := [.int (nI 59)]) (rest := []) h0 hK hN hP hD hS hA hl.1 (k_X11_takes lY D cA B S WA BG AS TX RW RR FD m1 m4 m5 (nI ((rd txt m 12 (a + 1)).1)) (nI ((rd txt m 13 (a + 1)).2.1)) m8 m9 m10 m11 m12 m13 m14 m15 m16 m17 m18 m19 txt m ((rd txt m 13 (a + 1)).2.2) 59 (by first | assumption | omega) (by omega) (by decide)) [0, 1, 2, 3, 4, 5, 6, 7, 8] rfl (by decide) (cwV 1 hts gX11_readsSet_X11_takes rfl rfl rfl (by decide +kernel) ⟨Nat.le_of_ble_eq_true rfl, Nat.le_of_ble_eq_true rfl⟩) (cl_recv (ci := 10) (q := (RX11, TX11, 27)) (q0 := 0) hP hK rfl rfl) rfl rfl (Nat.le_of_ble_eq_true rfl) dX11_readsSet_7 ⟨Nat.zero_le _, Nat.zero_le _⟩ (fun rY wY H locs hwY hJ hS => ?_)
  obtain ⟨e1Y, e2Y⟩ := hwY
  have e3Y := e1Y.symm
  clear e1Y
  subst e3Y
  have e3Y := e2Y.symm
  clear e2Y
  subst e3Y
  obtain ⟨hP, hD⟩ := hJ rfl
  have hP : va_P D vwCl (gMo cA B (fN S) WA BG AS TX RW RR FD m1 (nI m) (nI (psA txt m ((rd txt m 13 (a + 1)).2.2) 59)) m4 m5 (nI ((rd txt m 12 (a + 1)).1)) (nI ((rd txt m 13 (a + 1)).2.1)) m8 m9 m10 m11 m12 m13 m14 m15 m16 m17 m18 m19) H := hP
  have hD : va_D AY (gMo cA B (fN S) WA BG AS TX RW RR FD m1 (nI m) (nI (psA txt m ((rd txt m 13 (a + 1)).2.2) 59)) m4 m5 (nI ((rd txt m 12 (a + 1)).1)) (nI ((rd txt m 13 (a + 1)).2.1)) m8 m9 m10 m11 m12 m13 m14 m15 m16 m17 m18 m19) := hD
  refine xb_ne (tgt := 25) hx hb dX11_readsSet_10 (by decide) (fun c10 => ?_) (fun c10 => ?_)
  · have hok : (okP txt m a) = (true, psA txt m (rd txt m 13 (a + 1)).2.2 59) := by rw [okP_61 hk, c10]
    have hD1 : (doC txt m a S) = if len (rW1 txt m a) ≤ 12 then (0, 0, upN S 0 (rW1 txt m a)) else (2, 0, S) := (doC_t (by rw [hok])).trans (prf_61 hk)
    have hat : nI (psA txt m (rd txt m 13 (a + 1)).2.2 59) = nI (okP txt m a).2 := by rw [hok]
    have la : len (rW1 txt m a) = min (rd txt m 13 (a + 1)).2.1 13 := rl1
    refine lv_aload_n hx hb dX11_readsSet_25 rfl (lv_at hl 0 rfl) ?_
    refine va_get (D := D) (ci := 10) (v := .int (nI ((rd txt m 13 (a + 1)).2.1))) (C := RX11) (T := TX11) (N := 27) hx hb hts hi_X11_readsSet_X11 hown hK hP 0 rfl rfl 11 (by decide) (hts (.fieldLink RX11 188 "FallingWordsModel" "readLength" "I") (by decide +kernel)) (fun _ h9 => h9) rfl dX11_readsSet_26 ?_
    refine lv_bipush (v := nI 12) hx hb dX11_readsSet_29 (by decide +kernel) ?_
    refine xc_le (tgt := 42) hx hb dX11_readsSet_31 (by decide) (by omega) (by omega) (fun c31 => ?_) (fun c31 => ?_)
    · have w1 : (rd txt m 12 (a + 1)).1 = rW1 txt m a := rd_1 (by omega)
      refine lv_aload_n hx hb dX11_readsSet_42 rfl (lv_at hl 0 rfl) ?_
      refine va_get (D := D) (ci := 10) (v := .ref (B 1)) (C := RX11) (T := TX11) (N := 27) hx hb hts hi_X11_readsSet_X11 hown hK hP 0 rfl rfl 0 (by decide) (hts (.fieldLink RX11 7 "FallingWordsModel" "s" "[I") (by decide +kernel)) (fun _ h9 => h9) rfl dX11_readsSet_43 ?_
      refine lv_iconst (v := nI 0) hx hb dX11_readsSet_46 (by decide +kernel) ?_
      refine lv_aload_n hx hb dX11_readsSet_47 rfl (lv_at hl 0 rfl) ?_
      refine va_get (D := D) (ci := 10) (v := .int (nI ((rd txt m 12 (a + 1)).1))) (C := RX11) (T := TX11) (N := 27) hx hb hts hi_X11_readsSet_X11 hown hK hP 0 rfl rfl 10 (by decide) (hts (.fieldLink RX11 185 "FallingWordsModel" "read" "I") (by decide +kernel)) (fun _ h9 => h9) rfl dX11_readsSet_48 ?_
      refine xt (show nI ((rd txt m 12 (a + 1)).1) = nI (rW1 txt m a) from congrArg nI w1) ?_
      refine xa_st hx hb hK hP hD hS 1 rfl (by omega) (by decide) dX11_readsSet_51 (fun H locs hP hD hS => ?_)
      have hP : va_P D vwCl (gMo cA B (upd (fN S) 0 (nI (rW1 txt m a))) WA BG AS TX RW RR FD m1 (nI m) (nI (psA txt m ((rd txt m 13 (a + 1)).2.2) 59)) m4 m5 (nI ((rd txt m 12 (a + 1)).1)) (nI ((rd txt m 13 (a + 1)).2.1)) m8 m9 m10 m11 m12 m13 m14 m15 m16 m17 m18 m19) H := hP
      have hD : va_D AY (gMo cA B (upd (fN S) 0 (nI (rW1 txt m a))) WA BG AS TX RW RR FD m1 (nI m) (nI (psA txt m ((rd txt m 13 (a + 1)).2.2) 59)) m4 m5 (nI ((rd txt m 12 (a + 1)).1)) (nI ((rd txt m 13 (a + 1)).2.1)) m8 m9 m10 m11 m12 m13 m14 m15 m16 m17 m18 m19) := hD
      rw [show upd (fN S) 0 (nI (rW1 txt m a)) = fN (upN S 0 (rW1 txt m a)) from fN_up] at hP hD
      refine lv_iconst (v := nI 0) hx hb dX11_readsSet_52 (by decide +kernel) ?_
      have hDc : (doC txt m a S) = (0, 0, upN S 0 (rW1 txt m a)) := by rw [hD1, if_pos (by omega)]
      exact hret _ _ _ _ _ _ dX11_readsSet_53 ⟨((nI (psA txt m ((rd txt m 13 (a + 1)).2.2) 59))), m5, ((nI ((rd txt m 12 (a + 1)).1))), ((nI ((rd txt m 13 (a + 1)).2.1))), (by rw [hDc]), (by rw [hDc]), (fun _ => hat), (fun h => absurd (by rw [hDc]) h)⟩ hP hD hS
    · refine lv_aload_n hx hb dX11_readsSet_34 rfl (lv_at hl 0 rfl) ?_
      refine lv_iconst (v := nI 2) hx hb dX11_readsSet_35 (by decide +kernel) ?_
      refine lv_ldc (v := (-1000004)) hx hb hown (hts (.constant RX11 43 (-1000004)) (by decide +kernel)) dX11_readsSet_36 ?_
      refine ci_V (As := [.int (nI 2), .int (-1000004)]) (rest := []) h0 hK hN hP hD hS hA hl.1 (k_X11_says lY D cA B S WA BG AS TX RW RR FD m1 (nI m) (nI (psA txt m ((rd txt m 13 (a + 1)).2.2) 59)) m4 m5 (nI ((rd txt m 12 (a + 1)).1)) (nI ((rd txt m 13 (a + 1)).2.1)) m8 m9 m10 m11 m12 m13 m14 m15 m16 m17 m18 m19 (nI 2) (-1000004) ) [0, 1, 2, 3, 4, 5, 6, 7, 8] rfl (by decide) (cwV 2 hts gX11_readsSet_X11_says rfl rfl rfl (by decide +kernel) ⟨Nat.le_of_ble_eq_true rfl, Nat.le_of_ble_eq_true rfl⟩) (cl_recv (ci := 10) (q := (RX11, TX11, 27)) (q0 := 0) hP hK rfl rfl) rfl rfl (Nat.le_of_ble_eq_true rfl) dX11_readsSet_38 ⟨Nat.zero_le _, Nat.zero_le _⟩ (fun rY wY H locs hwY hJ hS => ?_)
      obtain ⟨e1Y, e2Y⟩ := hwY
      have e3Y := e1Y.symm
      clear e1Y
      subst e3Y
      have e3Y := e2Y.symm
      clear e2Y
      subst e3Y
      obtain ⟨hP, hD⟩ := hJ rfl
      have hP : va_P D vwCl (gMo cA B (fN S) WA BG AS TX RW RR FD m1 (nI m) (nI (psA txt m ((rd txt m 13 (a + 1)).2.2) 59)) m4 (-1000004) (nI ((rd txt m 12 (a + 1)).1)) (nI ((rd txt m 13 (a + 1)).2.1)) m8 m9 m10 m11 m12 m13 m14 m15 m16 m17 m18 m19) H := hP
      have hD : va_D AY (gMo cA B (fN S) WA BG AS TX RW RR FD m1 (nI m) (nI (psA txt m ((rd txt m 13 (a + 1)).2.2) 59)) m4 (-1000004) (nI ((rd txt m 12 (a + 1)).1)) (nI ((rd txt m 13 (a + 1)).2.1)) m8 m9 m10 m11 m12 m13 m14 m15 m16 m17 m18 m19) := hD
      have hDc : (doC txt m a S) = (2, 0, S) := by rw [hD1, if_neg (by omega)]
      exact hret _ _ _ _ _ _ dX11_readsSet_41 ⟨((nI (psA txt m ((rd txt m 13 (a + 1)).2.2) 59))), (-1000004), ((nI ((rd txt m 12 (a + 1)).1))), ((nI ((rd txt m 13 (a + 1)).2.1))), (by rw [hDc]), (by rw [hDc]), (fun h => by rw [hDc] at h; cases h), (fun _ => by rw [hDc]; rfl)⟩ hP hD hS
  · have pc := psA_f c10
    rw [pc] at hP hD
    have hP : va_P D vwCl (gMo cA B (fN S) WA BG AS TX RW RR FD m1 (nI m) (nI ((rd txt m 13 (a + 1)).2.2)) m4 m5 (nI ((rd txt m 12 (a + 1)).1)) (nI ((rd txt m 13 (a + 1)).2.1)) m8 m9 m10 m11 m12 m13 m14 m15 m16 m17 m18 m19) H := hP
    have hD : va_D AY (gMo cA B (fN S) WA BG AS TX RW RR FD m1 (nI m) (nI ((rd txt m 13 (a + 1)).2.2)) m4 m5 (nI ((rd txt m 12 (a + 1)).1)) (nI ((rd txt m 13 (a + 1)).2.1)) m8 m9 m10 m11 m12 m13 m14 m15 m16 m17 m18 m19) := hD
    refine lv_aload_n hx hb dX11_readsSet_13 rfl (lv_at hl 0 rfl) ?_
    refine lv_iconst (v := nI 1) hx hb dX11_readsSet_14 (by decide +kernel) ?_
    refine lv_aload_n hx hb dX11_readsSet_15 rfl (lv_at hl 0 rfl) ?_
    refine va_get (D := D) (ci := 10) (v := .int (nI ((rd txt m 13 (a + 1)).2.2))) (C := RX11) (T := TX11) (N := 27) hx hb hts hi_X11_readsSet_X11 hown hK hP 0 rfl rfl 7 (by decide) (hts (.fieldLink RX11 179 "FallingWordsModel" "at" "I") (by decide +kernel)) (fun _ h9 => h9) rfl dX11_readsSet_16 ?_
    refine lv_iload_n hx hb dX11_readsSet_19 rfl (lv_at hl 1 rfl) ?_
    refine lv_isub hx hb dX11_readsSet_20 ?_
    refine xt (show (nI ((rd txt m 13 (a + 1)).2.2)) - (nI a) = nI (((rd txt m 13 (a + 1)).2.2) - a) from pk_sub (by omega)) ?_
    refine ci_V (As := [.int (nI 1), .int (nI (((rd txt m 13 (a + 1)).2.2) - a))]) (rest := []) h0 hK hN hP hD hS hA hl.1 (k_X11_says lY D cA B S WA BG AS TX RW RR FD m1 (nI m) (nI ((rd txt m 13 (a + 1)).2.2)) m4 m5 (nI ((rd txt m 12 (a + 1)).1)) (nI ((rd txt m 13 (a + 1)).2.1)) m8 m9 m10 m11 m12 m13 m14 m15 m16 m17 m18 m19 (nI 1) (nI (((rd txt m 13 (a + 1)).2.2) - a)) ) [0, 1, 2, 3, 4, 5, 6, 7, 8] rfl (by decide) (cwV 2 hts gX11_readsSet_X11_says rfl rfl rfl (by decide +kernel) ⟨Nat.le_of_ble_eq_true rfl, Nat.le_of_ble_eq_true rfl⟩) (cl_recv (ci := 10) (q := (RX11, TX11, 27)) (q0 := 0) hP hK rfl rfl) rfl rfl (Nat.le_of_ble_eq_true rfl) dX11_readsSet_21 ⟨Nat.zero_le _, Nat.zero_le _⟩ (fun rY wY H locs hwY hJ hS => ?_)
    obtain ⟨e1Y, e2Y⟩ := hwY
    have e3Y := e1Y.symm
    clear e1Y
    subst e3Y
    have e3Y := e2Y.symm
    clear e2Y
    subst e3Y
    obtain ⟨hP, hD⟩ := hJ rfl
    have hP : va_P D vwCl (gMo cA B (fN S) WA BG AS TX RW RR FD m1 (nI m) (nI ((rd txt m 13 (a + 1)).2.2)) m4 (nI (((rd txt m 13 (a + 1)).2.2) - a)) (nI ((rd txt m 12 (a + 1)).1)) (nI ((rd txt m 13 (a + 1)).2.1)) m8 m9 m10 m11 m12 m13 m14 m15 m16 m17 m18 m19) H := hP
    have hD : va_D AY (gMo cA B (fN S) WA BG AS TX RW RR FD m1 (nI m) (nI ((rd txt m 13 (a + 1)).2.2)) m4 (nI (((rd txt m 13 (a + 1)).2.2) - a)) (nI ((rd txt m 12 (a + 1)).1)) (nI ((rd txt m 13 (a + 1)).2.1)) m8 m9 m10 m11 m12 m13 m14 m15 m16 m17 m18 m19) := hD
    have hok : (okP txt m a) = (false, (rd txt m 13 (a + 1)).2.2) := by rw [okP_61 hk, c10, psA_f c10]
    have hDc : (doC txt m a S) = (1, (okP txt m a).2 - a, S) := doC_f (by rw [hok])
    exact hret _ _ _ _ _ _ dX11_readsSet_24 ⟨((nI ((rd txt m 13 (a + 1)).2.2))), ((nI (((rd txt m 13 (a + 1)).2.2) - a))), ((nI ((rd txt m 12 (a + 1)).1))), ((nI ((rd txt m 13 (a + 1)).2.1))), (by rw [hDc]), (by rw [hDc]), (fun h => by rw [hDc] at h; cases h), (fun _ => by rw [hDc, hok]; rfl)⟩ hP hD hS

theorem hi_X11_readsDeed_X11 : ∀ w ∈ u_ws RX11 TX11 27, w ∈ wsX11_readsDeed := by decide +kernel
set_option maxHeartbeats 4000000 in
set_option maxRecDepth 100000 in
theorem k_X11_readsDeed (lY : Launch) (D : va_G) (cA : Nat → ClassId) (B : Nat → Nat) (S : St) (WA BG AS TX RW RR FD : Nat → Int32) (m1 m4 m5 m6 m7 m8 m9 m10 m11 m12 m13 m14 m15 m16 m17 m18 m19 : Int32) (txt : Nat → Nat) (m a : Nat) (z : Bool) (htx : rTx txt m TX) (ham : a < m) (hI : IV S) (hk : (z = true → txt a = 115) ∧ (z = false → txt a = 110)) : MetI lY D cA yX11_readsDeed wsX11_readsDeed 5 118 [.ref (B 0), .int (nI a), .int (bI z)] (gMo cA B (fN S) WA BG AS TX RW RR FD m1 (nI m) (nI (a + 1)) m4 m5 m6 m7 m8 m9 m10 m11 m12 m13 m14 m15 m16 m17 m18 m19) (fun rY wY => ∃ (x3 : Int32) (x5 : Int32) (x6 : Int32) (x7 : Int32) (k8 : Int32) (k9 : Int32) (RW' : Nat → Int32) (RR' : Nat → Int32) (k10 : Int32) (k11 : Int32), rY = nI ((doC txt m a S).1) ∧ wY = gMo cA B (fN ((doC txt m a S).2.2)) WA BG AS TX RW' RR' FD m1 (nI m) x3 m4 x5 x6 x7 k8 k9 k10 k11 m12 m13 m14 m15 m16 m17 m18 m19 ∧ ((doC txt m a S).1 = 0 → x3 = nI (okP txt m a).2) ∧ ((doC txt m a S).1 ≠ 0 → x5 = csI (doC txt m a S))) := by
  refine MetI.of (cc := cX11_readsDeed) (maxL := 4) (ret := (some .int)) (by decide) rfl (Nat.le_of_ble_eq_true rfl) (Or.inl rfl) ?_
  intro pY eY sY mY aY bY tY cY QY AY ls h0 hP hK hN hD hA hS hl hret
  obtain ⟨hx, hb, hml, hown, hts⟩ := id h0
  have hl : lv_has ls 4 [(0, .ref (B 0)), (1, .int (nI a)), (2, .int (bI z))] := hl
  have hP : va_P D vwCl (gMo cA B (fN S) WA BG AS TX RW RR FD m1 (nI m) (nI (a + 1)) m4 m5 m6 m7 m8 m9 m10 m11 m12 m13 m14 m15 m16 m17 m18 m19) sY.heap := hP
  have hD : va_D AY (gMo cA B (fN S) WA BG AS TX RW RR FD m1 (nI m) (nI (a + 1)) m4 m5 m6 m7 m8 m9 m10 m11 m12 m13 m14 m15 m16 m17 m18 m19) := hD
  have h80 := htx.1
  have hIR := hI.1
  have h10 := hIR.1
  have hk2 : txt a = 115 ∨ txt a = 110 := by cases z; (exact Or.inr (hk.2 rfl)); exact Or.inl (hk.1 rfl)
  have em1 : ((-1000001) : Int32).toInt = -1000001 := rfl
  refine lv_aload_n hx hb dX11_readsDeed_0 rfl (lv_at hl 0 rfl) ?_
  refine lv_bipush (v := nI 59) hx hb dX11_readsDeed_1 (by decide +kernel) ?_
  refine ci_V (As := [.int (nI 59)]) (rest := []) h0 hK hN hP hD hS hA hl.1 (k_X11_takes lY D cA B S WA BG AS TX RW RR FD m1 m4 m5 m6 m7 m8 m9 m10 m11 m12 m13 m14 m15 m16 m17 m18 m19 txt m (a + 1) 59 (by first | assumption | omega) (by omega) (by decide)) [0, 1, 2, 3, 4, 5, 6, 7, 8] rfl (by decide) (cwV 1 hts gX11_readsDeed_X11_takes rfl rfl rfl (by decide +kernel) ⟨Nat.le_of_ble_eq_true rfl, Nat.le_of_ble_eq_true rfl⟩) (cl_recv (ci := 10) (q := (RX11, TX11, 27)) (q0 := 0) hP hK rfl rfl) rfl rfl (Nat.le_of_ble_eq_true rfl) dX11_readsDeed_3 ⟨Nat.zero_le _, Nat.zero_le _⟩ (fun rY wY H locs hwY hJ hS => ?_)
  obtain ⟨e1Y, e2Y⟩ := hwY
  have e3Y := e1Y.symm
  clear e1Y
  subst e3Y
  have e3Y := e2Y.symm
  clear e2Y
  subst e3Y
  obtain ⟨hP, hD⟩ := hJ rfl
  have hP : va_P D vwCl (gMo cA B (fN S) WA BG AS TX RW RR FD m1 (nI m) (nI (psA txt m (a + 1) 59)) m4 m5 m6 m7 m8 m9 m10 m11 m12 m13 m14 m15 m16 m17 m18 m19) H := hP
  have hD : va_D AY (gMo cA B (fN S) WA BG AS TX RW RR FD m1 (nI m) (nI (psA txt m (a + 1) 59)) m4 m5 m6 m7 m8 m9 m10 m11 m12 m13 m14 m15 m16 m17 m18 m19) := hD
  refine xb_ne (tgt := 21) hx hb dX11_readsDeed_6 (by decide) (fun c6 => ?_) (fun c6 => ?_)
  · have hok : (okP txt m a) = (true, psA txt m (a + 1) 59) := by rw [okP_s hk2, c6]
    have hD1 : (doC txt m a S) = prf (txt a) (rW1 txt m a) (rW2 txt m a) (txt (a + 1) - 48) S := doC_t (by rw [hok])
    have hat : nI (psA txt m (a + 1) 59) = nI (okP txt m a).2 := by rw [hok]
    refine lv_iload_n hx hb dX11_readsDeed_21 rfl (lv_at hl 2 rfl) ?_
    refine xb_eq (tgt := 32) hx hb dX11_readsDeed_22 (by decide) (fun c22 => ?_) (fun c22 => ?_)
    · refine lv_aload_n hx hb dX11_readsDeed_32 rfl (lv_at hl 0 rfl) ?_
      refine ci_V (As := []) (rest := []) h0 hK hN hP hD hS hA hl.1 (k_X11_normals lY D cA B S WA BG AS TX RW RR FD m1 (nI m) (nI (psA txt m (a + 1) 59)) m4 m5 m6 m7 m8 m9 m10 m11 m12 m13 m14 m15 m16 m17 m18 m19 (hI)) [0, 1, 2, 3, 4, 5, 6, 7, 8] rfl (by decide) (cwV 0 hts gX11_readsDeed_X11_normals rfl rfl rfl (by decide +kernel) ⟨Nat.le_of_ble_eq_true rfl, Nat.le_of_ble_eq_true rfl⟩) (cl_recv (ci := 10) (q := (RX11, TX11, 27)) (q0 := 0) hP hK rfl rfl) rfl rfl (Nat.le_of_ble_eq_true rfl) dX11_readsDeed_33 ⟨Nat.zero_le _, Nat.zero_le _⟩ (fun rY wY H locs hwY hJ hS => ?_)
      obtain ⟨k8_33, k9_33, RW'_33, RR'_33, k10_33, k11_33, e1Y, e2Y⟩ := hwY
      have e3Y := e1Y.symm
      clear e1Y
      subst e3Y
      have e3Y := e2Y.symm
      clear e2Y
      subst e3Y
      obtain ⟨hP, hD⟩ := hJ rfl
      have hP : va_P D vwCl (gMo cA B (fN ((normR S).2)) WA BG AS TX RW'_33 RR'_33 FD m1 (nI m) (nI (psA txt m (a + 1) 59)) m4 m5 m6 m7 k8_33 k9_33 k10_33 k11_33 m12 m13 m14 m15 m16 m17 m18 m19) H := hP
      have hD : va_D AY (gMo cA B (fN ((normR S).2)) WA BG AS TX RW'_33 RR'_33 FD m1 (nI m) (nI (psA txt m (a + 1) 59)) m4 m5 m6 m7 k8_33 k9_33 k10_33 k11_33 m12 m13 m14 m15 m16 m17 m18 m19) := hD
      refine lv_istore_n (lv' := [(3, .int ((normR S).1)), (0, .ref (B 0)), (1, .int (nI a)), (2, .int (bI z))]) hx hb dX11_readsDeed_36 rfl hl (by decide) rfl (fun ls hl => ?_)
      refine lv_iload_n hx hb dX11_readsDeed_37 rfl (lv_at hl 0 rfl) ?_
      refine lv_ldc (v := (-1000001)) hx hb hown (hts (.constant RX11 78 (-1000001)) (by decide +kernel)) dX11_readsDeed_38 ?_
      refine xr_le (tgt := 47) hx hb dX11_readsDeed_40 (by decide) (fun c40 => ?_) (fun c40 => ?_)
      · refine lv_aload_n hx hb dX11_readsDeed_47 rfl (lv_at hl 1 rfl) ?_
        refine lv_iconst (v := nI 3) hx hb dX11_readsDeed_48 (by decide +kernel) ?_
        refine lv_iload_n hx hb dX11_readsDeed_49 rfl (lv_at hl 3 rfl) ?_
        refine xb_eq (tgt := 57) hx hb dX11_readsDeed_50 (by decide) (fun c50 => ?_) (fun c50 => ?_)
        · refine lv_iconst (v := nI 5) hx hb dX11_readsDeed_57 (by decide +kernel) ?_
          refine ci_V (As := [.int (nI 3), .int (nI 5)]) (rest := []) h0 hK hN hP hD hS hA hl.1 (k_X11_says lY D cA B ((normR S).2) WA BG AS TX RW'_33 RR'_33 FD m1 (nI m) (nI (psA txt m (a + 1) 59)) m4 m5 m6 m7 k8_33 k9_33 k10_33 k11_33 m12 m13 m14 m15 m16 m17 m18 m19 (nI 3) (nI 5) ) [0, 1, 2, 3, 4, 5, 6, 7, 8] rfl (by decide) (cwV 2 hts gX11_readsDeed_X11_says rfl rfl rfl (by decide +kernel) ⟨Nat.le_of_ble_eq_true rfl, Nat.le_of_ble_eq_true rfl⟩) (cl_recv (ci := 10) (q := (RX11, TX11, 27)) (q0 := 0) hP hK rfl rfl) rfl rfl (Nat.le_of_ble_eq_true rfl) dX11_readsDeed_58 ⟨Nat.zero_le _, Nat.zero_le _⟩ (fun rY wY H locs hwY hJ hS => ?_)
          obtain ⟨e1Y, e2Y⟩ := hwY
          have e3Y := e1Y.symm
          clear e1Y
          subst e3Y
          have e3Y := e2Y.symm
          clear e2Y
          subst e3Y
          obtain ⟨hP, hD⟩ := hJ rfl
          have hP : va_P D vwCl (gMo cA B (fN ((normR S).2)) WA BG AS TX RW'_33 RR'_33 FD m1 (nI m) (nI (psA txt m (a + 1) 59)) m4 (nI 5) m6 m7 k8_33 k9_33 k10_33 k11_33 m12 m13 m14 m15 m16 m17 m18 m19) H := hP
          have hD : va_D AY (gMo cA B (fN ((normR S).2)) WA BG AS TX RW'_33 RR'_33 FD m1 (nI m) (nI (psA txt m (a + 1) 59)) m4 (nI 5) m6 m7 k8_33 k9_33 k10_33 k11_33 m12 m13 m14 m15 m16 m17 m18 m19) := hD
          have hn : (normR S).1.toInt < 0 := by omega
          have hw0 : (normR S).2 = S := normR_er hI hn
          have hDc : (doC txt m a S) = (3, 5, S) := by rw [hD1, prf_110 (hk.2 c22), if_pos hn]
          exact hret _ _ _ _ _ _ dX11_readsDeed_61 ⟨((nI (psA txt m (a + 1) 59))), ((nI 5)), m6, m7, k8_33, k9_33, RW'_33, RR'_33, k10_33, k11_33, (by rw [hDc]), (by rw [hDc, hw0]), (fun h => by rw [hDc] at h; cases h), (fun _ => by rw [hDc]; rfl)⟩ hP hD hS
        · exact absurd (c22.symm.trans c50) (by decide)
      · refine lv_iconst (v := nI 0) hx hb dX11_readsDeed_43 (by decide +kernel) ?_
        refine lv_goto (tgt := 61) hx hb dX11_readsDeed_44 (by decide) ?_
        have hn : ¬ (normR S).1.toInt < 0 := normR_good hIR hI.2.2.1 (by omega)
        have hw0 : (normR S).2 = (normR S).2 := rfl
        have hDc : (doC txt m a S) = (0, 0, (normR S).2) := by rw [hD1, prf_110 (hk.2 c22), if_neg hn]
        exact hret _ _ _ _ _ _ dX11_readsDeed_61 ⟨((nI (psA txt m (a + 1) 59))), m5, m6, m7, k8_33, k9_33, RW'_33, RR'_33, k10_33, k11_33, (by rw [hDc]), (by rw [hDc]), (fun _ => hat), (fun h => absurd (by rw [hDc]) h)⟩ hP hD hS
    · refine lv_aload_n hx hb dX11_readsDeed_25 rfl (lv_at hl 0 rfl) ?_
      refine ci_V (As := []) (rest := []) h0 hK hN hP hD hS hA hl.1 (k_X11_steps lY D cA B S WA BG AS TX RW RR FD m1 (nI m) (nI (psA txt m (a + 1) 59)) m4 m5 m6 m7 m8 m9 m10 m11 m12 m13 m14 m15 m16 m17 m18 m19 (hIR) (hI.2.2.1)) [0, 1, 2, 3, 4, 5, 6, 7, 8] rfl (by decide) (cwV 0 hts gX11_readsDeed_X11_steps rfl rfl rfl (by decide +kernel) ⟨Nat.le_of_ble_eq_true rfl, Nat.le_of_ble_eq_true rfl⟩) (cl_recv (ci := 10) (q := (RX11, TX11, 27)) (q0 := 0) hP hK rfl rfl) rfl rfl (Nat.le_of_ble_eq_true rfl) dX11_readsDeed_26 ⟨Nat.zero_le _, Nat.zero_le _⟩ (fun rY wY H locs hwY hJ hS => ?_)
      obtain ⟨k8_26, k9_26, e1Y, e2Y⟩ := hwY
      have e3Y := e1Y.symm
      clear e1Y
      subst e3Y
      have e3Y := e2Y.symm
      clear e2Y
      subst e3Y
      obtain ⟨hP, hD⟩ := hJ rfl
      have hP : va_P D vwCl (gMo cA B (fN ((stepR S).2)) WA BG AS TX RW RR FD m1 (nI m) (nI (psA txt m (a + 1) 59)) m4 m5 m6 m7 k8_26 k9_26 m10 m11 m12 m13 m14 m15 m16 m17 m18 m19) H := hP
      have hD : va_D AY (gMo cA B (fN ((stepR S).2)) WA BG AS TX RW RR FD m1 (nI m) (nI (psA txt m (a + 1) 59)) m4 m5 m6 m7 k8_26 k9_26 m10 m11 m12 m13 m14 m15 m16 m17 m18 m19) := hD
      refine lv_goto (tgt := 36) hx hb dX11_readsDeed_29 (by decide) ?_
      refine lv_istore_n (lv' := [(3, .int ((stepR S).1)), (0, .ref (B 0)), (1, .int (nI a)), (2, .int (bI z))]) hx hb dX11_readsDeed_36 rfl hl (by decide) rfl (fun ls hl => ?_)
      refine lv_iload_n hx hb dX11_readsDeed_37 rfl (lv_at hl 0 rfl) ?_
      refine lv_ldc (v := (-1000001)) hx hb hown (hts (.constant RX11 78 (-1000001)) (by decide +kernel)) dX11_readsDeed_38 ?_
      refine xr_le (tgt := 47) hx hb dX11_readsDeed_40 (by decide) (fun c40 => ?_) (fun c40 => ?_)
      · refine lv_aload_n hx hb dX11_readsDeed_47 rfl (lv_at hl 1 rfl) ?_
        refine lv_iconst (v := nI 3) hx hb dX11_readsDeed_48 (by decide +kernel) ?_
        refine lv_iload_n hx hb dX11_readsDeed_49 rfl (lv_at hl 3 rfl) ?_
        refine xb_eq (tgt := 57) hx hb dX11_readsDeed_50 (by decide) (fun c50 => ?_) (fun c50 => ?_)
        · exact absurd (c22.symm.trans c50) (by decide)
        · refine lv_iconst (v := nI 4) hx hb dX11_readsDeed_53 (by decide +kernel) ?_
          refine lv_goto (tgt := 58) hx hb dX11_readsDeed_54 (by decide) ?_
          refine ci_V (As := [.int (nI 3), .int (nI 4)]) (rest := []) h0 hK hN hP hD hS hA hl.1 (k_X11_says lY D cA B ((stepR S).2) WA BG AS TX RW RR FD m1 (nI m) (nI (psA txt m (a + 1) 59)) m4 m5 m6 m7 k8_26 k9_26 m10 m11 m12 m13 m14 m15 m16 m17 m18 m19 (nI 3) (nI 4) ) [0, 1, 2, 3, 4, 5, 6, 7, 8] rfl (by decide) (cwV 2 hts gX11_readsDeed_X11_says rfl rfl rfl (by decide +kernel) ⟨Nat.le_of_ble_eq_true rfl, Nat.le_of_ble_eq_true rfl⟩) (cl_recv (ci := 10) (q := (RX11, TX11, 27)) (q0 := 0) hP hK rfl rfl) rfl rfl (Nat.le_of_ble_eq_true rfl) dX11_readsDeed_58 ⟨Nat.zero_le _, Nat.zero_le _⟩ (fun rY wY H locs hwY hJ hS => ?_)
          obtain ⟨e1Y, e2Y⟩ := hwY
          have e3Y := e1Y.symm
          clear e1Y
          subst e3Y
          have e3Y := e2Y.symm
          clear e2Y
          subst e3Y
          obtain ⟨hP, hD⟩ := hJ rfl
          have hP : va_P D vwCl (gMo cA B (fN ((stepR S).2)) WA BG AS TX RW RR FD m1 (nI m) (nI (psA txt m (a + 1) 59)) m4 (nI 4) m6 m7 k8_26 k9_26 m10 m11 m12 m13 m14 m15 m16 m17 m18 m19) H := hP
          have hD : va_D AY (gMo cA B (fN ((stepR S).2)) WA BG AS TX RW RR FD m1 (nI m) (nI (psA txt m (a + 1) 59)) m4 (nI 4) m6 m7 k8_26 k9_26 m10 m11 m12 m13 m14 m15 m16 m17 m18 m19) := hD
          have hn : nrm S (S 0) = true := stepR_bad (fun q => (ch_lt hIR hI.2.2.1 q).2.2.1) (by omega)
          have hw0 : (stepR S).2 = S := by unfold stepR; rw [if_pos hn]
          have hDc : (doC txt m a S) = (3, 4, S) := by rw [hD1, prf_115 (hk.1 c22), if_pos hn]
          exact hret _ _ _ _ _ _ dX11_readsDeed_61 ⟨((nI (psA txt m (a + 1) 59))), ((nI 4)), m6, m7, k8_26, k9_26, RW, RR, m10, m11, (by rw [hDc]), (by rw [hDc, hw0]), (fun h => by rw [hDc] at h; cases h), (fun _ => by rw [hDc]; rfl)⟩ hP hD hS
      · refine lv_iconst (v := nI 0) hx hb dX11_readsDeed_43 (by decide +kernel) ?_
        refine lv_goto (tgt := 61) hx hb dX11_readsDeed_44 (by decide) ?_
        have hn : nrm S (S 0) = false := stepR_good (by omega)
        have hw0 : (stepR S).2 = (stepR S).2 := rfl
        have hDc : (doC txt m a S) = (0, 0, (stepR S).2) := by rw [hD1, prf_115 (hk.1 c22), if_neg (by rw [hn]; decide)]
        exact hret _ _ _ _ _ _ dX11_readsDeed_61 ⟨((nI (psA txt m (a + 1) 59))), m5, m6, m7, k8_26, k9_26, RW, RR, m10, m11, (by rw [hDc]), (by rw [hDc]), (fun _ => hat), (fun h => absurd (by rw [hDc]) h)⟩ hP hD hS
  · have pc := psA_f c6
    rw [pc] at hP hD
    have hP : va_P D vwCl (gMo cA B (fN S) WA BG AS TX RW RR FD m1 (nI m) (nI (a + 1)) m4 m5 m6 m7 m8 m9 m10 m11 m12 m13 m14 m15 m16 m17 m18 m19) H := hP
    have hD : va_D AY (gMo cA B (fN S) WA BG AS TX RW RR FD m1 (nI m) (nI (a + 1)) m4 m5 m6 m7 m8 m9 m10 m11 m12 m13 m14 m15 m16 m17 m18 m19) := hD
    refine lv_aload_n hx hb dX11_readsDeed_9 rfl (lv_at hl 0 rfl) ?_
    refine lv_iconst (v := nI 1) hx hb dX11_readsDeed_10 (by decide +kernel) ?_
    refine lv_aload_n hx hb dX11_readsDeed_11 rfl (lv_at hl 0 rfl) ?_
    refine va_get (D := D) (ci := 10) (v := .int (nI (a + 1))) (C := RX11) (T := TX11) (N := 27) hx hb hts hi_X11_readsDeed_X11 hown hK hP 0 rfl rfl 7 (by decide) (hts (.fieldLink RX11 179 "FallingWordsModel" "at" "I") (by decide +kernel)) (fun _ h9 => h9) rfl dX11_readsDeed_12 ?_
    refine lv_iload_n hx hb dX11_readsDeed_15 rfl (lv_at hl 1 rfl) ?_
    refine lv_isub hx hb dX11_readsDeed_16 ?_
    refine xt (show (nI (a + 1)) - (nI a) = nI ((a + 1) - a) from pk_sub (by omega)) ?_
    refine ci_V (As := [.int (nI 1), .int (nI ((a + 1) - a))]) (rest := []) h0 hK hN hP hD hS hA hl.1 (k_X11_says lY D cA B S WA BG AS TX RW RR FD m1 (nI m) (nI (a + 1)) m4 m5 m6 m7 m8 m9 m10 m11 m12 m13 m14 m15 m16 m17 m18 m19 (nI 1) (nI ((a + 1) - a)) ) [0, 1, 2, 3, 4, 5, 6, 7, 8] rfl (by decide) (cwV 2 hts gX11_readsDeed_X11_says rfl rfl rfl (by decide +kernel) ⟨Nat.le_of_ble_eq_true rfl, Nat.le_of_ble_eq_true rfl⟩) (cl_recv (ci := 10) (q := (RX11, TX11, 27)) (q0 := 0) hP hK rfl rfl) rfl rfl (Nat.le_of_ble_eq_true rfl) dX11_readsDeed_17 ⟨Nat.zero_le _, Nat.zero_le _⟩ (fun rY wY H locs hwY hJ hS => ?_)
    obtain ⟨e1Y, e2Y⟩ := hwY
    have e3Y := e1Y.symm
    clear e1Y
    subst e3Y
    have e3Y := e2Y.symm
    clear e2Y
    subst e3Y
    obtain ⟨hP, hD⟩ := hJ rfl
    have hP : va_P D vwCl (gMo cA B (fN S) WA BG AS TX RW RR FD m1 (nI m) (nI (a + 1)) m4 (nI ((a + 1) - a)) m6 m7 m8 m9 m10 m11 m12 m13 m14 m15 m16 m17 m18 m19) H := hP
    have hD : va_D AY (gMo cA B (fN S) WA BG AS TX RW RR FD m1 (nI m) (nI (a + 1)) m4 (nI ((a + 1) - a)) m6 m7 m8 m9 m10 m11 m12 m13 m14 m15 m16 m17 m18 m19) := hD
    have hok : (okP txt m a) = (false, a + 1) := by rw [okP_s hk2, c6, psA_f c6]
    have hDc : (doC txt m a S) = (1, (okP txt m a).2 - a, S) := doC_f (by rw [hok])
    exact hret _ _ _ _ _ _ dX11_readsDeed_20 ⟨((nI (a + 1))), ((nI ((a + 1) - a))), m6, m7, m8, m9, RW, RR, m10, m11, (by rw [hDc]), (by rw [hDc]), (fun h => by rw [hDc] at h; cases h), (fun _ => by rw [hDc, hok]; rfl)⟩ hP hD hS
