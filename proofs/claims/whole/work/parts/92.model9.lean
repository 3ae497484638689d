/-! the reference: texts that run -/
def fpI (d : Nat × Nat × Nat × Nat × St) : Int32 := if d.1 = 0 then (-1000004) else nI d.2.2.1
def csT (d : Nat × Nat × Nat × Nat × St) : Int32 := if d.1 = 2 then (-1000004) else nI d.2.1
theorem runF_0 {txt : Nat → Nat} {n f a c : Nat} {T : St} (h : ¬ a < n) (hf : 0 < f) : runF txt n f a T c = (0, 0, a, c, T) := by
  rw [show f = (f - 1) + 1 by omega, runF, if_neg h]
theorem runF_e {txt : Nat → Nat} {n f a c : Nat} {T : St} (h : a < n) (hf : 0 < f) (hd : (doC txt n a T).1 ≠ 0) : runF txt n f a T c = ((doC txt n a T).1, (doC txt n a T).2.1, a, c, (doC txt n a T).2.2) := by
  rw [show f = (f - 1) + 1 by omega, runF, if_pos h, if_neg hd]
theorem runF_s {txt : Nat → Nat} {n f a c : Nat} {T : St} (h : a < n) (hf : 0 < f) (hd : (doC txt n a T).1 = 0) : runF txt n f a T c = runF txt n (f - 1) (okP txt n a).2 (doC txt n a T).2.2 (c + 1) := by
  have e : runF txt n f a T c = runF txt n (f - 1 + 1) a T c := by rw [show f - 1 + 1 = f by omega]
  rw [e, runF, if_pos h, if_pos hd]
theorem doC_lt {txt : Nat → Nat} {n a : Nat} {S : St} : (doC txt n a S).1 ≤ 3 := by
  cases h : (okP txt n a).1 with
  | true => rw [doC_t h]; exact prf_lt
  | false => rw [doC_f h]; exact (by decide : (1 : Nat) ≤ 3)
theorem okP_up {txt : Nat → Nat} {n a : Nat} {S : St} (ha : a < n) (hd : (doC txt n a S).1 = 0) : a < (okP txt n a).2 ∧ (okP txt n a).2 ≤ n := by
  obtain ⟨h1, h2, h3⟩ := okP_le (txt := txt) ha
  cases h : (okP txt n a).1 with
  | true => exact ⟨h3 h, h1⟩
  | false => rw [doC_f h] at hd; cases hd
def fRun (txt : Nat → Nat) (m : Nat) (S T : St) (f : Nat) (p x3 x4 x5 : Int32) : Prop := (p = (-1000004) ∧ ∃ a c : Nat, x3 = nI a ∧ a ≤ m ∧ m - a < f ∧ IV T ∧ runF txt m f a T c = runT txt m S) ∨ ((runT txt m S).1 ≠ 0 ∧ (runT txt m S).2.2.1 ≤ 80 ∧ p = nI (runT txt m S).2.2.1 ∧ x4 = nI (runT txt m S).1 ∧ x5 = csT (runT txt m S))
theorem runF_pos {txt : Nat → Nat} {n : Nat} : ∀ (f a : Nat) (T : St) (c : Nat), a ≤ n → c ≤ a → (runF txt n f a T c).2.2.1 ≤ n ∧ (runF txt n f a T c).2.2.2.1 ≤ n
  | 0, a, T, c, ha, hc => ⟨ha, Nat.le_trans hc ha⟩
  | f + 1, a, T, c, ha, hc => by
    by_cases h : a < n
    · by_cases hd : (doC txt n a T).1 = 0
      · rw [runF_s h (Nat.succ_pos f) hd]
        obtain ⟨o1, o2⟩ := okP_up h hd
        exact runF_pos f _ _ _ o2 (by omega)
      · rw [runF_e h (Nat.succ_pos f) hd]
        exact ⟨ha, Nat.le_trans hc ha⟩
    · rw [runF_0 h (Nat.succ_pos f)]
      exact ⟨ha, Nat.le_trans hc ha⟩
theorem runT_pos {txt : Nat → Nat} {n : Nat} {S : St} (h : n ≤ 80) : (runT txt n S).2.2.1 ≤ 80 ∧ (runT txt n S).2.2.2.1 ≤ 80 := by
  unfold runT
  rw [sl_eq]
  obtain ⟨h1, h2⟩ := runF_pos (txt := txt) (n := n) 81 0 S 0 (Nat.zero_le _) (Nat.le_refl _)
  exact ⟨by omega, by omega⟩

theorem hi_X11_doesNext_X11 : ∀ w ∈ u_ws RX11 TX11 27, w ∈ wsX11_doesNext := by decide +kernel
set_option maxHeartbeats 1000000 in
set_option maxRecDepth 100000 in
theorem k_X11_doesNext (lY : Launch) (D : va_G) (cA : Nat → ClassId) (B : Nat → Nat) (S : St) (WA BG AS TX RW RR FD : Nat → Int32) (m1 m4 m5 m6 m7 m8 m9 m10 m11 m12 m13 m14 m15 m16 m17 m18 m19 : Int32) (txt : Nat → Nat) (m a : Nat) (htx : rTx txt m TX) (ham : a < m) (hI : IV S) : MetI lY D cA yX11_doesNext wsX11_doesNext 6 141 [.ref (B 0)] (gMo cA B (fN S) WA BG AS TX RW RR FD m1 (nI m) (nI a) m4 m5 m6 m7 m8 m9 m10 m11 m12 m13 m14 m15 m16 m17 m18 m19) (fun rY wY => ∃ (x3 : Int32) (x5 : Int32) (x6 : Int32) (x7 : Int32) (k8 : Int32) (k9 : Int32) (RW' : Nat → Int32) (RR' : Nat → Int32) (k10 : Int32) (k11 : Int32), rY = nI ((doC txt m a S).1) ∧ wY = gMo cA B (fN ((doC txt m a S).2.2)) WA BG AS TX RW' RR' FD m1 (nI m) x3 m4 x5 x6 x7 k8 k9 k10 k11 m12 m13 m14 m15 m16 m17 m18 m19 ∧ ((doC txt m a S).1 = 0 → x3 = nI (okP txt m a).2) ∧ ((doC txt m a S).1 ≠ 0 → x5 = csI (doC txt m a S))) := by
  refine MetI.of (cc := cX11_doesNext) (maxL := 3) (ret := (some .int)) (by decide) rfl (Nat.le_of_ble_eq_true rfl) (Or.inl rfl) ?_
  intro pY eY sY mY aY bY tY cY QY AY ls h0 hP hK hN hD hA hS hl hret
  obtain ⟨hx, hb, hml, hown, hts⟩ := id h0
  have hl : lv_has ls 3 [(0, .ref (B 0))] := hl
  have hP : va_P D vwCl (gMo cA B (fN S) WA BG AS TX RW RR FD m1 (nI m) (nI a) m4 m5 m6 m7 m8 m9 m10 m11 m12 m13 m14 m15 m16 m17 m18 m19) sY.heap := hP
  have hD : va_D AY (gMo cA B (fN S) WA BG AS TX RW RR FD m1 (nI m) (nI a) m4 m5 m6 m7 m8 m9 m10 m11 m12 m13 m14 m15 m16 m17 m18 m19) := hD
  have h80 := htx.1
  obtain ⟨g1, g2⟩ := htx.2 a ham
  refine lv_aload_n hx hb dX11_doesNext_0 rfl (lv_at hl 0 rfl) ?_
  refine va_get (D := D) (ci := 10) (v := .int (nI a)) (C := RX11) (T := TX11) (N := 27) hx hb hts hi_X11_doesNext_X11 hown hK hP 0 rfl rfl 7 (by decide) (hts (.fieldLink RX11 179 "FallingWordsModel" "at" "I") (by decide +kernel)) (fun _ h9 => h9) rfl dX11_doesNext_1 ?_
  refine lv_istore_n (lv' := [(1, .int (nI a)), (0, .ref (B 0))]) hx hb dX11_doesNext_4 rfl hl (by decide) rfl (fun ls hl => ?_)
  refine lv_aload_n hx hb dX11_doesNext_5 rfl (lv_at hl 1 rfl) ?_
  refine ci_V (As := []) (rest := []) h0 hK hN hP hD hS hA hl.1 (k_X11_sign lY D cA B S WA BG AS TX RW RR FD m1 m4 m5 m6 m7 m8 m9 m10 m11 m12 m13 m14 m15 m16 m17 m18 m19 txt m a (by first | assumption | omega) (by first | assumption | omega)) [0, 1, 2, 3, 4, 5, 6, 7, 8] rfl (by decide) (cwV 0 hts gX11_doesNext_X11_sign rfl rfl rfl (by decide +kernel) ⟨Nat.le_of_ble_eq_true rfl, Nat.le_of_ble_eq_true rfl⟩) (cl_recv (ci := 10) (q := (RX11, TX11, 27)) (q0 := 0) hP hK rfl rfl) rfl rfl (Nat.le_of_ble_eq_true rfl) dX11_doesNext_6 ⟨Nat.zero_le _, Nat.zero_le _⟩ (fun rY wY H locs hwY hJ hS => ?_)
  obtain ⟨e1Y, e2Y⟩ := hwY
  have e3Y := e1Y.symm
  clear e1Y
  subst e3Y
  have e3Y := e2Y.symm
  clear e2Y
  subst e3Y
  obtain ⟨hP, hD⟩ := hJ rfl
  have hP : va_P D vwCl (gMo cA B (fN S) WA BG AS TX RW RR FD m1 (nI m) (nI a) m4 m5 m6 m7 m8 m9 m10 m11 m12 m13 m14 m15 m16 m17 m18 m19) H := hP
  have hD : va_D AY (gMo cA B (fN S) WA BG AS TX RW RR FD m1 (nI m) (nI a) m4 m5 m6 m7 m8 m9 m10 m11 m12 m13 m14 m15 m16 m17 m18 m19) := hD
  refine xt (show sgI txt m a = nI (txt a) from sg_in ham) ?_
  refine lv_istore_n (lv' := [(2, .int (nI (txt a))), (1, .int (nI a)), (0, .ref (B 0))]) hx hb dX11_doesNext_9 rfl hl (by decide) rfl (fun ls hl => ?_)
  refine lv_aload_n hx hb dX11_doesNext_10 rfl (lv_at hl 2 rfl) ?_
  refine lv_dup hx hb dX11_doesNext_11 rfl ?_
  refine va_get (D := D) (ci := 10) (v := .int (nI a)) (C := RX11) (T := TX11) (N := 27) hx hb hts hi_X11_doesNext_X11 hown hK hP 0 rfl rfl 7 (by decide) (hts (.fieldLink RX11 179 "FallingWordsModel" "at" "I") (by decide +kernel)) (fun _ h9 => h9) rfl dX11_doesNext_12 ?_
  refine lv_iconst (v := nI 1) hx hb dX11_doesNext_15 (by decide +kernel) ?_
  refine lv_iadd hx hb dX11_doesNext_16 ?_
  refine xt (show (nI a) + (nI 1) = nI (a + 1) from nI_add _ _) ?_
  refine va_put (D := D) (ci := 10) (v := .int (nI (a + 1))) (ty := .int) (C := RX11) (T := TX11) (N := 27) hx hb hts hi_X11_doesNext_X11 tyX11 tyX11_ok nmX11 hown hK hP hD hS 0 rfl rfl 7 (by decide) (hts (.fieldLink RX11 179 "FallingWordsModel" "at" "I") (by decide +kernel)) (fun _ h9 => h9) rfl (by decide +kernel) rfl rfl (Nat.le_of_ble_eq_true rfl) dX11_doesNext_17 (fun H locs hP hD hS => ?_)
  have hP : va_P D vwCl (gMo cA B (fN S) WA BG AS TX RW RR FD m1 (nI m) (nI (a + 1)) m4 m5 m6 m7 m8 m9 m10 m11 m12 m13 m14 m15 m16 m17 m18 m19) H := hP
  have hD : va_D AY (gMo cA B (fN S) WA BG AS TX RW RR FD m1 (nI m) (nI (a + 1)) m4 m5 m6 m7 m8 m9 m10 m11 m12 m13 m14 m15 m16 m17 m18 m19) := hD
  refine lv_iload_n hx hb dX11_doesNext_20 rfl (lv_at hl 0 rfl) ?_
  by_cases s21_43 : txt a = 43
  · have e21 : (nI (txt a) : Int32).toInt = 43 := by rw [s21_43]; rfl
    refine lv_lookup (off := 59) (tgt := 80) hx hb dX11_doesNext_21 (by decide) (by rw [e21]; decide) (by decide) ?_
    refine lv_aload_n hx hb dX11_doesNext_80 rfl (lv_at hl 2 rfl) ?_
    refine lv_iload_n hx hb dX11_doesNext_81 rfl (lv_at hl 1 rfl) ?_
    refine ci_V (As := [.int (nI a)]) (rest := []) h0 hK hN hP hD hS hA hl.1 (k_X11_readsRule lY D cA B S WA BG AS TX RW RR FD m1 m4 m5 m6 m7 m8 m9 m10 m11 m12 m13 m14 m15 m16 m17 m18 m19 txt m a (by first | assumption | omega) (by first | assumption | omega) (by first | assumption | omega) (s21_43)) [0, 1, 2, 3, 4, 5, 6, 7, 8] rfl (by decide) (cwV 1 hts gX11_doesNext_X11_readsRule rfl rfl rfl (by decide +kernel) ⟨Nat.le_of_ble_eq_true rfl, Nat.le_of_ble_eq_true rfl⟩) (cl_recv (ci := 10) (q := (RX11, TX11, 27)) (q0 := 0) hP hK rfl rfl) rfl rfl (Nat.le_of_ble_eq_true rfl) dX11_doesNext_82 ⟨Nat.zero_le _, Nat.zero_le _⟩ (fun rY wY H locs hwY hJ hS => ?_)
    obtain ⟨x3_82, x5_82, x6_82, x7_82, e1Y, e2Y, fa_82, fc_82⟩ := hwY
    have e3Y := e1Y.symm
    clear e1Y
    subst e3Y
    have e3Y := e2Y.symm
    clear e2Y
    subst e3Y
    obtain ⟨hP, hD⟩ := hJ rfl
    have hP : va_P D vwCl (gMo cA B (fN ((doC txt m a S).2.2)) WA BG AS TX RW RR FD m1 (nI m) x3_82 m4 x5_82 x6_82 x7_82 m8 m9 m10 m11 m12 m13 m14 m15 m16 m17 m18 m19) H := hP
    have hD : va_D AY (gMo cA B (fN ((doC txt m a S).2.2)) WA BG AS TX RW RR FD m1 (nI m) x3_82 m4 x5_82 x6_82 x7_82 m8 m9 m10 m11 m12 m13 m14 m15 m16 m17 m18 m19) := hD
    exact hret _ _ _ _ _ _ dX11_doesNext_85 ⟨x3_82, x5_82, x6_82, x7_82, m8, m9, RW, RR, m10, m11, rfl, rfl, fa_82, fc_82⟩ hP hD hS
  by_cases s21_45 : txt a = 45
  · have e21 : (nI (txt a) : Int32).toInt = 45 := by rw [s21_45]; rfl
    refine lv_lookup (off := 65) (tgt := 86) hx hb dX11_doesNext_21 (by decide) (by rw [e21]; decide) (by decide) ?_
    refine lv_aload_n hx hb dX11_doesNext_86 rfl (lv_at hl 2 rfl) ?_
    refine lv_iload_n hx hb dX11_doesNext_87 rfl (lv_at hl 1 rfl) ?_
    refine lv_iconst (v := nI 1) hx hb dX11_doesNext_88 (by decide +kernel) ?_
    refine ci_V (As := [.int (nI a), .int (nI 1)]) (rest := []) h0 hK hN hP hD hS hA hl.1 (k_X11_readsDigit lY D cA B S WA BG AS TX RW RR FD m1 m4 m5 m6 m7 m8 m9 m10 m11 m12 m13 m14 m15 m16 m17 m18 m19 txt m a true (by first | assumption | omega) (by first | assumption | omega) (by first | assumption | omega) (⟨fun _ => s21_45, fun h => by cases h⟩)) [0, 1, 2, 3, 4, 5, 6, 7, 8] rfl (by decide) (cwV 2 hts gX11_doesNext_X11_readsDigit rfl rfl rfl (by decide +kernel) ⟨Nat.le_of_ble_eq_true rfl, Nat.le_of_ble_eq_true rfl⟩) (cl_recv (ci := 10) (q := (RX11, TX11, 27)) (q0 := 0) hP hK rfl rfl) rfl rfl (Nat.le_of_ble_eq_true rfl) dX11_doesNext_89 ⟨Nat.zero_le _, Nat.zero_le _⟩ (fun rY wY H locs hwY hJ hS => ?_)
    obtain ⟨x3_89, x5_89, x6_89, x7_89, e1Y, e2Y, fa_89, fc_89⟩ := hwY
    have e3Y := e1Y.symm
    clear e1Y
    subst e3Y
    have e3Y := e2Y.symm
    clear e2Y
    subst e3Y
    obtain ⟨hP, hD⟩ := hJ rfl
    have hP : va_P D vwCl (gMo cA B (fN ((doC txt m a S).2.2)) WA BG AS TX RW RR FD m1 (nI m) x3_89 m4 x5_89 x6_89 x7_89 m8 m9 m10 m11 m12 m13 m14 m15 m16 m17 m18 m19) H := hP
    have hD : va_D AY (gMo cA B (fN ((doC txt m a S).2.2)) WA BG AS TX RW RR FD m1 (nI m) x3_89 m4 x5_89 x6_89 x7_89 m8 m9 m10 m11 m12 m13 m14 m15 m16 m17 m18 m19) := hD
    exact hret _ _ _ _ _ _ dX11_doesNext_92 ⟨x3_89, x5_89, x6_89, x7_89, m8, m9, RW, RR, m10, m11, rfl, rfl, fa_89, fc_89⟩ hP hD hS
  by_cases s21_61 : txt a = 61
  · have e21 : (nI (txt a) : Int32).toInt = 61 := by rw [s21_61]; rfl
    refine lv_lookup (off := 79) (tgt := 100) hx hb dX11_doesNext_21 (by decide) (by rw [e21]; decide) (by decide) ?_
    refine lv_aload_n hx hb dX11_doesNext_100 rfl (lv_at hl 2 rfl) ?_
    refine lv_iload_n hx hb dX11_doesNext_101 rfl (lv_at hl 1 rfl) ?_
    refine ci_V (As := [.int (nI a)]) (rest := []) h0 hK hN hP hD hS hA hl.1 (k_X11_readsSet lY D cA B S WA BG AS TX RW RR FD m1 m4 m5 m6 m7 m8 m9 m10 m11 m12 m13 m14 m15 m16 m17 m18 m19 txt m a (by first | assumption | omega) (by first | assumption | omega) (by first | assumption | omega) (s21_61)) [0, 1, 2, 3, 4, 5, 6, 7, 8] rfl (by decide) (cwV 1 hts gX11_doesNext_X11_readsSet rfl rfl rfl (by decide +kernel) ⟨Nat.le_of_ble_eq_true rfl, Nat.le_of_ble_eq_true rfl⟩) (cl_recv (ci := 10) (q := (RX11, TX11, 27)) (q0 := 0) hP hK rfl rfl) rfl rfl (Nat.le_of_ble_eq_true rfl) dX11_doesNext_102 ⟨Nat.zero_le _, Nat.zero_le _⟩ (fun rY wY H locs hwY hJ hS => ?_)
    obtain ⟨x3_102, x5_102, x6_102, x7_102, e1Y, e2Y, fa_102, fc_102⟩ := hwY
    have e3Y := e1Y.symm
    clear e1Y
    subst e3Y
    have e3Y := e2Y.symm
    clear e2Y
    subst e3Y
    obtain ⟨hP, hD⟩ := hJ rfl
    have hP : va_P D vwCl (gMo cA B (fN ((doC txt m a S).2.2)) WA BG AS TX RW RR FD m1 (nI m) x3_102 m4 x5_102 x6_102 x7_102 m8 m9 m10 m11 m12 m13 m14 m15 m16 m17 m18 m19) H := hP
    have hD : va_D AY (gMo cA B (fN ((doC txt m a S).2.2)) WA BG AS TX RW RR FD m1 (nI m) x3_102 m4 x5_102 x6_102 x7_102 m8 m9 m10 m11 m12 m13 m14 m15 m16 m17 m18 m19) := hD
    exact hret _ _ _ _ _ _ dX11_doesNext_105 ⟨x3_102, x5_102, x6_102, x7_102, m8, m9, RW, RR, m10, m11, rfl, rfl, fa_102, fc_102⟩ hP hD hS
  by_cases s21_110 : txt a = 110
  · have e21 : (nI (txt a) : Int32).toInt = 110 := by rw [s21_110]; rfl
    refine lv_lookup (off := 92) (tgt := 113) hx hb dX11_doesNext_21 (by decide) (by rw [e21]; decide) (by decide) ?_
    refine lv_aload_n hx hb dX11_doesNext_113 rfl (lv_at hl 2 rfl) ?_
    refine lv_iload_n hx hb dX11_doesNext_114 rfl (lv_at hl 1 rfl) ?_
    refine lv_iconst (v := nI 0) hx hb dX11_doesNext_115 (by decide +kernel) ?_
    refine ci_V (As := [.int (nI a), .int (nI 0)]) (rest := []) h0 hK hN hP hD hS hA hl.1 (k_X11_readsDeed lY D cA B S WA BG AS TX RW RR FD m1 m4 m5 m6 m7 m8 m9 m10 m11 m12 m13 m14 m15 m16 m17 m18 m19 txt m a false (by first | assumption | omega) (by first | assumption | omega) (by first | assumption | omega) (⟨(fun h => by cases h), fun _ => s21_110⟩)) [0, 1, 2, 3, 4, 5, 6, 7, 8] rfl (by decide) (cwV 2 hts gX11_doesNext_X11_readsDeed rfl rfl rfl (by decide +kernel) ⟨Nat.le_of_ble_eq_true rfl, Nat.le_of_ble_eq_true rfl⟩) (cl_recv (ci := 10) (q := (RX11, TX11, 27)) (q0 := 0) hP hK rfl rfl) rfl rfl (Nat.le_of_ble_eq_true rfl) dX11_doesNext_116 ⟨Nat.zero_le _, Nat.zero_le _⟩ (fun rY wY H locs hwY hJ hS => ?_)
    obtain ⟨x3_116, x5_116, x6_116, x7_116, k8_116, k9_116, RW'_116, RR'_116, k10_116, k11_116, e1Y, e2Y, fa_116, fc_116⟩ := hwY
    have e3Y := e1Y.symm
    clear e1Y
    subst e3Y
    have e3Y := e2Y.symm
    clear e2Y
    subst e3Y
    obtain ⟨hP, hD⟩ := hJ rfl
    have hP : va_P D vwCl (gMo cA B (fN ((doC txt m a S).2.2)) WA BG AS TX RW'_116 RR'_116 FD m1 (nI m) x3_116 m4 x5_116 x6_116 x7_116 k8_116 k9_116 k10_116 k11_116 m12 m13 m14 m15 m16 m17 m18 m19) H := hP
    have hD : va_D AY (gMo cA B (fN ((doC txt m a S).2.2)) WA BG AS TX RW'_116 RR'_116 FD m1 (nI m) x3_116 m4 x5_116 x6_116 x7_116 k8_116 k9_116 k10_116 k11_116 m12 m13 m14 m15 m16 m17 m18 m19) := hD
    exact hret _ _ _ _ _ _ dX11_doesNext_119 ⟨x3_116, x5_116, x6_116, x7_116, k8_116, k9_116, RW'_116, RR'_116, k10_116, k11_116, rfl, rfl, fa_116, fc_116⟩ hP hD hS
  by_cases s21_115 : txt a = 115
  · have e21 : (nI (txt a) : Int32).toInt = 115 := by rw [s21_115]; rfl
    refine lv_lookup (off := 85) (tgt := 106) hx hb dX11_doesNext_21 (by decide) (by rw [e21]; decide) (by decide) ?_
    refine lv_aload_n hx hb dX11_doesNext_106 rfl (lv_at hl 2 rfl) ?_
    refine lv_iload_n hx hb dX11_doesNext_107 rfl (lv_at hl 1 rfl) ?_
    refine lv_iconst (v := nI 1) hx hb dX11_doesNext_108 (by decide +kernel) ?_
    refine ci_V (As := [.int (nI a), .int (nI 1)]) (rest := []) h0 hK hN hP hD hS hA hl.1 (k_X11_readsDeed lY D cA B S WA BG AS TX RW RR FD m1 m4 m5 m6 m7 m8 m9 m10 m11 m12 m13 m14 m15 m16 m17 m18 m19 txt m a true (by first | assumption | omega) (by first | assumption | omega) (by first | assumption | omega) (⟨fun _ => s21_115, fun h => by cases h⟩)) [0, 1, 2, 3, 4, 5, 6, 7, 8] rfl (by decide) (cwV 2 hts gX11_doesNext_X11_readsDeed rfl rfl rfl (by decide +kernel) ⟨Nat.le_of_ble_eq_true rfl, Nat.le_of_ble_eq_true rfl⟩) (cl_recv (ci := 10) (q := (RX11, TX11, 27)) (q0 := 0) hP hK rfl rfl) rfl rfl (Nat.le_of_ble_eq_true rfl) dX11_doesNext_109 ⟨Nat.zero_le _, Nat.zero_le _⟩ (fun rY wY H locs hwY hJ hS => ?_)
    obtain ⟨x3_109, x5_109, x6_109, x7_109, k8_109, k9_109, RW'_109, RR'_109, k10_109, k11_109, e1Y, e2Y, fa_109, fc_109⟩ := hwY
    have e3Y := e1Y.symm
    clear e1Y
    subst e3Y
    have e3Y := e2Y.symm
    clear e2Y
    subst e3Y
    obtain ⟨hP, hD⟩ := hJ rfl
    have hP : va_P D vwCl (gMo cA B (fN ((doC txt m a S).2.2)) WA BG AS TX RW'_109 RR'_109 FD m1 (nI m) x3_109 m4 x5_109 x6_109 x7_109 k8_109 k9_109 k10_109 k11_109 m12 m13 m14 m15 m16 m17 m18 m19) H := hP
    have hD : va_D AY (gMo cA B (fN ((doC txt m a S).2.2)) WA BG AS TX RW'_109 RR'_109 FD m1 (nI m) x3_109 m4 x5_109 x6_109 x7_109 k8_109 k9_109 k10_109 k11_109 m12 m13 m14 m15 m16 m17 m18 m19) := hD
    exact hret _ _ _ _ _ _ dX11_doesNext_112 ⟨x3_109, x5_109, x6_109, x7_109, k8_109, k9_109, RW'_109, RR'_109, k10_109, k11_109, rfl, rfl, fa_109, fc_109⟩ hP hD hS
  by_cases s21_119 : txt a = 119
  · have e21 : (nI (txt a) : Int32).toInt = 119 := by rw [s21_119]; rfl
    refine lv_lookup (off := 72) (tgt := 93) hx hb dX11_doesNext_21 (by decide) (by rw [e21]; decide) (by decide) ?_
    refine lv_aload_n hx hb dX11_doesNext_93 rfl (lv_at hl 2 rfl) ?_
    refine lv_iload_n hx hb dX11_doesNext_94 rfl (lv_at hl 1 rfl) ?_
    refine lv_iconst (v := nI 0) hx hb dX11_doesNext_95 (by decide +kernel) ?_
    refine ci_V (As := [.int (nI a), .int (nI 0)]) (rest := []) h0 hK hN hP hD hS hA hl.1 (k_X11_readsDigit lY D cA B S WA BG AS TX RW RR FD m1 m4 m5 m6 m7 m8 m9 m10 m11 m12 m13 m14 m15 m16 m17 m18 m19 txt m a false (by first | assumption | omega) (by first | assumption | omega) (by first | assumption | omega) (⟨(fun h => by cases h), fun _ => s21_119⟩)) [0, 1, 2, 3, 4, 5, 6, 7, 8] rfl (by decide) (cwV 2 hts gX11_doesNext_X11_readsDigit rfl rfl rfl (by decide +kernel) ⟨Nat.le_of_ble_eq_true rfl, Nat.le_of_ble_eq_true rfl⟩) (cl_recv (ci := 10) (q := (RX11, TX11, 27)) (q0 := 0) hP hK rfl rfl) rfl rfl (Nat.le_of_ble_eq_true rfl) dX11_doesNext_96 ⟨Nat.zero_le _, Nat.zero_le _⟩ (fun rY wY H locs hwY hJ hS => ?_)
    obtain ⟨x3_96, x5_96, x6_96, x7_96, e1Y, e2Y, fa_96, fc_96⟩ := hwY
    have e3Y := e1Y.symm
    clear e1Y
    subst e3Y
    have e3Y := e2Y.symm
    clear e2Y
    subst e3Y
    obtain ⟨hP, hD⟩ := hJ rfl
    have hP : va_P D vwCl (gMo cA B (fN ((doC txt m a S).2.2)) WA BG AS TX RW RR FD m1 (nI m) x3_96 m4 x5_96 x6_96 x7_96 m8 m9 m10 m11 m12 m13 m14 m15 m16 m17 m18 m19) H := hP
    have hD : va_D AY (gMo cA B (fN ((doC txt m a S).2.2)) WA BG AS TX RW RR FD m1 (nI m) x3_96 m4 x5_96 x6_96 x7_96 m8 m9 m10 m11 m12 m13 m14 m15 m16 m17 m18 m19) := hD
    exact hret _ _ _ _ _ _ dX11_doesNext_99 ⟨x3_96, x5_96, x6_96, x7_96, m8, m9, RW, RR, m10, m11, rfl, rfl, fa_96, fc_96⟩ hP hD hS
  have e21 : (nI (txt a) : Int32).toInt = (txt a : Nat) := nI_toInt (by omega)
  refine lv_lookup (off := 99) (tgt := 120) hx hb dX11_doesNext_21 (by decide) (by show Op.lookupswitch.offset [(43, 59), (45, 65), (61, 79), (110, 92), (115, 85), (119, 72)] _ _ = _; rw [Op.lookupswitch.offset_cons, if_neg (by rw [e21]; omega)]; rw [Op.lookupswitch.offset_cons, if_neg (by rw [e21]; omega)]; rw [Op.lookupswitch.offset_cons, if_neg (by rw [e21]; omega)]; rw [Op.lookupswitch.offset_cons, if_neg (by rw [e21]; omega)]; rw [Op.lookupswitch.offset_cons, if_neg (by rw [e21]; omega)]; rw [Op.lookupswitch.offset_cons, if_neg (by rw [e21]; omega)]; rfl) (by decide) ?_
  refine lv_aload_n hx hb dX11_doesNext_120 rfl (lv_at hl 2 rfl) ?_
  refine lv_iconst (v := nI 1) hx hb dX11_doesNext_121 (by decide +kernel) ?_
  refine lv_iconst (v := nI 0) hx hb dX11_doesNext_122 (by decide +kernel) ?_
  refine ci_V (As := [.int (nI 1), .int (nI 0)]) (rest := []) h0 hK hN hP hD hS hA hl.1 (k_X11_says lY D cA B S WA BG AS TX RW RR FD m1 (nI m) (nI (a + 1)) m4 m5 m6 m7 m8 m9 m10 m11 m12 m13 m14 m15 m16 m17 m18 m19 (nI 1) (nI 0) ) [0, 1, 2, 3, 4, 5, 6, 7, 8] rfl (by decide) (cwV 2 hts gX11_doesNext_X11_says rfl rfl rfl (by decide +kernel) ⟨Nat.le_of_ble_eq_true rfl, Nat.le_of_ble_eq_true rfl⟩) (cl_recv (ci := 10) (q := (RX11, TX11, 27)) (q0 := 0) hP hK rfl rfl) rfl rfl (Nat.le_of_ble_eq_true rfl) dX11_doesNext_123 ⟨Nat.zero_le _, Nat.zero_le _⟩ (fun rY wY H locs hwY hJ hS => ?_)
  obtain ⟨e1Y, e2Y⟩ := hwY
  have e3Y := e1Y.symm
  clear e1Y
  subst e3Y
  have e3Y := e2Y.symm
  clear e2Y
  subst e3Y
  obtain ⟨hP, hD⟩ := hJ rfl
  have hP : va_P D vwCl (gMo cA B (fN S) WA BG AS TX RW RR FD m1 (nI m) (nI (a + 1)) m4 (nI 0) m6 m7 m8 m9 m10 m11 m12 m13 m14 m15 m16 m17 m18 m19) H := hP
  have hD : va_D AY (gMo cA B (fN S) WA BG AS TX RW RR FD m1 (nI m) (nI (a + 1)) m4 (nI 0) m6 m7 m8 m9 m10 m11 m12 m13 m14 m15 m16 m17 m18 m19) := hD
  have hok : (okP txt m a) = (false, a) := okP_n (by omega)
  have hDc : (doC txt m a S) = (1, a - a, S) := (doC_f (by rw [hok])).trans (by rw [hok])
  exact hret _ _ _ _ _ _ dX11_doesNext_126 ⟨((nI (a + 1))), ((nI 0)), m6, m7, m8, m9, RW, RR, m10, m11, (by rw [hDc]), (by rw [hDc]), (fun h => by rw [hDc] at h; cases h), (fun _ => by rw [hDc, Nat.sub_self]; rfl)⟩ hP hD hS

theorem hi_X11_faulty_X11 : ∀ w ∈ u_ws RX11 TX11 27, w ∈ wsX11_faulty := by decide +kernel
set_option maxHeartbeats 8000000 in
set_option maxRecDepth 100000 in
theorem k_X11_faulty (lY : Launch) (D : va_G) (cA : Nat → ClassId) (B : Nat → Nat) (S : St) (WA BG AS TX RW RR FD : Nat → Int32) (m1 m3 m4 m5 m6 m7 m8 m9 m10 m11 m12 m13 m14 m15 m16 m17 m18 m19 : Int32) (txt : Nat → Nat) (m : Nat) (htx : rTx txt m TX) (hI : IV S) : MetI lY D cA yX11_faulty wsX11_faulty 7 163 [.ref (B 0)] (gMo cA B (fN S) WA BG AS TX RW RR FD m1 (nI m) m3 m4 m5 m6 m7 m8 m9 m10 m11 m12 m13 m14 m15 m16 m17 m18 m19) (fun rY wY => ∃ (y3 : Int32) (y4 : Int32) (y5 : Int32) (y6 : Int32) (y7 : Int32) (k8 : Int32) (k9 : Int32) (k10 : Int32) (k11 : Int32) (RW' : Nat → Int32) (RR' : Nat → Int32) (AS' : Nat → Int32), rY = fpI (runT txt m S) ∧ wY = gMo cA B (fN S) WA BG AS' TX RW' RR' FD m1 (nI m) y3 y4 y5 y6 y7 k8 k9 k10 k11 m12 m13 m14 m15 m16 m17 m18 m19 ∧ ((runT txt m S).1 ≠ 0 → y4 = nI (runT txt m S).1 ∧ y5 = csT (runT txt m S))) := by
  refine MetI.of (cc := cX11_faulty) (maxL := 3) (ret := (some .int)) (by decide) rfl (Nat.le_of_ble_eq_true rfl) (Or.inl rfl) ?_
  intro pY eY sY mY aY bY tY cY QY AY ls h0 hP hK hN hD hA hS hl hret
  obtain ⟨hx, hb, hml, hown, hts⟩ := id h0
  have hl : lv_has ls 3 [(0, .ref (B 0))] := hl
  have hP : va_P D vwCl (gMo cA B (fN S) WA BG AS TX RW RR FD m1 (nI m) m3 m4 m5 m6 m7 m8 m9 m10 m11 m12 m13 m14 m15 m16 m17 m18 m19) sY.heap := hP
  have hD : va_D AY (gMo cA B (fN S) WA BG AS TX RW RR FD m1 (nI m) m3 m4 m5 m6 m7 m8 m9 m10 m11 m12 m13 m14 m15 m16 m17 m18 m19) := hD
  have h80 := htx.1
  have em4 : ((-1000004) : Int32).toInt = -1000004 := rfl
  refine lv_iconst (v := nI 0) hx hb dX11_faulty_0 (by decide +kernel) ?_
  refine lv_istore_n (lv' := [(1, .int (nI 0)), (0, .ref (B 0))]) hx hb dX11_faulty_1 rfl hl (by decide) rfl (fun ls hl => ?_)
  have L2 : ∀ (nY : Nat), ∀ (i : Nat) (AS' : Nat → Int32), (i ≤ 52) → (∀ k, k < i → AS' k = nI (S k)) → (52 - i < nY) → ∀ (H : Heap) (locs : List Loc) (ls : Array Slot), va_P D vwCl (gMo cA B (fN S) WA BG AS' TX RW RR FD m1 (nI m) m3 m4 m5 m6 m7 m8 m9 m10 m11 m12 m13 m14 m15 m16 m17 m18 m19) H → va_D AY (gMo cA B (fN S) WA BG AS' TX RW RR FD m1 (nI m) m3 m4 m5 m6 m7 m8 m9 m10 m11 m12 m13 m14 m15 m16 m17 m18 m19) → va_S AY sY.heap H locs → lv_has ls 3 [(0, .ref (B 0)), (1, .int (nI i))] → W pY lY eY { frames := 7, cells := 0, slots := 0, locals := 163 } sY mY aY bY tY cY H locs 0 0 QY (F0 mY 2 ls []) := by
    intro nY2
    induction nY2 with
    | zero => intro i AS' hi has hm2; exact absurd hm2 (Nat.not_lt_zero _)
    | succ nY2 ih2 =>
      intro i AS' hi has hm2 H locs ls hP hD hS hl
      refine lv_iload_n hx hb dX11_faulty_2 rfl (lv_at hl 1 rfl) ?_
      refine lv_bipush (v := nI 52) hx hb dX11_faulty_3 (by decide +kernel) ?_
      refine xc_ge (tgt := 26) hx hb dX11_faulty_5 (by decide) (by omega) (by omega) (fun c5 => ?_) (fun c5 => ?_)
      · have L80 :  ∀ (T : St) (p : Int32) (x3 : Int32) (x4 : Int32) (x5 : Int32) (x6 : Int32) (x7 : Int32) (x8 : Int32) (x9 : Int32) (x10 : Int32) (x11 : Int32) (RW1 : Nat → Int32) (RR1 : Nat → Int32), (p = fpI (runT txt m S)) → ((runT txt m S).1 ≠ 0 → x4 = nI (runT txt m S).1 ∧ x5 = csT (runT txt m S)) → ∀ (H : Heap) (locs : List Loc) (ls : Array Slot), va_P D vwCl (gMo cA B (fN T) WA BG AS' TX RW1 RR1 FD m1 (nI m) x3 x4 x5 x6 x7 x8 x9 x10 x11 m12 m13 m14 m15 m16 m17 m18 m19) H → va_D AY (gMo cA B (fN T) WA BG AS' TX RW1 RR1 FD m1 (nI m) x3 x4 x5 x6 x7 x8 x9 x10 x11 m12 m13 m14 m15 m16 m17 m18 m19) → va_S AY sY.heap H locs → lv_has ls 3 [(0, .ref (B 0)), (1, .int p)] → W pY lY eY { frames := 7, cells := 0, slots := 0, locals := 163 } sY mY aY bY tY cY H locs 0 0 QY (F0 mY 80 ls []) := by
          intro T p x3 x4 x5 x6 x7 x8 x9 x10 x11 RW1 RR1 hp hx45 H locs ls hP hD hS hl
          refine lv_iconst (v := nI 0) hx hb dX11_faulty_80 (by decide +kernel) ?_
          refine lv_istore_n (lv' := [(2, .int (nI 0)), (0, .ref (B 0)), (1, .int p)]) hx hb dX11_faulty_81 rfl hl (by decide) rfl (fun ls hl => ?_)
          have L82 : ∀ (nY : Nat), ∀ (k : Nat) (T2 : St), (k ≤ 52) → (∀ j, j < k → T2 j = S j) → (52 - k < nY) → ∀ (H : Heap) (locs : List Loc) (ls : Array Slot), va_P D vwCl (gMo cA B (fN T2) WA BG AS' TX RW1 RR1 FD m1 (nI m) x3 x4 x5 x6 x7 x8 x9 x10 x11 m12 m13 m14 m15 m16 m17 m18 m19) H → va_D AY (gMo cA B (fN T2) WA BG AS' TX RW1 RR1 FD m1 (nI m) x3 x4 x5 x6 x7 x8 x9 x10 x11 m12 m13 m14 m15 m16 m17 m18 m19) → va_S AY sY.heap H locs → lv_has ls 3 [(0, .ref (B 0)), (1, .int p), (2, .int (nI k))] → W pY lY eY { frames := 7, cells := 0, slots := 0, locals := 163 } sY mY aY bY tY cY H locs 0 0 QY (F0 mY 82 ls []) := by
            intro nY82
            induction nY82 with
            | zero => intro k T2 hk hT2 hm82; exact absurd hm82 (Nat.not_lt_zero _)
            | succ nY82 ih82 =>
              intro k T2 hk hT2 hm82 H locs ls hP hD hS hl
              refine lv_iload_n hx hb dX11_faulty_82 rfl (lv_at hl 2 rfl) ?_
              refine lv_bipush (v := nI 52) hx hb dX11_faulty_83 (by decide +kernel) ?_
              refine xc_ge (tgt := 106) hx hb dX11_faulty_85 (by decide) (by omega) (by omega) (fun c85 => ?_) (fun c85 => ?_)
              · obtain ⟨hP, hD⟩ := pE (g := fN S) hP hD 1 rfl (fun j hj => congrArg nI (hT2 j (by omega)))
                have hP : va_P D vwCl (gMo cA B (fN S) WA BG AS' TX RW1 RR1 FD m1 (nI m) x3 x4 x5 x6 x7 x8 x9 x10 x11 m12 m13 m14 m15 m16 m17 m18 m19) H := hP
                have hD : va_D AY (gMo cA B (fN S) WA BG AS' TX RW1 RR1 FD m1 (nI m) x3 x4 x5 x6 x7 x8 x9 x10 x11 m12 m13 m14 m15 m16 m17 m18 m19) := hD
                refine lv_iload_n hx hb dX11_faulty_106 rfl (lv_at hl 1 rfl) ?_
                exact hret _ _ _ _ _ _ dX11_faulty_107 ⟨x3, x4, x5, x6, x7, x8, x9, x10, x11, RW1, RR1, AS', hp, rfl, hx45⟩ hP hD hS
              · refine lv_aload_n hx hb dX11_faulty_88 rfl (lv_at hl 0 rfl) ?_
                refine va_get (D := D) (ci := 10) (v := .ref (B 1)) (C := RX11) (T := TX11) (N := 27) hx hb hts hi_X11_faulty_X11 hown hK hP 0 rfl rfl 0 (by decide) (hts (.fieldLink RX11 7 "FallingWordsModel" "s" "[I") (by decide +kernel)) (fun _ h9 => h9) rfl dX11_faulty_89 ?_
                refine lv_iload_n hx hb dX11_faulty_92 rfl (lv_at hl 2 rfl) ?_
                refine lv_aload_n hx hb dX11_faulty_93 rfl (lv_at hl 0 rfl) ?_
                refine va_get (D := D) (ci := 10) (v := .ref (B 4)) (C := RX11) (T := TX11) (N := 27) hx hb hts hi_X11_faulty_X11 hown hK hP 0 rfl rfl 3 (by decide) (hts (.fieldLink RX11 19 "FallingWordsModel" "aside" "[I") (by decide +kernel)) (fun _ h9 => h9) rfl dX11_faulty_94 ?_
                refine lv_iload_n hx hb dX11_faulty_97 rfl (lv_at hl 2 rfl) ?_
                refine xa_ld (v := nI (S k)) hx hb hK hP 4 rfl (by omega) (by decide) (has k (by omega)) dX11_faulty_98 ?_
                refine xa_st hx hb hK hP hD hS 1 rfl (by omega) (by decide) dX11_faulty_99 (fun H locs hP hD hS => ?_)
                have hP : va_P D vwCl (gMo cA B (upd (fN T2) k (nI (S k))) WA BG AS' TX RW1 RR1 FD m1 (nI m) x3 x4 x5 x6 x7 x8 x9 x10 x11 m12 m13 m14 m15 m16 m17 m18 m19) H := hP
                have hD : va_D AY (gMo cA B (upd (fN T2) k (nI (S k))) WA BG AS' TX RW1 RR1 FD m1 (nI m) x3 x4 x5 x6 x7 x8 x9 x10 x11 m12 m13 m14 m15 m16 m17 m18 m19) := hD
                rw [show upd (fN T2) k (nI (S k)) = fN (upN T2 k (S k)) from fN_up] at hP hD
                refine lv_iinc (v := nI (k + 1)) (lv' := [(2, .int (nI (k + 1))), (0, .ref (B 0)), (1, .int p)]) hx hb dX11_faulty_100 hl (k := 2) rfl (show nI k + Int32.ofInt 1 = nI (k + 1) from nI_add k 1) (by decide) rfl (fun ls hl => ?_)
                refine lv_goto (tgt := 82) hx hb dX11_faulty_103 (by decide) ?_
                exact ih82 (k + 1) (upN T2 k (S k)) (by omega) (fun j hj => by rcases Nat.lt_or_ge j k with q | q; (rw [upN_n (by omega)]; exact hT2 j q); rw [show j = k by omega, upN_s]) (by omega) _ _ _ hP hD hS (lv_sub hl [1, 2, 0] rfl)
          exact L82 _ 0 T (by omega) (fun j hj => absurd hj (Nat.not_lt_zero j)) (Nat.lt_succ_self _) _ _ _ hP hD hS (lv_sub hl [1, 2, 0] rfl)
        refine lv_ldc (v := (-1000004)) hx hb hown (hts (.constant RX11 43 (-1000004)) (by decide +kernel)) dX11_faulty_26 ?_
        refine lv_istore_n (lv' := [(1, .int (-1000004)), (0, .ref (B 0))]) hx hb dX11_faulty_28 rfl hl (by decide) rfl (fun ls hl => ?_)
        refine lv_aload_n hx hb dX11_faulty_29 rfl (lv_at hl 1 rfl) ?_
        refine lv_iconst (v := nI 0) hx hb dX11_faulty_30 (by decide +kernel) ?_
        refine va_put (D := D) (ci := 10) (v := .int (nI 0)) (ty := .int) (C := RX11) (T := TX11) (N := 27) hx hb hts hi_X11_faulty_X11 tyX11 tyX11_ok nmX11 hown hK hP hD hS 0 rfl rfl 7 (by decide) (hts (.fieldLink RX11 179 "FallingWordsModel" "at" "I") (by decide +kernel)) (fun _ h9 => h9) rfl (by decide +kernel) rfl rfl (Nat.le_of_ble_eq_true rfl) dX11_faulty_31 (fun H locs hP hD hS => ?_)
        have hP : va_P D vwCl (gMo cA B (fN S) WA BG AS' TX RW RR FD m1 (nI m) (nI 0) m4 m5 m6 m7 m8 m9 m10 m11 m12 m13 m14 m15 m16 m17 m18 m19) H := hP
        have hD : va_D AY (gMo cA B (fN S) WA BG AS' TX RW RR FD m1 (nI m) (nI 0) m4 m5 m6 m7 m8 m9 m10 m11 m12 m13 m14 m15 m16 m17 m18 m19) := hD
        have L34 : ∀ (nY : Nat), ∀ (T : St) (p : Int32) (f : Nat) (x3 : Int32) (x4 : Int32) (x5 : Int32) (x6 : Int32) (x7 : Int32) (x8 : Int32) (x9 : Int32) (x10 : Int32) (x11 : Int32) (RW1 : Nat → Int32) (RR1 : Nat → Int32), (fRun txt m S T f p x3 x4 x5) → (f < nY) → ∀ (H : Heap) (locs : List Loc) (ls : Array Slot), va_P D vwCl (gMo cA B (fN T) WA BG AS' TX RW1 RR1 FD m1 (nI m) x3 x4 x5 x6 x7 x8 x9 x10 x11 m12 m13 m14 m15 m16 m17 m18 m19) H → va_D AY (gMo cA B (fN T) WA BG AS' TX RW1 RR1 FD m1 (nI m) x3 x4 x5 x6 x7 x8 x9 x10 x11 m12 m13 m14 m15 m16 m17 m18 m19) → va_S AY sY.heap H locs → lv_has ls 3 [(0, .ref (B 0)), (1, .int p)] → W pY lY eY { frames := 7, cells := 0, slots := 0, locals := 163 } sY mY aY bY tY cY H locs 0 0 QY (F0 mY 34 ls []) := by
          intro nY34
          induction nY34 with
          | zero => intro T p f x3 x4 x5 x6 x7 x8 x9 x10 x11 RW1 RR1 hrf hm34; exact absurd hm34 (Nat.not_lt_zero _)
          | succ nY34 ih34 =>
            intro T p f x3 x4 x5 x6 x7 x8 x9 x10 x11 RW1 RR1 hrf hm34 H locs ls hP hD hS hl
            rcases hrf with ⟨rfl, a, c, rfl, ham, hmf, hTI, hrun⟩ | ⟨hz0, hz1, rfl, rfl, rfl⟩
            · refine lv_aload_n hx hb dX11_faulty_34 rfl (lv_at hl 0 rfl) ?_
              refine va_get (D := D) (ci := 10) (v := .int (nI a)) (C := RX11) (T := TX11) (N := 27) hx hb hts hi_X11_faulty_X11 hown hK hP 0 rfl rfl 7 (by decide) (hts (.fieldLink RX11 179 "FallingWordsModel" "at" "I") (by decide +kernel)) (fun _ h9 => h9) rfl dX11_faulty_35 ?_
              refine lv_aload_n hx hb dX11_faulty_38 rfl (lv_at hl 0 rfl) ?_
              refine va_get (D := D) (ci := 10) (v := .int (nI m)) (C := RX11) (T := TX11) (N := 27) hx hb hts hi_X11_faulty_X11 hown hK hP 0 rfl rfl 6 (by decide) (hts (.fieldLink RX11 176 "FallingWordsModel" "typed" "I") (by decide +kernel)) (fun _ h9 => h9) rfl dX11_faulty_39 ?_
              refine xc_ge (tgt := 80) hx hb dX11_faulty_42 (by decide) (by omega) (by omega) (fun c42 => ?_) (fun c42 => ?_)
              · exact L80 T (-1000004) (nI a) x4 x5 x6 x7 x8 x9 x10 x11 RW1 RR1 (by unfold fpI; rw [if_pos (show (runT txt m S).1 = 0 by rw [← hrun, runF_0 (by omega) (by omega)])]) (fun h => absurd (show (runT txt m S).1 = 0 by rw [← hrun, runF_0 (by omega) (by omega)]) h) _ _ _ hP hD hS hl
              · refine lv_iload_n hx hb dX11_faulty_45 rfl (lv_at hl 1 rfl) ?_
                refine lv_ldc (v := (-1000004)) hx hb hown (hts (.constant RX11 43 (-1000004)) (by decide +kernel)) dX11_faulty_46 ?_
                refine xr_ne (tgt := 80) hx hb dX11_faulty_48 (by decide) (fun c48 => ?_) (fun c48 => ?_)
                · exact absurd rfl c48
                · have hlt : a < m := by omega
                  refine lv_aload_n hx hb dX11_faulty_51 rfl (lv_at hl 0 rfl) ?_
                  refine va_get (D := D) (ci := 10) (v := .int (nI a)) (C := RX11) (T := TX11) (N := 27) hx hb hts hi_X11_faulty_X11 hown hK hP 0 rfl rfl 7 (by decide) (hts (.fieldLink RX11 179 "FallingWordsModel" "at" "I") (by decide +kernel)) (fun _ h9 => h9) rfl dX11_faulty_52 ?_
                  refine lv_istore_n (lv' := [(2, .int (nI a)), (0, .ref (B 0)), (1, .int (-1000004))]) hx hb dX11_faulty_55 rfl hl (by decide) rfl (fun ls hl => ?_)
                  refine lv_aload_n hx hb dX11_faulty_56 rfl (lv_at hl 1 rfl) ?_
                  refine lv_aload_n hx hb dX11_faulty_57 rfl (lv_at hl 1 rfl) ?_
                  refine ci_V (As := []) (rest := [.ref (B 0)]) h0 hK hN hP hD hS hA hl.1 (k_X11_doesNext lY D cA B T WA BG AS' TX RW1 RR1 FD m1 x4 x5 x6 x7 x8 x9 x10 x11 m12 m13 m14 m15 m16 m17 m18 m19 txt m a (by first | assumption | omega) (hlt) (hTI)) [0, 1, 2, 3, 4, 5, 6, 7, 8] rfl (by decide) (cwV 0 hts gX11_faulty_X11_doesNext rfl rfl rfl (by decide +kernel) ⟨Nat.le_of_ble_eq_true rfl, Nat.le_of_ble_eq_true rfl⟩) (cl_recv (ci := 10) (q := (RX11, TX11, 27)) (q0 := 0) hP hK rfl rfl) rfl rfl (Nat.le_of_ble_eq_true rfl) dX11_faulty_58 ⟨Nat.zero_le _, Nat.zero_le _⟩ (fun rY wY H locs hwY hJ hS => ?_)
                  obtain ⟨x3_58, x5_58, x6_58, x7_58, k8_58, k9_58, RW'_58, RR'_58, k10_58, k11_58, e1Y, e2Y, fa_58, fc_58⟩ := hwY
                  have e3Y := e1Y.symm
                  clear e1Y
                  subst e3Y
                  have e3Y := e2Y.symm
                  clear e2Y
                  subst e3Y
                  obtain ⟨hP, hD⟩ := hJ rfl
                  have hP : va_P D vwCl (gMo cA B (fN ((doC txt m a T).2.2)) WA BG AS' TX RW'_58 RR'_58 FD m1 (nI m) x3_58 x4 x5_58 x6_58 x7_58 k8_58 k9_58 k10_58 k11_58 m12 m13 m14 m15 m16 m17 m18 m19) H := hP
                  have hD : va_D AY (gMo cA B (fN ((doC txt m a T).2.2)) WA BG AS' TX RW'_58 RR'_58 FD m1 (nI m) x3_58 x4 x5_58 x6_58 x7_58 k8_58 k9_58 k10_58 k11_58 m12 m13 m14 m15 m16 m17 m18 m19) := hD
                  refine va_put (D := D) (ci := 10) (v := .int (nI ((doC txt m a T).1))) (ty := .int) (C := RX11) (T := TX11) (N := 27) hx hb hts hi_X11_faulty_X11 tyX11 tyX11_ok nmX11 hown hK hP hD hS 0 rfl rfl 8 (by decide) (hts (.fieldLink RX11 220 "FallingWordsModel" "reason" "I") (by decide +kernel)) (fun _ h9 => h9) rfl (by decide +kernel) rfl rfl (Nat.le_of_ble_eq_true rfl) dX11_faulty_61 (fun H locs hP hD hS => ?_)
                  have hP : va_P D vwCl (gMo cA B (fN ((doC txt m a T).2.2)) WA BG AS' TX RW'_58 RR'_58 FD m1 (nI m) x3_58 (nI ((doC txt m a T).1)) x5_58 x6_58 x7_58 k8_58 k9_58 k10_58 k11_58 m12 m13 m14 m15 m16 m17 m18 m19) H := hP
                  have hD : va_D AY (gMo cA B (fN ((doC txt m a T).2.2)) WA BG AS' TX RW'_58 RR'_58 FD m1 (nI m) x3_58 (nI ((doC txt m a T).1)) x5_58 x6_58 x7_58 k8_58 k9_58 k10_58 k11_58 m12 m13 m14 m15 m16 m17 m18 m19) := hD
                  have hd3 := doC_lt (txt := txt) (n := m) (a := a) (S := T)
                  refine lv_aload_n hx hb dX11_faulty_64 rfl (lv_at hl 1 rfl) ?_
                  refine va_get (D := D) (ci := 10) (v := .int (nI ((doC txt m a T).1))) (C := RX11) (T := TX11) (N := 27) hx hb hts hi_X11_faulty_X11 hown hK hP 0 rfl rfl 8 (by decide) (hts (.fieldLink RX11 220 "FallingWordsModel" "reason" "I") (by decide +kernel)) (fun _ h9 => h9) rfl dX11_faulty_65 ?_
                  refine x0_le (tgt := 75) hx hb dX11_faulty_68 (by decide) (by omega) (fun c68 => ?_) (fun c68 => ?_)
                  · have hd0 : (doC txt m a T).1 = 0 := by omega
                    obtain ⟨ou1, ou2⟩ := okP_up hlt hd0
                    refine lv_iload_n hx hb dX11_faulty_75 rfl (lv_at hl 2 rfl) ?_
                    refine lv_istore_n (lv' := [(1, .int (-1000004)), (2, .int (nI a)), (0, .ref (B 0))]) hx hb dX11_faulty_76 rfl hl (by decide) rfl (fun ls hl => ?_)
                    refine lv_goto (tgt := 34) hx hb dX11_faulty_77 (by decide) ?_
                    exact ih34 ((doC txt m a T).2.2) (-1000004) (f - 1) x3_58 (nI ((doC txt m a T).1)) x5_58 x6_58 x7_58 k8_58 k9_58 k10_58 k11_58 RW'_58 RR'_58 (Or.inl ⟨rfl, (okP txt m a).2, c + 1, fa_58 hd0, ou2, by omega, IV_doC hTI hlt, (runF_s hlt (by omega) hd0).symm.trans hrun⟩) (by omega) _ _ _ hP hD hS (lv_sub hl [2, 0] rfl)
                  · have hd0 : (doC txt m a T).1 ≠ 0 := by omega
                    have hR1 : runT txt m S = ((doC txt m a T).1, (doC txt m a T).2.1, a, c, (doC txt m a T).2.2) := hrun.symm.trans (runF_e hlt (by omega) hd0)
                    refine lv_iload_n hx hb dX11_faulty_71 rfl (lv_at hl 0 rfl) ?_
                    refine lv_goto (tgt := 76) hx hb dX11_faulty_72 (by decide) ?_
                    refine lv_istore_n (lv' := [(1, .int (nI a)), (2, .int (nI a)), (0, .ref (B 0))]) hx hb dX11_faulty_76 rfl hl (by decide) rfl (fun ls hl => ?_)
                    refine lv_goto (tgt := 34) hx hb dX11_faulty_77 (by decide) ?_
                    exact ih34 ((doC txt m a T).2.2) (nI a) (f - 1) x3_58 (nI ((doC txt m a T).1)) x5_58 x6_58 x7_58 k8_58 k9_58 k10_58 k11_58 RW'_58 RR'_58 (Or.inr ⟨by rw [hR1]; exact hd0, by rw [hR1]; show a ≤ 80; omega, by rw [hR1], by rw [hR1], by rw [hR1]; exact (fc_58 hd0).trans rfl⟩) (by omega) _ _ _ hP hD hS (lv_sub hl [2, 0] rfl)
            · refine lv_aload_n hx hb dX11_faulty_34 rfl (lv_at hl 0 rfl) ?_
              refine va_get (D := D) (ci := 10) (v := .int x3) (C := RX11) (T := TX11) (N := 27) hx hb hts hi_X11_faulty_X11 hown hK hP 0 rfl rfl 7 (by decide) (hts (.fieldLink RX11 179 "FallingWordsModel" "at" "I") (by decide +kernel)) (fun _ h9 => h9) rfl dX11_faulty_35 ?_
              refine lv_aload_n hx hb dX11_faulty_38 rfl (lv_at hl 0 rfl) ?_
              refine va_get (D := D) (ci := 10) (v := .int (nI m)) (C := RX11) (T := TX11) (N := 27) hx hb hts hi_X11_faulty_X11 hown hK hP 0 rfl rfl 6 (by decide) (hts (.fieldLink RX11 176 "FallingWordsModel" "typed" "I") (by decide +kernel)) (fun _ h9 => h9) rfl dX11_faulty_39 ?_
              refine xr_ge (tgt := 80) hx hb dX11_faulty_42 (by decide) (fun c42 => ?_) (fun c42 => ?_)
              · exact L80 T (nI ((runT txt m S).2.2.1)) x3 (nI ((runT txt m S).1)) (csT (runT txt m S)) x6 x7 x8 x9 x10 x11 RW1 RR1 (by unfold fpI; rw [if_neg hz0]) (fun _ => ⟨rfl, rfl⟩) _ _ _ hP hD hS hl
              · refine lv_iload_n hx hb dX11_faulty_45 rfl (lv_at hl 1 rfl) ?_
                refine lv_ldc (v := (-1000004)) hx hb hown (hts (.constant RX11 43 (-1000004)) (by decide +kernel)) dX11_faulty_46 ?_
                refine xr_ne (tgt := 80) hx hb dX11_faulty_48 (by decide) (fun c48 => ?_) (fun c48 => ?_)
                · exact L80 T (nI ((runT txt m S).2.2.1)) x3 (nI ((runT txt m S).1)) (csT (runT txt m S)) x6 x7 x8 x9 x10 x11 RW1 RR1 (by unfold fpI; rw [if_neg hz0]) (fun _ => ⟨rfl, rfl⟩) _ _ _ hP hD hS hl
                · exact absurd c48 (by have : (nI (runT txt m S).2.2.1).toInt = ((runT txt m S).2.2.1 : Int) := nI_toInt (by omega); omega)
        exact L34 _ S (-1000004) 81 (nI 0) m4 m5 m6 m7 m8 m9 m10 m11 RW RR (Or.inl ⟨rfl, 0, 0, rfl, Nat.zero_le _, by omega, hI, by unfold runT; rw [sl_eq]⟩) (Nat.lt_succ_self _) _ _ _ hP hD hS (lv_sub hl [1, 0] rfl)
      · refine lv_aload_n hx hb dX11_faulty_8 rfl (lv_at hl 0 rfl) ?_
        refine va_get (D := D) (ci := 10) (v := .ref (B 4)) (C := RX11) (T := TX11) (N := 27) hx hb hts hi_X11_faulty_X11 hown hK hP 0 rfl rfl 3 (by decide) (hts (.fieldLink RX11 19 "FallingWordsModel" "aside" "[I") (by decide +kernel)) (fun _ h9 => h9) rfl dX11_faulty_9 ?_
        refine lv_iload_n hx hb dX11_faulty_12 rfl (lv_at hl 1 rfl) ?_
        refine lv_aload_n hx hb dX11_faulty_13 rfl (lv_at hl 0 rfl) ?_
        refine va_get (D := D) (ci := 10) (v := .ref (B 1)) (C := RX11) (T := TX11) (N := 27) hx hb hts hi_X11_faulty_X11 hown hK hP 0 rfl rfl 0 (by decide) (hts (.fieldLink RX11 7 "FallingWordsModel" "s" "[I") (by decide +kernel)) (fun _ h9 => h9) rfl dX11_faulty_14 ?_
        refine lv_iload_n hx hb dX11_faulty_17 rfl (lv_at hl 1 rfl) ?_
        refine xa_ld (v := nI (S i)) hx hb hK hP 1 rfl (by omega) (by decide) (rfl) dX11_faulty_18 ?_
        refine xa_st hx hb hK hP hD hS 4 rfl (by omega) (by decide) dX11_faulty_19 (fun H locs hP hD hS => ?_)
        have hP : va_P D vwCl (gMo cA B (fN S) WA BG (upd AS' i (nI (S i))) TX RW RR FD m1 (nI m) m3 m4 m5 m6 m7 m8 m9 m10 m11 m12 m13 m14 m15 m16 m17 m18 m19) H := hP
        have hD : va_D AY (gMo cA B (fN S) WA BG (upd AS' i (nI (S i))) TX RW RR FD m1 (nI m) m3 m4 m5 m6 m7 m8 m9 m10 m11 m12 m13 m14 m15 m16 m17 m18 m19) := hD
        refine lv_iinc (v := nI (i + 1)) (lv' := [(1, .int (nI (i + 1))), (0, .ref (B 0))]) hx hb dX11_faulty_20 hl (k := 1) rfl (show nI i + Int32.ofInt 1 = nI (i + 1) from nI_add i 1) (by decide) rfl (fun ls hl => ?_)
        refine lv_goto (tgt := 2) hx hb dX11_faulty_23 (by decide) ?_
        exact ih2 (i + 1) (upd AS' i (nI (S i))) (by omega) (fun k hk => by rcases Nat.lt_or_ge k i with q | q; (rw [pk_un (by omega)]; exact has k q); rw [show k = i by omega, pk_us]) (by omega) _ _ _ hP hD hS (lv_sub hl [1, 0] rfl)
  exact L2 _ 0 AS (by omega) (fun k h => absurd h (Nat.not_lt_zero k)) (Nat.lt_succ_self _) _ _ _ hP hD hS (lv_sub hl [1, 0] rfl)

theorem hi_X11_fault_X11 : ∀ w ∈ u_ws RX11 TX11 27, w ∈ wsX11_fault := by decide +kernel
set_option maxHeartbeats 1000000 in
set_option maxRecDepth 100000 in
theorem k_X11_fault (lY : Launch) (D : va_G) (cA : Nat → ClassId) (B : Nat → Nat) (S : St) (WA BG AS TX RW RR FD : Nat → Int32) (m1 m3 m4 m5 m6 m7 m8 m9 m10 m11 m12 m13 m14 m15 m16 m17 m18 m19 : Int32) (txt : Nat → Nat) (m : Nat) (x : Int32) (htx : rTx txt m TX) (hI : IV S) : MetI lY D cA yX11_fault wsX11_fault 8 185 [.ref (B 0), .int x] (gMo cA B (fN S) WA BG AS TX RW RR FD m1 (nI m) m3 m4 m5 m6 m7 m8 m9 m10 m11 m12 m13 m14 m15 m16 m17 m18 m19) (fun rY wY => ∃ (y3 : Int32) (y4 : Int32) (y5 : Int32) (y6 : Int32) (y7 : Int32) (k8 : Int32) (k9 : Int32) (k10 : Int32) (k11 : Int32) (RW' : Nat → Int32) (RR' : Nat → Int32) (AS' : Nat → Int32), rY = fauZ txt m S x ∧ wY = gMo cA B (fN S) WA BG AS' TX RW' RR' FD m1 (nI m) y3 y4 y5 y6 y7 k8 k9 k10 k11 m12 m13 m14 m15 m16 m17 m18 m19) := by
  refine MetI.of (cc := cX11_fault) (maxL := 3) (ret := (some .int)) (by decide) rfl (Nat.le_of_ble_eq_true rfl) (Or.inl rfl) ?_
  intro pY eY sY mY aY bY tY cY QY AY ls h0 hP hK hN hD hA hS hl hret
  obtain ⟨hx, hb, hml, hown, hts⟩ := id h0
  have hl : lv_has ls 3 [(0, .ref (B 0)), (1, .int x)] := hl
  have hP : va_P D vwCl (gMo cA B (fN S) WA BG AS TX RW RR FD m1 (nI m) m3 m4 m5 m6 m7 m8 m9 m10 m11 m12 m13 m14 m15 m16 m17 m18 m19) sY.heap := hP
  have hD : va_D AY (gMo cA B (fN S) WA BG AS TX RW RR FD m1 (nI m) m3 m4 m5 m6 m7 m8 m9 m10 m11 m12 m13 m14 m15 m16 m17 m18 m19) := hD
  have e0 : (nI 0).toInt = 0 := rfl
  have e2 : (nI 2).toInt = 2 := rfl
  have e1 : (nI 1).toInt = 1 := rfl
  have em4 : ((-1000004) : Int32).toInt = -1000004 := rfl
  refine lv_iload_n hx hb dX11_fault_0 rfl (lv_at hl 1 rfl) ?_
  refine lv_iconst (v := nI 0) hx hb dX11_fault_1 (by decide +kernel) ?_
  refine lv_iconst (v := nI 2) hx hb dX11_fault_2 (by decide +kernel) ?_
  refine ci_S (As := [.int x, .int (nI 0), .int (nI 2)]) (rest := []) h0 hK hN hP hD hS hA hl.1 (k_X11_in lY D cA x (nI 0) (nI 2) ) [] rfl (by decide) (va_cwS 3 hts gX11_fault_X11_in rfl rfl rfl (by decide +kernel) ⟨Nat.le_of_ble_eq_true rfl, Nat.le_of_ble_eq_true rfl⟩) rfl rfl (Nat.le_of_ble_eq_true rfl) dX11_fault_3 ⟨Nat.zero_le _, Nat.zero_le _⟩ (fun rY wY H locs hwY hJ hS => ?_)
  obtain ⟨e1Y, e2Y⟩ := hwY
  have e3Y := e1Y.symm
  clear e1Y
  subst e3Y
  have e3Y := e2Y.symm
  clear e2Y
  subst e3Y
  obtain ⟨hP, hD⟩ := hJ rfl
  have hP : va_P D vwCl (gMo cA B (fN S) WA BG AS TX RW RR FD m1 (nI m) m3 m4 m5 m6 m7 m8 m9 m10 m11 m12 m13 m14 m15 m16 m17 m18 m19) H := hP
  have hD : va_D AY (gMo cA B (fN S) WA BG AS TX RW RR FD m1 (nI m) m3 m4 m5 m6 m7 m8 m9 m10 m11 m12 m13 m14 m15 m16 m17 m18 m19) := hD
  refine xb_ne (tgt := 12) hx hb dX11_fault_6 (by decide) (fun c6 => ?_) (fun c6 => ?_)
  · have ci := inI_t c6
    refine lv_aload_n hx hb dX11_fault_12 rfl (lv_at hl 0 rfl) ?_
    refine ci_V (As := []) (rest := []) h0 hK hN hP hD hS hA hl.1 (k_X11_faulty lY D cA B S WA BG AS TX RW RR FD m1 m3 m4 m5 m6 m7 m8 m9 m10 m11 m12 m13 m14 m15 m16 m17 m18 m19 txt m (htx) (hI)) [0, 1, 2, 3, 4, 5, 6, 7, 8] rfl (by decide) (cwV 0 hts gX11_fault_X11_faulty rfl rfl rfl (by decide +kernel) ⟨Nat.le_of_ble_eq_true rfl, Nat.le_of_ble_eq_true rfl⟩) (cl_recv (ci := 10) (q := (RX11, TX11, 27)) (q0 := 0) hP hK rfl rfl) rfl rfl (Nat.le_of_ble_eq_true rfl) dX11_fault_13 ⟨Nat.zero_le _, Nat.zero_le _⟩ (fun rY wY H locs hwY hJ hS => ?_)
    obtain ⟨y3_13, y4_13, y5_13, y6_13, y7_13, k8_13, k9_13, k10_13, k11_13, RW'_13, RR'_13, AS'_13, e1Y, e2Y, ff1_13⟩ := hwY
    have e3Y := e1Y.symm
    clear e1Y
    subst e3Y
    have e3Y := e2Y.symm
    clear e2Y
    subst e3Y
    obtain ⟨hP, hD⟩ := hJ rfl
    have hP : va_P D vwCl (gMo cA B (fN S) WA BG AS'_13 TX RW'_13 RR'_13 FD m1 (nI m) y3_13 y4_13 y5_13 y6_13 y7_13 k8_13 k9_13 k10_13 k11_13 m12 m13 m14 m15 m16 m17 m18 m19) H := hP
    have hD : va_D AY (gMo cA B (fN S) WA BG AS'_13 TX RW'_13 RR'_13 FD m1 (nI m) y3_13 y4_13 y5_13 y6_13 y7_13 k8_13 k9_13 k10_13 k11_13 m12 m13 m14 m15 m16 m17 m18 m19) := hD
    by_cases hz0 : (runT txt m S).1 = 0
    · have hf0 : fpI (runT txt m S) = (-1000004) := if_pos hz0
      refine lv_istore_n (lv' := [(2, .int (fpI (runT txt m S))), (0, .ref (B 0)), (1, .int x)]) hx hb dX11_fault_16 rfl hl (by decide) rfl (fun ls hl => ?_)
      have hl : lv_has ls 3 [(2, .int (-1000004)), (0, .ref (B 0)), (1, .int x)] := Eq.mp (congrArg (fun zY : Int32 => lv_has ls 3 [(2, .int zY), (0, .ref (B 0)), (1, .int x)]) (show fpI (runT txt m S) = (-1000004) from hf0)) hl
      refine lv_iload_n hx hb dX11_fault_17 rfl (lv_at hl 0 rfl) ?_
      refine lv_ldc (v := (-1000004)) hx hb hown (hts (.constant RX11 43 (-1000004)) (by decide +kernel)) dX11_fault_18 ?_
      refine xr_eq (tgt := 27) hx hb dX11_fault_20 (by decide) (fun c20 => ?_) (fun c20 => ?_)
      · refine lv_iload_n hx hb dX11_fault_27 rfl (lv_at hl 0 rfl) ?_
        refine lv_goto (tgt := 47) hx hb dX11_fault_28 (by decide) ?_
        exact hret _ _ _ _ _ _ dX11_fault_47 ⟨y3_13, y4_13, y5_13, y6_13, y7_13, k8_13, k9_13, k10_13, k11_13, RW'_13, RR'_13, AS'_13, (by unfold fauZ; rw [if_neg (show ¬ ¬ (0 ≤ x.toInt ∧ x.toInt ≤ 2) by omega), if_pos hz0]), rfl⟩ hP hD hS
      · exact absurd rfl c20
    · have hf0 : fpI (runT txt m S) = nI (runT txt m S).2.2.1 := if_neg hz0
      obtain ⟨h45a, h45b⟩ := ff1_13 hz0
      have hpos := runT_pos (txt := txt) (n := m) (S := S) htx.1
      have ep : (nI (runT txt m S).2.2.1).toInt = ((runT txt m S).2.2.1 : Int) := nI_toInt (by omega)
      refine lv_istore_n (lv' := [(2, .int (fpI (runT txt m S))), (0, .ref (B 0)), (1, .int x)]) hx hb dX11_fault_16 rfl hl (by decide) rfl (fun ls hl => ?_)
      have hl : lv_has ls 3 [(2, .int (nI ((runT txt m S).2.2.1))), (0, .ref (B 0)), (1, .int x)] := Eq.mp (congrArg (fun zY : Int32 => lv_has ls 3 [(2, .int zY), (0, .ref (B 0)), (1, .int x)]) (show fpI (runT txt m S) = nI ((runT txt m S).2.2.1) from hf0)) hl
      refine lv_iload_n hx hb dX11_fault_17 rfl (lv_at hl 0 rfl) ?_
      refine lv_ldc (v := (-1000004)) hx hb hown (hts (.constant RX11 43 (-1000004)) (by decide +kernel)) dX11_fault_18 ?_
      refine xr_eq (tgt := 27) hx hb dX11_fault_20 (by decide) (fun c20 => ?_) (fun c20 => ?_)
      · exfalso; omega
      · refine lv_iload_n hx hb dX11_fault_23 rfl (lv_at hl 2 rfl) ?_
        refine xz_ne (tgt := 31) hx hb dX11_fault_24 (by decide) (fun c24 => ?_) (fun c24 => ?_)
        · refine lv_iload_n hx hb dX11_fault_31 rfl (lv_at hl 2 rfl) ?_
          refine lv_iconst (v := nI 1) hx hb dX11_fault_32 (by decide +kernel) ?_
          refine xr_ne (tgt := 43) hx hb dX11_fault_33 (by decide) (fun c33 => ?_) (fun c33 => ?_)
          · refine lv_aload_n hx hb dX11_fault_43 rfl (lv_at hl 1 rfl) ?_
            refine va_get (D := D) (ci := 10) (v := .int y5_13) (C := RX11) (T := TX11) (N := 27) hx hb hts hi_X11_fault_X11 hown hK hP 0 rfl rfl 9 (by decide) (hts (.fieldLink RX11 191 "FallingWordsModel" "cause" "I") (by decide +kernel)) (fun _ h9 => h9) rfl dX11_fault_44 ?_
            refine xt (show y5_13 = csT (runT txt m S) from h45b) ?_
            exact hret _ _ _ _ _ _ dX11_fault_47 ⟨y3_13, y4_13, y5_13, y6_13, y7_13, k8_13, k9_13, k10_13, k11_13, RW'_13, RR'_13, AS'_13, (by unfold fauZ; rw [if_neg (show ¬ ¬ (0 ≤ x.toInt ∧ x.toInt ≤ 2) by omega), if_neg hz0, if_neg (show ¬ x.toInt = 0 by omega), if_neg (show ¬ x.toInt = 1 by omega)]; rfl), rfl⟩ hP hD hS
          · refine lv_aload_n hx hb dX11_fault_36 rfl (lv_at hl 1 rfl) ?_
            refine va_get (D := D) (ci := 10) (v := .int y4_13) (C := RX11) (T := TX11) (N := 27) hx hb hts hi_X11_fault_X11 hown hK hP 0 rfl rfl 8 (by decide) (hts (.fieldLink RX11 220 "FallingWordsModel" "reason" "I") (by decide +kernel)) (fun _ h9 => h9) rfl dX11_fault_37 ?_
            refine xt (show y4_13 = nI ((runT txt m S).1) from h45a) ?_
            refine lv_goto (tgt := 47) hx hb dX11_fault_40 (by decide) ?_
            exact hret _ _ _ _ _ _ dX11_fault_47 ⟨y3_13, y4_13, y5_13, y6_13, y7_13, k8_13, k9_13, k10_13, k11_13, RW'_13, RR'_13, AS'_13, (by unfold fauZ; rw [if_neg (show ¬ ¬ (0 ≤ x.toInt ∧ x.toInt ≤ 2) by omega), if_neg hz0, if_neg (show ¬ x.toInt = 0 by omega), if_pos (show x.toInt = 1 by omega)]), rfl⟩ hP hD hS
        · refine lv_iload_n hx hb dX11_fault_27 rfl (lv_at hl 0 rfl) ?_
          refine lv_goto (tgt := 47) hx hb dX11_fault_28 (by decide) ?_
          exact hret _ _ _ _ _ _ dX11_fault_47 ⟨y3_13, y4_13, y5_13, y6_13, y7_13, k8_13, k9_13, k10_13, k11_13, RW'_13, RR'_13, AS'_13, (by unfold fauZ; rw [if_neg (show ¬ ¬ (0 ≤ x.toInt ∧ x.toInt ≤ 2) by omega), if_neg hz0, if_pos (show x.toInt = 0 by omega)]), rfl⟩ hP hD hS
  · refine lv_ldc (v := (-1000001)) hx hb hown (hts (.constant RX11 78 (-1000001)) (by decide +kernel)) dX11_fault_9 ?_
    have ci := inI_f c6
    exact hret _ _ _ _ _ _ dX11_fault_11 ⟨m3, m4, m5, m6, m7, m8, m9, m10, m11, RW, RR, AS, (by unfold fauZ; rw [if_pos (by omega)]), rfl⟩ hP hD hS

theorem hi_X11_play_X11 : ∀ w ∈ u_ws RX11 TX11 27, w ∈ wsX11_play := by decide +kernel
set_option maxHeartbeats 8000000 in
set_option maxRecDepth 100000 in
theorem k_X11_play (lY : Launch) (D : va_G) (cA : Nat → ClassId) (B : Nat → Nat) (S : St) (WA BG AS TX RW RR FD : Nat → Int32) (m3 m4 m5 m6 m7 m8 m9 m10 m11 m12 m13 m14 m15 m16 m17 m18 m19 : Int32) (h : Nat → St) (n : Nat) (txt : Nat → Nat) (m : Nat) (hn4 : n ≤ 4) (hwas : rWas h n WA) (htx : rTx txt m TX) (hI : IV S) : MetI lY D cA yX11_play wsX11_play 8 185 [.ref (B 0)] (gMo cA B (fN S) WA BG AS TX RW RR FD (nI n) (nI m) m3 m4 m5 m6 m7 m8 m9 m10 m11 m12 m13 m14 m15 m16 m17 m18 m19) (fun rY wY => ∃ (WA' : Nat → Int32) (BG' : Nat → Int32) (y3 : Int32) (y4 : Int32) (y5 : Int32) (y6 : Int32) (y7 : Int32) (k8 : Int32) (k9 : Int32) (k10 : Int32) (k11 : Int32) (RW' : Nat → Int32) (RR' : Nat → Int32) (AS' : Nat → Int32), rY = (plaZ S h n txt m).1 ∧ wY = gMo cA B (fN ((plaZ S h n txt m).2.1)) WA' BG' AS' TX RW' RR' FD (nI ((plaZ S h n txt m).2.2.2)) (nI m) y3 y4 y5 y6 y7 k8 k9 k10 k11 m12 m13 m14 m15 m16 m17 m18 m19 ∧ (rWas (plaZ S h n txt m).2.2.1 (plaZ S h n txt m).2.2.2 WA')) := by
  refine MetI.of (cc := cX11_play) (maxL := 2) (ret := (some .int)) (by decide) rfl (Nat.le_of_ble_eq_true rfl) (Or.inl rfl) ?_
  intro pY eY sY mY aY bY tY cY QY AY ls h0 hP hK hN hD hA hS hl hret
  obtain ⟨hx, hb, hml, hown, hts⟩ := id h0
  have hl : lv_has ls 2 [(0, .ref (B 0))] := hl
  have hP : va_P D vwCl (gMo cA B (fN S) WA BG AS TX RW RR FD (nI n) (nI m) m3 m4 m5 m6 m7 m8 m9 m10 m11 m12 m13 m14 m15 m16 m17 m18 m19) sY.heap := hP
  have hD : va_D AY (gMo cA B (fN S) WA BG AS TX RW RR FD (nI n) (nI m) m3 m4 m5 m6 m7 m8 m9 m10 m11 m12 m13 m14 m15 m16 m17 m18 m19) := hD
  have h80 := htx.1
  have em4 : ((-1000004) : Int32).toInt = -1000004 := rfl
  have hpos := runT_pos (txt := txt) (n := m) (S := S) htx.1
  refine lv_aload_n hx hb dX11_play_0 rfl (lv_at hl 0 rfl) ?_
  refine ci_V (As := []) (rest := []) h0 hK hN hP hD hS hA hl.1 (k_X11_faulty lY D cA B S WA BG AS TX RW RR FD (nI n) m3 m4 m5 m6 m7 m8 m9 m10 m11 m12 m13 m14 m15 m16 m17 m18 m19 txt m (htx) (hI)) [0, 1, 2, 3, 4, 5, 6, 7, 8] rfl (by decide) (cwV 0 hts gX11_play_X11_faulty rfl rfl rfl (by decide +kernel) ⟨Nat.le_of_ble_eq_true rfl, Nat.le_of_ble_eq_true rfl⟩) (cl_recv (ci := 10) (q := (RX11, TX11, 27)) (q0 := 0) hP hK rfl rfl) rfl rfl (Nat.le_of_ble_eq_true rfl) dX11_play_1 ⟨Nat.zero_le _, Nat.zero_le _⟩ (fun rY wY H locs hwY hJ hS => ?_)
  obtain ⟨y3_1, y4_1, y5_1, y6_1, y7_1, k8_1, k9_1, k10_1, k11_1, RW'_1, RR'_1, AS'_1, e1Y, e2Y, ff1_1⟩ := hwY
  have e3Y := e1Y.symm
  clear e1Y
  subst e3Y
  have e3Y := e2Y.symm
  clear e2Y
  subst e3Y
  obtain ⟨hP, hD⟩ := hJ rfl
  have hP : va_P D vwCl (gMo cA B (fN S) WA BG AS'_1 TX RW'_1 RR'_1 FD (nI n) (nI m) y3_1 y4_1 y5_1 y6_1 y7_1 k8_1 k9_1 k10_1 k11_1 m12 m13 m14 m15 m16 m17 m18 m19) H := hP
  have hD : va_D AY (gMo cA B (fN S) WA BG AS'_1 TX RW'_1 RR'_1 FD (nI n) (nI m) y3_1 y4_1 y5_1 y6_1 y7_1 k8_1 k9_1 k10_1 k11_1 m12 m13 m14 m15 m16 m17 m18 m19) := hD
  by_cases hz0 : (runT txt m S).1 = 0
  · have hf0 : fpI (runT txt m S) = (-1000004) := if_pos hz0
    refine xt (show _ = (-1000004) from hf0) ?_
    refine lv_ldc (v := (-1000004)) hx hb hown (hts (.constant RX11 43 (-1000004)) (by decide +kernel)) dX11_play_4 ?_
    refine xr_eq (tgt := 12) hx hb dX11_play_6 (by decide) (fun c6 => ?_) (fun c6 => ?_)
    · refine lv_aload_n hx hb dX11_play_12 rfl (lv_at hl 0 rfl) ?_
      refine cv_V (As := []) (rest := []) h0 hK hN hP hD hS hA hl.1 (k_X11_keeps lY D cA B S WA BG AS'_1 TX RW'_1 RR'_1 FD (nI n) (nI m) y3_1 y4_1 y5_1 y6_1 y7_1 k8_1 k9_1 k10_1 k11_1 m12 m13 m14 m15 m16 m17 m18 m19 ) [0, 1, 2, 3, 4, 5, 6, 7, 8] rfl (by decide) (cwV 0 hts gX11_play_X11_keeps rfl rfl rfl (by decide +kernel) ⟨Nat.le_of_ble_eq_true rfl, Nat.le_of_ble_eq_true rfl⟩) (cl_recv (ci := 10) (q := (RX11, TX11, 27)) (q0 := 0) hP hK rfl rfl) rfl rfl (Nat.le_of_ble_eq_true rfl) dX11_play_13 ⟨Nat.zero_le _, Nat.zero_le _⟩ (fun wY H locs hwY hJ hS => ?_)
      obtain ⟨BG'_13, e2Y, fb_13⟩ := hwY
      have e3Y := e2Y.symm
      clear e2Y
      subst e3Y
      obtain ⟨hP, hD⟩ := hJ rfl
      have hP : va_P D vwCl (gMo cA B (fN S) WA BG'_13 AS'_1 TX RW'_1 RR'_1 FD (nI n) (nI m) y3_1 y4_1 y5_1 y6_1 y7_1 k8_1 k9_1 k10_1 k11_1 m12 m13 m14 m15 m16 m17 m18 m19) H := hP
      have hD : va_D AY (gMo cA B (fN S) WA BG'_13 AS'_1 TX RW'_1 RR'_1 FD (nI n) (nI m) y3_1 y4_1 y5_1 y6_1 y7_1 k8_1 k9_1 k10_1 k11_1 m12 m13 m14 m15 m16 m17 m18 m19) := hD
      refine lv_iconst (v := nI 0) hx hb dX11_play_16 (by decide +kernel) ?_
      refine lv_istore_n (lv' := [(1, .int (nI 0)), (0, .ref (B 0))]) hx hb dX11_play_17 rfl hl (by decide) rfl (fun ls hl => ?_)
      refine lv_aload_n hx hb dX11_play_18 rfl (lv_at hl 1 rfl) ?_
      refine lv_iconst (v := nI 0) hx hb dX11_play_19 (by decide +kernel) ?_
      refine va_put (D := D) (ci := 10) (v := .int (nI 0)) (ty := .int) (C := RX11) (T := TX11) (N := 27) hx hb hts hi_X11_play_X11 tyX11 tyX11_ok nmX11 hown hK hP hD hS 0 rfl rfl 7 (by decide) (hts (.fieldLink RX11 179 "FallingWordsModel" "at" "I") (by decide +kernel)) (fun _ h9 => h9) rfl (by decide +kernel) rfl rfl (Nat.le_of_ble_eq_true rfl) dX11_play_20 (fun H locs hP hD hS => ?_)
      have hP : va_P D vwCl (gMo cA B (fN S) WA BG'_13 AS'_1 TX RW'_1 RR'_1 FD (nI n) (nI m) (nI 0) y4_1 y5_1 y6_1 y7_1 k8_1 k9_1 k10_1 k11_1 m12 m13 m14 m15 m16 m17 m18 m19) H := hP
      have hD : va_D AY (gMo cA B (fN S) WA BG'_13 AS'_1 TX RW'_1 RR'_1 FD (nI n) (nI m) (nI 0) y4_1 y5_1 y6_1 y7_1 k8_1 k9_1 k10_1 k11_1 m12 m13 m14 m15 m16 m17 m18 m19) := hD
      have L23 : ∀ (nY : Nat), ∀ (T : St) (a : Nat) (c : Nat) (f : Nat) (x5 : Int32) (x6 : Int32) (x7 : Int32) (x8 : Int32) (x9 : Int32) (x10 : Int32) (x11 : Int32) (RW1 : Nat → Int32) (RR1 : Nat → Int32), (a ≤ m) → (m - a < f) → (IV T) → (runF txt m f a T c = runT txt m S) → (m - a < nY) → ∀ (H : Heap) (locs : List Loc) (ls : Array Slot), va_P D vwCl (gMo cA B (fN T) WA BG'_13 AS'_1 TX RW1 RR1 FD (nI n) (nI m) (nI a) y4_1 x5 x6 x7 x8 x9 x10 x11 m12 m13 m14 m15 m16 m17 m18 m19) H → va_D AY (gMo cA B (fN T) WA BG'_13 AS'_1 TX RW1 RR1 FD (nI n) (nI m) (nI a) y4_1 x5 x6 x7 x8 x9 x10 x11 m12 m13 m14 m15 m16 m17 m18 m19) → va_S AY sY.heap H locs → lv_has ls 2 [(0, .ref (B 0)), (1, .int (nI c))] → W pY lY eY { frames := 8, cells := 0, slots := 0, locals := 185 } sY mY aY bY tY cY H locs 0 0 QY (F0 mY 23 ls []) := by
        intro nY23
        induction nY23 with
        | zero => intro T a c f x5 x6 x7 x8 x9 x10 x11 RW1 RR1 ham hmf hTI hrun hm23; exact absurd hm23 (Nat.not_lt_zero _)
        | succ nY23 ih23 =>
          intro T a c f x5 x6 x7 x8 x9 x10 x11 RW1 RR1 ham hmf hTI hrun hm23 H locs ls hP hD hS hl
          refine lv_aload_n hx hb dX11_play_23 rfl (lv_at hl 0 rfl) ?_
          refine va_get (D := D) (ci := 10) (v := .int (nI a)) (C := RX11) (T := TX11) (N := 27) hx hb hts hi_X11_play_X11 hown hK hP 0 rfl rfl 7 (by decide) (hts (.fieldLink RX11 179 "FallingWordsModel" "at" "I") (by decide +kernel)) (fun _ h9 => h9) rfl dX11_play_24 ?_
          refine lv_aload_n hx hb dX11_play_27 rfl (lv_at hl 0 rfl) ?_
          refine va_get (D := D) (ci := 10) (v := .int (nI m)) (C := RX11) (T := TX11) (N := 27) hx hb hts hi_X11_play_X11 hown hK hP 0 rfl rfl 6 (by decide) (hts (.fieldLink RX11 176 "FallingWordsModel" "typed" "I") (by decide +kernel)) (fun _ h9 => h9) rfl dX11_play_28 ?_
          refine xc_ge (tgt := 52) hx hb dX11_play_31 (by decide) (by omega) (by omega) (fun c31 => ?_) (fun c31 => ?_)
          · have hR0 : (runT txt m S) = (0, 0, a, c, T) := hrun.symm.trans (runF_0 (by omega) (by omega))
            have eT : T = (runT txt m S).2.2.2.2 := by rw [hR0]
            have ec : c = (runT txt m S).2.2.2.1 := by rw [hR0]
            obtain ⟨hP, hD⟩ := pE (g := fN ((nI (runT txt m S).2.2.2.1, (runT txt m S).2.2.2.2) : Int32 × St).2) hP hD 1 rfl (fun j hj => congrArg nI (congrFun eT j))
            have hl : lv_has ls 2 [(0, .ref (B 0)), (1, .int (nI ((runT txt m S).2.2.2.1)))] := Eq.mp (congrArg (fun zY : Int32 => lv_has ls 2 [(0, .ref (B 0)), (1, .int zY)]) (show nI c = nI ((runT txt m S).2.2.2.1) from congrArg nI ec)) hl
            have hP : va_P D vwCl (gMo cA B (fN ((nI (runT txt m S).2.2.2.1, (runT txt m S).2.2.2.2) : Int32 × St).2) WA BG'_13 AS'_1 TX RW1 RR1 FD (nI n) (nI m) (nI a) y4_1 x5 x6 x7 x8 x9 x10 x11 m12 m13 m14 m15 m16 m17 m18 m19) H := hP
            have hD : va_D AY (gMo cA B (fN ((nI (runT txt m S).2.2.2.1, (runT txt m S).2.2.2.2) : Int32 × St).2) WA BG'_13 AS'_1 TX RW1 RR1 FD (nI n) (nI m) (nI a) y4_1 x5 x6 x7 x8 x9 x10 x11 m12 m13 m14 m15 m16 m17 m18 m19) := hD
            refine lv_aload_n hx hb dX11_play_52 rfl (lv_at hl 0 rfl) ?_
            have ehs : (-1000001 : Int) < (nI (runT txt m S).2.2.2.1).toInt := by rw [nI_toInt (by omega)]; omega
            have hRa : actZ S h n ((nI (runT txt m S).2.2.2.1, (runT txt m S).2.2.2.2) : Int32 × St) = (plaZ S h n txt m) := by unfold actZ plaZ; rw [if_pos hz0, if_pos (show (-1000001 : Int) < ((nI (runT txt m S).2.2.2.1, (runT txt m S).2.2.2.2) : Int32 × St).1.toInt from ehs)]
            refine lv_iload_n hx hb dX11_play_53 rfl (lv_at hl 1 rfl) ?_
            refine ci_V (As := [.int (nI ((runT txt m S).2.2.2.1))]) (rest := []) h0 hK hN hP hD hS hA hl.1 (k_X11_acted lY D cA B S WA BG'_13 AS'_1 TX RW1 RR1 FD (nI m) (nI a) y4_1 x5 x6 x7 x8 x9 x10 x11 m12 m13 m14 m15 m16 m17 m18 m19 ((nI (runT txt m S).2.2.2.1, (runT txt m S).2.2.2.2) : Int32 × St) h n (hn4) (hwas) (fb_13) (fun q => absurd ehs q)) [0, 1, 2, 3, 4, 5, 6, 7, 8] rfl (by decide) (cwV 1 hts gX11_play_X11_acted rfl rfl rfl (by decide +kernel) ⟨Nat.le_of_ble_eq_true rfl, Nat.le_of_ble_eq_true rfl⟩) (cl_recv (ci := 10) (q := (RX11, TX11, 27)) (q0 := 0) hP hK rfl rfl) rfl rfl (Nat.le_of_ble_eq_true rfl) dX11_play_54 ⟨Nat.zero_le _, Nat.zero_le _⟩ (fun rY wY H locs hwY hJ hS => ?_)
            obtain ⟨WA'_54, e1Y, e2Y, fw_54⟩ := hwY
            have e3Y := e1Y.symm
            clear e1Y
            subst e3Y
            have e3Y := e2Y.symm
            clear e2Y
            subst e3Y
            obtain ⟨hP, hD⟩ := hJ rfl
            have hP : va_P D vwCl (gMo cA B (fN ((actZ S h n ((nI (runT txt m S).2.2.2.1, (runT txt m S).2.2.2.2) : Int32 × St)).2.1)) WA'_54 BG'_13 AS'_1 TX RW1 RR1 FD (nI ((actZ S h n ((nI (runT txt m S).2.2.2.1, (runT txt m S).2.2.2.2) : Int32 × St)).2.2.2)) (nI m) (nI a) y4_1 x5 x6 x7 x8 x9 x10 x11 m12 m13 m14 m15 m16 m17 m18 m19) H := hP
            have hD : va_D AY (gMo cA B (fN ((actZ S h n ((nI (runT txt m S).2.2.2.1, (runT txt m S).2.2.2.2) : Int32 × St)).2.1)) WA'_54 BG'_13 AS'_1 TX RW1 RR1 FD (nI ((actZ S h n ((nI (runT txt m S).2.2.2.1, (runT txt m S).2.2.2.2) : Int32 × St)).2.2.2)) (nI m) (nI a) y4_1 x5 x6 x7 x8 x9 x10 x11 m12 m13 m14 m15 m16 m17 m18 m19) := hD
            exact hret _ _ _ _ _ _ dX11_play_57 ⟨WA'_54, BG'_13, ((nI a)), y4_1, x5, x6, x7, x8, x9, x10, x11, RW1, RR1, AS'_1, (by rw [hRa]), (by rw [hRa]), (by rw [← hRa]; exact fw_54)⟩ hP hD hS
          · have hlt : a < m := by omega
            refine lv_iload_n hx hb dX11_play_34 rfl (lv_at hl 1 rfl) ?_
            refine lv_aload_n hx hb dX11_play_35 rfl (lv_at hl 0 rfl) ?_
            refine ci_V (As := []) (rest := [.int (nI c)]) h0 hK hN hP hD hS hA hl.1 (k_X11_doesNext lY D cA B T WA BG'_13 AS'_1 TX RW1 RR1 FD (nI n) y4_1 x5 x6 x7 x8 x9 x10 x11 m12 m13 m14 m15 m16 m17 m18 m19 txt m a (by first | assumption | omega) (hlt) (hTI)) [0, 1, 2, 3, 4, 5, 6, 7, 8] rfl (by decide) (cwV 0 hts gX11_play_X11_doesNext rfl rfl rfl (by decide +kernel) ⟨Nat.le_of_ble_eq_true rfl, Nat.le_of_ble_eq_true rfl⟩) (cl_recv (ci := 10) (q := (RX11, TX11, 27)) (q0 := 0) hP hK rfl rfl) rfl rfl (Nat.le_of_ble_eq_true rfl) dX11_play_36 ⟨Nat.zero_le _, Nat.zero_le _⟩ (fun rY wY H locs hwY hJ hS => ?_)
            obtain ⟨x3_36, x5_36, x6_36, x7_36, k8_36, k9_36, RW'_36, RR'_36, k10_36, k11_36, e1Y, e2Y, fa_36, fc_36⟩ := hwY
            have e3Y := e1Y.symm
            clear e1Y
            subst e3Y
            have e3Y := e2Y.symm
            clear e2Y
            subst e3Y
            obtain ⟨hP, hD⟩ := hJ rfl
            have hP : va_P D vwCl (gMo cA B (fN ((doC txt m a T).2.2)) WA BG'_13 AS'_1 TX RW'_36 RR'_36 FD (nI n) (nI m) x3_36 y4_1 x5_36 x6_36 x7_36 k8_36 k9_36 k10_36 k11_36 m12 m13 m14 m15 m16 m17 m18 m19) H := hP
            have hD : va_D AY (gMo cA B (fN ((doC txt m a T).2.2)) WA BG'_13 AS'_1 TX RW'_36 RR'_36 FD (nI n) (nI m) x3_36 y4_1 x5_36 x6_36 x7_36 k8_36 k9_36 k10_36 k11_36 m12 m13 m14 m15 m16 m17 m18 m19) := hD
            have hd3 := doC_lt (txt := txt) (n := m) (a := a) (S := T)
            refine x0_ne (tgt := 46) hx hb dX11_play_39 (by decide) (by omega) (fun c39 => ?_) (fun c39 => ?_)
            · exact absurd (show (runT txt m S).1 = 0 from hz0) (by rw [← hrun, runF_e hlt (by omega) c39]; exact c39)
            · have hd0 : (doC txt m a T).1 = 0 := c39
              obtain ⟨ou1, ou2⟩ := okP_up hlt hd0
              rw [fa_36 hd0] at hP hD
              have hP : va_P D vwCl (gMo cA B (fN ((doC txt m a T).2.2)) WA BG'_13 AS'_1 TX RW'_36 RR'_36 FD (nI n) (nI m) (nI ((okP txt m a).2)) y4_1 x5_36 x6_36 x7_36 k8_36 k9_36 k10_36 k11_36 m12 m13 m14 m15 m16 m17 m18 m19) H := hP
              have hD : va_D AY (gMo cA B (fN ((doC txt m a T).2.2)) WA BG'_13 AS'_1 TX RW'_36 RR'_36 FD (nI n) (nI m) (nI ((okP txt m a).2)) y4_1 x5_36 x6_36 x7_36 k8_36 k9_36 k10_36 k11_36 m12 m13 m14 m15 m16 m17 m18 m19) := hD
              refine lv_iconst (v := nI 1) hx hb dX11_play_42 (by decide +kernel) ?_
              refine lv_goto (tgt := 47) hx hb dX11_play_43 (by decide) ?_
              refine lv_iadd hx hb dX11_play_47 ?_
              refine xt (show (nI c) + (nI 1) = nI (c + 1) from nI_add _ _) ?_
              refine lv_istore_n (lv' := [(1, .int (nI (c + 1))), (0, .ref (B 0))]) hx hb dX11_play_48 rfl hl (by decide) rfl (fun ls hl => ?_)
              refine lv_goto (tgt := 23) hx hb dX11_play_49 (by decide) ?_
              exact ih23 ((doC txt m a T).2.2) ((okP txt m a).2) (c + 1) (f - 1) x5_36 x6_36 x7_36 k8_36 k9_36 k10_36 k11_36 RW'_36 RR'_36 (by omega) (by omega) (IV_doC hTI hlt) ((runF_s hlt (by omega) hd0).symm.trans hrun) (by omega) _ _ _ hP hD hS (lv_sub hl [1, 0] rfl)
      exact L23 _ S 0 0 81 y5_1 y6_1 y7_1 k8_1 k9_1 k10_1 k11_1 RW'_1 RR'_1 (by omega) (by omega) (hI) (by unfold runT; rw [sl_eq]) (Nat.lt_succ_self _) _ _ _ hP hD hS (lv_sub hl [1, 0] rfl)
    · exact absurd rfl c6
  · have hf0 : fpI (runT txt m S) = nI (runT txt m S).2.2.1 := if_neg hz0
    have ep : (nI (runT txt m S).2.2.1).toInt = ((runT txt m S).2.2.1 : Int) := nI_toInt (by omega)
    refine xt (show _ = nI (runT txt m S).2.2.1 from hf0) ?_
    refine lv_ldc (v := (-1000004)) hx hb hown (hts (.constant RX11 43 (-1000004)) (by decide +kernel)) dX11_play_4 ?_
    refine xr_eq (tgt := 12) hx hb dX11_play_6 (by decide) (fun c6 => ?_) (fun c6 => ?_)
    · exfalso; omega
    · refine lv_ldc (v := (-1000002)) hx hb hown (hts (.constant RX11 103 (-1000002)) (by decide +kernel)) dX11_play_9 ?_
      have hR : (plaZ S h n txt m) = ((-1000002), (S, h, n)) := if_neg hz0
      exact hret _ _ _ _ _ _ dX11_play_11 ⟨WA, BG, y3_1, y4_1, y5_1, y6_1, y7_1, k8_1, k9_1, k10_1, k11_1, RW'_1, RR'_1, AS'_1, (by rw [hR]), (by rw [hR]), (by rw [hR]; exact hwas)⟩ hP hD hS
