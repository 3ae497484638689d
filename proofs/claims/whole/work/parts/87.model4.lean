/-! the reference: steps and normal words -/
theorem i_sub {y : Int32} {n : Nat} (h : 0 ≤ y.toInt - n) (hn : n < 1000) : (y - nI n).toInt = y.toInt - n := by
  have h1 : y.toInt < 2147483648 := Int32.toInt_lt y
  obtain ⟨k, hk, rfl⟩ : ∃ k : Nat, k < 2147483648 ∧ y = nI k := i32_of (by omega) (by omega)
  have e : (nI k).toInt = (k : Int) := nI_toInt hk
  rw [e] at h
  rw [e, pk_sub (by omega), nI_toInt (by omega)]
  omega
theorem stepR_k {S : St} (h : ¬ (-1000001 : Int) < (stepR S).1.toInt) (hc : nrm S (S 0) = false → chr S (S 0) < 10) : (stepR S).2 = S := by
  unfold stepR at h ⊢
  by_cases e : nrm S (S 0) = true
  · rw [if_pos e]
  · rw [if_neg e] at h
    have : (nI (chr S (S 0))).toInt = ((chr S (S 0) : Nat) : Int) := nI_toInt (by have := hc (Bool.not_eq_true _ |>.mp e); omega)
    exfalso
    apply h
    show (-1000001 : Int) < (nI (chr S (S 0))).toInt
    omega
def cfi (p k : Nat) (S T : St) : Prop := ∀ j, T j = if 38 + 2 * k ≤ j ∧ j < 38 + 2 * p then S (j - 2) else S j
theorem cfi_0 {p : Nat} {S : St} : cfi p p S S := fun j => (if_neg (by omega)).symm
theorem cfi_s {p k : Nat} {S T : St} (h : cfi p k S T) (hk : 0 < k) (hp : k ≤ p) : cfi p (k - 1) S (upN (upN T (36 + 2 * k) (S (36 + 2 * k - 2))) (36 + 2 * k + 1) (S (36 + 2 * k - 1))) := by
  intro j
  by_cases e1 : j = 36 + 2 * k + 1
  · rw [e1, upN_s, if_pos (by omega), show 36 + 2 * k + 1 - 2 = 36 + 2 * k - 1 by omega]
  · rw [upN_n e1]
    by_cases e2 : j = 36 + 2 * k
    · rw [e2, upN_s, if_pos (by omega)]
    · rw [upN_n e2, h j]
      by_cases z : 38 + 2 * k ≤ j ∧ j < 38 + 2 * p
      · rw [if_pos z, if_pos (by omega)]
      · rw [if_neg z, if_neg (by omega)]
theorem cfi_e {p : Nat} {S T : St} {w v : Nat} (h : cfi p 0 S T) : upN (upN T 36 w) 37 v = cfs S w v p := by
  funext j
  unfold cfs
  by_cases e1 : j = 37
  · rw [e1, upN_s, if_neg (by decide), if_pos rfl]
  · rw [upN_n e1]
    by_cases e2 : j = 36
    · rw [e2, upN_s, if_pos rfl]
    · rw [upN_n e2, h j, if_neg e2, if_neg e1]
theorem cfs_36 {S : St} {w v p : Nat} : cfs S w v p 36 = w := if_pos rfl
theorem cfs_37 {S : St} {w v p : Nat} : cfs S w v p 37 = v := by unfold cfs; rw [if_neg (by decide), if_pos rfl]
theorem normR_f {S : St} (h : fs S (S 0) < S 3) : normR S = (0, tkS S (fs S (S 0))) := if_pos h
theorem normR_z {S : St} (h : ¬ fs S (S 0) < S 3) (h2 : (red S (S 0)).1 = 0) : normR S = (nI (red S (S 0)).2.1, nmS S) := by unfold normR; rw [if_neg h, if_pos h2]
theorem normR_r {S : St} (h : ¬ fs S (S 0) < S 3) (h2 : (red S (S 0)).1 = 1) : normR S = ((-1000002), S) := by unfold normR; rw [if_neg h, if_neg (by omega), if_pos h2]
theorem normR_g {S : St} (h : ¬ fs S (S 0) < S 3) (h2 : (red S (S 0)).1 ≠ 0) (h3 : (red S (S 0)).1 ≠ 1) : normR S = ((-1000003), S) := by unfold normR; rw [if_neg h, if_neg h2, if_neg h3]
theorem normR_k {S : St} (hI : IR S) (hw : vw 12 (S 0)) (h : ¬ (-1000001 : Int) < (normR S).1.toInt) : (normR S).2 = S := by
  by_cases e : fs S (S 0) < S 3
  · rw [normR_f e] at h
    exact absurd (show (-1000001 : Int) < (0 : Int32).toInt by decide) h
  · by_cases e2 : (red S (S 0)).1 = 0
    · rw [normR_z e e2] at h
      obtain ⟨z1, -⟩ := red_ok hI hw
      have e3 : (nI (red S (S 0)).2.1).toInt = ((red S (S 0)).2.1 : Int) := nI_toInt (by omega)
      exact absurd (show (-1000001 : Int) < (nI (red S (S 0)).2.1).toInt by omega) h
    · by_cases e4 : (red S (S 0)).1 = 1
      · rw [normR_r e e4]
      · rw [normR_g e e2 e4]

theorem hi_X11_ruleOf_X11 : ∀ w ∈ u_ws RX11 TX11 27, w ∈ wsX11_ruleOf := by decide +kernel
set_option maxHeartbeats 1000000 in
set_option maxRecDepth 100000 in
theorem k_X11_ruleOf (lY : Launch) (D : va_G) (cA : Nat → ClassId) (B : Nat → Nat) (S : St) (WA BG AS TX RW RR FD : Nat → Int32) (m1 m2 m3 m4 m5 m6 m7 m8 m9 m10 m11 m12 m13 m14 m15 m16 m17 m18 m19 : Int32) (x y : Int32) (hI : IR S) (hw : vw 12 (S 0)) : MetI lY D cA yX11_ruleOf wsX11_ruleOf 3 70 [.ref (B 0), .int x, .int y] (gMo cA B (fN S) WA BG AS TX RW RR FD m1 m2 m3 m4 m5 m6 m7 m8 m9 m10 m11 m12 m13 m14 m15 m16 m17 m18 m19) (fun rY wY => rY = ruleZ S x y ∧ wY = gMo cA B (fN S) WA BG AS TX RW RR FD m1 m2 m3 m4 m5 m6 m7 m8 m9 m10 m11 m12 m13 m14 m15 m16 m17 m18 m19) := by
  refine MetI.of (cc := cX11_ruleOf) (maxL := 3) (ret := (some .int)) (by decide) rfl (Nat.le_of_ble_eq_true rfl) (Or.inl rfl) ?_
  intro pY eY sY mY aY bY tY cY QY AY ls h0 hP hK hN hD hA hS hl hret
  obtain ⟨hx, hb, hml, hown, hts⟩ := id h0
  have hl : lv_has ls 3 [(0, .ref (B 0)), (1, .int x), (2, .int y)] := hl
  have hP : va_P D vwCl (gMo cA B (fN S) WA BG AS TX RW RR FD m1 m2 m3 m4 m5 m6 m7 m8 m9 m10 m11 m12 m13 m14 m15 m16 m17 m18 m19) sY.heap := hP
  have hD : va_D AY (gMo cA B (fN S) WA BG AS TX RW RR FD m1 m2 m3 m4 m5 m6 m7 m8 m9 m10 m11 m12 m13 m14 m15 m16 m17 m18 m19) := hD
  have h10 := hI.1
  have e0 : (nI 0).toInt = 0 := rfl
  have e4 : (nI 4).toInt = 4 := rfl
  have e10 : (nI 10).toInt = 10 := rfl
  have e13 : (nI 13).toInt = 13 := rfl
  have e20 : (nI 20).toInt = 20 := rfl
  have e23 : (nI 23).toInt = 23 := rfl
  refine lv_aload_n hx hb dX11_ruleOf_0 rfl (lv_at hl 0 rfl) ?_
  refine lv_iload_n hx hb dX11_ruleOf_1 rfl (lv_at hl 1 rfl) ?_
  refine ci_V (As := [.int x]) (rest := []) h0 hK hN hP hD hS hA hl.1 (k_X11_isRule lY D cA B S WA BG AS TX RW RR FD m1 m2 m3 m4 m5 m6 m7 m8 m9 m10 m11 m12 m13 m14 m15 m16 m17 m18 m19 x (h10)) [0, 1, 2, 3, 4, 5, 6, 7, 8] rfl (by decide) (cwV 1 hts gX11_ruleOf_X11_isRule rfl rfl rfl (by decide +kernel) ⟨Nat.le_of_ble_eq_true rfl, Nat.le_of_ble_eq_true rfl⟩) (cl_recv (ci := 10) (q := (RX11, TX11, 27)) (q0 := 0) hP hK rfl rfl) rfl rfl (Nat.le_of_ble_eq_true rfl) dX11_ruleOf_2 ⟨Nat.zero_le _, Nat.zero_le _⟩ (fun rY wY H locs hwY hJ hS => ?_)
  obtain ⟨e1Y, e2Y⟩ := hwY
  have e3Y := e1Y.symm
  clear e1Y
  subst e3Y
  have e3Y := e2Y.symm
  clear e2Y
  subst e3Y
  obtain ⟨hP, hD⟩ := hJ rfl
  have hP : va_P D vwCl (gMo cA B (fN S) WA BG AS TX RW RR FD m1 m2 m3 m4 m5 m6 m7 m8 m9 m10 m11 m12 m13 m14 m15 m16 m17 m18 m19) H := hP
  have hD : va_D AY (gMo cA B (fN S) WA BG AS TX RW RR FD m1 m2 m3 m4 m5 m6 m7 m8 m9 m10 m11 m12 m13 m14 m15 m16 m17 m18 m19) := hD
  refine xb_eq (tgt := 39) hx hb dX11_ruleOf_5 (by decide) (fun c5 => ?_) (fun c5 => ?_)
  · refine lv_ldc (v := (-1000001)) hx hb hown (hts (.constant RX11 78 (-1000001)) (by decide +kernel)) dX11_ruleOf_39 ?_
    exact hret _ _ _ _ _ _ dX11_ruleOf_41 ⟨(by unfold ruleZ; rw [c5]; rfl), rfl⟩ hP hD hS
  · obtain ⟨g, hg, rfl⟩ := inR_of c5
    refine lv_iload_n hx hb dX11_ruleOf_8 rfl (lv_at hl 2 rfl) ?_
    have L42 :  ((0 ≤ y.toInt ∧ y.toInt ≤ 4) ∨ (10 ≤ y.toInt ∧ y.toInt ≤ 13) ∨ (20 ≤ y.toInt ∧ y.toInt ≤ 23)) → ∀ (H : Heap) (locs : List Loc) (ls : Array Slot), va_P D vwCl (gMo cA B (fN S) WA BG AS TX RW RR FD m1 m2 m3 m4 m5 m6 m7 m8 m9 m10 m11 m12 m13 m14 m15 m16 m17 m18 m19) H → va_D AY (gMo cA B (fN S) WA BG AS TX RW RR FD m1 m2 m3 m4 m5 m6 m7 m8 m9 m10 m11 m12 m13 m14 m15 m16 m17 m18 m19) → va_S AY sY.heap H locs → lv_has ls 3 [(0, .ref (B 0)), (1, .int (nI g)), (2, .int y)] → W pY lY eY { frames := 3, cells := 0, slots := 0, locals := 70 } sY mY aY bY tY cY H locs 0 0 QY (F0 mY 42 ls []) := by
      intro hy H locs ls hP hD hS hl
      obtain ⟨v1, v2, v3, v4⟩ := hI.2.2 g hg
      have l1 := v1.2
      have l2 := v2.2
      have eg : (nI g).toInt.toNat = g := by rw [nI_toInt (by omega), Int.toNat_natCast]
      refine lv_iload_n hx hb dX11_ruleOf_42 rfl (lv_at hl 2 rfl) ?_
      by_cases s43_0 : y.toInt = 0
      · have e43 : (y : Int32).toInt = 0 := s43_0
        refine lv_tableIn (off := 33) (tgt := 76) hx hb dX11_ruleOf_43 (by rw [e43]; decide) (by rw [e43]; decide) (by rw [e43]; rfl) (by decide) ?_
        refine lv_aload_n hx hb dX11_ruleOf_76 rfl (lv_at hl 0 rfl) ?_
        refine lv_iload_n hx hb dX11_ruleOf_77 rfl (lv_at hl 1 rfl) ?_
        refine ci_V (As := [.int (nI g)]) (rest := []) h0 hK hN hP hD hS hA hl.1 (k_X11_left lY D cA B S WA BG AS TX RW RR FD m1 m2 m3 m4 m5 m6 m7 m8 m9 m10 m11 m12 m13 m14 m15 m16 m17 m18 m19 g (by omega)) [0, 1, 2, 3, 4, 5, 6, 7, 8] rfl (by decide) (cwV 1 hts gX11_ruleOf_X11_left rfl rfl rfl (by decide +kernel) ⟨Nat.le_of_ble_eq_true rfl, Nat.le_of_ble_eq_true rfl⟩) (cl_recv (ci := 10) (q := (RX11, TX11, 27)) (q0 := 0) hP hK rfl rfl) rfl rfl (Nat.le_of_ble_eq_true rfl) dX11_ruleOf_78 ⟨Nat.zero_le _, Nat.zero_le _⟩ (fun rY wY H locs hwY hJ hS => ?_)
        obtain ⟨e1Y, e2Y⟩ := hwY
        have e3Y := e1Y.symm
        clear e1Y
        subst e3Y
        have e3Y := e2Y.symm
        clear e2Y
        subst e3Y
        obtain ⟨hP, hD⟩ := hJ rfl
        have hP : va_P D vwCl (gMo cA B (fN S) WA BG AS TX RW RR FD m1 m2 m3 m4 m5 m6 m7 m8 m9 m10 m11 m12 m13 m14 m15 m16 m17 m18 m19) H := hP
        have hD : va_D AY (gMo cA B (fN S) WA BG AS TX RW RR FD m1 m2 m3 m4 m5 m6 m7 m8 m9 m10 m11 m12 m13 m14 m15 m16 m17 m18 m19) := hD
        refine ci_S (As := [.int (nI (lf S g))]) (rest := []) h0 hK hN hP hD hS hA hl.1 (k_X11_length lY D cA (lf S g) (v1.1) (by omega)) [] rfl (by decide) (va_cwS 1 hts gX11_ruleOf_X11_length rfl rfl rfl (by decide +kernel) ⟨Nat.le_of_ble_eq_true rfl, Nat.le_of_ble_eq_true rfl⟩) rfl rfl (Nat.le_of_ble_eq_true rfl) dX11_ruleOf_81 ⟨Nat.zero_le _, Nat.zero_le _⟩ (fun rY wY H locs hwY hJ hS => ?_)
        obtain ⟨e1Y, e2Y⟩ := hwY
        have e3Y := e1Y.symm
        clear e1Y
        subst e3Y
        have e3Y := e2Y.symm
        clear e2Y
        subst e3Y
        obtain ⟨hP, hD⟩ := hJ rfl
        have hP : va_P D vwCl (gMo cA B (fN S) WA BG AS TX RW RR FD m1 m2 m3 m4 m5 m6 m7 m8 m9 m10 m11 m12 m13 m14 m15 m16 m17 m18 m19) H := hP
        have hD : va_D AY (gMo cA B (fN S) WA BG AS TX RW RR FD m1 m2 m3 m4 m5 m6 m7 m8 m9 m10 m11 m12 m13 m14 m15 m16 m17 m18 m19) := hD
        exact hret _ _ _ _ _ _ dX11_ruleOf_84 ⟨(by unfold ruleZ; rw [if_pos c5, show isL y 10 4 = false from decide_eq_false (by omega), show isL y 20 4 = false from decide_eq_false (by omega), eg, if_neg (by decide), if_neg (by decide), if_pos (show y.toInt = 0 by omega)]), rfl⟩ hP hD hS
      by_cases s43_1 : y.toInt = 1
      · have e43 : (y : Int32).toInt = 1 := s43_1
        refine lv_tableIn (off := 42) (tgt := 85) hx hb dX11_ruleOf_43 (by rw [e43]; decide) (by rw [e43]; decide) (by rw [e43]; rfl) (by decide) ?_
        refine lv_aload_n hx hb dX11_ruleOf_85 rfl (lv_at hl 0 rfl) ?_
        refine lv_iload_n hx hb dX11_ruleOf_86 rfl (lv_at hl 1 rfl) ?_
        refine ci_V (As := [.int (nI g)]) (rest := []) h0 hK hN hP hD hS hA hl.1 (k_X11_right lY D cA B S WA BG AS TX RW RR FD m1 m2 m3 m4 m5 m6 m7 m8 m9 m10 m11 m12 m13 m14 m15 m16 m17 m18 m19 g (by omega)) [0, 1, 2, 3, 4, 5, 6, 7, 8] rfl (by decide) (cwV 1 hts gX11_ruleOf_X11_right rfl rfl rfl (by decide +kernel) ⟨Nat.le_of_ble_eq_true rfl, Nat.le_of_ble_eq_true rfl⟩) (cl_recv (ci := 10) (q := (RX11, TX11, 27)) (q0 := 0) hP hK rfl rfl) rfl rfl (Nat.le_of_ble_eq_true rfl) dX11_ruleOf_87 ⟨Nat.zero_le _, Nat.zero_le _⟩ (fun rY wY H locs hwY hJ hS => ?_)
        obtain ⟨e1Y, e2Y⟩ := hwY
        have e3Y := e1Y.symm
        clear e1Y
        subst e3Y
        have e3Y := e2Y.symm
        clear e2Y
        subst e3Y
        obtain ⟨hP, hD⟩ := hJ rfl
        have hP : va_P D vwCl (gMo cA B (fN S) WA BG AS TX RW RR FD m1 m2 m3 m4 m5 m6 m7 m8 m9 m10 m11 m12 m13 m14 m15 m16 m17 m18 m19) H := hP
        have hD : va_D AY (gMo cA B (fN S) WA BG AS TX RW RR FD m1 m2 m3 m4 m5 m6 m7 m8 m9 m10 m11 m12 m13 m14 m15 m16 m17 m18 m19) := hD
        refine ci_S (As := [.int (nI (rt S g))]) (rest := []) h0 hK hN hP hD hS hA hl.1 (k_X11_length lY D cA (rt S g) (v2.1) (by omega)) [] rfl (by decide) (va_cwS 1 hts gX11_ruleOf_X11_length rfl rfl rfl (by decide +kernel) ⟨Nat.le_of_ble_eq_true rfl, Nat.le_of_ble_eq_true rfl⟩) rfl rfl (Nat.le_of_ble_eq_true rfl) dX11_ruleOf_90 ⟨Nat.zero_le _, Nat.zero_le _⟩ (fun rY wY H locs hwY hJ hS => ?_)
        obtain ⟨e1Y, e2Y⟩ := hwY
        have e3Y := e1Y.symm
        clear e1Y
        subst e3Y
        have e3Y := e2Y.symm
        clear e2Y
        subst e3Y
        obtain ⟨hP, hD⟩ := hJ rfl
        have hP : va_P D vwCl (gMo cA B (fN S) WA BG AS TX RW RR FD m1 m2 m3 m4 m5 m6 m7 m8 m9 m10 m11 m12 m13 m14 m15 m16 m17 m18 m19) H := hP
        have hD : va_D AY (gMo cA B (fN S) WA BG AS TX RW RR FD m1 m2 m3 m4 m5 m6 m7 m8 m9 m10 m11 m12 m13 m14 m15 m16 m17 m18 m19) := hD
        exact hret _ _ _ _ _ _ dX11_ruleOf_93 ⟨(by unfold ruleZ; rw [if_pos c5, show isL y 10 4 = false from decide_eq_false (by omega), show isL y 20 4 = false from decide_eq_false (by omega), eg, if_neg (by decide), if_neg (by decide), if_neg (show ¬ y.toInt = 0 by omega), if_pos (show y.toInt = 1 by omega)]), rfl⟩ hP hD hS
      by_cases s43_2 : y.toInt = 2
      · have e43 : (y : Int32).toInt = 2 := s43_2
        refine lv_tableIn (off := 51) (tgt := 94) hx hb dX11_ruleOf_43 (by rw [e43]; decide) (by rw [e43]; decide) (by rw [e43]; rfl) (by decide) ?_
        refine lv_aload_n hx hb dX11_ruleOf_94 rfl (lv_at hl 0 rfl) ?_
        refine lv_iload_n hx hb dX11_ruleOf_95 rfl (lv_at hl 1 rfl) ?_
        refine ci_V (As := [.int (nI g)]) (rest := []) h0 hK hN hP hD hS hA hl.1 (k_X11_right lY D cA B S WA BG AS TX RW RR FD m1 m2 m3 m4 m5 m6 m7 m8 m9 m10 m11 m12 m13 m14 m15 m16 m17 m18 m19 g (by omega)) [0, 1, 2, 3, 4, 5, 6, 7, 8] rfl (by decide) (cwV 1 hts gX11_ruleOf_X11_right rfl rfl rfl (by decide +kernel) ⟨Nat.le_of_ble_eq_true rfl, Nat.le_of_ble_eq_true rfl⟩) (cl_recv (ci := 10) (q := (RX11, TX11, 27)) (q0 := 0) hP hK rfl rfl) rfl rfl (Nat.le_of_ble_eq_true rfl) dX11_ruleOf_96 ⟨Nat.zero_le _, Nat.zero_le _⟩ (fun rY wY H locs hwY hJ hS => ?_)
        obtain ⟨e1Y, e2Y⟩ := hwY
        have e3Y := e1Y.symm
        clear e1Y
        subst e3Y
        have e3Y := e2Y.symm
        clear e2Y
        subst e3Y
        obtain ⟨hP, hD⟩ := hJ rfl
        have hP : va_P D vwCl (gMo cA B (fN S) WA BG AS TX RW RR FD m1 m2 m3 m4 m5 m6 m7 m8 m9 m10 m11 m12 m13 m14 m15 m16 m17 m18 m19) H := hP
        have hD : va_D AY (gMo cA B (fN S) WA BG AS TX RW RR FD m1 m2 m3 m4 m5 m6 m7 m8 m9 m10 m11 m12 m13 m14 m15 m16 m17 m18 m19) := hD
        refine ci_S (As := [.int (nI (rt S g))]) (rest := []) h0 hK hN hP hD hS hA hl.1 (k_X11_length lY D cA (rt S g) (v2.1) (by omega)) [] rfl (by decide) (va_cwS 1 hts gX11_ruleOf_X11_length rfl rfl rfl (by decide +kernel) ⟨Nat.le_of_ble_eq_true rfl, Nat.le_of_ble_eq_true rfl⟩) rfl rfl (Nat.le_of_ble_eq_true rfl) dX11_ruleOf_99 ⟨Nat.zero_le _, Nat.zero_le _⟩ (fun rY wY H locs hwY hJ hS => ?_)
        obtain ⟨e1Y, e2Y⟩ := hwY
        have e3Y := e1Y.symm
        clear e1Y
        subst e3Y
        have e3Y := e2Y.symm
        clear e2Y
        subst e3Y
        obtain ⟨hP, hD⟩ := hJ rfl
        have hP : va_P D vwCl (gMo cA B (fN S) WA BG AS TX RW RR FD m1 m2 m3 m4 m5 m6 m7 m8 m9 m10 m11 m12 m13 m14 m15 m16 m17 m18 m19) H := hP
        have hD : va_D AY (gMo cA B (fN S) WA BG AS TX RW RR FD m1 m2 m3 m4 m5 m6 m7 m8 m9 m10 m11 m12 m13 m14 m15 m16 m17 m18 m19) := hD
        refine lv_aload_n hx hb dX11_ruleOf_102 rfl (lv_at hl 0 rfl) ?_
        refine lv_iload_n hx hb dX11_ruleOf_103 rfl (lv_at hl 1 rfl) ?_
        refine ci_V (As := [.int (nI g)]) (rest := [.int (nI (len (rt S g)))]) h0 hK hN hP hD hS hA hl.1 (k_X11_left lY D cA B S WA BG AS TX RW RR FD m1 m2 m3 m4 m5 m6 m7 m8 m9 m10 m11 m12 m13 m14 m15 m16 m17 m18 m19 g (by omega)) [0, 1, 2, 3, 4, 5, 6, 7, 8] rfl (by decide) (cwV 1 hts gX11_ruleOf_X11_left rfl rfl rfl (by decide +kernel) ⟨Nat.le_of_ble_eq_true rfl, Nat.le_of_ble_eq_true rfl⟩) (cl_recv (ci := 10) (q := (RX11, TX11, 27)) (q0 := 0) hP hK rfl rfl) rfl rfl (Nat.le_of_ble_eq_true rfl) dX11_ruleOf_104 ⟨Nat.zero_le _, Nat.zero_le _⟩ (fun rY wY H locs hwY hJ hS => ?_)
        obtain ⟨e1Y, e2Y⟩ := hwY
        have e3Y := e1Y.symm
        clear e1Y
        subst e3Y
        have e3Y := e2Y.symm
        clear e2Y
        subst e3Y
        obtain ⟨hP, hD⟩ := hJ rfl
        have hP : va_P D vwCl (gMo cA B (fN S) WA BG AS TX RW RR FD m1 m2 m3 m4 m5 m6 m7 m8 m9 m10 m11 m12 m13 m14 m15 m16 m17 m18 m19) H := hP
        have hD : va_D AY (gMo cA B (fN S) WA BG AS TX RW RR FD m1 m2 m3 m4 m5 m6 m7 m8 m9 m10 m11 m12 m13 m14 m15 m16 m17 m18 m19) := hD
        refine ci_S (As := [.int (nI (lf S g))]) (rest := [.int (nI (len (rt S g)))]) h0 hK hN hP hD hS hA hl.1 (k_X11_length lY D cA (lf S g) (v1.1) (by omega)) [] rfl (by decide) (va_cwS 1 hts gX11_ruleOf_X11_length rfl rfl rfl (by decide +kernel) ⟨Nat.le_of_ble_eq_true rfl, Nat.le_of_ble_eq_true rfl⟩) rfl rfl (Nat.le_of_ble_eq_true rfl) dX11_ruleOf_107 ⟨Nat.zero_le _, Nat.zero_le _⟩ (fun rY wY H locs hwY hJ hS => ?_)
        obtain ⟨e1Y, e2Y⟩ := hwY
        have e3Y := e1Y.symm
        clear e1Y
        subst e3Y
        have e3Y := e2Y.symm
        clear e2Y
        subst e3Y
        obtain ⟨hP, hD⟩ := hJ rfl
        have hP : va_P D vwCl (gMo cA B (fN S) WA BG AS TX RW RR FD m1 m2 m3 m4 m5 m6 m7 m8 m9 m10 m11 m12 m13 m14 m15 m16 m17 m18 m19) H := hP
        have hD : va_D AY (gMo cA B (fN S) WA BG AS TX RW RR FD m1 m2 m3 m4 m5 m6 m7 m8 m9 m10 m11 m12 m13 m14 m15 m16 m17 m18 m19) := hD
        refine xc_ge (tgt := 117) hx hb dX11_ruleOf_110 (by decide) (by omega) (by omega) (fun c110 => ?_) (fun c110 => ?_)
        · refine lv_iconst (v := nI 0) hx hb dX11_ruleOf_117 (by decide +kernel) ?_
          exact hret _ _ _ _ _ _ dX11_ruleOf_118 ⟨(by unfold ruleZ; rw [if_pos c5, show isL y 10 4 = false from decide_eq_false (by omega), show isL y 20 4 = false from decide_eq_false (by omega), eg, if_neg (by decide), if_neg (by decide), if_neg (show ¬ y.toInt = 0 by omega), if_neg (show ¬ y.toInt = 1 by omega), if_pos (show y.toInt = 2 by omega), decide_eq_false (by omega)]; rfl), rfl⟩ hP hD hS
        · refine lv_iconst (v := nI 1) hx hb dX11_ruleOf_113 (by decide +kernel) ?_
          refine lv_goto (tgt := 118) hx hb dX11_ruleOf_114 (by decide) ?_
          exact hret _ _ _ _ _ _ dX11_ruleOf_118 ⟨(by unfold ruleZ; rw [if_pos c5, show isL y 10 4 = false from decide_eq_false (by omega), show isL y 20 4 = false from decide_eq_false (by omega), eg, if_neg (by decide), if_neg (by decide), if_neg (show ¬ y.toInt = 0 by omega), if_neg (show ¬ y.toInt = 1 by omega), if_pos (show y.toInt = 2 by omega), decide_eq_true (by omega)]; rfl), rfl⟩ hP hD hS
      by_cases s43_3 : y.toInt = 3
      · have e43 : (y : Int32).toInt = 3 := s43_3
        refine lv_tableIn (off := 76) (tgt := 119) hx hb dX11_ruleOf_43 (by rw [e43]; decide) (by rw [e43]; decide) (by rw [e43]; rfl) (by decide) ?_
        refine lv_aload_n hx hb dX11_ruleOf_119 rfl (lv_at hl 0 rfl) ?_
        refine lv_iload_n hx hb dX11_ruleOf_120 rfl (lv_at hl 1 rfl) ?_
        refine ci_V (As := [.int (nI g)]) (rest := []) h0 hK hN hP hD hS hA hl.1 (k_X11_places lY D cA B S WA BG AS TX RW RR FD m1 m2 m3 m4 m5 m6 m7 m8 m9 m10 m11 m12 m13 m14 m15 m16 m17 m18 m19 g (hI) (hw) (hg)) [0, 1, 2, 3, 4, 5, 6, 7, 8] rfl (by decide) (cwV 1 hts gX11_ruleOf_X11_places rfl rfl rfl (by decide +kernel) ⟨Nat.le_of_ble_eq_true rfl, Nat.le_of_ble_eq_true rfl⟩) (cl_recv (ci := 10) (q := (RX11, TX11, 27)) (q0 := 0) hP hK rfl rfl) rfl rfl (Nat.le_of_ble_eq_true rfl) dX11_ruleOf_121 ⟨Nat.zero_le _, Nat.zero_le _⟩ (fun rY wY H locs hwY hJ hS => ?_)
        obtain ⟨e1Y, e2Y⟩ := hwY
        have e3Y := e1Y.symm
        clear e1Y
        subst e3Y
        have e3Y := e2Y.symm
        clear e2Y
        subst e3Y
        obtain ⟨hP, hD⟩ := hJ rfl
        have hP : va_P D vwCl (gMo cA B (fN S) WA BG AS TX RW RR FD m1 m2 m3 m4 m5 m6 m7 m8 m9 m10 m11 m12 m13 m14 m15 m16 m17 m18 m19) H := hP
        have hD : va_D AY (gMo cA B (fN S) WA BG AS TX RW RR FD m1 m2 m3 m4 m5 m6 m7 m8 m9 m10 m11 m12 m13 m14 m15 m16 m17 m18 m19) := hD
        exact hret _ _ _ _ _ _ dX11_ruleOf_124 ⟨(by unfold ruleZ; rw [if_pos c5, show isL y 10 4 = false from decide_eq_false (by omega), show isL y 20 4 = false from decide_eq_false (by omega), eg, if_neg (by decide), if_neg (by decide), if_neg (show ¬ y.toInt = 0 by omega), if_neg (show ¬ y.toInt = 1 by omega), if_neg (show ¬ y.toInt = 2 by omega), if_pos (show y.toInt = 3 by omega)]), rfl⟩ hP hD hS
      by_cases s43_4 : y.toInt = 4
      · have e43 : (y : Int32).toInt = 4 := s43_4
        refine lv_tableIn (off := 82) (tgt := 125) hx hb dX11_ruleOf_43 (by rw [e43]; decide) (by rw [e43]; decide) (by rw [e43]; rfl) (by decide) ?_
        refine lv_aload_n hx hb dX11_ruleOf_125 rfl (lv_at hl 0 rfl) ?_
        refine va_get (D := D) (ci := 10) (v := .ref (B 1)) (C := RX11) (T := TX11) (N := 27) hx hb hts hi_X11_ruleOf_X11 hown hK hP 0 rfl rfl 0 (by decide) (hts (.fieldLink RX11 7 "FallingWordsModel" "s" "[I") (by decide +kernel)) (fun _ h9 => h9) rfl dX11_ruleOf_126 ?_
        refine lv_bipush (v := nI 6) hx hb dX11_ruleOf_129 (by decide +kernel) ?_
        refine lv_iconst (v := nI 3) hx hb dX11_ruleOf_131 (by decide +kernel) ?_
        refine lv_iload_n hx hb dX11_ruleOf_132 rfl (lv_at hl 1 rfl) ?_
        refine lv_imul hx hb dX11_ruleOf_133 ?_
        refine xt (show (nI 3) * (nI g) = nI (3 * g) from pk_mul _ _) ?_
        refine lv_iadd hx hb dX11_ruleOf_134 ?_
        refine xt (show (nI 6) + (nI (3 * g)) = nI (6 + (3 * g)) from nI_add _ _) ?_
        refine lv_iconst (v := nI 2) hx hb dX11_ruleOf_135 (by decide +kernel) ?_
        refine lv_iadd hx hb dX11_ruleOf_136 ?_
        refine xt (show (nI (6 + (3 * g))) + (nI 2) = nI (6 + (3 * g) + 2) from nI_add _ _) ?_
        refine xa_ld (v := nI (S (6 + (3 * g) + 2))) hx hb hK hP 1 rfl (by omega) (by decide) (rfl) dX11_ruleOf_137 ?_
        exact hret _ _ _ _ _ _ dX11_ruleOf_138 ⟨(by unfold ruleZ; rw [if_pos c5, show isL y 10 4 = false from decide_eq_false (by omega), show isL y 20 4 = false from decide_eq_false (by omega), eg, if_neg (by decide), if_neg (by decide), if_neg (show ¬ y.toInt = 0 by omega), if_neg (show ¬ y.toInt = 1 by omega), if_neg (show ¬ y.toInt = 2 by omega), if_neg (show ¬ y.toInt = 3 by omega), if_pos (show y.toInt = 4 by omega)]; rfl), rfl⟩ hP hD hS
      refine lv_tableOut (tgt := 139) hx hb dX11_ruleOf_43 (by omega) (by decide) ?_
      refine lv_iload_n hx hb dX11_ruleOf_139 rfl (lv_at hl 2 rfl) ?_
      refine lv_bipush (v := nI 20) hx hb dX11_ruleOf_140 (by decide +kernel) ?_
      refine xr_ge (tgt := 160) hx hb dX11_ruleOf_142 (by decide) (fun c142 => ?_) (fun c142 => ?_)
      · refine lv_aload_n hx hb dX11_ruleOf_160 rfl (lv_at hl 0 rfl) ?_
        refine lv_iload_n hx hb dX11_ruleOf_161 rfl (lv_at hl 1 rfl) ?_
        refine ci_V (As := [.int (nI g)]) (rest := []) h0 hK hN hP hD hS hA hl.1 (k_X11_right lY D cA B S WA BG AS TX RW RR FD m1 m2 m3 m4 m5 m6 m7 m8 m9 m10 m11 m12 m13 m14 m15 m16 m17 m18 m19 g (by omega)) [0, 1, 2, 3, 4, 5, 6, 7, 8] rfl (by decide) (cwV 1 hts gX11_ruleOf_X11_right rfl rfl rfl (by decide +kernel) ⟨Nat.le_of_ble_eq_true rfl, Nat.le_of_ble_eq_true rfl⟩) (cl_recv (ci := 10) (q := (RX11, TX11, 27)) (q0 := 0) hP hK rfl rfl) rfl rfl (Nat.le_of_ble_eq_true rfl) dX11_ruleOf_162 ⟨Nat.zero_le _, Nat.zero_le _⟩ (fun rY wY H locs hwY hJ hS => ?_)
        obtain ⟨e1Y, e2Y⟩ := hwY
        have e3Y := e1Y.symm
        clear e1Y
        subst e3Y
        have e3Y := e2Y.symm
        clear e2Y
        subst e3Y
        obtain ⟨hP, hD⟩ := hJ rfl
        have hP : va_P D vwCl (gMo cA B (fN S) WA BG AS TX RW RR FD m1 m2 m3 m4 m5 m6 m7 m8 m9 m10 m11 m12 m13 m14 m15 m16 m17 m18 m19) H := hP
        have hD : va_D AY (gMo cA B (fN S) WA BG AS TX RW RR FD m1 m2 m3 m4 m5 m6 m7 m8 m9 m10 m11 m12 m13 m14 m15 m16 m17 m18 m19) := hD
        refine lv_iload_n hx hb dX11_ruleOf_165 rfl (lv_at hl 2 rfl) ?_
        refine lv_bipush (v := nI 20) hx hb dX11_ruleOf_166 (by decide +kernel) ?_
        refine lv_isub hx hb dX11_ruleOf_168 ?_
        have ey : (y - nI 20).toInt = y.toInt - 20 := i_sub (by omega) (by omega)
        refine ci_S (As := [.int (nI (rt S g)), .int (y - (nI 20))]) (rest := []) h0 hK hN hP hD hS hA hl.1 (k_X11_letterOf lY D cA (rt S g) (y - (nI 20)) (vw_up v2 (by decide)) (by omega)) [] rfl (by decide) (va_cwS 2 hts gX11_ruleOf_X11_letterOf rfl rfl rfl (by decide +kernel) ⟨Nat.le_of_ble_eq_true rfl, Nat.le_of_ble_eq_true rfl⟩) rfl rfl (Nat.le_of_ble_eq_true rfl) dX11_ruleOf_169 ⟨Nat.zero_le _, Nat.zero_le _⟩ (fun rY wY H locs hwY hJ hS => ?_)
        obtain ⟨e1Y, e2Y⟩ := hwY
        have e3Y := e1Y.symm
        clear e1Y
        subst e3Y
        have e3Y := e2Y.symm
        clear e2Y
        subst e3Y
        obtain ⟨hP, hD⟩ := hJ rfl
        have hP : va_P D vwCl (gMo cA B (fN S) WA BG AS TX RW RR FD m1 m2 m3 m4 m5 m6 m7 m8 m9 m10 m11 m12 m13 m14 m15 m16 m17 m18 m19) H := hP
        have hD : va_D AY (gMo cA B (fN S) WA BG AS TX RW RR FD m1 m2 m3 m4 m5 m6 m7 m8 m9 m10 m11 m12 m13 m14 m15 m16 m17 m18 m19) := hD
        exact hret _ _ _ _ _ _ dX11_ruleOf_172 ⟨(by unfold ruleZ; rw [if_pos c5, show isL y 10 4 = false from decide_eq_false (by omega), if_neg (by decide), show isL y 20 4 = true from decide_eq_true (by omega), if_pos rfl, eg]), rfl⟩ hP hD hS
      · refine lv_aload_n hx hb dX11_ruleOf_145 rfl (lv_at hl 0 rfl) ?_
        refine lv_iload_n hx hb dX11_ruleOf_146 rfl (lv_at hl 1 rfl) ?_
        refine ci_V (As := [.int (nI g)]) (rest := []) h0 hK hN hP hD hS hA hl.1 (k_X11_left lY D cA B S WA BG AS TX RW RR FD m1 m2 m3 m4 m5 m6 m7 m8 m9 m10 m11 m12 m13 m14 m15 m16 m17 m18 m19 g (by omega)) [0, 1, 2, 3, 4, 5, 6, 7, 8] rfl (by decide) (cwV 1 hts gX11_ruleOf_X11_left rfl rfl rfl (by decide +kernel) ⟨Nat.le_of_ble_eq_true rfl, Nat.le_of_ble_eq_true rfl⟩) (cl_recv (ci := 10) (q := (RX11, TX11, 27)) (q0 := 0) hP hK rfl rfl) rfl rfl (Nat.le_of_ble_eq_true rfl) dX11_ruleOf_147 ⟨Nat.zero_le _, Nat.zero_le _⟩ (fun rY wY H locs hwY hJ hS => ?_)
        obtain ⟨e1Y, e2Y⟩ := hwY
        have e3Y := e1Y.symm
        clear e1Y
        subst e3Y
        have e3Y := e2Y.symm
        clear e2Y
        subst e3Y
        obtain ⟨hP, hD⟩ := hJ rfl
        have hP : va_P D vwCl (gMo cA B (fN S) WA BG AS TX RW RR FD m1 m2 m3 m4 m5 m6 m7 m8 m9 m10 m11 m12 m13 m14 m15 m16 m17 m18 m19) H := hP
        have hD : va_D AY (gMo cA B (fN S) WA BG AS TX RW RR FD m1 m2 m3 m4 m5 m6 m7 m8 m9 m10 m11 m12 m13 m14 m15 m16 m17 m18 m19) := hD
        refine lv_iload_n hx hb dX11_ruleOf_150 rfl (lv_at hl 2 rfl) ?_
        refine lv_bipush (v := nI 10) hx hb dX11_ruleOf_151 (by decide +kernel) ?_
        refine lv_isub hx hb dX11_ruleOf_153 ?_
        have ey : (y - nI 10).toInt = y.toInt - 10 := i_sub (by omega) (by omega)
        refine ci_S (As := [.int (nI (lf S g)), .int (y - (nI 10))]) (rest := []) h0 hK hN hP hD hS hA hl.1 (k_X11_letterOf lY D cA (lf S g) (y - (nI 10)) (vw_up v1 (by decide)) (by omega)) [] rfl (by decide) (va_cwS 2 hts gX11_ruleOf_X11_letterOf rfl rfl rfl (by decide +kernel) ⟨Nat.le_of_ble_eq_true rfl, Nat.le_of_ble_eq_true rfl⟩) rfl rfl (Nat.le_of_ble_eq_true rfl) dX11_ruleOf_154 ⟨Nat.zero_le _, Nat.zero_le _⟩ (fun rY wY H locs hwY hJ hS => ?_)
        obtain ⟨e1Y, e2Y⟩ := hwY
        have e3Y := e1Y.symm
        clear e1Y
        subst e3Y
        have e3Y := e2Y.symm
        clear e2Y
        subst e3Y
        obtain ⟨hP, hD⟩ := hJ rfl
        have hP : va_P D vwCl (gMo cA B (fN S) WA BG AS TX RW RR FD m1 m2 m3 m4 m5 m6 m7 m8 m9 m10 m11 m12 m13 m14 m15 m16 m17 m18 m19) H := hP
        have hD : va_D AY (gMo cA B (fN S) WA BG AS TX RW RR FD m1 m2 m3 m4 m5 m6 m7 m8 m9 m10 m11 m12 m13 m14 m15 m16 m17 m18 m19) := hD
        refine lv_goto (tgt := 172) hx hb dX11_ruleOf_157 (by decide) ?_
        exact hret _ _ _ _ _ _ dX11_ruleOf_172 ⟨(by unfold ruleZ; rw [if_pos c5, show isL y 10 4 = true from decide_eq_true (by omega), if_pos rfl, eg]), rfl⟩ hP hD hS
    refine lv_iconst (v := nI 0) hx hb dX11_ruleOf_9 (by decide +kernel) ?_
    refine lv_iconst (v := nI 4) hx hb dX11_ruleOf_10 (by decide +kernel) ?_
    refine ci_S (As := [.int y, .int (nI 0), .int (nI 4)]) (rest := []) h0 hK hN hP hD hS hA hl.1 (k_X11_in lY D cA y (nI 0) (nI 4) ) [] rfl (by decide) (va_cwS 3 hts gX11_ruleOf_X11_in rfl rfl rfl (by decide +kernel) ⟨Nat.le_of_ble_eq_true rfl, Nat.le_of_ble_eq_true rfl⟩) rfl rfl (Nat.le_of_ble_eq_true rfl) dX11_ruleOf_11 ⟨Nat.zero_le _, Nat.zero_le _⟩ (fun rY wY H locs hwY hJ hS => ?_)
    obtain ⟨e1Y, e2Y⟩ := hwY
    have e3Y := e1Y.symm
    clear e1Y
    subst e3Y
    have e3Y := e2Y.symm
    clear e2Y
    subst e3Y
    obtain ⟨hP, hD⟩ := hJ rfl
    have hP : va_P D vwCl (gMo cA B (fN S) WA BG AS TX RW RR FD m1 m2 m3 m4 m5 m6 m7 m8 m9 m10 m11 m12 m13 m14 m15 m16 m17 m18 m19) H := hP
    have hD : va_D AY (gMo cA B (fN S) WA BG AS TX RW RR FD m1 m2 m3 m4 m5 m6 m7 m8 m9 m10 m11 m12 m13 m14 m15 m16 m17 m18 m19) := hD
    refine xb_ne (tgt := 42) hx hb dX11_ruleOf_14 (by decide) (fun c14 => ?_) (fun c14 => ?_)
    · exact L42  (by have := inI_t c14; omega) _ _ _ hP hD hS hl
    · refine lv_iload_n hx hb dX11_ruleOf_17 rfl (lv_at hl 2 rfl) ?_
      refine lv_bipush (v := nI 10) hx hb dX11_ruleOf_18 (by decide +kernel) ?_
      refine lv_bipush (v := nI 13) hx hb dX11_ruleOf_20 (by decide +kernel) ?_
      refine ci_S (As := [.int y, .int (nI 10), .int (nI 13)]) (rest := []) h0 hK hN hP hD hS hA hl.1 (k_X11_in lY D cA y (nI 10) (nI 13) ) [] rfl (by decide) (va_cwS 3 hts gX11_ruleOf_X11_in rfl rfl rfl (by decide +kernel) ⟨Nat.le_of_ble_eq_true rfl, Nat.le_of_ble_eq_true rfl⟩) rfl rfl (Nat.le_of_ble_eq_true rfl) dX11_ruleOf_22 ⟨Nat.zero_le _, Nat.zero_le _⟩ (fun rY wY H locs hwY hJ hS => ?_)
      obtain ⟨e1Y, e2Y⟩ := hwY
      have e3Y := e1Y.symm
      clear e1Y
      subst e3Y
      have e3Y := e2Y.symm
      clear e2Y
      subst e3Y
      obtain ⟨hP, hD⟩ := hJ rfl
      have hP : va_P D vwCl (gMo cA B (fN S) WA BG AS TX RW RR FD m1 m2 m3 m4 m5 m6 m7 m8 m9 m10 m11 m12 m13 m14 m15 m16 m17 m18 m19) H := hP
      have hD : va_D AY (gMo cA B (fN S) WA BG AS TX RW RR FD m1 m2 m3 m4 m5 m6 m7 m8 m9 m10 m11 m12 m13 m14 m15 m16 m17 m18 m19) := hD
      refine xb_ne (tgt := 42) hx hb dX11_ruleOf_25 (by decide) (fun c25 => ?_) (fun c25 => ?_)
      · exact L42  (by have := inI_t c25; omega) _ _ _ hP hD hS hl
      · refine lv_iload_n hx hb dX11_ruleOf_28 rfl (lv_at hl 2 rfl) ?_
        refine lv_bipush (v := nI 20) hx hb dX11_ruleOf_29 (by decide +kernel) ?_
        refine lv_bipush (v := nI 23) hx hb dX11_ruleOf_31 (by decide +kernel) ?_
        refine ci_S (As := [.int y, .int (nI 20), .int (nI 23)]) (rest := []) h0 hK hN hP hD hS hA hl.1 (k_X11_in lY D cA y (nI 20) (nI 23) ) [] rfl (by decide) (va_cwS 3 hts gX11_ruleOf_X11_in rfl rfl rfl (by decide +kernel) ⟨Nat.le_of_ble_eq_true rfl, Nat.le_of_ble_eq_true rfl⟩) rfl rfl (Nat.le_of_ble_eq_true rfl) dX11_ruleOf_33 ⟨Nat.zero_le _, Nat.zero_le _⟩ (fun rY wY H locs hwY hJ hS => ?_)
        obtain ⟨e1Y, e2Y⟩ := hwY
        have e3Y := e1Y.symm
        clear e1Y
        subst e3Y
        have e3Y := e2Y.symm
        clear e2Y
        subst e3Y
        obtain ⟨hP, hD⟩ := hJ rfl
        have hP : va_P D vwCl (gMo cA B (fN S) WA BG AS TX RW RR FD m1 m2 m3 m4 m5 m6 m7 m8 m9 m10 m11 m12 m13 m14 m15 m16 m17 m18 m19) H := hP
        have hD : va_D AY (gMo cA B (fN S) WA BG AS TX RW RR FD m1 m2 m3 m4 m5 m6 m7 m8 m9 m10 m11 m12 m13 m14 m15 m16 m17 m18 m19) := hD
        refine xb_ne (tgt := 42) hx hb dX11_ruleOf_36 (by decide) (fun c36 => ?_) (fun c36 => ?_)
        · exact L42  (by have := inI_t c36; omega) _ _ _ hP hD hS hl
        · refine lv_ldc (v := (-1000001)) hx hb hown (hts (.constant RX11 78 (-1000001)) (by decide +kernel)) dX11_ruleOf_39 ?_
          have i14 := inI_f c14
          have i25 := inI_f c25
          have i36 := inI_f c36
          exact hret _ _ _ _ _ _ dX11_ruleOf_41 ⟨(by unfold ruleZ; rw [c5, show isL y 10 4 = false from decide_eq_false (by omega), show isL y 20 4 = false from decide_eq_false (by omega), if_neg (show ¬ y.toInt = 0 by omega), if_neg (show ¬ y.toInt = 1 by omega), if_neg (show ¬ y.toInt = 2 by omega), if_neg (show ¬ y.toInt = 3 by omega), if_neg (show ¬ y.toInt = 4 by omega)]; rfl), rfl⟩ hP hD hS

theorem hi_X11_steps_X11 : ∀ w ∈ u_ws RX11 TX11 27, w ∈ wsX11_steps := by decide +kernel
set_option maxHeartbeats 1000000 in
set_option maxRecDepth 100000 in
theorem k_X11_steps (lY : Launch) (D : va_G) (cA : Nat → ClassId) (B : Nat → Nat) (S : St) (WA BG AS TX RW RR FD : Nat → Int32) (m1 m2 m3 m4 m5 m6 m7 m8 m9 m10 m11 m12 m13 m14 m15 m16 m17 m18 m19 : Int32) (hI : IR S) (hw : vw 12 (S 0)) : MetI lY D cA yX11_steps wsX11_steps 3 72 [.ref (B 0)] (gMo cA B (fN S) WA BG AS TX RW RR FD m1 m2 m3 m4 m5 m6 m7 m8 m9 m10 m11 m12 m13 m14 m15 m16 m17 m18 m19) (fun rY wY => ∃ (k8 : Int32) (k9 : Int32), rY = (stepR S).1 ∧ wY = gMo cA B (fN ((stepR S).2)) WA BG AS TX RW RR FD m1 m2 m3 m4 m5 m6 m7 k8 k9 m10 m11 m12 m13 m14 m15 m16 m17 m18 m19) := by
  refine MetI.of (cc := cX11_steps) (maxL := 1) (ret := (some .int)) (by decide) rfl (Nat.le_of_ble_eq_true rfl) (Or.inl rfl) ?_
  intro pY eY sY mY aY bY tY cY QY AY ls h0 hP hK hN hD hA hS hl hret
  obtain ⟨hx, hb, hml, hown, hts⟩ := id h0
  have hl : lv_has ls 1 [(0, .ref (B 0))] := hl
  have hP : va_P D vwCl (gMo cA B (fN S) WA BG AS TX RW RR FD m1 m2 m3 m4 m5 m6 m7 m8 m9 m10 m11 m12 m13 m14 m15 m16 m17 m18 m19) sY.heap := hP
  have hD : va_D AY (gMo cA B (fN S) WA BG AS TX RW RR FD m1 m2 m3 m4 m5 m6 m7 m8 m9 m10 m11 m12 m13 m14 m15 m16 m17 m18 m19) := hD
  refine lv_aload_n hx hb dX11_steps_0 rfl (lv_at hl 0 rfl) ?_
  refine lv_aload_n hx hb dX11_steps_1 rfl (lv_at hl 0 rfl) ?_
  refine va_get (D := D) (ci := 10) (v := .ref (B 1)) (C := RX11) (T := TX11) (N := 27) hx hb hts hi_X11_steps_X11 hown hK hP 0 rfl rfl 0 (by decide) (hts (.fieldLink RX11 7 "FallingWordsModel" "s" "[I") (by decide +kernel)) (fun _ h9 => h9) rfl dX11_steps_2 ?_
  refine lv_iconst (v := nI 0) hx hb dX11_steps_5 (by decide +kernel) ?_
  refine xa_ld (v := nI (S 0)) hx hb hK hP 1 rfl (by omega) (by decide) (rfl) dX11_steps_6 ?_
  refine ci_V (As := [.int (nI (S 0))]) (rest := []) h0 hK hN hP hD hS hA hl.1 (k_X11_chooses lY D cA B S WA BG AS TX RW RR FD m1 m2 m3 m4 m5 m6 m7 m8 m9 m10 m11 m12 m13 m14 m15 m16 m17 m18 m19 (S 0) (hI) (hw)) [0, 1, 2, 3, 4, 5, 6, 7, 8] rfl (by decide) (cwV 1 hts gX11_steps_X11_chooses rfl rfl rfl (by decide +kernel) ⟨Nat.le_of_ble_eq_true rfl, Nat.le_of_ble_eq_true rfl⟩) (cl_recv (ci := 10) (q := (RX11, TX11, 27)) (q0 := 0) hP hK rfl rfl) rfl rfl (Nat.le_of_ble_eq_true rfl) dX11_steps_7 ⟨Nat.zero_le _, Nat.zero_le _⟩ (fun rY wY H locs hwY hJ hS => ?_)
  obtain ⟨k8_7, k9_7, e1Y, e2Y, fc_7⟩ := hwY
  have e3Y := e1Y.symm
  clear e1Y
  subst e3Y
  have e3Y := e2Y.symm
  clear e2Y
  subst e3Y
  obtain ⟨hP, hD⟩ := hJ rfl
  have hP : va_P D vwCl (gMo cA B (fN S) WA BG AS TX RW RR FD m1 m2 m3 m4 m5 m6 m7 k8_7 k9_7 m10 m11 m12 m13 m14 m15 m16 m17 m18 m19) H := hP
  have hD : va_D AY (gMo cA B (fN S) WA BG AS TX RW RR FD m1 m2 m3 m4 m5 m6 m7 k8_7 k9_7 m10 m11 m12 m13 m14 m15 m16 m17 m18 m19) := hD
  refine xb_ne (tgt := 16) hx hb dX11_steps_10 (by decide) (fun c10 => ?_) (fun c10 => ?_)
  · have hn := nt_t c10
    obtain ⟨e8, e9⟩ := fc_7 hn
    obtain ⟨q1, q2, q3, q4, q5⟩ := ch_lt hI hw hn
    have h10 := hI.1
    have hR : stepR S = (nI (chr S (S 0)), stpS S) := if_neg (by rw [hn]; decide)
    rw [e8, e9] at hP hD
    have hP : va_P D vwCl (gMo cA B (fN S) WA BG AS TX RW RR FD m1 m2 m3 m4 m5 m6 m7 (nI (chr S (S 0))) (nI (chp S (S 0))) m10 m11 m12 m13 m14 m15 m16 m17 m18 m19) H := hP
    have hD : va_D AY (gMo cA B (fN S) WA BG AS TX RW RR FD m1 m2 m3 m4 m5 m6 m7 (nI (chr S (S 0))) (nI (chp S (S 0))) m10 m11 m12 m13 m14 m15 m16 m17 m18 m19) := hD
    refine lv_aload_n hx hb dX11_steps_16 rfl (lv_at hl 0 rfl) ?_
    refine va_get (D := D) (ci := 10) (v := .ref (B 1)) (C := RX11) (T := TX11) (N := 27) hx hb hts hi_X11_steps_X11 hown hK hP 0 rfl rfl 0 (by decide) (hts (.fieldLink RX11 7 "FallingWordsModel" "s" "[I") (by decide +kernel)) (fun _ h9 => h9) rfl dX11_steps_17 ?_
    refine lv_iconst (v := nI 0) hx hb dX11_steps_20 (by decide +kernel) ?_
    refine lv_aload_n hx hb dX11_steps_21 rfl (lv_at hl 0 rfl) ?_
    refine lv_aload_n hx hb dX11_steps_22 rfl (lv_at hl 0 rfl) ?_
    refine va_get (D := D) (ci := 10) (v := .ref (B 1)) (C := RX11) (T := TX11) (N := 27) hx hb hts hi_X11_steps_X11 hown hK hP 0 rfl rfl 0 (by decide) (hts (.fieldLink RX11 7 "FallingWordsModel" "s" "[I") (by decide +kernel)) (fun _ h9 => h9) rfl dX11_steps_23 ?_
    refine lv_iconst (v := nI 0) hx hb dX11_steps_26 (by decide +kernel) ?_
    refine xa_ld (v := nI (S 0)) hx hb hK hP 1 rfl (by omega) (by decide) (rfl) dX11_steps_27 ?_
    refine lv_aload_n hx hb dX11_steps_28 rfl (lv_at hl 0 rfl) ?_
    refine va_get (D := D) (ci := 10) (v := .int (nI (chr S (S 0)))) (C := RX11) (T := TX11) (N := 27) hx hb hts hi_X11_steps_X11 hown hK hP 0 rfl rfl 12 (by decide) (hts (.fieldLink RX11 54 "FallingWordsModel" "chosenRule" "I") (by decide +kernel)) (fun _ h9 => h9) rfl dX11_steps_29 ?_
    refine lv_aload_n hx hb dX11_steps_32 rfl (lv_at hl 0 rfl) ?_
    refine va_get (D := D) (ci := 10) (v := .int (nI (chp S (S 0)))) (C := RX11) (T := TX11) (N := 27) hx hb hts hi_X11_steps_X11 hown hK hP 0 rfl rfl 13 (by decide) (hts (.fieldLink RX11 58 "FallingWordsModel" "chosenPlace" "I") (by decide +kernel)) (fun _ h9 => h9) rfl dX11_steps_33 ?_
    refine ci_V (As := [.int (nI (S 0)), .int (nI (chr S (S 0))), .int (nI (chp S (S 0)))]) (rest := [.int (nI 0), .ref (B 1)]) h0 hK hN hP hD hS hA hl.1 (k_X11_applied lY D cA B S WA BG AS TX RW RR FD m1 m2 m3 m4 m5 m6 m7 (nI (chr S (S 0))) (nI (chp S (S 0))) m10 m11 m12 m13 m14 m15 m16 m17 m18 m19 (S 0) (chr S (S 0)) (chp S (S 0)) (hI) (hw) (q1) (q5)) [0, 1, 2, 3, 4, 5, 6, 7, 8] rfl (by decide) (cwV 3 hts gX11_steps_X11_applied rfl rfl rfl (by decide +kernel) ⟨Nat.le_of_ble_eq_true rfl, Nat.le_of_ble_eq_true rfl⟩) (cl_recv (ci := 10) (q := (RX11, TX11, 27)) (q0 := 0) hP hK rfl rfl) rfl rfl (Nat.le_of_ble_eq_true rfl) dX11_steps_36 ⟨Nat.zero_le _, Nat.zero_le _⟩ (fun rY wY H locs hwY hJ hS => ?_)
    obtain ⟨e1Y, e2Y⟩ := hwY
    have e3Y := e1Y.symm
    clear e1Y
    subst e3Y
    have e3Y := e2Y.symm
    clear e2Y
    subst e3Y
    obtain ⟨hP, hD⟩ := hJ rfl
    have hP : va_P D vwCl (gMo cA B (fN S) WA BG AS TX RW RR FD m1 m2 m3 m4 m5 m6 m7 (nI (chr S (S 0))) (nI (chp S (S 0))) m10 m11 m12 m13 m14 m15 m16 m17 m18 m19) H := hP
    have hD : va_D AY (gMo cA B (fN S) WA BG AS TX RW RR FD m1 m2 m3 m4 m5 m6 m7 (nI (chr S (S 0))) (nI (chp S (S 0))) m10 m11 m12 m13 m14 m15 m16 m17 m18 m19) := hD
    refine xt (show nI (app (lf S (chr S (S 0))) (rt S (chr S (S 0))) (S 0) (chp S (S 0))) = nI (nxt S (S 0)) from rfl) ?_
    refine xa_st hx hb hK hP hD hS 1 rfl (by omega) (by decide) dX11_steps_39 (fun H locs hP hD hS => ?_)
    have hP : va_P D vwCl (gMo cA B (upd (fN S) 0 (nI (nxt S (S 0)))) WA BG AS TX RW RR FD m1 m2 m3 m4 m5 m6 m7 (nI (chr S (S 0))) (nI (chp S (S 0))) m10 m11 m12 m13 m14 m15 m16 m17 m18 m19) H := hP
    have hD : va_D AY (gMo cA B (upd (fN S) 0 (nI (nxt S (S 0)))) WA BG AS TX RW RR FD m1 m2 m3 m4 m5 m6 m7 (nI (chr S (S 0))) (nI (chp S (S 0))) m10 m11 m12 m13 m14 m15 m16 m17 m18 m19) := hD
    rw [show upd (fN S) 0 (nI (nxt S (S 0))) = fN (upN S 0 (nxt S (S 0))) from fN_up] at hP hD
    refine lv_aload_n hx hb dX11_steps_40 rfl (lv_at hl 0 rfl) ?_
    refine va_get (D := D) (ci := 10) (v := .ref (B 1)) (C := RX11) (T := TX11) (N := 27) hx hb hts hi_X11_steps_X11 hown hK hP 0 rfl rfl 0 (by decide) (hts (.fieldLink RX11 7 "FallingWordsModel" "s" "[I") (by decide +kernel)) (fun _ h9 => h9) rfl dX11_steps_41 ?_
    refine lv_bipush (v := nI 6) hx hb dX11_steps_44 (by decide +kernel) ?_
    refine lv_iconst (v := nI 3) hx hb dX11_steps_46 (by decide +kernel) ?_
    refine lv_aload_n hx hb dX11_steps_47 rfl (lv_at hl 0 rfl) ?_
    refine va_get (D := D) (ci := 10) (v := .int (nI (chr S (S 0)))) (C := RX11) (T := TX11) (N := 27) hx hb hts hi_X11_steps_X11 hown hK hP 0 rfl rfl 12 (by decide) (hts (.fieldLink RX11 54 "FallingWordsModel" "chosenRule" "I") (by decide +kernel)) (fun _ h9 => h9) rfl dX11_steps_48 ?_
    refine lv_imul hx hb dX11_steps_51 ?_
    refine xt (show (nI 3) * (nI (chr S (S 0))) = nI (3 * (chr S (S 0))) from pk_mul _ _) ?_
    refine lv_iadd hx hb dX11_steps_52 ?_
    refine xt (show (nI 6) + (nI (3 * (chr S (S 0)))) = nI (6 + (3 * (chr S (S 0)))) from nI_add _ _) ?_
    refine lv_iconst (v := nI 2) hx hb dX11_steps_53 (by decide +kernel) ?_
    refine lv_iadd hx hb dX11_steps_54 ?_
    refine xt (show (nI (6 + (3 * (chr S (S 0))))) + (nI 2) = nI (6 + (3 * (chr S (S 0))) + 2) from nI_add _ _) ?_
    refine lv_dup2_11 hx hb dX11_steps_55 rfl rfl ?_
    refine xa_ld (v := nI (S (6 + 3 * chr S (S 0) + 2))) hx hb hK hP 1 rfl (by omega) (by decide) (congrArg nI (upN_n (by omega))) dX11_steps_56 ?_
    refine lv_iconst (v := nI 1) hx hb dX11_steps_57 (by decide +kernel) ?_
    refine lv_iadd hx hb dX11_steps_58 ?_
    refine xt (show (nI (S (6 + 3 * chr S (S 0) + 2))) + (nI 1) = nI (S (6 + 3 * chr S (S 0) + 2) + 1) from nI_add _ _) ?_
    refine xa_st hx hb hK hP hD hS 1 rfl (by omega) (by decide) dX11_steps_59 (fun H locs hP hD hS => ?_)
    have hP : va_P D vwCl (gMo cA B (upd (fN (upN S 0 (nxt S (S 0)))) (6 + (3 * (chr S (S 0))) + 2) (nI (S (6 + 3 * chr S (S 0) + 2) + 1))) WA BG AS TX RW RR FD m1 m2 m3 m4 m5 m6 m7 (nI (chr S (S 0))) (nI (chp S (S 0))) m10 m11 m12 m13 m14 m15 m16 m17 m18 m19) H := hP
    have hD : va_D AY (gMo cA B (upd (fN (upN S 0 (nxt S (S 0)))) (6 + (3 * (chr S (S 0))) + 2) (nI (S (6 + 3 * chr S (S 0) + 2) + 1))) WA BG AS TX RW RR FD m1 m2 m3 m4 m5 m6 m7 (nI (chr S (S 0))) (nI (chp S (S 0))) m10 m11 m12 m13 m14 m15 m16 m17 m18 m19) := hD
    rw [show upd (fN (upN S 0 (nxt S (S 0)))) (6 + (3 * (chr S (S 0))) + 2) (nI (S (6 + 3 * chr S (S 0) + 2) + 1)) = fN (upN (upN S 0 (nxt S (S 0))) (6 + (3 * (chr S (S 0))) + 2) (S (6 + 3 * chr S (S 0) + 2) + 1)) from fN_up] at hP hD
    refine lv_aload_n hx hb dX11_steps_60 rfl (lv_at hl 0 rfl) ?_
    refine va_get (D := D) (ci := 10) (v := .ref (B 1)) (C := RX11) (T := TX11) (N := 27) hx hb hts hi_X11_steps_X11 hown hK hP 0 rfl rfl 0 (by decide) (hts (.fieldLink RX11 7 "FallingWordsModel" "s" "[I") (by decide +kernel)) (fun _ h9 => h9) rfl dX11_steps_61 ?_
    refine lv_iconst (v := nI 5) hx hb dX11_steps_64 (by decide +kernel) ?_
    refine lv_dup2_11 hx hb dX11_steps_65 rfl rfl ?_
    refine xa_ld (v := nI (S 5)) hx hb hK hP 1 rfl (by omega) (by decide) (congrArg nI ((upN_n (by omega)).trans (upN_n (by omega)))) dX11_steps_66 ?_
    refine lv_iconst (v := nI 1) hx hb dX11_steps_67 (by decide +kernel) ?_
    refine lv_iadd hx hb dX11_steps_68 ?_
    refine xt (show (nI (S 5)) + (nI 1) = nI (S 5 + 1) from nI_add _ _) ?_
    refine xa_st hx hb hK hP hD hS 1 rfl (by omega) (by decide) dX11_steps_69 (fun H locs hP hD hS => ?_)
    have hP : va_P D vwCl (gMo cA B (upd (fN (upN (upN S 0 (nxt S (S 0))) (6 + (3 * (chr S (S 0))) + 2) (S (6 + 3 * chr S (S 0) + 2) + 1))) 5 (nI (S 5 + 1))) WA BG AS TX RW RR FD m1 m2 m3 m4 m5 m6 m7 (nI (chr S (S 0))) (nI (chp S (S 0))) m10 m11 m12 m13 m14 m15 m16 m17 m18 m19) H := hP
    have hD : va_D AY (gMo cA B (upd (fN (upN (upN S 0 (nxt S (S 0))) (6 + (3 * (chr S (S 0))) + 2) (S (6 + 3 * chr S (S 0) + 2) + 1))) 5 (nI (S 5 + 1))) WA BG AS TX RW RR FD m1 m2 m3 m4 m5 m6 m7 (nI (chr S (S 0))) (nI (chp S (S 0))) m10 m11 m12 m13 m14 m15 m16 m17 m18 m19) := hD
    rw [show upd (fN (upN (upN S 0 (nxt S (S 0))) (6 + (3 * (chr S (S 0))) + 2) (S (6 + 3 * chr S (S 0) + 2) + 1))) 5 (nI (S 5 + 1)) = fN (upN (upN (upN S 0 (nxt S (S 0))) (6 + (3 * (chr S (S 0))) + 2) (S (6 + 3 * chr S (S 0) + 2) + 1)) 5 (S 5 + 1)) from fN_up] at hP hD
    refine lv_aload_n hx hb dX11_steps_70 rfl (lv_at hl 0 rfl) ?_
    refine va_get (D := D) (ci := 10) (v := .int (nI (chr S (S 0)))) (C := RX11) (T := TX11) (N := 27) hx hb hts hi_X11_steps_X11 hown hK hP 0 rfl rfl 12 (by decide) (hts (.fieldLink RX11 54 "FallingWordsModel" "chosenRule" "I") (by decide +kernel)) (fun _ h9 => h9) rfl dX11_steps_71 ?_
    exact hret _ _ _ _ _ _ dX11_steps_74 ⟨((nI (chr S (S 0)))), ((nI (chp S (S 0)))), (by rw [hR]), (by rw [hR]; rfl)⟩ hP hD hS
  · refine lv_ldc (v := (-1000002)) hx hb hown (hts (.constant RX11 103 (-1000002)) (by decide +kernel)) dX11_steps_13 ?_
    have hR : stepR S = ((-1000002), S) := if_pos (nt_f c10)
    exact hret _ _ _ _ _ _ dX11_steps_15 ⟨k8_7, k9_7, (by rw [hR]), (by rw [hR])⟩ hP hD hS

set_option maxHeartbeats 1000000 in
set_option maxRecDepth 100000 in
theorem k_X11_step (lY : Launch) (D : va_G) (cA : Nat → ClassId) (B : Nat → Nat) (S : St) (WA BG AS TX RW RR FD : Nat → Int32) (m2 m3 m4 m5 m6 m7 m8 m9 m10 m11 m12 m13 m14 m15 m16 m17 m18 m19 : Int32) (h : Nat → St) (n : Nat) (hn4 : n ≤ 4) (hwas : rWas h n WA) (hI : IR S) (hw : vw 12 (S 0)) : MetI lY D cA yX11_step wsX11_step 4 92 [.ref (B 0)] (gMo cA B (fN S) WA BG AS TX RW RR FD (nI n) m2 m3 m4 m5 m6 m7 m8 m9 m10 m11 m12 m13 m14 m15 m16 m17 m18 m19) (fun rY wY => ∃ (WA' : Nat → Int32) (BG' : Nat → Int32) (k8 : Int32) (k9 : Int32), rY = (actZ S h n (stepR S)).1 ∧ wY = gMo cA B (fN ((actZ S h n (stepR S)).2.1)) WA' BG' AS TX RW RR FD (nI ((actZ S h n (stepR S)).2.2.2)) m2 m3 m4 m5 m6 m7 k8 k9 m10 m11 m12 m13 m14 m15 m16 m17 m18 m19 ∧ (rWas (actZ S h n (stepR S)).2.2.1 (actZ S h n (stepR S)).2.2.2 WA')) := by
  refine MetI.of (cc := cX11_step) (maxL := 1) (ret := (some .int)) (by decide) rfl (Nat.le_of_ble_eq_true rfl) (Or.inl rfl) ?_
  intro pY eY sY mY aY bY tY cY QY AY ls h0 hP hK hN hD hA hS hl hret
  obtain ⟨hx, hb, hml, hown, hts⟩ := id h0
  have hl : lv_has ls 1 [(0, .ref (B 0))] := hl
  have hP : va_P D vwCl (gMo cA B (fN S) WA BG AS TX RW RR FD (nI n) m2 m3 m4 m5 m6 m7 m8 m9 m10 m11 m12 m13 m14 m15 m16 m17 m18 m19) sY.heap := hP
  have hD : va_D AY (gMo cA B (fN S) WA BG AS TX RW RR FD (nI n) m2 m3 m4 m5 m6 m7 m8 m9 m10 m11 m12 m13 m14 m15 m16 m17 m18 m19) := hD
  refine lv_aload_n hx hb dX11_step_0 rfl (lv_at hl 0 rfl) ?_
  refine cv_V (As := []) (rest := []) h0 hK hN hP hD hS hA hl.1 (k_X11_keeps lY D cA B S WA BG AS TX RW RR FD (nI n) m2 m3 m4 m5 m6 m7 m8 m9 m10 m11 m12 m13 m14 m15 m16 m17 m18 m19 ) [0, 1, 2, 3, 4, 5, 6, 7, 8] rfl (by decide) (cwV 0 hts gX11_step_X11_keeps rfl rfl rfl (by decide +kernel) ⟨Nat.le_of_ble_eq_true rfl, Nat.le_of_ble_eq_true rfl⟩) (cl_recv (ci := 10) (q := (RX11, TX11, 27)) (q0 := 0) hP hK rfl rfl) rfl rfl (Nat.le_of_ble_eq_true rfl) dX11_step_1 ⟨Nat.zero_le _, Nat.zero_le _⟩ (fun wY H locs hwY hJ hS => ?_)
  obtain ⟨BG'_1, e2Y, fb_1⟩ := hwY
  have e3Y := e2Y.symm
  clear e2Y
  subst e3Y
  obtain ⟨hP, hD⟩ := hJ rfl
  have hP : va_P D vwCl (gMo cA B (fN S) WA BG'_1 AS TX RW RR FD (nI n) m2 m3 m4 m5 m6 m7 m8 m9 m10 m11 m12 m13 m14 m15 m16 m17 m18 m19) H := hP
  have hD : va_D AY (gMo cA B (fN S) WA BG'_1 AS TX RW RR FD (nI n) m2 m3 m4 m5 m6 m7 m8 m9 m10 m11 m12 m13 m14 m15 m16 m17 m18 m19) := hD
  refine lv_aload_n hx hb dX11_step_4 rfl (lv_at hl 0 rfl) ?_
  refine lv_aload_n hx hb dX11_step_5 rfl (lv_at hl 0 rfl) ?_
  refine ci_V (As := []) (rest := [.ref (B 0)]) h0 hK hN hP hD hS hA hl.1 (k_X11_steps lY D cA B S WA BG'_1 AS TX RW RR FD (nI n) m2 m3 m4 m5 m6 m7 m8 m9 m10 m11 m12 m13 m14 m15 m16 m17 m18 m19 (hI) (hw)) [0, 1, 2, 3, 4, 5, 6, 7, 8] rfl (by decide) (cwV 0 hts gX11_step_X11_steps rfl rfl rfl (by decide +kernel) ⟨Nat.le_of_ble_eq_true rfl, Nat.le_of_ble_eq_true rfl⟩) (cl_recv (ci := 10) (q := (RX11, TX11, 27)) (q0 := 0) hP hK rfl rfl) rfl rfl (Nat.le_of_ble_eq_true rfl) dX11_step_6 ⟨Nat.zero_le _, Nat.zero_le _⟩ (fun rY wY H locs hwY hJ hS => ?_)
  obtain ⟨k8_6, k9_6, e1Y, e2Y⟩ := hwY
  have e3Y := e1Y.symm
  clear e1Y
  subst e3Y
  have e3Y := e2Y.symm
  clear e2Y
  subst e3Y
  obtain ⟨hP, hD⟩ := hJ rfl
  have hP : va_P D vwCl (gMo cA B (fN ((stepR S).2)) WA BG'_1 AS TX RW RR FD (nI n) m2 m3 m4 m5 m6 m7 k8_6 k9_6 m10 m11 m12 m13 m14 m15 m16 m17 m18 m19) H := hP
  have hD : va_D AY (gMo cA B (fN ((stepR S).2)) WA BG'_1 AS TX RW RR FD (nI n) m2 m3 m4 m5 m6 m7 k8_6 k9_6 m10 m11 m12 m13 m14 m15 m16 m17 m18 m19) := hD
  refine ci_V (As := [.int ((stepR S).1)]) (rest := []) h0 hK hN hP hD hS hA hl.1 (k_X11_acted lY D cA B S WA BG'_1 AS TX RW RR FD m2 m3 m4 m5 m6 m7 k8_6 k9_6 m10 m11 m12 m13 m14 m15 m16 m17 m18 m19 (stepR S) h n (hn4) (hwas) (fb_1) (fun q => stepR_k q (fun q => (ch_lt hI hw q).2.2.1))) [0, 1, 2, 3, 4, 5, 6, 7, 8] rfl (by decide) (cwV 1 hts gX11_step_X11_acted rfl rfl rfl (by decide +kernel) ⟨Nat.le_of_ble_eq_true rfl, Nat.le_of_ble_eq_true rfl⟩) (cl_recv (ci := 10) (q := (RX11, TX11, 27)) (q0 := 0) hP hK rfl rfl) rfl rfl (Nat.le_of_ble_eq_true rfl) dX11_step_9 ⟨Nat.zero_le _, Nat.zero_le _⟩ (fun rY wY H locs hwY hJ hS => ?_)
  obtain ⟨WA'_9, e1Y, e2Y, fw_9⟩ := hwY
  have e3Y := e1Y.symm
  clear e1Y
  subst e3Y
  have e3Y := e2Y.symm
  clear e2Y
  subst e3Y
  obtain ⟨hP, hD⟩ := hJ rfl
  have hP : va_P D vwCl (gMo cA B (fN ((actZ S h n (stepR S)).2.1)) WA'_9 BG'_1 AS TX RW RR FD (nI ((actZ S h n (stepR S)).2.2.2)) m2 m3 m4 m5 m6 m7 k8_6 k9_6 m10 m11 m12 m13 m14 m15 m16 m17 m18 m19) H := hP
  have hD : va_D AY (gMo cA B (fN ((actZ S h n (stepR S)).2.1)) WA'_9 BG'_1 AS TX RW RR FD (nI ((actZ S h n (stepR S)).2.2.2)) m2 m3 m4 m5 m6 m7 k8_6 k9_6 m10 m11 m12 m13 m14 m15 m16 m17 m18 m19) := hD
  exact hret _ _ _ _ _ _ dX11_step_12 ⟨WA'_9, BG'_1, k8_6, k9_6, rfl, rfl, (by first | assumption | omega)⟩ hP hD hS

theorem hi_X11_comesFirst_X11 : ∀ w ∈ u_ws RX11 TX11 27, w ∈ wsX11_comesFirst := by decide +kernel
set_option maxHeartbeats 1000000 in
set_option maxRecDepth 100000 in
theorem k_X11_comesFirst (lY : Launch) (D : va_G) (cA : Nat → ClassId) (B : Nat → Nat) (S : St) (WA BG AS TX RW RR FD : Nat → Int32) (m1 m2 m3 m4 m5 m6 m7 m8 m9 m10 m11 m12 m13 m14 m15 m16 m17 m18 m19 : Int32) (w v p : Nat) (hp8 : p < 8) : MetV lY D cA yX11_comesFirst wsX11_comesFirst 0 0 0 0 [.ref (B 0), .int (nI w), .int (nI v), .int (nI p)] (gMo cA B (fN S) WA BG AS TX RW RR FD m1 m2 m3 m4 m5 m6 m7 m8 m9 m10 m11 m12 m13 m14 m15 m16 m17 m18 m19) (fun wY => wY = gMo cA B (fN (cfs S w v p)) WA BG AS TX RW RR FD m1 m2 m3 m4 m5 m6 m7 m8 m9 m10 m11 m12 m13 m14 m15 m16 m17 m18 m19) := by
  refine MetV.of (cc := cX11_comesFirst) (maxL := 5) (by decide) rfl (Nat.le_of_ble_eq_true rfl) ?_
  intro pY eY sY mY aY bY tY cY QY AY ls h0 hP hK hN hD hA hS hl hin hret
  obtain ⟨hx, hb, hml, hown, hts⟩ := id h0
  have hl : lv_has ls 5 [(0, .ref (B 0)), (1, .int (nI w)), (2, .int (nI v)), (3, .int (nI p))] := hl
  have hP : va_P D vwCl (gMo cA B (fN S) WA BG AS TX RW RR FD m1 m2 m3 m4 m5 m6 m7 m8 m9 m10 m11 m12 m13 m14 m15 m16 m17 m18 m19) sY.heap := hP
  have hD : va_D AY (gMo cA B (fN S) WA BG AS TX RW RR FD m1 m2 m3 m4 m5 m6 m7 m8 m9 m10 m11 m12 m13 m14 m15 m16 m17 m18 m19) := hD
  refine lv_iload_n hx hb dX11_comesFirst_0 rfl (lv_at hl 3 rfl) ?_
  refine lv_istore (lv' := [(4, .int (nI p)), (0, .ref (B 0)), (1, .int (nI w)), (2, .int (nI v)), (3, .int (nI p))]) hx hb dX11_comesFirst_1 hl (by decide) rfl (fun ls hl => ?_)
  have L3 : ∀ (nY : Nat), ∀ (k : Nat) (T : St), (k ≤ p) → (cfi p k S T) → (k < nY) → ∀ (H : Heap) (locs : List Loc) (ls : Array Slot), va_P D vwCl (gMo cA B (fN T) WA BG AS TX RW RR FD m1 m2 m3 m4 m5 m6 m7 m8 m9 m10 m11 m12 m13 m14 m15 m16 m17 m18 m19) H → va_D AY (gMo cA B (fN T) WA BG AS TX RW RR FD m1 m2 m3 m4 m5 m6 m7 m8 m9 m10 m11 m12 m13 m14 m15 m16 m17 m18 m19) → va_S AY sY.heap H locs → lv_has ls 5 [(0, .ref (B 0)), (1, .int (nI w)), (2, .int (nI v)), (3, .int (nI p)), (4, .int (nI k))] → W pY lY eY { frames := 0, cells := 0, slots := 0, locals := 0 } sY mY aY bY tY cY H locs 0 0 QY (F0 mY 3 ls []) := by
    intro nY3
    induction nY3 with
    | zero => intro k T hk hc hm3; exact absurd hm3 (Nat.not_lt_zero _)
    | succ nY3 ih3 =>
      intro k T hk hc hm3 H locs ls hP hD hS hl
      refine lv_iload hx hb dX11_comesFirst_3 (lv_at hl 4 rfl) ?_
      refine x0_le (tgt := 68) hx hb dX11_comesFirst_5 (by decide) (by omega) (fun c5 => ?_) (fun c5 => ?_)
      · have hk0 : k = 0 := by omega
        rw [hk0] at hc
        refine lv_aload_n hx hb dX11_comesFirst_68 rfl (lv_at hl 0 rfl) ?_
        refine va_get (D := D) (ci := 10) (v := .ref (B 1)) (C := RX11) (T := TX11) (N := 27) hx hb hts hi_X11_comesFirst_X11 hown hK hP 0 rfl rfl 0 (by decide) (hts (.fieldLink RX11 7 "FallingWordsModel" "s" "[I") (by decide +kernel)) (fun _ h9 => h9) rfl dX11_comesFirst_69 ?_
        refine lv_bipush (v := nI 36) hx hb dX11_comesFirst_72 (by decide +kernel) ?_
        refine lv_iload_n hx hb dX11_comesFirst_74 rfl (lv_at hl 1 rfl) ?_
        refine xa_st hx hb hK hP hD hS 1 rfl (by omega) (by decide) dX11_comesFirst_75 (fun H locs hP hD hS => ?_)
        have hP : va_P D vwCl (gMo cA B (upd (fN T) 36 (nI w)) WA BG AS TX RW RR FD m1 m2 m3 m4 m5 m6 m7 m8 m9 m10 m11 m12 m13 m14 m15 m16 m17 m18 m19) H := hP
        have hD : va_D AY (gMo cA B (upd (fN T) 36 (nI w)) WA BG AS TX RW RR FD m1 m2 m3 m4 m5 m6 m7 m8 m9 m10 m11 m12 m13 m14 m15 m16 m17 m18 m19) := hD
        rw [show upd (fN T) 36 (nI w) = fN (upN T 36 w) from fN_up] at hP hD
        refine lv_aload_n hx hb dX11_comesFirst_76 rfl (lv_at hl 0 rfl) ?_
        refine va_get (D := D) (ci := 10) (v := .ref (B 1)) (C := RX11) (T := TX11) (N := 27) hx hb hts hi_X11_comesFirst_X11 hown hK hP 0 rfl rfl 0 (by decide) (hts (.fieldLink RX11 7 "FallingWordsModel" "s" "[I") (by decide +kernel)) (fun _ h9 => h9) rfl dX11_comesFirst_77 ?_
        refine lv_bipush (v := nI 37) hx hb dX11_comesFirst_80 (by decide +kernel) ?_
        refine lv_iload_n hx hb dX11_comesFirst_82 rfl (lv_at hl 2 rfl) ?_
        refine xa_st hx hb hK hP hD hS 1 rfl (by omega) (by decide) dX11_comesFirst_83 (fun H locs hP hD hS => ?_)
        have hP : va_P D vwCl (gMo cA B (upd (fN (upN T 36 w)) 37 (nI v)) WA BG AS TX RW RR FD m1 m2 m3 m4 m5 m6 m7 m8 m9 m10 m11 m12 m13 m14 m15 m16 m17 m18 m19) H := hP
        have hD : va_D AY (gMo cA B (upd (fN (upN T 36 w)) 37 (nI v)) WA BG AS TX RW RR FD m1 m2 m3 m4 m5 m6 m7 m8 m9 m10 m11 m12 m13 m14 m15 m16 m17 m18 m19) := hD
        rw [show upd (fN (upN T 36 w)) 37 (nI v) = fN (upN (upN T 36 w) 37 v) from fN_up] at hP hD
        exact hret _ _ _ _ _ dX11_comesFirst_84 (by rw [cfi_e hc]) hP hD hS
      · refine lv_aload_n hx hb dX11_comesFirst_8 rfl (lv_at hl 0 rfl) ?_
        refine va_get (D := D) (ci := 10) (v := .ref (B 1)) (C := RX11) (T := TX11) (N := 27) hx hb hts hi_X11_comesFirst_X11 hown hK hP 0 rfl rfl 0 (by decide) (hts (.fieldLink RX11 7 "FallingWordsModel" "s" "[I") (by decide +kernel)) (fun _ h9 => h9) rfl dX11_comesFirst_9 ?_
        refine lv_bipush (v := nI 36) hx hb dX11_comesFirst_12 (by decide +kernel) ?_
        refine lv_iconst (v := nI 2) hx hb dX11_comesFirst_14 (by decide +kernel) ?_
        refine lv_iload hx hb dX11_comesFirst_15 (lv_at hl 4 rfl) ?_
        refine lv_imul hx hb dX11_comesFirst_17 ?_
        refine xt (show (nI 2) * (nI k) = nI (2 * k) from pk_mul _ _) ?_
        refine lv_iadd hx hb dX11_comesFirst_18 ?_
        refine xt (show (nI 36) + (nI (2 * k)) = nI (36 + (2 * k)) from nI_add _ _) ?_
        refine lv_aload_n hx hb dX11_comesFirst_19 rfl (lv_at hl 0 rfl) ?_
        refine va_get (D := D) (ci := 10) (v := .ref (B 1)) (C := RX11) (T := TX11) (N := 27) hx hb hts hi_X11_comesFirst_X11 hown hK hP 0 rfl rfl 0 (by decide) (hts (.fieldLink RX11 7 "FallingWordsModel" "s" "[I") (by decide +kernel)) (fun _ h9 => h9) rfl dX11_comesFirst_20 ?_
        refine lv_bipush (v := nI 36) hx hb dX11_comesFirst_23 (by decide +kernel) ?_
        refine lv_iconst (v := nI 2) hx hb dX11_comesFirst_25 (by decide +kernel) ?_
        refine lv_iload hx hb dX11_comesFirst_26 (lv_at hl 4 rfl) ?_
        refine lv_imul hx hb dX11_comesFirst_28 ?_
        refine xt (show (nI 2) * (nI k) = nI (2 * k) from pk_mul _ _) ?_
        refine lv_iadd hx hb dX11_comesFirst_29 ?_
        refine xt (show (nI 36) + (nI (2 * k)) = nI (36 + (2 * k)) from nI_add _ _) ?_
        refine lv_iconst (v := nI 2) hx hb dX11_comesFirst_30 (by decide +kernel) ?_
        refine lv_isub hx hb dX11_comesFirst_31 ?_
        refine xt (show (nI (36 + (2 * k))) - (nI 2) = nI ((36 + (2 * k)) - 2) from pk_sub (by omega)) ?_
        refine xa_ld (v := nI (S (36 + 2 * k - 2))) hx hb hK hP 1 rfl (by omega) (by decide) (congrArg nI ((hc _).trans (if_neg (by omega)))) dX11_comesFirst_32 ?_
        refine xa_st hx hb hK hP hD hS 1 rfl (by omega) (by decide) dX11_comesFirst_33 (fun H locs hP hD hS => ?_)
        have hP : va_P D vwCl (gMo cA B (upd (fN T) (36 + (2 * k)) (nI (S (36 + 2 * k - 2)))) WA BG AS TX RW RR FD m1 m2 m3 m4 m5 m6 m7 m8 m9 m10 m11 m12 m13 m14 m15 m16 m17 m18 m19) H := hP
        have hD : va_D AY (gMo cA B (upd (fN T) (36 + (2 * k)) (nI (S (36 + 2 * k - 2)))) WA BG AS TX RW RR FD m1 m2 m3 m4 m5 m6 m7 m8 m9 m10 m11 m12 m13 m14 m15 m16 m17 m18 m19) := hD
        rw [show upd (fN T) (36 + (2 * k)) (nI (S (36 + 2 * k - 2))) = fN (upN T (36 + (2 * k)) (S (36 + 2 * k - 2))) from fN_up] at hP hD
        refine lv_aload_n hx hb dX11_comesFirst_34 rfl (lv_at hl 0 rfl) ?_
        refine va_get (D := D) (ci := 10) (v := .ref (B 1)) (C := RX11) (T := TX11) (N := 27) hx hb hts hi_X11_comesFirst_X11 hown hK hP 0 rfl rfl 0 (by decide) (hts (.fieldLink RX11 7 "FallingWordsModel" "s" "[I") (by decide +kernel)) (fun _ h9 => h9) rfl dX11_comesFirst_35 ?_
        refine lv_bipush (v := nI 36) hx hb dX11_comesFirst_38 (by decide +kernel) ?_
        refine lv_iconst (v := nI 2) hx hb dX11_comesFirst_40 (by decide +kernel) ?_
        refine lv_iload hx hb dX11_comesFirst_41 (lv_at hl 4 rfl) ?_
        refine lv_imul hx hb dX11_comesFirst_43 ?_
        refine xt (show (nI 2) * (nI k) = nI (2 * k) from pk_mul _ _) ?_
        refine lv_iadd hx hb dX11_comesFirst_44 ?_
        refine xt (show (nI 36) + (nI (2 * k)) = nI (36 + (2 * k)) from nI_add _ _) ?_
        refine lv_iconst (v := nI 1) hx hb dX11_comesFirst_45 (by decide +kernel) ?_
        refine lv_iadd hx hb dX11_comesFirst_46 ?_
        refine xt (show (nI (36 + (2 * k))) + (nI 1) = nI (36 + (2 * k) + 1) from nI_add _ _) ?_
        refine lv_aload_n hx hb dX11_comesFirst_47 rfl (lv_at hl 0 rfl) ?_
        refine va_get (D := D) (ci := 10) (v := .ref (B 1)) (C := RX11) (T := TX11) (N := 27) hx hb hts hi_X11_comesFirst_X11 hown hK hP 0 rfl rfl 0 (by decide) (hts (.fieldLink RX11 7 "FallingWordsModel" "s" "[I") (by decide +kernel)) (fun _ h9 => h9) rfl dX11_comesFirst_48 ?_
        refine lv_bipush (v := nI 36) hx hb dX11_comesFirst_51 (by decide +kernel) ?_
        refine lv_iconst (v := nI 2) hx hb dX11_comesFirst_53 (by decide +kernel) ?_
        refine lv_iload hx hb dX11_comesFirst_54 (lv_at hl 4 rfl) ?_
        refine lv_imul hx hb dX11_comesFirst_56 ?_
        refine xt (show (nI 2) * (nI k) = nI (2 * k) from pk_mul _ _) ?_
        refine lv_iadd hx hb dX11_comesFirst_57 ?_
        refine xt (show (nI 36) + (nI (2 * k)) = nI (36 + (2 * k)) from nI_add _ _) ?_
        refine lv_iconst (v := nI 1) hx hb dX11_comesFirst_58 (by decide +kernel) ?_
        refine lv_isub hx hb dX11_comesFirst_59 ?_
        refine xt (show (nI (36 + (2 * k))) - (nI 1) = nI ((36 + (2 * k)) - 1) from pk_sub (by omega)) ?_
        refine xa_ld (v := nI (S (36 + 2 * k - 1))) hx hb hK hP 1 rfl (by omega) (by decide) (congrArg nI ((upN_n (by omega)).trans ((hc _).trans (if_neg (by omega))))) dX11_comesFirst_60 ?_
        refine xa_st hx hb hK hP hD hS 1 rfl (by omega) (by decide) dX11_comesFirst_61 (fun H locs hP hD hS => ?_)
        have hP : va_P D vwCl (gMo cA B (upd (fN (upN T (36 + (2 * k)) (S (36 + 2 * k - 2)))) (36 + (2 * k) + 1) (nI (S (36 + 2 * k - 1)))) WA BG AS TX RW RR FD m1 m2 m3 m4 m5 m6 m7 m8 m9 m10 m11 m12 m13 m14 m15 m16 m17 m18 m19) H := hP
        have hD : va_D AY (gMo cA B (upd (fN (upN T (36 + (2 * k)) (S (36 + 2 * k - 2)))) (36 + (2 * k) + 1) (nI (S (36 + 2 * k - 1)))) WA BG AS TX RW RR FD m1 m2 m3 m4 m5 m6 m7 m8 m9 m10 m11 m12 m13 m14 m15 m16 m17 m18 m19) := hD
        rw [show upd (fN (upN T (36 + (2 * k)) (S (36 + 2 * k - 2)))) (36 + (2 * k) + 1) (nI (S (36 + 2 * k - 1))) = fN (upN (upN T (36 + (2 * k)) (S (36 + 2 * k - 2))) (36 + (2 * k) + 1) (S (36 + 2 * k - 1))) from fN_up] at hP hD
        refine lv_iinc (v := nI (k - 1)) (lv' := [(4, .int (nI (k - 1))), (0, .ref (B 0)), (1, .int (nI w)), (2, .int (nI v)), (3, .int (nI p))]) hx hb dX11_comesFirst_62 hl (k := 4) rfl (show nI k + Int32.ofInt (-1) = nI (k - 1) from sb_m1 c5) (by decide) rfl (fun ls hl => ?_)
        refine lv_goto (tgt := 3) hx hb dX11_comesFirst_65 (by decide) ?_
        exact ih3 (k - 1) (upN (upN T (36 + 2 * k) (S (36 + 2 * k - 2))) (36 + 2 * k + 1) (S (36 + 2 * k - 1))) (by omega) (cfi_s hc c5 hk) (by omega) _ _ _ hP hD hS (lv_sub hl [1, 2, 3, 4, 0] rfl)
  exact L3 _ p S (by omega) (cfi_0) (Nat.lt_succ_self _) _ _ _ hP hD hS (lv_sub hl [1, 2, 3, 4, 0] rfl)

theorem hi_X11_normals_X11 : ∀ w ∈ u_ws RX11 TX11 27, w ∈ wsX11_normals := by decide +kernel
set_option maxHeartbeats 4000000 in
set_option maxRecDepth 100000 in
theorem k_X11_normals (lY : Launch) (D : va_G) (cA : Nat → ClassId) (B : Nat → Nat) (S : St) (WA BG AS TX RW RR FD : Nat → Int32) (m1 m2 m3 m4 m5 m6 m7 m8 m9 m10 m11 m12 m13 m14 m15 m16 m17 m18 m19 : Int32) (hI : IV S) : MetI lY D cA yX11_normals wsX11_normals 4 95 [.ref (B 0)] (gMo cA B (fN S) WA BG AS TX RW RR FD m1 m2 m3 m4 m5 m6 m7 m8 m9 m10 m11 m12 m13 m14 m15 m16 m17 m18 m19) (fun rY wY => ∃ (k8 : Int32) (k9 : Int32) (RW' : Nat → Int32) (RR' : Nat → Int32) (k10 : Int32) (k11 : Int32), rY = (normR S).1 ∧ wY = gMo cA B (fN ((normR S).2)) WA BG AS TX RW' RR' FD m1 m2 m3 m4 m5 m6 m7 k8 k9 k10 k11 m12 m13 m14 m15 m16 m17 m18 m19) := by
  refine MetI.of (cc := cX11_normals) (maxL := 4) (ret := (some .int)) (by decide) rfl (Nat.le_of_ble_eq_true rfl) (Or.inl rfl) ?_
  intro pY eY sY mY aY bY tY cY QY AY ls h0 hP hK hN hD hA hS hl hret
  obtain ⟨hx, hb, hml, hown, hts⟩ := id h0
  have hl : lv_has ls 4 [(0, .ref (B 0))] := hl
  have hP : va_P D vwCl (gMo cA B (fN S) WA BG AS TX RW RR FD m1 m2 m3 m4 m5 m6 m7 m8 m9 m10 m11 m12 m13 m14 m15 m16 m17 m18 m19) sY.heap := hP
  have hD : va_D AY (gMo cA B (fN S) WA BG AS TX RW RR FD m1 m2 m3 m4 m5 m6 m7 m8 m9 m10 m11 m12 m13 m14 m15 m16 m17 m18 m19) := hD
  have hIR := hI.1
  have hw := hI.2.2.1
  have h8 := hI.2.1
  have hB := vw_B hw (by decide)
  obtain ⟨z1, z2, z3, z4, z5, z6⟩ := red_ok hIR hw
  have h10 := hIR.1
  refine lv_aload_n hx hb dX11_normals_0 rfl (lv_at hl 0 rfl) ?_
  refine va_get (D := D) (ci := 10) (v := .ref (B 1)) (C := RX11) (T := TX11) (N := 27) hx hb hts hi_X11_normals_X11 hown hK hP 0 rfl rfl 0 (by decide) (hts (.fieldLink RX11 7 "FallingWordsModel" "s" "[I") (by decide +kernel)) (fun _ h9 => h9) rfl dX11_normals_1 ?_
  refine lv_iconst (v := nI 0) hx hb dX11_normals_4 (by decide +kernel) ?_
  refine xa_ld (v := nI (S 0)) hx hb hK hP 1 rfl (by omega) (by decide) (rfl) dX11_normals_5 ?_
  refine lv_istore_n (lv' := [(1, .int (nI (S 0))), (0, .ref (B 0))]) hx hb dX11_normals_6 rfl hl (by decide) rfl (fun ls hl => ?_)
  refine lv_iconst (v := nI 0) hx hb dX11_normals_7 (by decide +kernel) ?_
  refine lv_istore_n (lv' := [(2, .int (nI 0)), (1, .int (nI (S 0))), (0, .ref (B 0))]) hx hb dX11_normals_8 rfl hl (by decide) rfl (fun ls hl => ?_)
  have L9 : ∀ (nY : Nat), ∀ (k : Nat), (k ≤ S 3) → (∀ j, j < k → decide (S (36 + 2 * j) = S 0) = false) → (S 3 - k < nY) → ∀ (H : Heap) (locs : List Loc) (ls : Array Slot), va_P D vwCl (gMo cA B (fN S) WA BG AS TX RW RR FD m1 m2 m3 m4 m5 m6 m7 m8 m9 m10 m11 m12 m13 m14 m15 m16 m17 m18 m19) H → va_D AY (gMo cA B (fN S) WA BG AS TX RW RR FD m1 m2 m3 m4 m5 m6 m7 m8 m9 m10 m11 m12 m13 m14 m15 m16 m17 m18 m19) → va_S AY sY.heap H locs → lv_has ls 4 [(0, .ref (B 0)), (1, .int (nI (S 0))), (2, .int (nI k))] → W pY lY eY { frames := 4, cells := 0, slots := 0, locals := 95 } sY mY aY bY tY cY H locs 0 0 QY (F0 mY 9 ls []) := by
    intro nY9
    induction nY9 with
    | zero => intro k hk hno hm9; exact absurd hm9 (Nat.not_lt_zero _)
    | succ nY9 ih9 =>
      intro k hk hno hm9 H locs ls hP hD hS hl
      refine lv_iload_n hx hb dX11_normals_9 rfl (lv_at hl 2 rfl) ?_
      refine lv_aload_n hx hb dX11_normals_10 rfl (lv_at hl 0 rfl) ?_
      refine va_get (D := D) (ci := 10) (v := .ref (B 1)) (C := RX11) (T := TX11) (N := 27) hx hb hts hi_X11_normals_X11 hown hK hP 0 rfl rfl 0 (by decide) (hts (.fieldLink RX11 7 "FallingWordsModel" "s" "[I") (by decide +kernel)) (fun _ h9 => h9) rfl dX11_normals_11 ?_
      refine lv_iconst (v := nI 3) hx hb dX11_normals_14 (by decide +kernel) ?_
      refine xa_ld (v := nI (S 3)) hx hb hK hP 1 rfl (by omega) (by decide) (rfl) dX11_normals_15 ?_
      refine xc_ge (tgt := 84) hx hb dX11_normals_16 (by decide) (by omega) (by omega) (fun c16 => ?_) (fun c16 => ?_)
      · have hfn : ¬ fs S (S 0) < S 3 := by rw [show fs S (S 0) = S 3 from ff_none (fun j hj => hno j (by omega))]; omega
        refine lv_aload_n hx hb dX11_normals_84 rfl (lv_at hl 0 rfl) ?_
        refine lv_iload_n hx hb dX11_normals_85 rfl (lv_at hl 1 rfl) ?_
        refine ci_V (As := [.int (nI (S 0))]) (rest := []) h0 hK hN hP hD hS hA hl.1 (k_X11_reduces lY D cA B S WA BG AS TX RW RR FD m1 m2 m3 m4 m5 m6 m7 m8 m9 m10 m11 m12 m13 m14 m15 m16 m17 m18 m19 (S 0) (hIR) (hw)) [0, 1, 2, 3, 4, 5, 6, 7, 8] rfl (by decide) (cwV 1 hts gX11_normals_X11_reduces rfl rfl rfl (by decide +kernel) ⟨Nat.le_of_ble_eq_true rfl, Nat.le_of_ble_eq_true rfl⟩) (cl_recv (ci := 10) (q := (RX11, TX11, 27)) (q0 := 0) hP hK rfl rfl) rfl rfl (Nat.le_of_ble_eq_true rfl) dX11_normals_86 ⟨Nat.zero_le _, Nat.zero_le _⟩ (fun rY wY H locs hwY hJ hS => ?_)
        obtain ⟨k8_86, k9_86, RW'_86, RR'_86, k11_86, e1Y, e2Y, f1_86, f2_86, f3_86⟩ := hwY
        have e3Y := e1Y.symm
        clear e1Y
        subst e3Y
        have e3Y := e2Y.symm
        clear e2Y
        subst e3Y
        obtain ⟨hP, hD⟩ := hJ rfl
        have hP : va_P D vwCl (gMo cA B (fN S) WA BG AS TX RW'_86 RR'_86 FD m1 m2 m3 m4 m5 m6 m7 k8_86 k9_86 (nI ((red S (S 0)).2.1)) k11_86 m12 m13 m14 m15 m16 m17 m18 m19) H := hP
        have hD : va_D AY (gMo cA B (fN S) WA BG AS TX RW'_86 RR'_86 FD m1 m2 m3 m4 m5 m6 m7 k8_86 k9_86 (nI ((red S (S 0)).2.1)) k11_86 m12 m13 m14 m15 m16 m17 m18 m19) := hD
        refine lv_istore_n (lv' := [(2, .int (nI ((red S (S 0)).1))), (0, .ref (B 0)), (1, .int (nI (S 0)))]) hx hb dX11_normals_89 rfl hl (by decide) rfl (fun ls hl => ?_)
        refine lv_iload_n hx hb dX11_normals_90 rfl (lv_at hl 0 rfl) ?_
        refine x0_eq (tgt := 107) hx hb dX11_normals_91 (by decide) (by omega) (fun c91 => ?_) (fun c91 => ?_)
        · have hR := normR_z hfn c91
          have hcl : ∀ i, i < (red S (S 0)).2.1 → chr S (xs S (S 0) i) < 10 := fun i hi => by have := ch_lt hIR (z2 i hi).2 (z2 i hi).1; omega
          refine lv_iconst (v := nI 0) hx hb dX11_normals_107 (by decide +kernel) ?_
          refine lv_istore_n (lv' := [(3, .int (nI 0)), (2, .int (nI ((red S (S 0)).1))), (0, .ref (B 0)), (1, .int (nI (S 0)))]) hx hb dX11_normals_108 rfl hl (by decide) rfl (fun ls hl => ?_)
          have L109 : ∀ (nY : Nat), ∀ (i : Nat), (i ≤ (red S (S 0)).2.1) → ((red S (S 0)).2.1 - i < nY) → ∀ (H : Heap) (locs : List Loc) (ls : Array Slot), va_P D vwCl (gMo cA B (fN (bmp S (S 0) i)) WA BG AS TX RW'_86 RR'_86 FD m1 m2 m3 m4 m5 m6 m7 k8_86 k9_86 (nI ((red S (S 0)).2.1)) k11_86 m12 m13 m14 m15 m16 m17 m18 m19) H → va_D AY (gMo cA B (fN (bmp S (S 0) i)) WA BG AS TX RW'_86 RR'_86 FD m1 m2 m3 m4 m5 m6 m7 k8_86 k9_86 (nI ((red S (S 0)).2.1)) k11_86 m12 m13 m14 m15 m16 m17 m18 m19) → va_S AY sY.heap H locs → lv_has ls 4 [(0, .ref (B 0)), (1, .int (nI (S 0))), (2, .int (nI ((red S (S 0)).1))), (3, .int (nI i))] → W pY lY eY { frames := 4, cells := 0, slots := 0, locals := 95 } sY mY aY bY tY cY H locs 0 0 QY (F0 mY 109 ls []) := by
            intro nY109
            induction nY109 with
            | zero => intro i hi hm109; exact absurd hm109 (Nat.not_lt_zero _)
            | succ nY109 ih109 =>
              intro i hi hm109 H locs ls hP hD hS hl
              refine lv_iload_n hx hb dX11_normals_109 rfl (lv_at hl 3 rfl) ?_
              refine lv_aload_n hx hb dX11_normals_110 rfl (lv_at hl 0 rfl) ?_
              refine va_get (D := D) (ci := 10) (v := .int (nI ((red S (S 0)).2.1))) (C := RX11) (T := TX11) (N := 27) hx hb hts hi_X11_normals_X11 hown hK hP 0 rfl rfl 16 (by decide) (hts (.fieldLink RX11 64 "FallingWordsModel" "rowSteps" "I") (by decide +kernel)) (fun _ h9 => h9) rfl dX11_normals_111 ?_
              refine xc_ge (tgt := 145) hx hb dX11_normals_114 (by decide) (by omega) (by omega) (fun c114 => ?_) (fun c114 => ?_)
              · have hie : i = (red S (S 0)).2.1 := by omega
                rw [hie] at hP hD
                have hP : va_P D vwCl (gMo cA B (fN (bmp S (S 0) (red S (S 0)).2.1)) WA BG AS TX RW'_86 RR'_86 FD m1 m2 m3 m4 m5 m6 m7 k8_86 k9_86 (nI ((red S (S 0)).2.1)) k11_86 m12 m13 m14 m15 m16 m17 m18 m19) H := hP
                have hD : va_D AY (gMo cA B (fN (bmp S (S 0) (red S (S 0)).2.1)) WA BG AS TX RW'_86 RR'_86 FD m1 m2 m3 m4 m5 m6 m7 k8_86 k9_86 (nI ((red S (S 0)).2.1)) k11_86 m12 m13 m14 m15 m16 m17 m18 m19) := hD
                refine lv_aload_n hx hb dX11_normals_145 rfl (lv_at hl 0 rfl) ?_
                refine va_get (D := D) (ci := 10) (v := .ref (B 1)) (C := RX11) (T := TX11) (N := 27) hx hb hts hi_X11_normals_X11 hown hK hP 0 rfl rfl 0 (by decide) (hts (.fieldLink RX11 7 "FallingWordsModel" "s" "[I") (by decide +kernel)) (fun _ h9 => h9) rfl dX11_normals_146 ?_
                refine lv_iconst (v := nI 5) hx hb dX11_normals_149 (by decide +kernel) ?_
                refine lv_dup2_11 hx hb dX11_normals_150 rfl rfl ?_
                refine xa_ld (v := nI (S 5)) hx hb hK hP 1 rfl (by omega) (by decide) (congrArg nI (bmp_lo (by omega))) dX11_normals_151 ?_
                refine lv_aload_n hx hb dX11_normals_152 rfl (lv_at hl 0 rfl) ?_
                refine va_get (D := D) (ci := 10) (v := .int (nI ((red S (S 0)).2.1))) (C := RX11) (T := TX11) (N := 27) hx hb hts hi_X11_normals_X11 hown hK hP 0 rfl rfl 16 (by decide) (hts (.fieldLink RX11 64 "FallingWordsModel" "rowSteps" "I") (by decide +kernel)) (fun _ h9 => h9) rfl dX11_normals_153 ?_
                refine lv_iadd hx hb dX11_normals_156 ?_
                refine xt (show (nI (S 5)) + (nI ((red S (S 0)).2.1)) = nI (S 5 + ((red S (S 0)).2.1)) from nI_add _ _) ?_
                refine xa_st hx hb hK hP hD hS 1 rfl (by omega) (by decide) dX11_normals_157 (fun H locs hP hD hS => ?_)
                have hP : va_P D vwCl (gMo cA B (upd (fN (bmp S (S 0) (red S (S 0)).2.1)) 5 (nI (S 5 + ((red S (S 0)).2.1)))) WA BG AS TX RW'_86 RR'_86 FD m1 m2 m3 m4 m5 m6 m7 k8_86 k9_86 (nI ((red S (S 0)).2.1)) k11_86 m12 m13 m14 m15 m16 m17 m18 m19) H := hP
                have hD : va_D AY (gMo cA B (upd (fN (bmp S (S 0) (red S (S 0)).2.1)) 5 (nI (S 5 + ((red S (S 0)).2.1)))) WA BG AS TX RW'_86 RR'_86 FD m1 m2 m3 m4 m5 m6 m7 k8_86 k9_86 (nI ((red S (S 0)).2.1)) k11_86 m12 m13 m14 m15 m16 m17 m18 m19) := hD
                rw [show upd (fN (bmp S (S 0) (red S (S 0)).2.1)) 5 (nI (S 5 + ((red S (S 0)).2.1))) = fN (upN (bmp S (S 0) (red S (S 0)).2.1) 5 (S 5 + ((red S (S 0)).2.1))) from fN_up] at hP hD
                refine lv_aload_n hx hb dX11_normals_158 rfl (lv_at hl 0 rfl) ?_
                refine va_get (D := D) (ci := 10) (v := .ref (B 1)) (C := RX11) (T := TX11) (N := 27) hx hb hts hi_X11_normals_X11 hown hK hP 0 rfl rfl 0 (by decide) (hts (.fieldLink RX11 7 "FallingWordsModel" "s" "[I") (by decide +kernel)) (fun _ h9 => h9) rfl dX11_normals_159 ?_
                refine lv_iconst (v := nI 0) hx hb dX11_normals_162 (by decide +kernel) ?_
                refine lv_aload_n hx hb dX11_normals_163 rfl (lv_at hl 0 rfl) ?_
                refine va_get (D := D) (ci := 10) (v := .ref (B 6)) (C := RX11) (T := TX11) (N := 27) hx hb hts hi_X11_normals_X11 hown hK hP 0 rfl rfl 14 (by decide) (hts (.fieldLink RX11 26 "FallingWordsModel" "row" "[I") (by decide +kernel)) (fun _ h9 => h9) rfl dX11_normals_164 ?_
                refine lv_aload_n hx hb dX11_normals_167 rfl (lv_at hl 0 rfl) ?_
                refine va_get (D := D) (ci := 10) (v := .int (nI ((red S (S 0)).2.1))) (C := RX11) (T := TX11) (N := 27) hx hb hts hi_X11_normals_X11 hown hK hP 0 rfl rfl 16 (by decide) (hts (.fieldLink RX11 64 "FallingWordsModel" "rowSteps" "I") (by decide +kernel)) (fun _ h9 => h9) rfl dX11_normals_168 ?_
                refine xa_ld (v := nI (xs S (S 0) (red S (S 0)).2.1)) hx hb hK hP 6 rfl (by omega) (by decide) (f1_86 _ (Nat.le_refl _)) dX11_normals_171 ?_
                refine xa_st hx hb hK hP hD hS 1 rfl (by omega) (by decide) dX11_normals_172 (fun H locs hP hD hS => ?_)
                have hP : va_P D vwCl (gMo cA B (upd (fN (upN (bmp S (S 0) (red S (S 0)).2.1) 5 (S 5 + ((red S (S 0)).2.1)))) 0 (nI (xs S (S 0) (red S (S 0)).2.1))) WA BG AS TX RW'_86 RR'_86 FD m1 m2 m3 m4 m5 m6 m7 k8_86 k9_86 (nI ((red S (S 0)).2.1)) k11_86 m12 m13 m14 m15 m16 m17 m18 m19) H := hP
                have hD : va_D AY (gMo cA B (upd (fN (upN (bmp S (S 0) (red S (S 0)).2.1) 5 (S 5 + ((red S (S 0)).2.1)))) 0 (nI (xs S (S 0) (red S (S 0)).2.1))) WA BG AS TX RW'_86 RR'_86 FD m1 m2 m3 m4 m5 m6 m7 k8_86 k9_86 (nI ((red S (S 0)).2.1)) k11_86 m12 m13 m14 m15 m16 m17 m18 m19) := hD
                rw [show upd (fN (upN (bmp S (S 0) (red S (S 0)).2.1) 5 (S 5 + ((red S (S 0)).2.1)))) 0 (nI (xs S (S 0) (red S (S 0)).2.1)) = fN (upN (upN (bmp S (S 0) (red S (S 0)).2.1) 5 (S 5 + ((red S (S 0)).2.1))) 0 (xs S (S 0) (red S (S 0)).2.1)) from fN_up] at hP hD
                refine lv_aload_n hx hb dX11_normals_173 rfl (lv_at hl 0 rfl) ?_
                refine va_get (D := D) (ci := 10) (v := .ref (B 1)) (C := RX11) (T := TX11) (N := 27) hx hb hts hi_X11_normals_X11 hown hK hP 0 rfl rfl 0 (by decide) (hts (.fieldLink RX11 7 "FallingWordsModel" "s" "[I") (by decide +kernel)) (fun _ h9 => h9) rfl dX11_normals_174 ?_
                refine lv_iconst (v := nI 3) hx hb dX11_normals_177 (by decide +kernel) ?_
                refine lv_aload_n hx hb dX11_normals_178 rfl (lv_at hl 0 rfl) ?_
                refine va_get (D := D) (ci := 10) (v := .ref (B 1)) (C := RX11) (T := TX11) (N := 27) hx hb hts hi_X11_normals_X11 hown hK hP 0 rfl rfl 0 (by decide) (hts (.fieldLink RX11 7 "FallingWordsModel" "s" "[I") (by decide +kernel)) (fun _ h9 => h9) rfl dX11_normals_179 ?_
                refine lv_iconst (v := nI 3) hx hb dX11_normals_182 (by decide +kernel) ?_
                refine xa_ld (v := nI (S 3)) hx hb hK hP 1 rfl (by omega) (by decide) (congrArg nI ((upN_n (by omega)).trans ((upN_n (by omega)).trans (bmp_lo (by omega))))) dX11_normals_183 ?_
                refine lv_bipush (v := nI 8) hx hb dX11_normals_184 (by decide +kernel) ?_
                refine xc_ge (tgt := 200) hx hb dX11_normals_186 (by decide) (by omega) (by omega) (fun c186 => ?_) (fun c186 => ?_)
                · refine lv_bipush (v := nI 8) hx hb dX11_normals_200 (by decide +kernel) ?_
                  refine xt (show _ = nI (min (S 3 + 1) 8) from congrArg nI (by omega)) ?_
                  refine xa_st hx hb hK hP hD hS 1 rfl (by omega) (by decide) dX11_normals_202 (fun H locs hP hD hS => ?_)
                  have hP : va_P D vwCl (gMo cA B (upd (fN (upN (upN (bmp S (S 0) (red S (S 0)).2.1) 5 (S 5 + ((red S (S 0)).2.1))) 0 (xs S (S 0) (red S (S 0)).2.1))) 3 (nI (min (S 3 + 1) 8))) WA BG AS TX RW'_86 RR'_86 FD m1 m2 m3 m4 m5 m6 m7 k8_86 k9_86 (nI ((red S (S 0)).2.1)) k11_86 m12 m13 m14 m15 m16 m17 m18 m19) H := hP
                  have hD : va_D AY (gMo cA B (upd (fN (upN (upN (bmp S (S 0) (red S (S 0)).2.1) 5 (S 5 + ((red S (S 0)).2.1))) 0 (xs S (S 0) (red S (S 0)).2.1))) 3 (nI (min (S 3 + 1) 8))) WA BG AS TX RW'_86 RR'_86 FD m1 m2 m3 m4 m5 m6 m7 k8_86 k9_86 (nI ((red S (S 0)).2.1)) k11_86 m12 m13 m14 m15 m16 m17 m18 m19) := hD
                  rw [show upd (fN (upN (upN (bmp S (S 0) (red S (S 0)).2.1) 5 (S 5 + ((red S (S 0)).2.1))) 0 (xs S (S 0) (red S (S 0)).2.1))) 3 (nI (min (S 3 + 1) 8)) = fN (upN (upN (upN (bmp S (S 0) (red S (S 0)).2.1) 5 (S 5 + ((red S (S 0)).2.1))) 0 (xs S (S 0) (red S (S 0)).2.1)) 3 (min (S 3 + 1) 8)) from fN_up] at hP hD
                  refine lv_aload_n hx hb dX11_normals_203 rfl (lv_at hl 0 rfl) ?_
                  refine lv_iload_n hx hb dX11_normals_204 rfl (lv_at hl 1 rfl) ?_
                  refine lv_aload_n hx hb dX11_normals_205 rfl (lv_at hl 0 rfl) ?_
                  refine va_get (D := D) (ci := 10) (v := .ref (B 1)) (C := RX11) (T := TX11) (N := 27) hx hb hts hi_X11_normals_X11 hown hK hP 0 rfl rfl 0 (by decide) (hts (.fieldLink RX11 7 "FallingWordsModel" "s" "[I") (by decide +kernel)) (fun _ h9 => h9) rfl dX11_normals_206 ?_
                  refine lv_iconst (v := nI 0) hx hb dX11_normals_209 (by decide +kernel) ?_
                  refine xa_ld (v := nI (xs S (S 0) (red S (S 0)).2.1)) hx hb hK hP 1 rfl (by omega) (by decide) (congrArg nI ((upN_n (by omega)).trans upN_s)) dX11_normals_210 ?_
                  refine lv_aload_n hx hb dX11_normals_211 rfl (lv_at hl 0 rfl) ?_
                  refine va_get (D := D) (ci := 10) (v := .ref (B 1)) (C := RX11) (T := TX11) (N := 27) hx hb hts hi_X11_normals_X11 hown hK hP 0 rfl rfl 0 (by decide) (hts (.fieldLink RX11 7 "FallingWordsModel" "s" "[I") (by decide +kernel)) (fun _ h9 => h9) rfl dX11_normals_212 ?_
                  refine lv_iconst (v := nI 3) hx hb dX11_normals_215 (by decide +kernel) ?_
                  refine xa_ld (v := nI (min (S 3 + 1) 8)) hx hb hK hP 1 rfl (by omega) (by decide) (congrArg nI upN_s) dX11_normals_216 ?_
                  refine lv_iconst (v := nI 1) hx hb dX11_normals_217 (by decide +kernel) ?_
                  refine lv_isub hx hb dX11_normals_218 ?_
                  refine xt (show (nI (min (S 3 + 1) 8)) - (nI 1) = nI ((min (S 3 + 1) 8) - 1) from pk_sub (by omega)) ?_
                  refine cv_V (As := [.int (nI (S 0)), .int (nI (xs S (S 0) (red S (S 0)).2.1)), .int (nI ((min (S 3 + 1) 8) - 1))]) (rest := []) h0 hK hN hP hD hS hA hl.1 (k_X11_comesFirst lY D cA B (upN (upN (upN (bmp S (S 0) (red S (S 0)).2.1) 5 (S 5 + ((red S (S 0)).2.1))) 0 (xs S (S 0) (red S (S 0)).2.1)) 3 (min (S 3 + 1) 8)) WA BG AS TX RW'_86 RR'_86 FD m1 m2 m3 m4 m5 m6 m7 k8_86 k9_86 (nI ((red S (S 0)).2.1)) k11_86 m12 m13 m14 m15 m16 m17 m18 m19 (S 0) (xs S (S 0) (red S (S 0)).2.1) ((min (S 3 + 1) 8) - 1) (by omega)) [0, 1, 2, 3, 4, 5, 6, 7, 8] rfl (by decide) (cwV 3 hts gX11_normals_X11_comesFirst rfl rfl rfl (by decide +kernel) ⟨Nat.le_of_ble_eq_true rfl, Nat.le_of_ble_eq_true rfl⟩) (cl_recv (ci := 10) (q := (RX11, TX11, 27)) (q0 := 0) hP hK rfl rfl) rfl rfl (Nat.le_of_ble_eq_true rfl) dX11_normals_219 ⟨Nat.zero_le _, Nat.zero_le _⟩ (fun wY H locs hwY hJ hS => ?_)
                  have e2Y := hwY
                  have e3Y := e2Y.symm
                  clear e2Y
                  subst e3Y
                  obtain ⟨hP, hD⟩ := hJ rfl
                  have hP : va_P D vwCl (gMo cA B (fN (cfs (upN (upN (upN (bmp S (S 0) (red S (S 0)).2.1) 5 (S 5 + ((red S (S 0)).2.1))) 0 (xs S (S 0) (red S (S 0)).2.1)) 3 (min (S 3 + 1) 8)) (S 0) (xs S (S 0) (red S (S 0)).2.1) ((min (S 3 + 1) 8) - 1))) WA BG AS TX RW'_86 RR'_86 FD m1 m2 m3 m4 m5 m6 m7 k8_86 k9_86 (nI ((red S (S 0)).2.1)) k11_86 m12 m13 m14 m15 m16 m17 m18 m19) H := hP
                  have hD : va_D AY (gMo cA B (fN (cfs (upN (upN (upN (bmp S (S 0) (red S (S 0)).2.1) 5 (S 5 + ((red S (S 0)).2.1))) 0 (xs S (S 0) (red S (S 0)).2.1)) 3 (min (S 3 + 1) 8)) (S 0) (xs S (S 0) (red S (S 0)).2.1) ((min (S 3 + 1) 8) - 1))) WA BG AS TX RW'_86 RR'_86 FD m1 m2 m3 m4 m5 m6 m7 k8_86 k9_86 (nI ((red S (S 0)).2.1)) k11_86 m12 m13 m14 m15 m16 m17 m18 m19) := hD
                  refine lv_aload_n hx hb dX11_normals_222 rfl (lv_at hl 0 rfl) ?_
                  refine va_get (D := D) (ci := 10) (v := .int (nI ((red S (S 0)).2.1))) (C := RX11) (T := TX11) (N := 27) hx hb hts hi_X11_normals_X11 hown hK hP 0 rfl rfl 16 (by decide) (hts (.fieldLink RX11 64 "FallingWordsModel" "rowSteps" "I") (by decide +kernel)) (fun _ h9 => h9) rfl dX11_normals_223 ?_
                  exact hret _ _ _ _ _ _ dX11_normals_226 ⟨k8_86, k9_86, RW'_86, RR'_86, ((nI ((red S (S 0)).2.1))), k11_86, (by rw [hR]), (by rw [hR]; show _ = _; unfold nmS putS; rw [show (upN (upN (bmp S (S 0) (red S (S 0)).2.1) 5 (S 5 + (red S (S 0)).2.1)) 0 (xs S (S 0) (red S (S 0)).2.1)) 3 = S 3 from (upN_n (by omega)).trans ((upN_n (by omega)).trans (bmp_lo (by omega)))])⟩ hP hD hS
                · refine lv_aload_n hx hb dX11_normals_189 rfl (lv_at hl 0 rfl) ?_
                  refine va_get (D := D) (ci := 10) (v := .ref (B 1)) (C := RX11) (T := TX11) (N := 27) hx hb hts hi_X11_normals_X11 hown hK hP 0 rfl rfl 0 (by decide) (hts (.fieldLink RX11 7 "FallingWordsModel" "s" "[I") (by decide +kernel)) (fun _ h9 => h9) rfl dX11_normals_190 ?_
                  refine lv_iconst (v := nI 3) hx hb dX11_normals_193 (by decide +kernel) ?_
                  refine xa_ld (v := nI (S 3)) hx hb hK hP 1 rfl (by omega) (by decide) (congrArg nI ((upN_n (by omega)).trans ((upN_n (by omega)).trans (bmp_lo (by omega))))) dX11_normals_194 ?_
                  refine lv_iconst (v := nI 1) hx hb dX11_normals_195 (by decide +kernel) ?_
                  refine lv_iadd hx hb dX11_normals_196 ?_
                  refine xt (show (nI (S 3)) + (nI 1) = nI (S 3 + 1) from nI_add _ _) ?_
                  refine lv_goto (tgt := 202) hx hb dX11_normals_197 (by decide) ?_
                  refine xt (show _ = nI (min (S 3 + 1) 8) from congrArg nI (by omega)) ?_
                  refine xa_st hx hb hK hP hD hS 1 rfl (by omega) (by decide) dX11_normals_202 (fun H locs hP hD hS => ?_)
                  have hP : va_P D vwCl (gMo cA B (upd (fN (upN (upN (bmp S (S 0) (red S (S 0)).2.1) 5 (S 5 + ((red S (S 0)).2.1))) 0 (xs S (S 0) (red S (S 0)).2.1))) 3 (nI (min (S 3 + 1) 8))) WA BG AS TX RW'_86 RR'_86 FD m1 m2 m3 m4 m5 m6 m7 k8_86 k9_86 (nI ((red S (S 0)).2.1)) k11_86 m12 m13 m14 m15 m16 m17 m18 m19) H := hP
                  have hD : va_D AY (gMo cA B (upd (fN (upN (upN (bmp S (S 0) (red S (S 0)).2.1) 5 (S 5 + ((red S (S 0)).2.1))) 0 (xs S (S 0) (red S (S 0)).2.1))) 3 (nI (min (S 3 + 1) 8))) WA BG AS TX RW'_86 RR'_86 FD m1 m2 m3 m4 m5 m6 m7 k8_86 k9_86 (nI ((red S (S 0)).2.1)) k11_86 m12 m13 m14 m15 m16 m17 m18 m19) := hD
                  rw [show upd (fN (upN (upN (bmp S (S 0) (red S (S 0)).2.1) 5 (S 5 + ((red S (S 0)).2.1))) 0 (xs S (S 0) (red S (S 0)).2.1))) 3 (nI (min (S 3 + 1) 8)) = fN (upN (upN (upN (bmp S (S 0) (red S (S 0)).2.1) 5 (S 5 + ((red S (S 0)).2.1))) 0 (xs S (S 0) (red S (S 0)).2.1)) 3 (min (S 3 + 1) 8)) from fN_up] at hP hD
                  refine lv_aload_n hx hb dX11_normals_203 rfl (lv_at hl 0 rfl) ?_
                  refine lv_iload_n hx hb dX11_normals_204 rfl (lv_at hl 1 rfl) ?_
                  refine lv_aload_n hx hb dX11_normals_205 rfl (lv_at hl 0 rfl) ?_
                  refine va_get (D := D) (ci := 10) (v := .ref (B 1)) (C := RX11) (T := TX11) (N := 27) hx hb hts hi_X11_normals_X11 hown hK hP 0 rfl rfl 0 (by decide) (hts (.fieldLink RX11 7 "FallingWordsModel" "s" "[I") (by decide +kernel)) (fun _ h9 => h9) rfl dX11_normals_206 ?_
                  refine lv_iconst (v := nI 0) hx hb dX11_normals_209 (by decide +kernel) ?_
                  refine xa_ld (v := nI (xs S (S 0) (red S (S 0)).2.1)) hx hb hK hP 1 rfl (by omega) (by decide) (congrArg nI ((upN_n (by omega)).trans upN_s)) dX11_normals_210 ?_
                  refine lv_aload_n hx hb dX11_normals_211 rfl (lv_at hl 0 rfl) ?_
                  refine va_get (D := D) (ci := 10) (v := .ref (B 1)) (C := RX11) (T := TX11) (N := 27) hx hb hts hi_X11_normals_X11 hown hK hP 0 rfl rfl 0 (by decide) (hts (.fieldLink RX11 7 "FallingWordsModel" "s" "[I") (by decide +kernel)) (fun _ h9 => h9) rfl dX11_normals_212 ?_
                  refine lv_iconst (v := nI 3) hx hb dX11_normals_215 (by decide +kernel) ?_
                  refine xa_ld (v := nI (min (S 3 + 1) 8)) hx hb hK hP 1 rfl (by omega) (by decide) (congrArg nI upN_s) dX11_normals_216 ?_
                  refine lv_iconst (v := nI 1) hx hb dX11_normals_217 (by decide +kernel) ?_
                  refine lv_isub hx hb dX11_normals_218 ?_
                  refine xt (show (nI (min (S 3 + 1) 8)) - (nI 1) = nI ((min (S 3 + 1) 8) - 1) from pk_sub (by omega)) ?_
                  refine cv_V (As := [.int (nI (S 0)), .int (nI (xs S (S 0) (red S (S 0)).2.1)), .int (nI ((min (S 3 + 1) 8) - 1))]) (rest := []) h0 hK hN hP hD hS hA hl.1 (k_X11_comesFirst lY D cA B (upN (upN (upN (bmp S (S 0) (red S (S 0)).2.1) 5 (S 5 + ((red S (S 0)).2.1))) 0 (xs S (S 0) (red S (S 0)).2.1)) 3 (min (S 3 + 1) 8)) WA BG AS TX RW'_86 RR'_86 FD m1 m2 m3 m4 m5 m6 m7 k8_86 k9_86 (nI ((red S (S 0)).2.1)) k11_86 m12 m13 m14 m15 m16 m17 m18 m19 (S 0) (xs S (S 0) (red S (S 0)).2.1) ((min (S 3 + 1) 8) - 1) (by omega)) [0, 1, 2, 3, 4, 5, 6, 7, 8] rfl (by decide) (cwV 3 hts gX11_normals_X11_comesFirst rfl rfl rfl (by decide +kernel) ⟨Nat.le_of_ble_eq_true rfl, Nat.le_of_ble_eq_true rfl⟩) (cl_recv (ci := 10) (q := (RX11, TX11, 27)) (q0 := 0) hP hK rfl rfl) rfl rfl (Nat.le_of_ble_eq_true rfl) dX11_normals_219 ⟨Nat.zero_le _, Nat.zero_le _⟩ (fun wY H locs hwY hJ hS => ?_)
                  have e2Y := hwY
                  have e3Y := e2Y.symm
                  clear e2Y
                  subst e3Y
                  obtain ⟨hP, hD⟩ := hJ rfl
                  have hP : va_P D vwCl (gMo cA B (fN (cfs (upN (upN (upN (bmp S (S 0) (red S (S 0)).2.1) 5 (S 5 + ((red S (S 0)).2.1))) 0 (xs S (S 0) (red S (S 0)).2.1)) 3 (min (S 3 + 1) 8)) (S 0) (xs S (S 0) (red S (S 0)).2.1) ((min (S 3 + 1) 8) - 1))) WA BG AS TX RW'_86 RR'_86 FD m1 m2 m3 m4 m5 m6 m7 k8_86 k9_86 (nI ((red S (S 0)).2.1)) k11_86 m12 m13 m14 m15 m16 m17 m18 m19) H := hP
                  have hD : va_D AY (gMo cA B (fN (cfs (upN (upN (upN (bmp S (S 0) (red S (S 0)).2.1) 5 (S 5 + ((red S (S 0)).2.1))) 0 (xs S (S 0) (red S (S 0)).2.1)) 3 (min (S 3 + 1) 8)) (S 0) (xs S (S 0) (red S (S 0)).2.1) ((min (S 3 + 1) 8) - 1))) WA BG AS TX RW'_86 RR'_86 FD m1 m2 m3 m4 m5 m6 m7 k8_86 k9_86 (nI ((red S (S 0)).2.1)) k11_86 m12 m13 m14 m15 m16 m17 m18 m19) := hD
                  refine lv_aload_n hx hb dX11_normals_222 rfl (lv_at hl 0 rfl) ?_
                  refine va_get (D := D) (ci := 10) (v := .int (nI ((red S (S 0)).2.1))) (C := RX11) (T := TX11) (N := 27) hx hb hts hi_X11_normals_X11 hown hK hP 0 rfl rfl 16 (by decide) (hts (.fieldLink RX11 64 "FallingWordsModel" "rowSteps" "I") (by decide +kernel)) (fun _ h9 => h9) rfl dX11_normals_223 ?_
                  exact hret _ _ _ _ _ _ dX11_normals_226 ⟨k8_86, k9_86, RW'_86, RR'_86, ((nI ((red S (S 0)).2.1))), k11_86, (by rw [hR]), (by rw [hR]; show _ = _; unfold nmS putS; rw [show (upN (upN (bmp S (S 0) (red S (S 0)).2.1) 5 (S 5 + (red S (S 0)).2.1)) 0 (xs S (S 0) (red S (S 0)).2.1)) 3 = S 3 from (upN_n (by omega)).trans ((upN_n (by omega)).trans (bmp_lo (by omega)))])⟩ hP hD hS
              · have hci := hcl i (by omega)
                refine lv_aload_n hx hb dX11_normals_117 rfl (lv_at hl 0 rfl) ?_
                refine va_get (D := D) (ci := 10) (v := .ref (B 1)) (C := RX11) (T := TX11) (N := 27) hx hb hts hi_X11_normals_X11 hown hK hP 0 rfl rfl 0 (by decide) (hts (.fieldLink RX11 7 "FallingWordsModel" "s" "[I") (by decide +kernel)) (fun _ h9 => h9) rfl dX11_normals_118 ?_
                refine lv_bipush (v := nI 6) hx hb dX11_normals_121 (by decide +kernel) ?_
                refine lv_iconst (v := nI 3) hx hb dX11_normals_123 (by decide +kernel) ?_
                refine lv_aload_n hx hb dX11_normals_124 rfl (lv_at hl 0 rfl) ?_
                refine va_get (D := D) (ci := 10) (v := .ref (B 7)) (C := RX11) (T := TX11) (N := 27) hx hb hts hi_X11_normals_X11 hown hK hP 0 rfl rfl 15 (by decide) (hts (.fieldLink RX11 29 "FallingWordsModel" "rowRule" "[I") (by decide +kernel)) (fun _ h9 => h9) rfl dX11_normals_125 ?_
                refine lv_iload_n hx hb dX11_normals_128 rfl (lv_at hl 3 rfl) ?_
                refine xa_ld (v := nI (chr S (xs S (S 0) i))) hx hb hK hP 7 rfl (by omega) (by decide) (f2_86 i (by omega)) dX11_normals_129 ?_
                refine lv_imul hx hb dX11_normals_130 ?_
                refine xt (show (nI 3) * (nI (chr S (xs S (S 0) i))) = nI (3 * (chr S (xs S (S 0) i))) from pk_mul _ _) ?_
                refine lv_iadd hx hb dX11_normals_131 ?_
                refine xt (show (nI 6) + (nI (3 * (chr S (xs S (S 0) i)))) = nI (6 + (3 * (chr S (xs S (S 0) i)))) from nI_add _ _) ?_
                refine lv_iconst (v := nI 2) hx hb dX11_normals_132 (by decide +kernel) ?_
                refine lv_iadd hx hb dX11_normals_133 ?_
                refine xt (show (nI (6 + (3 * (chr S (xs S (S 0) i))))) + (nI 2) = nI (6 + (3 * (chr S (xs S (S 0) i))) + 2) from nI_add _ _) ?_
                refine lv_dup2_11 hx hb dX11_normals_134 rfl rfl ?_
                refine xa_ld (v := nI ((bmp S (S 0) i) (6 + (3 * (chr S (xs S (S 0) i))) + 2))) hx hb hK hP 1 rfl (by omega) (by decide) (rfl) dX11_normals_135 ?_
                refine lv_iconst (v := nI 1) hx hb dX11_normals_136 (by decide +kernel) ?_
                refine lv_iadd hx hb dX11_normals_137 ?_
                refine xt (show (nI ((bmp S (S 0) i) (6 + (3 * (chr S (xs S (S 0) i))) + 2))) + (nI 1) = nI ((bmp S (S 0) i) (6 + (3 * (chr S (xs S (S 0) i))) + 2) + 1) from nI_add _ _) ?_
                refine xa_st hx hb hK hP hD hS 1 rfl (by omega) (by decide) dX11_normals_138 (fun H locs hP hD hS => ?_)
                have hP : va_P D vwCl (gMo cA B (upd (fN (bmp S (S 0) i)) (6 + (3 * (chr S (xs S (S 0) i))) + 2) (nI ((bmp S (S 0) i) (6 + (3 * (chr S (xs S (S 0) i))) + 2) + 1))) WA BG AS TX RW'_86 RR'_86 FD m1 m2 m3 m4 m5 m6 m7 k8_86 k9_86 (nI ((red S (S 0)).2.1)) k11_86 m12 m13 m14 m15 m16 m17 m18 m19) H := hP
                have hD : va_D AY (gMo cA B (upd (fN (bmp S (S 0) i)) (6 + (3 * (chr S (xs S (S 0) i))) + 2) (nI ((bmp S (S 0) i) (6 + (3 * (chr S (xs S (S 0) i))) + 2) + 1))) WA BG AS TX RW'_86 RR'_86 FD m1 m2 m3 m4 m5 m6 m7 k8_86 k9_86 (nI ((red S (S 0)).2.1)) k11_86 m12 m13 m14 m15 m16 m17 m18 m19) := hD
                rw [show upd (fN (bmp S (S 0) i)) (6 + (3 * (chr S (xs S (S 0) i))) + 2) (nI ((bmp S (S 0) i) (6 + (3 * (chr S (xs S (S 0) i))) + 2) + 1)) = fN (upN (bmp S (S 0) i) (6 + (3 * (chr S (xs S (S 0) i))) + 2) ((bmp S (S 0) i) (6 + (3 * (chr S (xs S (S 0) i))) + 2) + 1)) from fN_up] at hP hD
                refine lv_iinc (v := nI (i + 1)) (lv' := [(3, .int (nI (i + 1))), (0, .ref (B 0)), (1, .int (nI (S 0))), (2, .int (nI ((red S (S 0)).1)))]) hx hb dX11_normals_139 hl (k := 3) rfl (show nI i + Int32.ofInt 1 = nI (i + 1) from nI_add i 1) (by decide) rfl (fun ls hl => ?_)
                refine lv_goto (tgt := 109) hx hb dX11_normals_142 (by decide) ?_
                exact ih109 (i + 1) (by omega) (by omega) _ _ _ hP hD hS (lv_sub hl [1, 2, 3, 0] rfl)
          exact L109 _ 0 (by omega) (Nat.lt_succ_self _) _ _ _ hP hD hS (lv_sub hl [2, 3, 1, 0] rfl)
        · refine lv_iload_n hx hb dX11_normals_94 rfl (lv_at hl 0 rfl) ?_
          refine lv_iconst (v := nI 1) hx hb dX11_normals_95 (by decide +kernel) ?_
          refine xc_ne (tgt := 104) hx hb dX11_normals_96 (by decide) (by omega) (by omega) (fun c96 => ?_) (fun c96 => ?_)
          · refine lv_ldc (v := (-1000003)) hx hb hown (hts (.constant RX11 115 (-1000003)) (by decide +kernel)) dX11_normals_104 ?_
            have hR : normR S = ((-1000003), S) := normR_g hfn (by omega) (by omega)
            exact hret _ _ _ _ _ _ dX11_normals_106 ⟨k8_86, k9_86, RW'_86, RR'_86, ((nI ((red S (S 0)).2.1))), k11_86, (by rw [hR]), (by rw [hR])⟩ hP hD hS
          · refine lv_ldc (v := (-1000002)) hx hb hown (hts (.constant RX11 103 (-1000002)) (by decide +kernel)) dX11_normals_99 ?_
            refine lv_goto (tgt := 106) hx hb dX11_normals_101 (by decide) ?_
            have hR : normR S = ((-1000002), S) := normR_r hfn (by omega)
            exact hret _ _ _ _ _ _ dX11_normals_106 ⟨k8_86, k9_86, RW'_86, RR'_86, ((nI ((red S (S 0)).2.1))), k11_86, (by rw [hR]), (by rw [hR])⟩ hP hD hS
      · have hBk := vw_B (hI.2.2.2 k (by omega)).1 (by decide)
        refine lv_aload_n hx hb dX11_normals_19 rfl (lv_at hl 0 rfl) ?_
        refine va_get (D := D) (ci := 10) (v := .ref (B 1)) (C := RX11) (T := TX11) (N := 27) hx hb hts hi_X11_normals_X11 hown hK hP 0 rfl rfl 0 (by decide) (hts (.fieldLink RX11 7 "FallingWordsModel" "s" "[I") (by decide +kernel)) (fun _ h9 => h9) rfl dX11_normals_20 ?_
        refine lv_bipush (v := nI 36) hx hb dX11_normals_23 (by decide +kernel) ?_
        refine lv_iconst (v := nI 2) hx hb dX11_normals_25 (by decide +kernel) ?_
        refine lv_iload_n hx hb dX11_normals_26 rfl (lv_at hl 2 rfl) ?_
        refine lv_imul hx hb dX11_normals_27 ?_
        refine xt (show (nI 2) * (nI k) = nI (2 * k) from pk_mul _ _) ?_
        refine lv_iadd hx hb dX11_normals_28 ?_
        refine xt (show (nI 36) + (nI (2 * k)) = nI (36 + (2 * k)) from nI_add _ _) ?_
        refine xa_ld (v := nI (S (36 + (2 * k)))) hx hb hK hP 1 rfl (by omega) (by decide) (rfl) dX11_normals_29 ?_
        refine lv_iload_n hx hb dX11_normals_30 rfl (lv_at hl 1 rfl) ?_
        refine xc_ne (tgt := 78) hx hb dX11_normals_31 (by decide) (by omega) (by omega) (fun c31 => ?_) (fun c31 => ?_)
        · refine lv_iinc (v := nI (k + 1)) (lv' := [(2, .int (nI (k + 1))), (0, .ref (B 0)), (1, .int (nI (S 0)))]) hx hb dX11_normals_78 hl (k := 2) rfl (show nI k + Int32.ofInt 1 = nI (k + 1) from nI_add k 1) (by decide) rfl (fun ls hl => ?_)
          refine lv_goto (tgt := 9) hx hb dX11_normals_81 (by decide) ?_
          exact ih9 (k + 1) (by omega) (lt_s hno (decide_eq_false c31)) (by omega) _ _ _ hP hD hS (lv_sub hl [1, 2, 0] rfl)
        · have hfs : fs S (S 0) = k := ff_is (by omega) (decide_eq_true c31) hno
          have hR : normR S = (0, tkS S k) := by rw [normR_f (by omega), hfs]
          refine lv_aload_n hx hb dX11_normals_34 rfl (lv_at hl 0 rfl) ?_
          refine lv_iload_n hx hb dX11_normals_35 rfl (lv_at hl 1 rfl) ?_
          refine lv_aload_n hx hb dX11_normals_36 rfl (lv_at hl 0 rfl) ?_
          refine va_get (D := D) (ci := 10) (v := .ref (B 1)) (C := RX11) (T := TX11) (N := 27) hx hb hts hi_X11_normals_X11 hown hK hP 0 rfl rfl 0 (by decide) (hts (.fieldLink RX11 7 "FallingWordsModel" "s" "[I") (by decide +kernel)) (fun _ h9 => h9) rfl dX11_normals_37 ?_
          refine lv_bipush (v := nI 36) hx hb dX11_normals_40 (by decide +kernel) ?_
          refine lv_iconst (v := nI 2) hx hb dX11_normals_42 (by decide +kernel) ?_
          refine lv_iload_n hx hb dX11_normals_43 rfl (lv_at hl 2 rfl) ?_
          refine lv_imul hx hb dX11_normals_44 ?_
          refine xt (show (nI 2) * (nI k) = nI (2 * k) from pk_mul _ _) ?_
          refine lv_iadd hx hb dX11_normals_45 ?_
          refine xt (show (nI 36) + (nI (2 * k)) = nI (36 + (2 * k)) from nI_add _ _) ?_
          refine lv_iconst (v := nI 1) hx hb dX11_normals_46 (by decide +kernel) ?_
          refine lv_iadd hx hb dX11_normals_47 ?_
          refine xt (show (nI (36 + (2 * k))) + (nI 1) = nI (36 + (2 * k) + 1) from nI_add _ _) ?_
          refine xa_ld (v := nI (S (37 + 2 * k))) hx hb hK hP 1 rfl (by omega) (by decide) (congrArg (fun z => nI (S z)) (by omega)) dX11_normals_48 ?_
          refine lv_iload_n hx hb dX11_normals_49 rfl (lv_at hl 2 rfl) ?_
          refine cv_V (As := [.int (nI (S 0)), .int (nI (S (37 + 2 * k))), .int (nI k)]) (rest := []) h0 hK hN hP hD hS hA hl.1 (k_X11_comesFirst lY D cA B S WA BG AS TX RW RR FD m1 m2 m3 m4 m5 m6 m7 m8 m9 m10 m11 m12 m13 m14 m15 m16 m17 m18 m19 (S 0) (S (37 + 2 * k)) k (by omega)) [0, 1, 2, 3, 4, 5, 6, 7, 8] rfl (by decide) (cwV 3 hts gX11_normals_X11_comesFirst rfl rfl rfl (by decide +kernel) ⟨Nat.le_of_ble_eq_true rfl, Nat.le_of_ble_eq_true rfl⟩) (cl_recv (ci := 10) (q := (RX11, TX11, 27)) (q0 := 0) hP hK rfl rfl) rfl rfl (Nat.le_of_ble_eq_true rfl) dX11_normals_50 ⟨Nat.zero_le _, Nat.zero_le _⟩ (fun wY H locs hwY hJ hS => ?_)
          have e2Y := hwY
          have e3Y := e2Y.symm
          clear e2Y
          subst e3Y
          obtain ⟨hP, hD⟩ := hJ rfl
          have hP : va_P D vwCl (gMo cA B (fN (cfs S (S 0) (S (37 + 2 * k)) k)) WA BG AS TX RW RR FD m1 m2 m3 m4 m5 m6 m7 m8 m9 m10 m11 m12 m13 m14 m15 m16 m17 m18 m19) H := hP
          have hD : va_D AY (gMo cA B (fN (cfs S (S 0) (S (37 + 2 * k)) k)) WA BG AS TX RW RR FD m1 m2 m3 m4 m5 m6 m7 m8 m9 m10 m11 m12 m13 m14 m15 m16 m17 m18 m19) := hD
          refine lv_aload_n hx hb dX11_normals_53 rfl (lv_at hl 0 rfl) ?_
          refine va_get (D := D) (ci := 10) (v := .ref (B 1)) (C := RX11) (T := TX11) (N := 27) hx hb hts hi_X11_normals_X11 hown hK hP 0 rfl rfl 0 (by decide) (hts (.fieldLink RX11 7 "FallingWordsModel" "s" "[I") (by decide +kernel)) (fun _ h9 => h9) rfl dX11_normals_54 ?_
          refine lv_iconst (v := nI 0) hx hb dX11_normals_57 (by decide +kernel) ?_
          refine lv_aload_n hx hb dX11_normals_58 rfl (lv_at hl 0 rfl) ?_
          refine va_get (D := D) (ci := 10) (v := .ref (B 1)) (C := RX11) (T := TX11) (N := 27) hx hb hts hi_X11_normals_X11 hown hK hP 0 rfl rfl 0 (by decide) (hts (.fieldLink RX11 7 "FallingWordsModel" "s" "[I") (by decide +kernel)) (fun _ h9 => h9) rfl dX11_normals_59 ?_
          refine lv_bipush (v := nI 37) hx hb dX11_normals_62 (by decide +kernel) ?_
          refine xa_ld (v := nI (S (37 + 2 * k))) hx hb hK hP 1 rfl (by omega) (by decide) (congrArg nI cfs_37) dX11_normals_64 ?_
          refine xa_st hx hb hK hP hD hS 1 rfl (by omega) (by decide) dX11_normals_65 (fun H locs hP hD hS => ?_)
          have hP : va_P D vwCl (gMo cA B (upd (fN (cfs S (S 0) (S (37 + 2 * k)) k)) 0 (nI (S (37 + 2 * k)))) WA BG AS TX RW RR FD m1 m2 m3 m4 m5 m6 m7 m8 m9 m10 m11 m12 m13 m14 m15 m16 m17 m18 m19) H := hP
          have hD : va_D AY (gMo cA B (upd (fN (cfs S (S 0) (S (37 + 2 * k)) k)) 0 (nI (S (37 + 2 * k)))) WA BG AS TX RW RR FD m1 m2 m3 m4 m5 m6 m7 m8 m9 m10 m11 m12 m13 m14 m15 m16 m17 m18 m19) := hD
          rw [show upd (fN (cfs S (S 0) (S (37 + 2 * k)) k)) 0 (nI (S (37 + 2 * k))) = fN (upN (cfs S (S 0) (S (37 + 2 * k)) k) 0 (S (37 + 2 * k))) from fN_up] at hP hD
          refine lv_aload_n hx hb dX11_normals_66 rfl (lv_at hl 0 rfl) ?_
          refine va_get (D := D) (ci := 10) (v := .ref (B 1)) (C := RX11) (T := TX11) (N := 27) hx hb hts hi_X11_normals_X11 hown hK hP 0 rfl rfl 0 (by decide) (hts (.fieldLink RX11 7 "FallingWordsModel" "s" "[I") (by decide +kernel)) (fun _ h9 => h9) rfl dX11_normals_67 ?_
          refine lv_iconst (v := nI 4) hx hb dX11_normals_70 (by decide +kernel) ?_
          refine lv_dup2_11 hx hb dX11_normals_71 rfl rfl ?_
          refine xa_ld (v := nI (S 4)) hx hb hK hP 1 rfl (by omega) (by decide) (congrArg nI ((upN_n (by omega)).trans (cfs_lo (by omega)))) dX11_normals_72 ?_
          refine lv_iconst (v := nI 1) hx hb dX11_normals_73 (by decide +kernel) ?_
          refine lv_iadd hx hb dX11_normals_74 ?_
          refine xt (show (nI (S 4)) + (nI 1) = nI (S 4 + 1) from nI_add _ _) ?_
          refine xa_st hx hb hK hP hD hS 1 rfl (by omega) (by decide) dX11_normals_75 (fun H locs hP hD hS => ?_)
          have hP : va_P D vwCl (gMo cA B (upd (fN (upN (cfs S (S 0) (S (37 + 2 * k)) k) 0 (S (37 + 2 * k)))) 4 (nI (S 4 + 1))) WA BG AS TX RW RR FD m1 m2 m3 m4 m5 m6 m7 m8 m9 m10 m11 m12 m13 m14 m15 m16 m17 m18 m19) H := hP
          have hD : va_D AY (gMo cA B (upd (fN (upN (cfs S (S 0) (S (37 + 2 * k)) k) 0 (S (37 + 2 * k)))) 4 (nI (S 4 + 1))) WA BG AS TX RW RR FD m1 m2 m3 m4 m5 m6 m7 m8 m9 m10 m11 m12 m13 m14 m15 m16 m17 m18 m19) := hD
          rw [show upd (fN (upN (cfs S (S 0) (S (37 + 2 * k)) k) 0 (S (37 + 2 * k)))) 4 (nI (S 4 + 1)) = fN (upN (upN (cfs S (S 0) (S (37 + 2 * k)) k) 0 (S (37 + 2 * k))) 4 (S 4 + 1)) from fN_up] at hP hD
          refine lv_iconst (v := nI 0) hx hb dX11_normals_76 (by decide +kernel) ?_
          exact hret _ _ _ _ _ _ dX11_normals_77 ⟨m8, m9, RW, RR, m10, m11, (by rw [hR]; rfl), (by rw [hR]; rfl)⟩ hP hD hS
  exact L9 _ 0 (by omega) (fun j h => absurd h (Nat.not_lt_zero j)) (Nat.lt_succ_self _) _ _ _ hP hD hS (lv_sub hl [2, 1, 0] rfl)

set_option maxHeartbeats 1000000 in
set_option maxRecDepth 100000 in
theorem k_X11_normal (lY : Launch) (D : va_G) (cA : Nat → ClassId) (B : Nat → Nat) (S : St) (WA BG AS TX RW RR FD : Nat → Int32) (m2 m3 m4 m5 m6 m7 m8 m9 m10 m11 m12 m13 m14 m15 m16 m17 m18 m19 : Int32) (h : Nat → St) (n : Nat) (hn4 : n ≤ 4) (hwas : rWas h n WA) (hI : IV S) : MetI lY D cA yX11_normal wsX11_normal 5 118 [.ref (B 0)] (gMo cA B (fN S) WA BG AS TX RW RR FD (nI n) m2 m3 m4 m5 m6 m7 m8 m9 m10 m11 m12 m13 m14 m15 m16 m17 m18 m19) (fun rY wY => ∃ (WA' : Nat → Int32) (BG' : Nat → Int32) (k8 : Int32) (k9 : Int32) (RW' : Nat → Int32) (RR' : Nat → Int32) (k10 : Int32) (k11 : Int32), rY = (actZ S h n (normR S)).1 ∧ wY = gMo cA B (fN ((actZ S h n (normR S)).2.1)) WA' BG' AS TX RW' RR' FD (nI ((actZ S h n (normR S)).2.2.2)) m2 m3 m4 m5 m6 m7 k8 k9 k10 k11 m12 m13 m14 m15 m16 m17 m18 m19 ∧ (rWas (actZ S h n (normR S)).2.2.1 (actZ S h n (normR S)).2.2.2 WA')) := by
  refine MetI.of (cc := cX11_normal) (maxL := 1) (ret := (some .int)) (by decide) rfl (Nat.le_of_ble_eq_true rfl) (Or.inl rfl) ?_
  intro pY eY sY mY aY bY tY cY QY AY ls h0 hP hK hN hD hA hS hl hret
  obtain ⟨hx, hb, hml, hown, hts⟩ := id h0
  have hl : lv_has ls 1 [(0, .ref (B 0))] := hl
  have hP : va_P D vwCl (gMo cA B (fN S) WA BG AS TX RW RR FD (nI n) m2 m3 m4 m5 m6 m7 m8 m9 m10 m11 m12 m13 m14 m15 m16 m17 m18 m19) sY.heap := hP
  have hD : va_D AY (gMo cA B (fN S) WA BG AS TX RW RR FD (nI n) m2 m3 m4 m5 m6 m7 m8 m9 m10 m11 m12 m13 m14 m15 m16 m17 m18 m19) := hD
  refine lv_aload_n hx hb dX11_normal_0 rfl (lv_at hl 0 rfl) ?_
  refine cv_V (As := []) (rest := []) h0 hK hN hP hD hS hA hl.1 (k_X11_keeps lY D cA B S WA BG AS TX RW RR FD (nI n) m2 m3 m4 m5 m6 m7 m8 m9 m10 m11 m12 m13 m14 m15 m16 m17 m18 m19 ) [0, 1, 2, 3, 4, 5, 6, 7, 8] rfl (by decide) (cwV 0 hts gX11_normal_X11_keeps rfl rfl rfl (by decide +kernel) ⟨Nat.le_of_ble_eq_true rfl, Nat.le_of_ble_eq_true rfl⟩) (cl_recv (ci := 10) (q := (RX11, TX11, 27)) (q0 := 0) hP hK rfl rfl) rfl rfl (Nat.le_of_ble_eq_true rfl) dX11_normal_1 ⟨Nat.zero_le _, Nat.zero_le _⟩ (fun wY H locs hwY hJ hS => ?_)
  obtain ⟨BG'_1, e2Y, fb_1⟩ := hwY
  have e3Y := e2Y.symm
  clear e2Y
  subst e3Y
  obtain ⟨hP, hD⟩ := hJ rfl
  have hP : va_P D vwCl (gMo cA B (fN S) WA BG'_1 AS TX RW RR FD (nI n) m2 m3 m4 m5 m6 m7 m8 m9 m10 m11 m12 m13 m14 m15 m16 m17 m18 m19) H := hP
  have hD : va_D AY (gMo cA B (fN S) WA BG'_1 AS TX RW RR FD (nI n) m2 m3 m4 m5 m6 m7 m8 m9 m10 m11 m12 m13 m14 m15 m16 m17 m18 m19) := hD
  refine lv_aload_n hx hb dX11_normal_4 rfl (lv_at hl 0 rfl) ?_
  refine lv_aload_n hx hb dX11_normal_5 rfl (lv_at hl 0 rfl) ?_
  refine ci_V (As := []) (rest := [.ref (B 0)]) h0 hK hN hP hD hS hA hl.1 (k_X11_normals lY D cA B S WA BG'_1 AS TX RW RR FD (nI n) m2 m3 m4 m5 m6 m7 m8 m9 m10 m11 m12 m13 m14 m15 m16 m17 m18 m19 (hI)) [0, 1, 2, 3, 4, 5, 6, 7, 8] rfl (by decide) (cwV 0 hts gX11_normal_X11_normals rfl rfl rfl (by decide +kernel) ⟨Nat.le_of_ble_eq_true rfl, Nat.le_of_ble_eq_true rfl⟩) (cl_recv (ci := 10) (q := (RX11, TX11, 27)) (q0 := 0) hP hK rfl rfl) rfl rfl (Nat.le_of_ble_eq_true rfl) dX11_normal_6 ⟨Nat.zero_le _, Nat.zero_le _⟩ (fun rY wY H locs hwY hJ hS => ?_)
  obtain ⟨k8_6, k9_6, RW'_6, RR'_6, k10_6, k11_6, e1Y, e2Y⟩ := hwY
  have e3Y := e1Y.symm
  clear e1Y
  subst e3Y
  have e3Y := e2Y.symm
  clear e2Y
  subst e3Y
  obtain ⟨hP, hD⟩ := hJ rfl
  have hP : va_P D vwCl (gMo cA B (fN ((normR S).2)) WA BG'_1 AS TX RW'_6 RR'_6 FD (nI n) m2 m3 m4 m5 m6 m7 k8_6 k9_6 k10_6 k11_6 m12 m13 m14 m15 m16 m17 m18 m19) H := hP
  have hD : va_D AY (gMo cA B (fN ((normR S).2)) WA BG'_1 AS TX RW'_6 RR'_6 FD (nI n) m2 m3 m4 m5 m6 m7 k8_6 k9_6 k10_6 k11_6 m12 m13 m14 m15 m16 m17 m18 m19) := hD
  refine ci_V (As := [.int ((normR S).1)]) (rest := []) h0 hK hN hP hD hS hA hl.1 (k_X11_acted lY D cA B S WA BG'_1 AS TX RW'_6 RR'_6 FD m2 m3 m4 m5 m6 m7 k8_6 k9_6 k10_6 k11_6 m12 m13 m14 m15 m16 m17 m18 m19 (normR S) h n (hn4) (hwas) (fb_1) (fun q => normR_k hI.1 hI.2.2.1 q)) [0, 1, 2, 3, 4, 5, 6, 7, 8] rfl (by decide) (cwV 1 hts gX11_normal_X11_acted rfl rfl rfl (by decide +kernel) ⟨Nat.le_of_ble_eq_true rfl, Nat.le_of_ble_eq_true rfl⟩) (cl_recv (ci := 10) (q := (RX11, TX11, 27)) (q0 := 0) hP hK rfl rfl) rfl rfl (Nat.le_of_ble_eq_true rfl) dX11_normal_9 ⟨Nat.zero_le _, Nat.zero_le _⟩ (fun rY wY H locs hwY hJ hS => ?_)
  obtain ⟨WA'_9, e1Y, e2Y, fw_9⟩ := hwY
  have e3Y := e1Y.symm
  clear e1Y
  subst e3Y
  have e3Y := e2Y.symm
  clear e2Y
  subst e3Y
  obtain ⟨hP, hD⟩ := hJ rfl
  have hP : va_P D vwCl (gMo cA B (fN ((actZ S h n (normR S)).2.1)) WA'_9 BG'_1 AS TX RW'_6 RR'_6 FD (nI ((actZ S h n (normR S)).2.2.2)) m2 m3 m4 m5 m6 m7 k8_6 k9_6 k10_6 k11_6 m12 m13 m14 m15 m16 m17 m18 m19) H := hP
  have hD : va_D AY (gMo cA B (fN ((actZ S h n (normR S)).2.1)) WA'_9 BG'_1 AS TX RW'_6 RR'_6 FD (nI ((actZ S h n (normR S)).2.2.2)) m2 m3 m4 m5 m6 m7 k8_6 k9_6 k10_6 k11_6 m12 m13 m14 m15 m16 m17 m18 m19) := hD
  exact hret _ _ _ _ _ _ dX11_normal_12 ⟨WA'_9, BG'_1, k8_6, k9_6, RW'_6, RR'_6, k10_6, k11_6, rfl, rfl, (by first | assumption | omega)⟩ hP hD hS

theorem hi_X11_letterAt_X11 : ∀ w ∈ u_ws RX11 TX11 27, w ∈ wsX11_letterAt := by decide +kernel
set_option maxHeartbeats 1000000 in
set_option maxRecDepth 100000 in
theorem k_X11_letterAt (lY : Launch) (D : va_G) (cA : Nat → ClassId) (B : Nat → Nat) (S : St) (WA BG AS TX RW RR FD : Nat → Int32) (m1 m2 m3 m4 m5 m6 m7 m8 m9 m10 m11 m12 m13 m14 m15 m16 m17 m18 m19 : Int32) (x : Int32) (hw : vw 12 (S 0)) : MetI lY D cA yX11_letterAt wsX11_letterAt 3 64 [.ref (B 0), .int x] (gMo cA B (fN S) WA BG AS TX RW RR FD m1 m2 m3 m4 m5 m6 m7 m8 m9 m10 m11 m12 m13 m14 m15 m16 m17 m18 m19) (fun rY wY => rY = ltrZ S x ∧ wY = gMo cA B (fN S) WA BG AS TX RW RR FD m1 m2 m3 m4 m5 m6 m7 m8 m9 m10 m11 m12 m13 m14 m15 m16 m17 m18 m19) := by
  refine MetI.of (cc := cX11_letterAt) (maxL := 2) (ret := (some .int)) (by decide) rfl (Nat.le_of_ble_eq_true rfl) (Or.inl rfl) ?_
  intro pY eY sY mY aY bY tY cY QY AY ls h0 hP hK hN hD hA hS hl hret
  obtain ⟨hx, hb, hml, hown, hts⟩ := id h0
  have hl : lv_has ls 2 [(0, .ref (B 0)), (1, .int x)] := hl
  have hP : va_P D vwCl (gMo cA B (fN S) WA BG AS TX RW RR FD m1 m2 m3 m4 m5 m6 m7 m8 m9 m10 m11 m12 m13 m14 m15 m16 m17 m18 m19) sY.heap := hP
  have hD : va_D AY (gMo cA B (fN S) WA BG AS TX RW RR FD m1 m2 m3 m4 m5 m6 m7 m8 m9 m10 m11 m12 m13 m14 m15 m16 m17 m18 m19) := hD
  refine lv_iload_n hx hb dX11_letterAt_0 rfl (lv_at hl 1 rfl) ?_
  refine xz_ge (tgt := 9) hx hb dX11_letterAt_1 (by decide) (fun c1 => ?_) (fun c1 => ?_)
  · refine lv_aload_n hx hb dX11_letterAt_9 rfl (lv_at hl 0 rfl) ?_
    refine va_get (D := D) (ci := 10) (v := .ref (B 1)) (C := RX11) (T := TX11) (N := 27) hx hb hts hi_X11_letterAt_X11 hown hK hP 0 rfl rfl 0 (by decide) (hts (.fieldLink RX11 7 "FallingWordsModel" "s" "[I") (by decide +kernel)) (fun _ h9 => h9) rfl dX11_letterAt_10 ?_
    refine lv_iconst (v := nI 0) hx hb dX11_letterAt_13 (by decide +kernel) ?_
    refine xa_ld (v := nI (S 0)) hx hb hK hP 1 rfl (by omega) (by decide) (rfl) dX11_letterAt_14 ?_
    refine lv_iload_n hx hb dX11_letterAt_15 rfl (lv_at hl 1 rfl) ?_
    refine ci_S (As := [.int (nI (S 0)), .int x]) (rest := []) h0 hK hN hP hD hS hA hl.1 (k_X11_letterOf lY D cA (S 0) x (vw_up hw (by decide)) (by omega)) [] rfl (by decide) (va_cwS 2 hts gX11_letterAt_X11_letterOf rfl rfl rfl (by decide +kernel) ⟨Nat.le_of_ble_eq_true rfl, Nat.le_of_ble_eq_true rfl⟩) rfl rfl (Nat.le_of_ble_eq_true rfl) dX11_letterAt_16 ⟨Nat.zero_le _, Nat.zero_le _⟩ (fun rY wY H locs hwY hJ hS => ?_)
    obtain ⟨e1Y, e2Y⟩ := hwY
    have e3Y := e1Y.symm
    clear e1Y
    subst e3Y
    have e3Y := e2Y.symm
    clear e2Y
    subst e3Y
    obtain ⟨hP, hD⟩ := hJ rfl
    have hP : va_P D vwCl (gMo cA B (fN S) WA BG AS TX RW RR FD m1 m2 m3 m4 m5 m6 m7 m8 m9 m10 m11 m12 m13 m14 m15 m16 m17 m18 m19) H := hP
    have hD : va_D AY (gMo cA B (fN S) WA BG AS TX RW RR FD m1 m2 m3 m4 m5 m6 m7 m8 m9 m10 m11 m12 m13 m14 m15 m16 m17 m18 m19) := hD
    exact hret _ _ _ _ _ _ dX11_letterAt_19 ⟨((if_neg (by omega)).symm), rfl⟩ hP hD hS
  · refine lv_ldc (v := (-1000001)) hx hb hown (hts (.constant RX11 78 (-1000001)) (by decide +kernel)) dX11_letterAt_4 ?_
    refine lv_goto (tgt := 19) hx hb dX11_letterAt_6 (by decide) ?_
    exact hret _ _ _ _ _ _ dX11_letterAt_19 ⟨((if_pos (by omega)).symm), rfl⟩ hP hD hS

theorem hi_X11_next_X11 : ∀ w ∈ u_ws RX11 TX11 27, w ∈ wsX11_next := by decide +kernel
set_option maxHeartbeats 1000000 in
set_option maxRecDepth 100000 in
theorem k_X11_next (lY : Launch) (D : va_G) (cA : Nat → ClassId) (B : Nat → Nat) (S : St) (WA BG AS TX RW RR FD : Nat → Int32) (m1 m2 m3 m4 m5 m6 m7 m8 m9 m10 m11 m12 m13 m14 m15 m16 m17 m18 m19 : Int32) (x : Int32) (hI : IR S) (hw : vw 12 (S 0)) : MetI lY D cA yX11_next wsX11_next 3 72 [.ref (B 0), .int x] (gMo cA B (fN S) WA BG AS TX RW RR FD m1 m2 m3 m4 m5 m6 m7 m8 m9 m10 m11 m12 m13 m14 m15 m16 m17 m18 m19) (fun rY wY => ∃ (k8 : Int32) (k9 : Int32), rY = nextZ S x ∧ wY = gMo cA B (fN S) WA BG AS TX RW RR FD m1 m2 m3 m4 m5 m6 m7 k8 k9 m10 m11 m12 m13 m14 m15 m16 m17 m18 m19) := by
  refine MetI.of (cc := cX11_next) (maxL := 2) (ret := (some .int)) (by decide) rfl (Nat.le_of_ble_eq_true rfl) (Or.inl rfl) ?_
  intro pY eY sY mY aY bY tY cY QY AY ls h0 hP hK hN hD hA hS hl hret
  obtain ⟨hx, hb, hml, hown, hts⟩ := id h0
  have hl : lv_has ls 2 [(0, .ref (B 0)), (1, .int x)] := hl
  have hP : va_P D vwCl (gMo cA B (fN S) WA BG AS TX RW RR FD m1 m2 m3 m4 m5 m6 m7 m8 m9 m10 m11 m12 m13 m14 m15 m16 m17 m18 m19) sY.heap := hP
  have hD : va_D AY (gMo cA B (fN S) WA BG AS TX RW RR FD m1 m2 m3 m4 m5 m6 m7 m8 m9 m10 m11 m12 m13 m14 m15 m16 m17 m18 m19) := hD
  have e0 : (nI 0).toInt = 0 := rfl
  have e1 : (nI 1).toInt = 1 := rfl
  refine lv_iload_n hx hb dX11_next_0 rfl (lv_at hl 1 rfl) ?_
  refine lv_iconst (v := nI 0) hx hb dX11_next_1 (by decide +kernel) ?_
  refine lv_iconst (v := nI 1) hx hb dX11_next_2 (by decide +kernel) ?_
  refine ci_S (As := [.int x, .int (nI 0), .int (nI 1)]) (rest := []) h0 hK hN hP hD hS hA hl.1 (k_X11_in lY D cA x (nI 0) (nI 1) ) [] rfl (by decide) (va_cwS 3 hts gX11_next_X11_in rfl rfl rfl (by decide +kernel) ⟨Nat.le_of_ble_eq_true rfl, Nat.le_of_ble_eq_true rfl⟩) rfl rfl (Nat.le_of_ble_eq_true rfl) dX11_next_3 ⟨Nat.zero_le _, Nat.zero_le _⟩ (fun rY wY H locs hwY hJ hS => ?_)
  obtain ⟨e1Y, e2Y⟩ := hwY
  have e3Y := e1Y.symm
  clear e1Y
  subst e3Y
  have e3Y := e2Y.symm
  clear e2Y
  subst e3Y
  obtain ⟨hP, hD⟩ := hJ rfl
  have hP : va_P D vwCl (gMo cA B (fN S) WA BG AS TX RW RR FD m1 m2 m3 m4 m5 m6 m7 m8 m9 m10 m11 m12 m13 m14 m15 m16 m17 m18 m19) H := hP
  have hD : va_D AY (gMo cA B (fN S) WA BG AS TX RW RR FD m1 m2 m3 m4 m5 m6 m7 m8 m9 m10 m11 m12 m13 m14 m15 m16 m17 m18 m19) := hD
  refine xb_ne (tgt := 12) hx hb dX11_next_6 (by decide) (fun c6 => ?_) (fun c6 => ?_)
  · have ci := inI_t c6
    refine lv_aload_n hx hb dX11_next_12 rfl (lv_at hl 0 rfl) ?_
    refine lv_aload_n hx hb dX11_next_13 rfl (lv_at hl 0 rfl) ?_
    refine va_get (D := D) (ci := 10) (v := .ref (B 1)) (C := RX11) (T := TX11) (N := 27) hx hb hts hi_X11_next_X11 hown hK hP 0 rfl rfl 0 (by decide) (hts (.fieldLink RX11 7 "FallingWordsModel" "s" "[I") (by decide +kernel)) (fun _ h9 => h9) rfl dX11_next_14 ?_
    refine lv_iconst (v := nI 0) hx hb dX11_next_17 (by decide +kernel) ?_
    refine xa_ld (v := nI (S 0)) hx hb hK hP 1 rfl (by omega) (by decide) (rfl) dX11_next_18 ?_
    refine ci_V (As := [.int (nI (S 0))]) (rest := []) h0 hK hN hP hD hS hA hl.1 (k_X11_chooses lY D cA B S WA BG AS TX RW RR FD m1 m2 m3 m4 m5 m6 m7 m8 m9 m10 m11 m12 m13 m14 m15 m16 m17 m18 m19 (S 0) (hI) (hw)) [0, 1, 2, 3, 4, 5, 6, 7, 8] rfl (by decide) (cwV 1 hts gX11_next_X11_chooses rfl rfl rfl (by decide +kernel) ⟨Nat.le_of_ble_eq_true rfl, Nat.le_of_ble_eq_true rfl⟩) (cl_recv (ci := 10) (q := (RX11, TX11, 27)) (q0 := 0) hP hK rfl rfl) rfl rfl (Nat.le_of_ble_eq_true rfl) dX11_next_19 ⟨Nat.zero_le _, Nat.zero_le _⟩ (fun rY wY H locs hwY hJ hS => ?_)
    obtain ⟨k8_19, k9_19, e1Y, e2Y, fc_19⟩ := hwY
    have e3Y := e1Y.symm
    clear e1Y
    subst e3Y
    have e3Y := e2Y.symm
    clear e2Y
    subst e3Y
    obtain ⟨hP, hD⟩ := hJ rfl
    have hP : va_P D vwCl (gMo cA B (fN S) WA BG AS TX RW RR FD m1 m2 m3 m4 m5 m6 m7 k8_19 k9_19 m10 m11 m12 m13 m14 m15 m16 m17 m18 m19) H := hP
    have hD : va_D AY (gMo cA B (fN S) WA BG AS TX RW RR FD m1 m2 m3 m4 m5 m6 m7 k8_19 k9_19 m10 m11 m12 m13 m14 m15 m16 m17 m18 m19) := hD
    refine xb_ne (tgt := 28) hx hb dX11_next_22 (by decide) (fun c22 => ?_) (fun c22 => ?_)
    · have hn := nt_t c22
      obtain ⟨e8, e9⟩ := fc_19 hn
      refine lv_iload_n hx hb dX11_next_28 rfl (lv_at hl 1 rfl) ?_
      refine xz_ne (tgt := 39) hx hb dX11_next_29 (by decide) (fun c29 => ?_) (fun c29 => ?_)
      · refine lv_aload_n hx hb dX11_next_39 rfl (lv_at hl 0 rfl) ?_
        refine va_get (D := D) (ci := 10) (v := .int k9_19) (C := RX11) (T := TX11) (N := 27) hx hb hts hi_X11_next_X11 hown hK hP 0 rfl rfl 13 (by decide) (hts (.fieldLink RX11 58 "FallingWordsModel" "chosenPlace" "I") (by decide +kernel)) (fun _ h9 => h9) rfl dX11_next_40 ?_
        refine xt (show k9_19 = nI (chp S (S 0)) from e9) ?_
        exact hret _ _ _ _ _ _ dX11_next_43 ⟨k8_19, k9_19, (by unfold nextZ; rw [if_pos (by omega), hn, if_neg (by decide), if_neg (by omega)]), rfl⟩ hP hD hS
      · refine lv_aload_n hx hb dX11_next_32 rfl (lv_at hl 0 rfl) ?_
        refine va_get (D := D) (ci := 10) (v := .int k8_19) (C := RX11) (T := TX11) (N := 27) hx hb hts hi_X11_next_X11 hown hK hP 0 rfl rfl 12 (by decide) (hts (.fieldLink RX11 54 "FallingWordsModel" "chosenRule" "I") (by decide +kernel)) (fun _ h9 => h9) rfl dX11_next_33 ?_
        refine xt (show k8_19 = nI (chr S (S 0)) from e8) ?_
        refine lv_goto (tgt := 43) hx hb dX11_next_36 (by decide) ?_
        exact hret _ _ _ _ _ _ dX11_next_43 ⟨k8_19, k9_19, (by unfold nextZ; rw [if_pos (by omega), hn, if_neg (by decide), if_pos (by omega)]), rfl⟩ hP hD hS
    · refine lv_ldc (v := (-1000004)) hx hb hown (hts (.constant RX11 43 (-1000004)) (by decide +kernel)) dX11_next_25 ?_
      exact hret _ _ _ _ _ _ dX11_next_27 ⟨k8_19, k9_19, (by unfold nextZ; rw [if_pos (by omega), if_pos (nt_f c22)]), rfl⟩ hP hD hS
  · refine lv_ldc (v := (-1000001)) hx hb hown (hts (.constant RX11 78 (-1000001)) (by decide +kernel)) dX11_next_9 ?_
    have ci := inI_f c6
    exact hret _ _ _ _ _ _ dX11_next_11 ⟨m8, m9, ((if_neg (by omega)).symm), rfl⟩ hP hD hS

theorem hi_X11_reduced_X11 : ∀ w ∈ u_ws RX11 TX11 27, w ∈ wsX11_reduced := by decide +kernel
set_option maxHeartbeats 1000000 in
set_option maxRecDepth 100000 in
theorem k_X11_reduced (lY : Launch) (D : va_G) (cA : Nat → ClassId) (B : Nat → Nat) (S : St) (WA BG AS TX RW RR FD : Nat → Int32) (m1 m2 m3 m4 m5 m6 m7 m8 m9 m10 m11 m12 m13 m14 m15 m16 m17 m18 m19 : Int32) (x : Int32) (hI : IR S) (hw : vw 12 (S 0)) : MetI lY D cA yX11_reduced wsX11_reduced 4 95 [.ref (B 0), .int x] (gMo cA B (fN S) WA BG AS TX RW RR FD m1 m2 m3 m4 m5 m6 m7 m8 m9 m10 m11 m12 m13 m14 m15 m16 m17 m18 m19) (fun rY wY => ∃ (k8 : Int32) (k9 : Int32) (RW' : Nat → Int32) (RR' : Nat → Int32) (k10 : Int32) (k11 : Int32), rY = redZ S x ∧ wY = gMo cA B (fN S) WA BG AS TX RW' RR' FD m1 m2 m3 m4 m5 m6 m7 k8 k9 k10 k11 m12 m13 m14 m15 m16 m17 m18 m19) := by
  refine MetI.of (cc := cX11_reduced) (maxL := 3) (ret := (some .int)) (by decide) rfl (Nat.le_of_ble_eq_true rfl) (Or.inl rfl) ?_
  intro pY eY sY mY aY bY tY cY QY AY ls h0 hP hK hN hD hA hS hl hret
  obtain ⟨hx, hb, hml, hown, hts⟩ := id h0
  have hl : lv_has ls 3 [(0, .ref (B 0)), (1, .int x)] := hl
  have hP : va_P D vwCl (gMo cA B (fN S) WA BG AS TX RW RR FD m1 m2 m3 m4 m5 m6 m7 m8 m9 m10 m11 m12 m13 m14 m15 m16 m17 m18 m19) sY.heap := hP
  have hD : va_D AY (gMo cA B (fN S) WA BG AS TX RW RR FD m1 m2 m3 m4 m5 m6 m7 m8 m9 m10 m11 m12 m13 m14 m15 m16 m17 m18 m19) := hD
  have e0 : (nI 0).toInt = 0 := rfl
  have e4 : (nI 4).toInt = 4 := rfl
  have e10 : (nI 10).toInt = 10 := rfl
  have e21 : (nI 21).toInt = 21 := rfl
  obtain ⟨z1, z2, z3, z4, z5, z6⟩ := red_ok hI hw
  have L23 :  ((0 ≤ x.toInt ∧ x.toInt ≤ 4) ∨ (10 ≤ x.toInt ∧ x.toInt ≤ 21)) → ∀ (H : Heap) (locs : List Loc) (ls : Array Slot), va_P D vwCl (gMo cA B (fN S) WA BG AS TX RW RR FD m1 m2 m3 m4 m5 m6 m7 m8 m9 m10 m11 m12 m13 m14 m15 m16 m17 m18 m19) H → va_D AY (gMo cA B (fN S) WA BG AS TX RW RR FD m1 m2 m3 m4 m5 m6 m7 m8 m9 m10 m11 m12 m13 m14 m15 m16 m17 m18 m19) → va_S AY sY.heap H locs → lv_has ls 3 [(0, .ref (B 0)), (1, .int x)] → W pY lY eY { frames := 4, cells := 0, slots := 0, locals := 95 } sY mY aY bY tY cY H locs 0 0 QY (F0 mY 23 ls []) := by
    intro hv H locs ls hP hD hS hl
    refine lv_aload_n hx hb dX11_reduced_23 rfl (lv_at hl 0 rfl) ?_
    refine lv_aload_n hx hb dX11_reduced_24 rfl (lv_at hl 0 rfl) ?_
    refine va_get (D := D) (ci := 10) (v := .ref (B 1)) (C := RX11) (T := TX11) (N := 27) hx hb hts hi_X11_reduced_X11 hown hK hP 0 rfl rfl 0 (by decide) (hts (.fieldLink RX11 7 "FallingWordsModel" "s" "[I") (by decide +kernel)) (fun _ h9 => h9) rfl dX11_reduced_25 ?_
    refine lv_iconst (v := nI 0) hx hb dX11_reduced_28 (by decide +kernel) ?_
    refine xa_ld (v := nI (S 0)) hx hb hK hP 1 rfl (by omega) (by decide) (rfl) dX11_reduced_29 ?_
    refine ci_V (As := [.int (nI (S 0))]) (rest := []) h0 hK hN hP hD hS hA hl.1 (k_X11_reduces lY D cA B S WA BG AS TX RW RR FD m1 m2 m3 m4 m5 m6 m7 m8 m9 m10 m11 m12 m13 m14 m15 m16 m17 m18 m19 (S 0) (hI) (hw)) [0, 1, 2, 3, 4, 5, 6, 7, 8] rfl (by decide) (cwV 1 hts gX11_reduced_X11_reduces rfl rfl rfl (by decide +kernel) ⟨Nat.le_of_ble_eq_true rfl, Nat.le_of_ble_eq_true rfl⟩) (cl_recv (ci := 10) (q := (RX11, TX11, 27)) (q0 := 0) hP hK rfl rfl) rfl rfl (Nat.le_of_ble_eq_true rfl) dX11_reduced_30 ⟨Nat.zero_le _, Nat.zero_le _⟩ (fun rY wY H locs hwY hJ hS => ?_)
    obtain ⟨k8_30, k9_30, RW'_30, RR'_30, k11_30, e1Y, e2Y, f1_30, f2_30, f3_30⟩ := hwY
    have e3Y := e1Y.symm
    clear e1Y
    subst e3Y
    have e3Y := e2Y.symm
    clear e2Y
    subst e3Y
    obtain ⟨hP, hD⟩ := hJ rfl
    have hP : va_P D vwCl (gMo cA B (fN S) WA BG AS TX RW'_30 RR'_30 FD m1 m2 m3 m4 m5 m6 m7 k8_30 k9_30 (nI ((red S (S 0)).2.1)) k11_30 m12 m13 m14 m15 m16 m17 m18 m19) H := hP
    have hD : va_D AY (gMo cA B (fN S) WA BG AS TX RW'_30 RR'_30 FD m1 m2 m3 m4 m5 m6 m7 k8_30 k9_30 (nI ((red S (S 0)).2.1)) k11_30 m12 m13 m14 m15 m16 m17 m18 m19) := hD
    refine lv_istore_n (lv' := [(2, .int (nI ((red S (S 0)).1))), (0, .ref (B 0)), (1, .int x)]) hx hb dX11_reduced_33 rfl hl (by decide) rfl (fun ls hl => ?_)
    refine lv_iload_n hx hb dX11_reduced_34 rfl (lv_at hl 2 rfl) ?_
    by_cases s35_0 : x.toInt = 0
    · have e35 : (x : Int32).toInt = 0 := s35_0
      refine lv_tableIn (off := 33) (tgt := 68) hx hb dX11_reduced_35 (by rw [e35]; decide) (by rw [e35]; decide) (by rw [e35]; rfl) (by decide) ?_
      refine lv_iload_n hx hb dX11_reduced_68 rfl (lv_at hl 0 rfl) ?_
      exact hret _ _ _ _ _ _ dX11_reduced_69 ⟨k8_30, k9_30, RW'_30, RR'_30, ((nI ((red S (S 0)).2.1))), k11_30, (by unfold redZ; rw [if_neg (show ¬ (isL x 10 12 = false ∧ ¬ (0 ≤ x.toInt ∧ x.toInt ≤ 4)) from fun h => by have := isL_out h.1; omega), if_pos (show x.toInt = 0 by omega)]), rfl⟩ hP hD hS
    by_cases s35_1 : x.toInt = 1
    · have e35 : (x : Int32).toInt = 1 := s35_1
      refine lv_tableIn (off := 35) (tgt := 70) hx hb dX11_reduced_35 (by rw [e35]; decide) (by rw [e35]; decide) (by rw [e35]; rfl) (by decide) ?_
      refine lv_aload_n hx hb dX11_reduced_70 rfl (lv_at hl 1 rfl) ?_
      refine va_get (D := D) (ci := 10) (v := .int (nI ((red S (S 0)).2.1))) (C := RX11) (T := TX11) (N := 27) hx hb hts hi_X11_reduced_X11 hown hK hP 0 rfl rfl 16 (by decide) (hts (.fieldLink RX11 64 "FallingWordsModel" "rowSteps" "I") (by decide +kernel)) (fun _ h9 => h9) rfl dX11_reduced_71 ?_
      exact hret _ _ _ _ _ _ dX11_reduced_74 ⟨k8_30, k9_30, RW'_30, RR'_30, ((nI ((red S (S 0)).2.1))), k11_30, (by unfold redZ; rw [if_neg (show ¬ (isL x 10 12 = false ∧ ¬ (0 ≤ x.toInt ∧ x.toInt ≤ 4)) from fun h => by have := isL_out h.1; omega), if_neg (show ¬ x.toInt = 0 by omega), if_pos (show x.toInt = 1 by omega)]), rfl⟩ hP hD hS
    by_cases s35_2 : x.toInt = 2
    · have e35 : (x : Int32).toInt = 2 := s35_2
      refine lv_tableIn (off := 40) (tgt := 75) hx hb dX11_reduced_35 (by rw [e35]; decide) (by rw [e35]; decide) (by rw [e35]; rfl) (by decide) ?_
      refine lv_iload_n hx hb dX11_reduced_75 rfl (lv_at hl 0 rfl) ?_
      refine lv_iconst (v := nI 1) hx hb dX11_reduced_76 (by decide +kernel) ?_
      refine xc_ne (tgt := 92) hx hb dX11_reduced_77 (by decide) (by omega) (by omega) (fun c77 => ?_) (fun c77 => ?_)
      · refine lv_ldc (v := (-1000004)) hx hb hown (hts (.constant RX11 43 (-1000004)) (by decide +kernel)) dX11_reduced_92 ?_
        exact hret _ _ _ _ _ _ dX11_reduced_94 ⟨k8_30, k9_30, RW'_30, RR'_30, ((nI ((red S (S 0)).2.1))), k11_30, (by unfold redZ; rw [if_neg (show ¬ (isL x 10 12 = false ∧ ¬ (0 ≤ x.toInt ∧ x.toInt ≤ 4)) from fun h => by have := isL_out h.1; omega), if_neg (show ¬ x.toInt = 0 by omega), if_neg (show ¬ x.toInt = 1 by omega), if_pos (show x.toInt = 2 by omega), if_neg (show ¬ (red S (S 0)).1 = 1 by omega)]), rfl⟩ hP hD hS
      · have z66 := z6 c77
        refine lv_aload_n hx hb dX11_reduced_80 rfl (lv_at hl 1 rfl) ?_
        refine va_get (D := D) (ci := 10) (v := .int (nI ((red S (S 0)).2.1))) (C := RX11) (T := TX11) (N := 27) hx hb hts hi_X11_reduced_X11 hown hK hP 0 rfl rfl 16 (by decide) (hts (.fieldLink RX11 64 "FallingWordsModel" "rowSteps" "I") (by decide +kernel)) (fun _ h9 => h9) rfl dX11_reduced_81 ?_
        refine lv_aload_n hx hb dX11_reduced_84 rfl (lv_at hl 1 rfl) ?_
        refine va_get (D := D) (ci := 10) (v := .int k11_30) (C := RX11) (T := TX11) (N := 27) hx hb hts hi_X11_reduced_X11 hown hK hP 0 rfl rfl 17 (by decide) (hts (.fieldLink RX11 75 "FallingWordsModel" "ringFrom" "I") (by decide +kernel)) (fun _ h9 => h9) rfl dX11_reduced_85 ?_
        refine xt (show k11_30 = nI ((red S (S 0)).2.2) from f3_30 c77) ?_
        refine lv_isub hx hb dX11_reduced_88 ?_
        refine xt (show (nI ((red S (S 0)).2.1)) - (nI ((red S (S 0)).2.2)) = nI (((red S (S 0)).2.1) - ((red S (S 0)).2.2)) from pk_sub (by omega)) ?_
        refine lv_goto (tgt := 94) hx hb dX11_reduced_89 (by decide) ?_
        exact hret _ _ _ _ _ _ dX11_reduced_94 ⟨k8_30, k9_30, RW'_30, RR'_30, ((nI ((red S (S 0)).2.1))), k11_30, (by unfold redZ; rw [if_neg (show ¬ (isL x 10 12 = false ∧ ¬ (0 ≤ x.toInt ∧ x.toInt ≤ 4)) from fun h => by have := isL_out h.1; omega), if_neg (show ¬ x.toInt = 0 by omega), if_neg (show ¬ x.toInt = 1 by omega), if_pos (show x.toInt = 2 by omega), if_pos (show (red S (S 0)).1 = 1 by omega)]), rfl⟩ hP hD hS
    by_cases s35_3 : x.toInt = 3
    · have e35 : (x : Int32).toInt = 3 := s35_3
      refine lv_tableIn (off := 60) (tgt := 95) hx hb dX11_reduced_35 (by rw [e35]; decide) (by rw [e35]; decide) (by rw [e35]; rfl) (by decide) ?_
      refine lv_iload_n hx hb dX11_reduced_95 rfl (lv_at hl 0 rfl) ?_
      refine lv_iconst (v := nI 1) hx hb dX11_reduced_96 (by decide +kernel) ?_
      refine xc_ne (tgt := 107) hx hb dX11_reduced_97 (by decide) (by omega) (by omega) (fun c97 => ?_) (fun c97 => ?_)
      · refine lv_ldc (v := (-1000004)) hx hb hown (hts (.constant RX11 43 (-1000004)) (by decide +kernel)) dX11_reduced_107 ?_
        exact hret _ _ _ _ _ _ dX11_reduced_109 ⟨k8_30, k9_30, RW'_30, RR'_30, ((nI ((red S (S 0)).2.1))), k11_30, (by unfold redZ; rw [if_neg (show ¬ (isL x 10 12 = false ∧ ¬ (0 ≤ x.toInt ∧ x.toInt ≤ 4)) from fun h => by have := isL_out h.1; omega), if_neg (show ¬ x.toInt = 0 by omega), if_neg (show ¬ x.toInt = 1 by omega), if_neg (show ¬ x.toInt = 2 by omega), if_pos (show x.toInt = 3 by omega), if_neg (show ¬ (red S (S 0)).1 = 1 by omega)]), rfl⟩ hP hD hS
      · refine lv_aload_n hx hb dX11_reduced_100 rfl (lv_at hl 1 rfl) ?_
        refine va_get (D := D) (ci := 10) (v := .int k11_30) (C := RX11) (T := TX11) (N := 27) hx hb hts hi_X11_reduced_X11 hown hK hP 0 rfl rfl 17 (by decide) (hts (.fieldLink RX11 75 "FallingWordsModel" "ringFrom" "I") (by decide +kernel)) (fun _ h9 => h9) rfl dX11_reduced_101 ?_
        refine xt (show k11_30 = nI ((red S (S 0)).2.2) from f3_30 c97) ?_
        refine lv_goto (tgt := 109) hx hb dX11_reduced_104 (by decide) ?_
        exact hret _ _ _ _ _ _ dX11_reduced_109 ⟨k8_30, k9_30, RW'_30, RR'_30, ((nI ((red S (S 0)).2.1))), k11_30, (by unfold redZ; rw [if_neg (show ¬ (isL x 10 12 = false ∧ ¬ (0 ≤ x.toInt ∧ x.toInt ≤ 4)) from fun h => by have := isL_out h.1; omega), if_neg (show ¬ x.toInt = 0 by omega), if_neg (show ¬ x.toInt = 1 by omega), if_neg (show ¬ x.toInt = 2 by omega), if_pos (show x.toInt = 3 by omega), if_pos (show (red S (S 0)).1 = 1 by omega)]), rfl⟩ hP hD hS
    by_cases s35_4 : x.toInt = 4
    · have e35 : (x : Int32).toInt = 4 := s35_4
      refine lv_tableIn (off := 75) (tgt := 110) hx hb dX11_reduced_35 (by rw [e35]; decide) (by rw [e35]; decide) (by rw [e35]; rfl) (by decide) ?_
      refine lv_iload_n hx hb dX11_reduced_110 rfl (lv_at hl 0 rfl) ?_
      refine x0_ne (tgt := 129) hx hb dX11_reduced_111 (by decide) (by omega) (fun c111 => ?_) (fun c111 => ?_)
      · refine lv_ldc (v := (-1000004)) hx hb hown (hts (.constant RX11 43 (-1000004)) (by decide +kernel)) dX11_reduced_129 ?_
        exact hret _ _ _ _ _ _ dX11_reduced_131 ⟨k8_30, k9_30, RW'_30, RR'_30, ((nI ((red S (S 0)).2.1))), k11_30, (by unfold redZ; rw [if_neg (show ¬ (isL x 10 12 = false ∧ ¬ (0 ≤ x.toInt ∧ x.toInt ≤ 4)) from fun h => by have := isL_out h.1; omega), if_neg (show ¬ x.toInt = 0 by omega), if_neg (show ¬ x.toInt = 1 by omega), if_neg (show ¬ x.toInt = 2 by omega), if_neg (show ¬ x.toInt = 3 by omega), if_neg (show ¬ (red S (S 0)).1 = 0 by omega)]), rfl⟩ hP hD hS
      · refine lv_aload_n hx hb dX11_reduced_114 rfl (lv_at hl 1 rfl) ?_
        refine va_get (D := D) (ci := 10) (v := .ref (B 6)) (C := RX11) (T := TX11) (N := 27) hx hb hts hi_X11_reduced_X11 hown hK hP 0 rfl rfl 14 (by decide) (hts (.fieldLink RX11 26 "FallingWordsModel" "row" "[I") (by decide +kernel)) (fun _ h9 => h9) rfl dX11_reduced_115 ?_
        refine lv_aload_n hx hb dX11_reduced_118 rfl (lv_at hl 1 rfl) ?_
        refine va_get (D := D) (ci := 10) (v := .int (nI ((red S (S 0)).2.1))) (C := RX11) (T := TX11) (N := 27) hx hb hts hi_X11_reduced_X11 hown hK hP 0 rfl rfl 16 (by decide) (hts (.fieldLink RX11 64 "FallingWordsModel" "rowSteps" "I") (by decide +kernel)) (fun _ h9 => h9) rfl dX11_reduced_119 ?_
        refine xa_ld (v := nI (nw S (S 0))) hx hb hK hP 6 rfl (by omega) (by decide) (f1_30 _ (Nat.le_refl _)) dX11_reduced_122 ?_
        refine ci_S (As := [.int (nI (nw S (S 0)))]) (rest := []) h0 hK hN hP hD hS hA hl.1 (k_X11_length lY D cA (nw S (S 0)) (z3.1) (by have := z3.2; unfold nw; omega)) [] rfl (by decide) (va_cwS 1 hts gX11_reduced_X11_length rfl rfl rfl (by decide +kernel) ⟨Nat.le_of_ble_eq_true rfl, Nat.le_of_ble_eq_true rfl⟩) rfl rfl (Nat.le_of_ble_eq_true rfl) dX11_reduced_123 ⟨Nat.zero_le _, Nat.zero_le _⟩ (fun rY wY H locs hwY hJ hS => ?_)
        obtain ⟨e1Y, e2Y⟩ := hwY
        have e3Y := e1Y.symm
        clear e1Y
        subst e3Y
        have e3Y := e2Y.symm
        clear e2Y
        subst e3Y
        obtain ⟨hP, hD⟩ := hJ rfl
        have hP : va_P D vwCl (gMo cA B (fN S) WA BG AS TX RW'_30 RR'_30 FD m1 m2 m3 m4 m5 m6 m7 k8_30 k9_30 (nI ((red S (S 0)).2.1)) k11_30 m12 m13 m14 m15 m16 m17 m18 m19) H := hP
        have hD : va_D AY (gMo cA B (fN S) WA BG AS TX RW'_30 RR'_30 FD m1 m2 m3 m4 m5 m6 m7 k8_30 k9_30 (nI ((red S (S 0)).2.1)) k11_30 m12 m13 m14 m15 m16 m17 m18 m19) := hD
        refine lv_goto (tgt := 131) hx hb dX11_reduced_126 (by decide) ?_
        exact hret _ _ _ _ _ _ dX11_reduced_131 ⟨k8_30, k9_30, RW'_30, RR'_30, ((nI ((red S (S 0)).2.1))), k11_30, (by unfold redZ; rw [if_neg (show ¬ (isL x 10 12 = false ∧ ¬ (0 ≤ x.toInt ∧ x.toInt ≤ 4)) from fun h => by have := isL_out h.1; omega), if_neg (show ¬ x.toInt = 0 by omega), if_neg (show ¬ x.toInt = 1 by omega), if_neg (show ¬ x.toInt = 2 by omega), if_neg (show ¬ x.toInt = 3 by omega), if_pos (show (red S (S 0)).1 = 0 by omega), show isL x 10 12 = false from decide_eq_false (by omega), if_neg (by decide)]), rfl⟩ hP hD hS
    refine lv_tableOut (tgt := 132) hx hb dX11_reduced_35 (by omega) (by decide) ?_
    refine lv_iload_n hx hb dX11_reduced_132 rfl (lv_at hl 0 rfl) ?_
    refine x0_ne (tgt := 155) hx hb dX11_reduced_133 (by decide) (by omega) (fun c133 => ?_) (fun c133 => ?_)
    · refine lv_ldc (v := (-1000004)) hx hb hown (hts (.constant RX11 43 (-1000004)) (by decide +kernel)) dX11_reduced_155 ?_
      exact hret _ _ _ _ _ _ dX11_reduced_157 ⟨k8_30, k9_30, RW'_30, RR'_30, ((nI ((red S (S 0)).2.1))), k11_30, (by unfold redZ; rw [if_neg (show ¬ (isL x 10 12 = false ∧ ¬ (0 ≤ x.toInt ∧ x.toInt ≤ 4)) from fun h => by have := isL_out h.1; omega), if_neg (show ¬ x.toInt = 0 by omega), if_neg (show ¬ x.toInt = 1 by omega), if_neg (show ¬ x.toInt = 2 by omega), if_neg (show ¬ x.toInt = 3 by omega), if_neg (show ¬ (red S (S 0)).1 = 0 by omega)]), rfl⟩ hP hD hS
    · refine lv_aload_n hx hb dX11_reduced_136 rfl (lv_at hl 1 rfl) ?_
      refine va_get (D := D) (ci := 10) (v := .ref (B 6)) (C := RX11) (T := TX11) (N := 27) hx hb hts hi_X11_reduced_X11 hown hK hP 0 rfl rfl 14 (by decide) (hts (.fieldLink RX11 26 "FallingWordsModel" "row" "[I") (by decide +kernel)) (fun _ h9 => h9) rfl dX11_reduced_137 ?_
      refine lv_aload_n hx hb dX11_reduced_140 rfl (lv_at hl 1 rfl) ?_
      refine va_get (D := D) (ci := 10) (v := .int (nI ((red S (S 0)).2.1))) (C := RX11) (T := TX11) (N := 27) hx hb hts hi_X11_reduced_X11 hown hK hP 0 rfl rfl 16 (by decide) (hts (.fieldLink RX11 64 "FallingWordsModel" "rowSteps" "I") (by decide +kernel)) (fun _ h9 => h9) rfl dX11_reduced_141 ?_
      refine xa_ld (v := nI (nw S (S 0))) hx hb hK hP 6 rfl (by omega) (by decide) (f1_30 _ (Nat.le_refl _)) dX11_reduced_144 ?_
      refine lv_iload_n hx hb dX11_reduced_145 rfl (lv_at hl 2 rfl) ?_
      refine lv_bipush (v := nI 10) hx hb dX11_reduced_146 (by decide +kernel) ?_
      refine lv_isub hx hb dX11_reduced_148 ?_
      have ey : (x - nI 10).toInt = x.toInt - 10 := i_sub (by omega) (by omega)
      refine ci_S (As := [.int (nI (nw S (S 0))), .int (x - (nI 10))]) (rest := []) h0 hK hN hP hD hS hA hl.1 (k_X11_letterOf lY D cA (nw S (S 0)) (x - (nI 10)) (vw_up z3 (by decide)) (by omega)) [] rfl (by decide) (va_cwS 2 hts gX11_reduced_X11_letterOf rfl rfl rfl (by decide +kernel) ⟨Nat.le_of_ble_eq_true rfl, Nat.le_of_ble_eq_true rfl⟩) rfl rfl (Nat.le_of_ble_eq_true rfl) dX11_reduced_149 ⟨Nat.zero_le _, Nat.zero_le _⟩ (fun rY wY H locs hwY hJ hS => ?_)
      obtain ⟨e1Y, e2Y⟩ := hwY
      have e3Y := e1Y.symm
      clear e1Y
      subst e3Y
      have e3Y := e2Y.symm
      clear e2Y
      subst e3Y
      obtain ⟨hP, hD⟩ := hJ rfl
      have hP : va_P D vwCl (gMo cA B (fN S) WA BG AS TX RW'_30 RR'_30 FD m1 m2 m3 m4 m5 m6 m7 k8_30 k9_30 (nI ((red S (S 0)).2.1)) k11_30 m12 m13 m14 m15 m16 m17 m18 m19) H := hP
      have hD : va_D AY (gMo cA B (fN S) WA BG AS TX RW'_30 RR'_30 FD m1 m2 m3 m4 m5 m6 m7 k8_30 k9_30 (nI ((red S (S 0)).2.1)) k11_30 m12 m13 m14 m15 m16 m17 m18 m19) := hD
      refine lv_goto (tgt := 157) hx hb dX11_reduced_152 (by decide) ?_
      exact hret _ _ _ _ _ _ dX11_reduced_157 ⟨k8_30, k9_30, RW'_30, RR'_30, ((nI ((red S (S 0)).2.1))), k11_30, (by unfold redZ; rw [if_neg (show ¬ (isL x 10 12 = false ∧ ¬ (0 ≤ x.toInt ∧ x.toInt ≤ 4)) from fun h => by have := isL_out h.1; omega), if_neg (show ¬ x.toInt = 0 by omega), if_neg (show ¬ x.toInt = 1 by omega), if_neg (show ¬ x.toInt = 2 by omega), if_neg (show ¬ x.toInt = 3 by omega), if_pos (show (red S (S 0)).1 = 0 by omega), show isL x 10 12 = true from decide_eq_true (by omega), if_pos rfl]), rfl⟩ hP hD hS
  refine lv_iload_n hx hb dX11_reduced_0 rfl (lv_at hl 1 rfl) ?_
  refine lv_iconst (v := nI 0) hx hb dX11_reduced_1 (by decide +kernel) ?_
  refine lv_iconst (v := nI 4) hx hb dX11_reduced_2 (by decide +kernel) ?_
  refine ci_S (As := [.int x, .int (nI 0), .int (nI 4)]) (rest := []) h0 hK hN hP hD hS hA hl.1 (k_X11_in lY D cA x (nI 0) (nI 4) ) [] rfl (by decide) (va_cwS 3 hts gX11_reduced_X11_in rfl rfl rfl (by decide +kernel) ⟨Nat.le_of_ble_eq_true rfl, Nat.le_of_ble_eq_true rfl⟩) rfl rfl (Nat.le_of_ble_eq_true rfl) dX11_reduced_3 ⟨Nat.zero_le _, Nat.zero_le _⟩ (fun rY wY H locs hwY hJ hS => ?_)
  obtain ⟨e1Y, e2Y⟩ := hwY
  have e3Y := e1Y.symm
  clear e1Y
  subst e3Y
  have e3Y := e2Y.symm
  clear e2Y
  subst e3Y
  obtain ⟨hP, hD⟩ := hJ rfl
  have hP : va_P D vwCl (gMo cA B (fN S) WA BG AS TX RW RR FD m1 m2 m3 m4 m5 m6 m7 m8 m9 m10 m11 m12 m13 m14 m15 m16 m17 m18 m19) H := hP
  have hD : va_D AY (gMo cA B (fN S) WA BG AS TX RW RR FD m1 m2 m3 m4 m5 m6 m7 m8 m9 m10 m11 m12 m13 m14 m15 m16 m17 m18 m19) := hD
  refine xb_ne (tgt := 23) hx hb dX11_reduced_6 (by decide) (fun c6 => ?_) (fun c6 => ?_)
  · exact L23  (by have := inI_t c6; omega) _ _ _ hP hD hS hl
  · refine lv_iload_n hx hb dX11_reduced_9 rfl (lv_at hl 1 rfl) ?_
    refine lv_bipush (v := nI 10) hx hb dX11_reduced_10 (by decide +kernel) ?_
    refine lv_bipush (v := nI 21) hx hb dX11_reduced_12 (by decide +kernel) ?_
    refine ci_S (As := [.int x, .int (nI 10), .int (nI 21)]) (rest := []) h0 hK hN hP hD hS hA hl.1 (k_X11_in lY D cA x (nI 10) (nI 21) ) [] rfl (by decide) (va_cwS 3 hts gX11_reduced_X11_in rfl rfl rfl (by decide +kernel) ⟨Nat.le_of_ble_eq_true rfl, Nat.le_of_ble_eq_true rfl⟩) rfl rfl (Nat.le_of_ble_eq_true rfl) dX11_reduced_14 ⟨Nat.zero_le _, Nat.zero_le _⟩ (fun rY wY H locs hwY hJ hS => ?_)
    obtain ⟨e1Y, e2Y⟩ := hwY
    have e3Y := e1Y.symm
    clear e1Y
    subst e3Y
    have e3Y := e2Y.symm
    clear e2Y
    subst e3Y
    obtain ⟨hP, hD⟩ := hJ rfl
    have hP : va_P D vwCl (gMo cA B (fN S) WA BG AS TX RW RR FD m1 m2 m3 m4 m5 m6 m7 m8 m9 m10 m11 m12 m13 m14 m15 m16 m17 m18 m19) H := hP
    have hD : va_D AY (gMo cA B (fN S) WA BG AS TX RW RR FD m1 m2 m3 m4 m5 m6 m7 m8 m9 m10 m11 m12 m13 m14 m15 m16 m17 m18 m19) := hD
    refine xb_ne (tgt := 23) hx hb dX11_reduced_17 (by decide) (fun c17 => ?_) (fun c17 => ?_)
    · exact L23  (by have := inI_t c17; omega) _ _ _ hP hD hS hl
    · refine lv_ldc (v := (-1000001)) hx hb hown (hts (.constant RX11 78 (-1000001)) (by decide +kernel)) dX11_reduced_20 ?_
      have i1 := inI_f c6
      have i2 := inI_f c17
      exact hret _ _ _ _ _ _ dX11_reduced_22 ⟨m8, m9, RW, RR, m10, m11, (by unfold redZ; rw [if_pos ⟨decide_eq_false (by omega), by omega⟩]), rfl⟩ hP hD hS
