/-! the reference: a row of steps, its history, its deeds -/
theorem nt_f {b : Bool} (h : (!b) = false) : b = true := by cases b with | true => rfl | false => cases h
theorem nt_t {b : Bool} (h : (!b) = true) : b = false := by cases b with | false => rfl | true => cases h
def rWas (h : Nat → St) (n : Nat) (WA : Nat → Int32) : Prop := ∀ i, i < n → ∀ k, k < 52 → WA (52 * i + k) = nI (h i k)
def actZ (S : St) (h : Nat → St) (n : Nat) (r : Int32 × St) : Int32 × K3 := (r.1, if (-1000001 : Int) < r.1.toInt then kp S h n r.2 else (S, h, n))
def dropR (S : St) (x : Int32) : Int32 × St := if inR S x then (nI (S 1 - 1), dropS S x.toInt.toNat) else ((-1000001), S)
def wayR (S : St) (x : Int32) : Int32 × St := if 0 ≤ x.toInt ∧ x.toInt ≤ 2 then (nI (S 2), wayS S x.toInt.toNat) else ((-1000001), S)
theorem dropS_eq {S T : St} {g k : Nat} (hk : 3 * (S 1 - 1) ≤ k) (hk2 : k ≤ 3 * (S 1 - 1) ∨ k = 3 * g) (hg : g < S 1) (hT : ∀ j, T j = if j = 1 then S 1 - 1 else if 6 + 3 * g ≤ j ∧ j < 6 + k then S (j + 3) else S j) : upN T 3 0 = dropS S g := by
  unfold dropS
  refine congrArg (fun z => upN z 3 0) (funext fun j => ?_)
  rw [hT j]
  by_cases e1 : j = 1
  · rw [if_pos e1, if_neg (by omega), if_pos e1]
  · rw [if_neg e1]
    by_cases e2 : 6 + 3 * g ≤ j ∧ j < 6 + k
    · rw [if_pos e2, if_pos (by omega)]
    · rw [if_neg e2, if_neg (by omega), if_neg e1]
theorem psh_t {h : Nat → St} {n : Nat} {S : St} {t : Nat} (hn : n ≤ 4) (ht : t + 1 = min (n + 1) 4) : psh h n S t = S := by
  unfold psh
  by_cases e : n = 4
  · rw [if_pos e, if_pos (by omega)]
  · rw [if_neg e, if_pos (by omega)]
theorem rWas_s {h : Nat → St} {n : Nat} {S : St} {t : Nat} {W2 W3 : Nat → Int32} (hn : n ≤ 4) (ht : t + 1 = min (n + 1) 4) (h2 : ∀ i, i < t → ∀ k, k < 52 → W2 (52 * i + k) = nI (psh h n S i k)) (h3 : ∀ j, W3 j = if 52 * t ≤ j ∧ j < 52 * t + 52 then nI (S (j - 52 * t)) else W2 j) : rWas (psh h n S) (min (n + 1) 4) W3 := by
  intro i hi k hk
  rw [h3]
  by_cases e : i = t
  · subst e
    rw [if_pos (by omega), psh_t hn ht, show 52 * i + k - 52 * i = k by omega]
  · rw [if_neg (by omega)]
    exact h2 i (by omega) k hk
theorem rWas_4 {h : Nat → St} {S : St} {WA W2 : Nat → Int32} (hw : rWas h 4 WA) (h2 : ∀ j, W2 j = if j < 156 then WA (j + 52) else WA j) : ∀ i, i < 3 → ∀ k, k < 52 → W2 (52 * i + k) = nI (psh h 4 S i k) := by
  intro i hi k hk
  rw [h2, if_pos (by omega), show 52 * i + k + 52 = 52 * (i + 1) + k by omega, hw (i + 1) (by omega) k hk]
  unfold psh
  rw [if_pos rfl, if_neg (by omega)]
theorem rWas_n {h : Nat → St} {S : St} {n : Nat} {WA : Nat → Int32} (hn : n ≠ 4) (hw : rWas h n WA) : ∀ i, i < n → ∀ k, k < 52 → WA (52 * i + k) = nI (psh h n S i k) := by
  intro i hi k hk
  rw [hw i hi k hk]
  unfold psh
  rw [if_neg hn, if_neg (by omega)]
theorem dropR_k {S : St} {x : Int32} (h : ¬ (-1000001 : Int) < (dropR S x).1.toInt) (h10 : S 1 ≤ 10) : (dropR S x).2 = S := by
  unfold dropR at h ⊢
  by_cases e : inR S x = true
  · rw [if_pos e] at h
    have : (nI (S 1 - 1)).toInt = ((S 1 - 1 : Nat) : Int) := nI_toInt (by omega)
    exfalso
    apply h
    show (-1000001 : Int) < (nI (S 1 - 1)).toInt
    omega
  · rw [if_neg e]
theorem wayR_k {S : St} {x : Int32} (h : ¬ (-1000001 : Int) < (wayR S x).1.toInt) (h10 : S 2 ≤ 2) : (wayR S x).2 = S := by
  unfold wayR at h ⊢
  by_cases e : 0 ≤ x.toInt ∧ x.toInt ≤ 2
  · rw [if_pos e] at h
    have : (nI (S 2)).toInt = ((S 2 : Nat) : Int) := nI_toInt (by omega)
    exfalso
    apply h
    show (-1000001 : Int) < (nI (S 2)).toInt
    omega
  · rw [if_neg e]

theorem hi_X11_reduces_X11 : ∀ w ∈ u_ws RX11 TX11 27, w ∈ wsX11_reduces := by decide +kernel
set_option maxHeartbeats 8000000 in
set_option maxRecDepth 100000 in
theorem k_X11_reduces (lY : Launch) (D : va_G) (cA : Nat → ClassId) (B : Nat → Nat) (S : St) (WA BG AS TX RW RR FD : Nat → Int32) (m1 m2 m3 m4 m5 m6 m7 m8 m9 m10 m11 m12 m13 m14 m15 m16 m17 m18 m19 : Int32) (w : Nat) (hI : IR S) (hw : vw 12 w) : MetI lY D cA yX11_reduces wsX11_reduces 3 72 [.ref (B 0), .int (nI w)] (gMo cA B (fN S) WA BG AS TX RW RR FD m1 m2 m3 m4 m5 m6 m7 m8 m9 m10 m11 m12 m13 m14 m15 m16 m17 m18 m19) (fun rY wY => ∃ (k8 : Int32) (k9 : Int32) (RW' : Nat → Int32) (RR' : Nat → Int32) (k11 : Int32), rY = nI ((red S w).1) ∧ wY = gMo cA B (fN S) WA BG AS TX RW' RR' FD m1 m2 m3 m4 m5 m6 m7 k8 k9 (nI ((red S w).2.1)) k11 m12 m13 m14 m15 m16 m17 m18 m19 ∧ (∀ i, i ≤ (red S w).2.1 → RW' i = nI (xs S w i)) ∧ (∀ i, i < (red S w).2.1 → RR' i = nI (chr S (xs S w i))) ∧ ((red S w).1 = 1 → k11 = nI (red S w).2.2)) := by
  refine MetI.of (cc := cX11_reduces) (maxL := 4) (ret := (some .int)) (by decide) rfl (Nat.le_of_ble_eq_true rfl) (Or.inl rfl) ?_
  intro pY eY sY mY aY bY tY cY QY AY ls h0 hP hK hN hD hA hS hl hret
  obtain ⟨hx, hb, hml, hown, hts⟩ := id h0
  have hl : lv_has ls 4 [(0, .ref (B 0)), (1, .int (nI w))] := hl
  have hP : va_P D vwCl (gMo cA B (fN S) WA BG AS TX RW RR FD m1 m2 m3 m4 m5 m6 m7 m8 m9 m10 m11 m12 m13 m14 m15 m16 m17 m18 m19) sY.heap := hP
  have hD : va_D AY (gMo cA B (fN S) WA BG AS TX RW RR FD m1 m2 m3 m4 m5 m6 m7 m8 m9 m10 m11 m12 m13 m14 m15 m16 m17 m18 m19) := hD
  refine lv_aload_n hx hb dX11_reduces_0 rfl (lv_at hl 0 rfl) ?_
  refine va_get (D := D) (ci := 10) (v := .ref (B 6)) (C := RX11) (T := TX11) (N := 27) hx hb hts hi_X11_reduces_X11 hown hK hP 0 rfl rfl 14 (by decide) (hts (.fieldLink RX11 26 "FallingWordsModel" "row" "[I") (by decide +kernel)) (fun _ h9 => h9) rfl dX11_reduces_1 ?_
  refine lv_iconst (v := nI 0) hx hb dX11_reduces_4 (by decide +kernel) ?_
  refine lv_iload_n hx hb dX11_reduces_5 rfl (lv_at hl 1 rfl) ?_
  refine xa_st hx hb hK hP hD hS 6 rfl (by omega) (by decide) dX11_reduces_6 (fun H locs hP hD hS => ?_)
  have hP : va_P D vwCl (gMo cA B (fN S) WA BG AS TX (upd RW 0 (nI w)) RR FD m1 m2 m3 m4 m5 m6 m7 m8 m9 m10 m11 m12 m13 m14 m15 m16 m17 m18 m19) H := hP
  have hD : va_D AY (gMo cA B (fN S) WA BG AS TX (upd RW 0 (nI w)) RR FD m1 m2 m3 m4 m5 m6 m7 m8 m9 m10 m11 m12 m13 m14 m15 m16 m17 m18 m19) := hD
  refine lv_aload_n hx hb dX11_reduces_7 rfl (lv_at hl 0 rfl) ?_
  refine lv_iconst (v := nI 0) hx hb dX11_reduces_8 (by decide +kernel) ?_
  refine va_put (D := D) (ci := 10) (v := .int (nI 0)) (ty := .int) (C := RX11) (T := TX11) (N := 27) hx hb hts hi_X11_reduces_X11 tyX11 tyX11_ok nmX11 hown hK hP hD hS 0 rfl rfl 16 (by decide) (hts (.fieldLink RX11 64 "FallingWordsModel" "rowSteps" "I") (by decide +kernel)) (fun _ h9 => h9) rfl (by decide +kernel) rfl rfl (Nat.le_of_ble_eq_true rfl) dX11_reduces_9 (fun H locs hP hD hS => ?_)
  have hP : va_P D vwCl (gMo cA B (fN S) WA BG AS TX (upd RW 0 (nI w)) RR FD m1 m2 m3 m4 m5 m6 m7 m8 m9 (nI 0) m11 m12 m13 m14 m15 m16 m17 m18 m19) H := hP
  have hD : va_D AY (gMo cA B (fN S) WA BG AS TX (upd RW 0 (nI w)) RR FD m1 m2 m3 m4 m5 m6 m7 m8 m9 (nI 0) m11 m12 m13 m14 m15 m16 m17 m18 m19) := hD
  have L12 : ∀ (nY : Nat), ∀ (k : Nat) (RW' : Nat → Int32) (RR' : Nat → Int32) (k8 : Int32) (k9 : Int32), (k ≤ 100) → (∀ i, i ≤ k → RW' i = nI (xs S w i)) → (∀ i, i < k → RR' i = nI (chr S (xs S w i))) → (redF S w (101 - k) k = red S w) → (∀ i, i ≤ k → vw 12 (xs S w i)) → (fst S w k = k) → (101 - k < nY) → ∀ (H : Heap) (locs : List Loc) (ls : Array Slot), va_P D vwCl (gMo cA B (fN S) WA BG AS TX RW' RR' FD m1 m2 m3 m4 m5 m6 m7 k8 k9 (nI k) m11 m12 m13 m14 m15 m16 m17 m18 m19) H → va_D AY (gMo cA B (fN S) WA BG AS TX RW' RR' FD m1 m2 m3 m4 m5 m6 m7 k8 k9 (nI k) m11 m12 m13 m14 m15 m16 m17 m18 m19) → va_S AY sY.heap H locs → lv_has ls 4 [(0, .ref (B 0)), (1, .int (nI w))] → W pY lY eY { frames := 3, cells := 0, slots := 0, locals := 72 } sY mY aY bY tY cY H locs 0 0 QY (F0 mY 12 ls []) := by
    intro nY12
    induction nY12 with
    | zero => intro k RW' RR' k8 k9 hk g1 g2 hred hxv hfst hm12; exact absurd hm12 (Nat.not_lt_zero _)
    | succ nY12 ih12 =>
      intro k RW' RR' k8 k9 hk g1 g2 hred hxv hfst hm12 H locs ls hP hD hS hl
      have hxk := hxv k (Nat.le_refl k)
      have hB := vw_B hxk (by decide)
      refine lv_aload_n hx hb dX11_reduces_12 rfl (lv_at hl 0 rfl) ?_
      refine va_get (D := D) (ci := 10) (v := .int (nI k)) (C := RX11) (T := TX11) (N := 27) hx hb hts hi_X11_reduces_X11 hown hK hP 0 rfl rfl 16 (by decide) (hts (.fieldLink RX11 64 "FallingWordsModel" "rowSteps" "I") (by decide +kernel)) (fun _ h9 => h9) rfl dX11_reduces_13 ?_
      refine lv_bipush (v := nI 100) hx hb dX11_reduces_16 (by decide +kernel) ?_
      refine xc_ge (tgt := 128) hx hb dX11_reduces_18 (by decide) (by omega) (by omega) (fun c18 => ?_) (fun c18 => ?_)
      · refine lv_aload_n hx hb dX11_reduces_128 rfl (lv_at hl 0 rfl) ?_
        refine lv_aload_n hx hb dX11_reduces_129 rfl (lv_at hl 0 rfl) ?_
        refine va_get (D := D) (ci := 10) (v := .ref (B 6)) (C := RX11) (T := TX11) (N := 27) hx hb hts hi_X11_reduces_X11 hown hK hP 0 rfl rfl 14 (by decide) (hts (.fieldLink RX11 26 "FallingWordsModel" "row" "[I") (by decide +kernel)) (fun _ h9 => h9) rfl dX11_reduces_130 ?_
        refine lv_aload_n hx hb dX11_reduces_133 rfl (lv_at hl 0 rfl) ?_
        refine va_get (D := D) (ci := 10) (v := .int (nI k)) (C := RX11) (T := TX11) (N := 27) hx hb hts hi_X11_reduces_X11 hown hK hP 0 rfl rfl 16 (by decide) (hts (.fieldLink RX11 64 "FallingWordsModel" "rowSteps" "I") (by decide +kernel)) (fun _ h9 => h9) rfl dX11_reduces_134 ?_
        refine xa_ld (v := nI (xs S w k)) hx hb hK hP 6 rfl (by omega) (by decide) (g1 k (Nat.le_refl k)) dX11_reduces_137 ?_
        refine ci_V (As := [.int (nI (xs S w k))]) (rest := []) h0 hK hN hP hD hS hA hl.1 (k_X11_chooses lY D cA B S WA BG AS TX RW' RR' FD m1 m2 m3 m4 m5 m6 m7 k8 k9 (nI k) m11 m12 m13 m14 m15 m16 m17 m18 m19 (xs S w k) (hI) (hxk)) [0, 1, 2, 3, 4, 5, 6, 7, 8] rfl (by decide) (cwV 1 hts gX11_reduces_X11_chooses rfl rfl rfl (by decide +kernel) ⟨Nat.le_of_ble_eq_true rfl, Nat.le_of_ble_eq_true rfl⟩) (cl_recv (ci := 10) (q := (RX11, TX11, 27)) (q0 := 0) hP hK rfl rfl) rfl rfl (Nat.le_of_ble_eq_true rfl) dX11_reduces_138 ⟨Nat.zero_le _, Nat.zero_le _⟩ (fun rY wY H locs hwY hJ hS => ?_)
        obtain ⟨k8_138, k9_138, e1Y, e2Y, fc_138⟩ := hwY
        have e3Y := e1Y.symm
        clear e1Y
        subst e3Y
        have e3Y := e2Y.symm
        clear e2Y
        subst e3Y
        obtain ⟨hP, hD⟩ := hJ rfl
        have hP : va_P D vwCl (gMo cA B (fN S) WA BG AS TX RW' RR' FD m1 m2 m3 m4 m5 m6 m7 k8_138 k9_138 (nI k) m11 m12 m13 m14 m15 m16 m17 m18 m19) H := hP
        have hD : va_D AY (gMo cA B (fN S) WA BG AS TX RW' RR' FD m1 m2 m3 m4 m5 m6 m7 k8_138 k9_138 (nI k) m11 m12 m13 m14 m15 m16 m17 m18 m19) := hD
        refine xb_eq (tgt := 148) hx hb dX11_reduces_141 (by decide) (fun c141 => ?_) (fun c141 => ?_)
        · refine lv_iconst (v := nI 0) hx hb dX11_reduces_148 (by decide +kernel) ?_
          have hn := nt_f c141
          have hR : red S w = (0, k, 0) := by rw [← hred, show 101 - k = (100 - k) + 1 by omega, redF, if_neg (by omega), if_pos hn]
          exact hret _ _ _ _ _ _ dX11_reduces_149 ⟨k8_138, k9_138, RW', RR', m11, (by rw [hR]), (by rw [hR]), (by rw [hR]; exact g1), (by rw [hR]; exact g2), (fun h => by rw [hR] at h; cases h)⟩ hP hD hS
        · refine lv_iconst (v := nI 2) hx hb dX11_reduces_144 (by decide +kernel) ?_
          refine lv_goto (tgt := 149) hx hb dX11_reduces_145 (by decide) ?_
          have hn := nt_t c141
          have hk1 : k = 100 := by omega
          have hR : red S w = (2, 100, 0) := by rw [← hred, show 101 - k = (100 - k) + 1 by omega, redF, if_neg (by omega), if_neg (by rw [hn]; decide), if_pos hk1]
          subst hk1
          exact hret _ _ _ _ _ _ dX11_reduces_149 ⟨k8_138, k9_138, RW', RR', m11, (by rw [hR]), (by rw [hR]), (by rw [hR]; exact g1), (by rw [hR]; exact g2), (fun h => by rw [hR] at h; cases h)⟩ hP hD hS
      · refine lv_aload_n hx hb dX11_reduces_21 rfl (lv_at hl 0 rfl) ?_
        refine lv_aload_n hx hb dX11_reduces_22 rfl (lv_at hl 0 rfl) ?_
        refine va_get (D := D) (ci := 10) (v := .ref (B 6)) (C := RX11) (T := TX11) (N := 27) hx hb hts hi_X11_reduces_X11 hown hK hP 0 rfl rfl 14 (by decide) (hts (.fieldLink RX11 26 "FallingWordsModel" "row" "[I") (by decide +kernel)) (fun _ h9 => h9) rfl dX11_reduces_23 ?_
        refine lv_aload_n hx hb dX11_reduces_26 rfl (lv_at hl 0 rfl) ?_
        refine va_get (D := D) (ci := 10) (v := .int (nI k)) (C := RX11) (T := TX11) (N := 27) hx hb hts hi_X11_reduces_X11 hown hK hP 0 rfl rfl 16 (by decide) (hts (.fieldLink RX11 64 "FallingWordsModel" "rowSteps" "I") (by decide +kernel)) (fun _ h9 => h9) rfl dX11_reduces_27 ?_
        refine xa_ld (v := nI (xs S w k)) hx hb hK hP 6 rfl (by omega) (by decide) (g1 k (Nat.le_refl k)) dX11_reduces_30 ?_
        refine ci_V (As := [.int (nI (xs S w k))]) (rest := []) h0 hK hN hP hD hS hA hl.1 (k_X11_chooses lY D cA B S WA BG AS TX RW' RR' FD m1 m2 m3 m4 m5 m6 m7 k8 k9 (nI k) m11 m12 m13 m14 m15 m16 m17 m18 m19 (xs S w k) (hI) (hxk)) [0, 1, 2, 3, 4, 5, 6, 7, 8] rfl (by decide) (cwV 1 hts gX11_reduces_X11_chooses rfl rfl rfl (by decide +kernel) ⟨Nat.le_of_ble_eq_true rfl, Nat.le_of_ble_eq_true rfl⟩) (cl_recv (ci := 10) (q := (RX11, TX11, 27)) (q0 := 0) hP hK rfl rfl) rfl rfl (Nat.le_of_ble_eq_true rfl) dX11_reduces_31 ⟨Nat.zero_le _, Nat.zero_le _⟩ (fun rY wY H locs hwY hJ hS => ?_)
        obtain ⟨k8_31, k9_31, e1Y, e2Y, fc_31⟩ := hwY
        have e3Y := e1Y.symm
        clear e1Y
        subst e3Y
        have e3Y := e2Y.symm
        clear e2Y
        subst e3Y
        obtain ⟨hP, hD⟩ := hJ rfl
        have hP : va_P D vwCl (gMo cA B (fN S) WA BG AS TX RW' RR' FD m1 m2 m3 m4 m5 m6 m7 k8_31 k9_31 (nI k) m11 m12 m13 m14 m15 m16 m17 m18 m19) H := hP
        have hD : va_D AY (gMo cA B (fN S) WA BG AS TX RW' RR' FD m1 m2 m3 m4 m5 m6 m7 k8_31 k9_31 (nI k) m11 m12 m13 m14 m15 m16 m17 m18 m19) := hD
        refine xb_eq (tgt := 128) hx hb dX11_reduces_34 (by decide) (fun c34 => ?_) (fun c34 => ?_)
        · refine lv_aload_n hx hb dX11_reduces_128 rfl (lv_at hl 0 rfl) ?_
          refine lv_aload_n hx hb dX11_reduces_129 rfl (lv_at hl 0 rfl) ?_
          refine va_get (D := D) (ci := 10) (v := .ref (B 6)) (C := RX11) (T := TX11) (N := 27) hx hb hts hi_X11_reduces_X11 hown hK hP 0 rfl rfl 14 (by decide) (hts (.fieldLink RX11 26 "FallingWordsModel" "row" "[I") (by decide +kernel)) (fun _ h9 => h9) rfl dX11_reduces_130 ?_
          refine lv_aload_n hx hb dX11_reduces_133 rfl (lv_at hl 0 rfl) ?_
          refine va_get (D := D) (ci := 10) (v := .int (nI k)) (C := RX11) (T := TX11) (N := 27) hx hb hts hi_X11_reduces_X11 hown hK hP 0 rfl rfl 16 (by decide) (hts (.fieldLink RX11 64 "FallingWordsModel" "rowSteps" "I") (by decide +kernel)) (fun _ h9 => h9) rfl dX11_reduces_134 ?_
          refine xa_ld (v := nI (xs S w k)) hx hb hK hP 6 rfl (by omega) (by decide) (g1 k (Nat.le_refl k)) dX11_reduces_137 ?_
          refine ci_V (As := [.int (nI (xs S w k))]) (rest := []) h0 hK hN hP hD hS hA hl.1 (k_X11_chooses lY D cA B S WA BG AS TX RW' RR' FD m1 m2 m3 m4 m5 m6 m7 k8_31 k9_31 (nI k) m11 m12 m13 m14 m15 m16 m17 m18 m19 (xs S w k) (hI) (hxk)) [0, 1, 2, 3, 4, 5, 6, 7, 8] rfl (by decide) (cwV 1 hts gX11_reduces_X11_chooses rfl rfl rfl (by decide +kernel) ⟨Nat.le_of_ble_eq_true rfl, Nat.le_of_ble_eq_true rfl⟩) (cl_recv (ci := 10) (q := (RX11, TX11, 27)) (q0 := 0) hP hK rfl rfl) rfl rfl (Nat.le_of_ble_eq_true rfl) dX11_reduces_138 ⟨Nat.zero_le _, Nat.zero_le _⟩ (fun rY wY H locs hwY hJ hS => ?_)
          obtain ⟨k8_138, k9_138, e1Y, e2Y, fc_138⟩ := hwY
          have e3Y := e1Y.symm
          clear e1Y
          subst e3Y
          have e3Y := e2Y.symm
          clear e2Y
          subst e3Y
          obtain ⟨hP, hD⟩ := hJ rfl
          have hP : va_P D vwCl (gMo cA B (fN S) WA BG AS TX RW' RR' FD m1 m2 m3 m4 m5 m6 m7 k8_138 k9_138 (nI k) m11 m12 m13 m14 m15 m16 m17 m18 m19) H := hP
          have hD : va_D AY (gMo cA B (fN S) WA BG AS TX RW' RR' FD m1 m2 m3 m4 m5 m6 m7 k8_138 k9_138 (nI k) m11 m12 m13 m14 m15 m16 m17 m18 m19) := hD
          refine xb_eq (tgt := 148) hx hb dX11_reduces_141 (by decide) (fun c141 => ?_) (fun c141 => ?_)
          · refine lv_iconst (v := nI 0) hx hb dX11_reduces_148 (by decide +kernel) ?_
            have hn := nt_f c141
            have hR : red S w = (0, k, 0) := by rw [← hred, show 101 - k = (100 - k) + 1 by omega, redF, if_neg (by omega), if_pos hn]
            exact hret _ _ _ _ _ _ dX11_reduces_149 ⟨k8_138, k9_138, RW', RR', m11, (by rw [hR]), (by rw [hR]), (by rw [hR]; exact g1), (by rw [hR]; exact g2), (fun h => by rw [hR] at h; cases h)⟩ hP hD hS
          · refine lv_iconst (v := nI 2) hx hb dX11_reduces_144 (by decide +kernel) ?_
            refine lv_goto (tgt := 149) hx hb dX11_reduces_145 (by decide) ?_
            have hn := nt_t c141
            have hk1 : k = 100 := by rw [nt_f c34] at hn; cases hn
            have hR : red S w = (2, 100, 0) := by rw [← hred, show 101 - k = (100 - k) + 1 by omega, redF, if_neg (by omega), if_neg (by rw [hn]; decide), if_pos hk1]
            subst hk1
            exact hret _ _ _ _ _ _ dX11_reduces_149 ⟨k8_138, k9_138, RW', RR', m11, (by rw [hR]), (by rw [hR]), (by rw [hR]; exact g1), (by rw [hR]; exact g2), (fun h => by rw [hR] at h; cases h)⟩ hP hD hS
        · have hn := nt_t c34
          obtain ⟨e8, e9⟩ := fc_31 hn
          obtain ⟨q1, q2, q3, q4, q5⟩ := ch_lt hI hxk hn
          have h10 := hI.1
          rw [e8, e9] at hP hD
          have hP : va_P D vwCl (gMo cA B (fN S) WA BG AS TX RW' RR' FD m1 m2 m3 m4 m5 m6 m7 (nI (chr S (xs S w k))) (nI (chp S (xs S w k))) (nI k) m11 m12 m13 m14 m15 m16 m17 m18 m19) H := hP
          have hD : va_D AY (gMo cA B (fN S) WA BG AS TX RW' RR' FD m1 m2 m3 m4 m5 m6 m7 (nI (chr S (xs S w k))) (nI (chp S (xs S w k))) (nI k) m11 m12 m13 m14 m15 m16 m17 m18 m19) := hD
          refine lv_aload_n hx hb dX11_reduces_37 rfl (lv_at hl 0 rfl) ?_
          refine lv_aload_n hx hb dX11_reduces_38 rfl (lv_at hl 0 rfl) ?_
          refine va_get (D := D) (ci := 10) (v := .ref (B 6)) (C := RX11) (T := TX11) (N := 27) hx hb hts hi_X11_reduces_X11 hown hK hP 0 rfl rfl 14 (by decide) (hts (.fieldLink RX11 26 "FallingWordsModel" "row" "[I") (by decide +kernel)) (fun _ h9 => h9) rfl dX11_reduces_39 ?_
          refine lv_aload_n hx hb dX11_reduces_42 rfl (lv_at hl 0 rfl) ?_
          refine va_get (D := D) (ci := 10) (v := .int (nI k)) (C := RX11) (T := TX11) (N := 27) hx hb hts hi_X11_reduces_X11 hown hK hP 0 rfl rfl 16 (by decide) (hts (.fieldLink RX11 64 "FallingWordsModel" "rowSteps" "I") (by decide +kernel)) (fun _ h9 => h9) rfl dX11_reduces_43 ?_
          refine xa_ld (v := nI (xs S w k)) hx hb hK hP 6 rfl (by omega) (by decide) (g1 k (Nat.le_refl k)) dX11_reduces_46 ?_
          refine lv_aload_n hx hb dX11_reduces_47 rfl (lv_at hl 0 rfl) ?_
          refine va_get (D := D) (ci := 10) (v := .int (nI (chr S (xs S w k)))) (C := RX11) (T := TX11) (N := 27) hx hb hts hi_X11_reduces_X11 hown hK hP 0 rfl rfl 12 (by decide) (hts (.fieldLink RX11 54 "FallingWordsModel" "chosenRule" "I") (by decide +kernel)) (fun _ h9 => h9) rfl dX11_reduces_48 ?_
          refine lv_aload_n hx hb dX11_reduces_51 rfl (lv_at hl 0 rfl) ?_
          refine va_get (D := D) (ci := 10) (v := .int (nI (chp S (xs S w k)))) (C := RX11) (T := TX11) (N := 27) hx hb hts hi_X11_reduces_X11 hown hK hP 0 rfl rfl 13 (by decide) (hts (.fieldLink RX11 58 "FallingWordsModel" "chosenPlace" "I") (by decide +kernel)) (fun _ h9 => h9) rfl dX11_reduces_52 ?_
          refine ci_V (As := [.int (nI (xs S w k)), .int (nI (chr S (xs S w k))), .int (nI (chp S (xs S w k)))]) (rest := []) h0 hK hN hP hD hS hA hl.1 (k_X11_applied lY D cA B S WA BG AS TX RW' RR' FD m1 m2 m3 m4 m5 m6 m7 (nI (chr S (xs S w k))) (nI (chp S (xs S w k))) (nI k) m11 m12 m13 m14 m15 m16 m17 m18 m19 (xs S w k) (chr S (xs S w k)) (chp S (xs S w k)) (hI) (hxk) (q1) (q5)) [0, 1, 2, 3, 4, 5, 6, 7, 8] rfl (by decide) (cwV 3 hts gX11_reduces_X11_applied rfl rfl rfl (by decide +kernel) ⟨Nat.le_of_ble_eq_true rfl, Nat.le_of_ble_eq_true rfl⟩) (cl_recv (ci := 10) (q := (RX11, TX11, 27)) (q0 := 0) hP hK rfl rfl) rfl rfl (Nat.le_of_ble_eq_true rfl) dX11_reduces_55 ⟨Nat.zero_le _, Nat.zero_le _⟩ (fun rY wY H locs hwY hJ hS => ?_)
          obtain ⟨e1Y, e2Y⟩ := hwY
          have e3Y := e1Y.symm
          clear e1Y
          subst e3Y
          have e3Y := e2Y.symm
          clear e2Y
          subst e3Y
          obtain ⟨hP, hD⟩ := hJ rfl
          have hP : va_P D vwCl (gMo cA B (fN S) WA BG AS TX RW' RR' FD m1 m2 m3 m4 m5 m6 m7 (nI (chr S (xs S w k))) (nI (chp S (xs S w k))) (nI k) m11 m12 m13 m14 m15 m16 m17 m18 m19) H := hP
          have hD : va_D AY (gMo cA B (fN S) WA BG AS TX RW' RR' FD m1 m2 m3 m4 m5 m6 m7 (nI (chr S (xs S w k))) (nI (chp S (xs S w k))) (nI k) m11 m12 m13 m14 m15 m16 m17 m18 m19) := hD
          refine xt (show nI (app (lf S (chr S (xs S w k))) (rt S (chr S (xs S w k))) (xs S w k) (chp S (xs S w k))) = nI (xs S w (k + 1)) from rfl) ?_
          refine lv_istore_n (lv' := [(2, .int (nI (xs S w (k + 1)))), (0, .ref (B 0)), (1, .int (nI w))]) hx hb dX11_reduces_58 rfl hl (by decide) rfl (fun ls hl => ?_)
          refine lv_aload_n hx hb dX11_reduces_59 rfl (lv_at hl 1 rfl) ?_
          refine va_get (D := D) (ci := 10) (v := .ref (B 7)) (C := RX11) (T := TX11) (N := 27) hx hb hts hi_X11_reduces_X11 hown hK hP 0 rfl rfl 15 (by decide) (hts (.fieldLink RX11 29 "FallingWordsModel" "rowRule" "[I") (by decide +kernel)) (fun _ h9 => h9) rfl dX11_reduces_60 ?_
          refine lv_aload_n hx hb dX11_reduces_63 rfl (lv_at hl 1 rfl) ?_
          refine va_get (D := D) (ci := 10) (v := .int (nI k)) (C := RX11) (T := TX11) (N := 27) hx hb hts hi_X11_reduces_X11 hown hK hP 0 rfl rfl 16 (by decide) (hts (.fieldLink RX11 64 "FallingWordsModel" "rowSteps" "I") (by decide +kernel)) (fun _ h9 => h9) rfl dX11_reduces_64 ?_
          refine lv_aload_n hx hb dX11_reduces_67 rfl (lv_at hl 1 rfl) ?_
          refine va_get (D := D) (ci := 10) (v := .int (nI (chr S (xs S w k)))) (C := RX11) (T := TX11) (N := 27) hx hb hts hi_X11_reduces_X11 hown hK hP 0 rfl rfl 12 (by decide) (hts (.fieldLink RX11 54 "FallingWordsModel" "chosenRule" "I") (by decide +kernel)) (fun _ h9 => h9) rfl dX11_reduces_68 ?_
          refine xa_st hx hb hK hP hD hS 7 rfl (by omega) (by decide) dX11_reduces_71 (fun H locs hP hD hS => ?_)
          have hP : va_P D vwCl (gMo cA B (fN S) WA BG AS TX RW' (upd RR' k (nI (chr S (xs S w k)))) FD m1 m2 m3 m4 m5 m6 m7 (nI (chr S (xs S w k))) (nI (chp S (xs S w k))) (nI k) m11 m12 m13 m14 m15 m16 m17 m18 m19) H := hP
          have hD : va_D AY (gMo cA B (fN S) WA BG AS TX RW' (upd RR' k (nI (chr S (xs S w k)))) FD m1 m2 m3 m4 m5 m6 m7 (nI (chr S (xs S w k))) (nI (chp S (xs S w k))) (nI k) m11 m12 m13 m14 m15 m16 m17 m18 m19) := hD
          refine lv_aload_n hx hb dX11_reduces_72 rfl (lv_at hl 1 rfl) ?_
          refine lv_dup hx hb dX11_reduces_73 rfl ?_
          refine va_get (D := D) (ci := 10) (v := .int (nI k)) (C := RX11) (T := TX11) (N := 27) hx hb hts hi_X11_reduces_X11 hown hK hP 0 rfl rfl 16 (by decide) (hts (.fieldLink RX11 64 "FallingWordsModel" "rowSteps" "I") (by decide +kernel)) (fun _ h9 => h9) rfl dX11_reduces_74 ?_
          refine lv_iconst (v := nI 1) hx hb dX11_reduces_77 (by decide +kernel) ?_
          refine lv_iadd hx hb dX11_reduces_78 ?_
          refine xt (show (nI k) + (nI 1) = nI (k + 1) from nI_add _ _) ?_
          refine va_put (D := D) (ci := 10) (v := .int (nI (k + 1))) (ty := .int) (C := RX11) (T := TX11) (N := 27) hx hb hts hi_X11_reduces_X11 tyX11 tyX11_ok nmX11 hown hK hP hD hS 0 rfl rfl 16 (by decide) (hts (.fieldLink RX11 64 "FallingWordsModel" "rowSteps" "I") (by decide +kernel)) (fun _ h9 => h9) rfl (by decide +kernel) rfl rfl (Nat.le_of_ble_eq_true rfl) dX11_reduces_79 (fun H locs hP hD hS => ?_)
          have hP : va_P D vwCl (gMo cA B (fN S) WA BG AS TX RW' (upd RR' k (nI (chr S (xs S w k)))) FD m1 m2 m3 m4 m5 m6 m7 (nI (chr S (xs S w k))) (nI (chp S (xs S w k))) (nI (k + 1)) m11 m12 m13 m14 m15 m16 m17 m18 m19) H := hP
          have hD : va_D AY (gMo cA B (fN S) WA BG AS TX RW' (upd RR' k (nI (chr S (xs S w k)))) FD m1 m2 m3 m4 m5 m6 m7 (nI (chr S (xs S w k))) (nI (chp S (xs S w k))) (nI (k + 1)) m11 m12 m13 m14 m15 m16 m17 m18 m19) := hD
          refine lv_aload_n hx hb dX11_reduces_82 rfl (lv_at hl 1 rfl) ?_
          refine va_get (D := D) (ci := 10) (v := .ref (B 6)) (C := RX11) (T := TX11) (N := 27) hx hb hts hi_X11_reduces_X11 hown hK hP 0 rfl rfl 14 (by decide) (hts (.fieldLink RX11 26 "FallingWordsModel" "row" "[I") (by decide +kernel)) (fun _ h9 => h9) rfl dX11_reduces_83 ?_
          refine lv_aload_n hx hb dX11_reduces_86 rfl (lv_at hl 1 rfl) ?_
          refine va_get (D := D) (ci := 10) (v := .int (nI (k + 1))) (C := RX11) (T := TX11) (N := 27) hx hb hts hi_X11_reduces_X11 hown hK hP 0 rfl rfl 16 (by decide) (hts (.fieldLink RX11 64 "FallingWordsModel" "rowSteps" "I") (by decide +kernel)) (fun _ h9 => h9) rfl dX11_reduces_87 ?_
          refine lv_iload_n hx hb dX11_reduces_90 rfl (lv_at hl 0 rfl) ?_
          refine xa_st hx hb hK hP hD hS 6 rfl (by omega) (by decide) dX11_reduces_91 (fun H locs hP hD hS => ?_)
          have hP : va_P D vwCl (gMo cA B (fN S) WA BG AS TX (upd RW' (k + 1) (nI (xs S w (k + 1)))) (upd RR' k (nI (chr S (xs S w k)))) FD m1 m2 m3 m4 m5 m6 m7 (nI (chr S (xs S w k))) (nI (chp S (xs S w k))) (nI (k + 1)) m11 m12 m13 m14 m15 m16 m17 m18 m19) H := hP
          have hD : va_D AY (gMo cA B (fN S) WA BG AS TX (upd RW' (k + 1) (nI (xs S w (k + 1)))) (upd RR' k (nI (chr S (xs S w k)))) FD m1 m2 m3 m4 m5 m6 m7 (nI (chr S (xs S w k))) (nI (chp S (xs S w k))) (nI (k + 1)) m11 m12 m13 m14 m15 m16 m17 m18 m19) := hD
          have hxv1 : ∀ i, i ≤ k + 1 → vw 12 (xs S w i) := fun i hi => by rcases Nat.lt_or_ge k i with q | q; (rw [show i = k + 1 by omega]; exact nxt_vw hI hxk hn); exact hxv i q
          have g1n : ∀ i, i ≤ k + 1 → upd RW' (k + 1) (nI (xs S w (k + 1))) i = nI (xs S w i) := fun i hi => by rcases Nat.lt_or_ge k i with q | q; (rw [show i = k + 1 by omega, pk_us]); rw [pk_un (by omega)]; exact g1 i q
          have hB1 := vw_B (hxv1 (k + 1) (Nat.le_refl _)) (by decide)
          refine lv_iconst (v := nI 0) hx hb dX11_reduces_92 (by decide +kernel) ?_
          refine lv_istore_n (lv' := [(3, .int (nI 0)), (2, .int (nI (xs S w (k + 1)))), (0, .ref (B 0)), (1, .int (nI w))]) hx hb dX11_reduces_93 rfl hl (by decide) rfl (fun ls hl => ?_)
          have L94 : ∀ (nY : Nat), ∀ (j : Nat), (j ≤ k + 1) → (∀ i, i < j → decide (xs S w i = xs S w (k + 1)) = false) → (k + 1 - j < nY) → ∀ (H : Heap) (locs : List Loc) (ls : Array Slot), va_P D vwCl (gMo cA B (fN S) WA BG AS TX (upd RW' (k + 1) (nI (xs S w (k + 1)))) (upd RR' k (nI (chr S (xs S w k)))) FD m1 m2 m3 m4 m5 m6 m7 (nI (chr S (xs S w k))) (nI (chp S (xs S w k))) (nI (k + 1)) m11 m12 m13 m14 m15 m16 m17 m18 m19) H → va_D AY (gMo cA B (fN S) WA BG AS TX (upd RW' (k + 1) (nI (xs S w (k + 1)))) (upd RR' k (nI (chr S (xs S w k)))) FD m1 m2 m3 m4 m5 m6 m7 (nI (chr S (xs S w k))) (nI (chp S (xs S w k))) (nI (k + 1)) m11 m12 m13 m14 m15 m16 m17 m18 m19) → va_S AY sY.heap H locs → lv_has ls 4 [(0, .ref (B 0)), (1, .int (nI w)), (2, .int (nI (xs S w (k + 1)))), (3, .int (nI j))] → W pY lY eY { frames := 3, cells := 0, slots := 0, locals := 72 } sY mY aY bY tY cY H locs 0 0 QY (F0 mY 94 ls []) := by
            intro nY94
            induction nY94 with
            | zero => intro j hj hno hm94; exact absurd hm94 (Nat.not_lt_zero _)
            | succ nY94 ih94 =>
              intro j hj hno hm94 H locs ls hP hD hS hl
              refine lv_iload_n hx hb dX11_reduces_94 rfl (lv_at hl 3 rfl) ?_
              refine lv_aload_n hx hb dX11_reduces_95 rfl (lv_at hl 0 rfl) ?_
              refine va_get (D := D) (ci := 10) (v := .int (nI (k + 1))) (C := RX11) (T := TX11) (N := 27) hx hb hts hi_X11_reduces_X11 hown hK hP 0 rfl rfl 16 (by decide) (hts (.fieldLink RX11 64 "FallingWordsModel" "rowSteps" "I") (by decide +kernel)) (fun _ h9 => h9) rfl dX11_reduces_96 ?_
              refine xc_ge (tgt := 125) hx hb dX11_reduces_99 (by decide) (by omega) (by omega) (fun c99 => ?_) (fun c99 => ?_)
              · refine lv_goto (tgt := 12) hx hb dX11_reduces_125 (by decide) ?_
                exact ih12 (k + 1) (upd RW' (k + 1) (nI (xs S w (k + 1)))) (upd RR' k (nI (chr S (xs S w k)))) (nI (chr S (xs S w k))) (nI (chp S (xs S w k))) (by omega) (g1n) (fun i hi => by rcases Nat.lt_or_ge i k with q | q; (rw [pk_un (by omega)]; exact g2 i q); rw [show i = k by omega, pk_us]) (by rw [← hred, show 101 - k = (101 - (k + 1)) + 1 by omega, redF, if_neg (by omega), if_neg (by rw [hn]; decide), if_neg (by omega)]) (hxv1) (ff_none (fun j hj => hno j (by omega))) (by omega) _ _ _ hP hD hS (lv_sub hl [0, 1] rfl)
              · refine lv_aload_n hx hb dX11_reduces_102 rfl (lv_at hl 0 rfl) ?_
                refine va_get (D := D) (ci := 10) (v := .ref (B 6)) (C := RX11) (T := TX11) (N := 27) hx hb hts hi_X11_reduces_X11 hown hK hP 0 rfl rfl 14 (by decide) (hts (.fieldLink RX11 26 "FallingWordsModel" "row" "[I") (by decide +kernel)) (fun _ h9 => h9) rfl dX11_reduces_103 ?_
                refine lv_iload_n hx hb dX11_reduces_106 rfl (lv_at hl 3 rfl) ?_
                refine xa_ld (v := nI (xs S w j)) hx hb hK hP 6 rfl (by omega) (by decide) (g1n j (by omega)) dX11_reduces_107 ?_
                have hBj := vw_B (hxv1 j (by omega)) (by decide)
                refine lv_iload_n hx hb dX11_reduces_108 rfl (lv_at hl 2 rfl) ?_
                refine xc_ne (tgt := 119) hx hb dX11_reduces_109 (by decide) (by omega) (by omega) (fun c109 => ?_) (fun c109 => ?_)
                · refine lv_iinc (v := nI (j + 1)) (lv' := [(3, .int (nI (j + 1))), (0, .ref (B 0)), (1, .int (nI w)), (2, .int (nI (xs S w (k + 1))))]) hx hb dX11_reduces_119 hl (k := 3) rfl (show nI j + Int32.ofInt 1 = nI (j + 1) from nI_add j 1) (by decide) rfl (fun ls hl => ?_)
                  refine lv_goto (tgt := 94) hx hb dX11_reduces_122 (by decide) ?_
                  exact ih94 (j + 1) (by omega) (lt_s hno (decide_eq_false c109)) (by omega) _ _ _ hP hD hS (lv_sub hl [1, 2, 3, 0] rfl)
                · have hff : fst S w (k + 1) = j := ff_is (by omega) (decide_eq_true c109) hno
                  have hff : fst S w (k + 1) = j := ff_is (by omega) (decide_eq_true c109) hno
                  refine lv_aload_n hx hb dX11_reduces_112 rfl (lv_at hl 0 rfl) ?_
                  refine lv_iload_n hx hb dX11_reduces_113 rfl (lv_at hl 3 rfl) ?_
                  refine va_put (D := D) (ci := 10) (v := .int (nI j)) (ty := .int) (C := RX11) (T := TX11) (N := 27) hx hb hts hi_X11_reduces_X11 tyX11 tyX11_ok nmX11 hown hK hP hD hS 0 rfl rfl 17 (by decide) (hts (.fieldLink RX11 75 "FallingWordsModel" "ringFrom" "I") (by decide +kernel)) (fun _ h9 => h9) rfl (by decide +kernel) rfl rfl (Nat.le_of_ble_eq_true rfl) dX11_reduces_114 (fun H locs hP hD hS => ?_)
                  have hP : va_P D vwCl (gMo cA B (fN S) WA BG AS TX (upd RW' (k + 1) (nI (xs S w (k + 1)))) (upd RR' k (nI (chr S (xs S w k)))) FD m1 m2 m3 m4 m5 m6 m7 (nI (chr S (xs S w k))) (nI (chp S (xs S w k))) (nI (k + 1)) (nI j) m12 m13 m14 m15 m16 m17 m18 m19) H := hP
                  have hD : va_D AY (gMo cA B (fN S) WA BG AS TX (upd RW' (k + 1) (nI (xs S w (k + 1)))) (upd RR' k (nI (chr S (xs S w k)))) FD m1 m2 m3 m4 m5 m6 m7 (nI (chr S (xs S w k))) (nI (chp S (xs S w k))) (nI (k + 1)) (nI j) m12 m13 m14 m15 m16 m17 m18 m19) := hD
                  refine lv_iconst (v := nI 1) hx hb dX11_reduces_117 (by decide +kernel) ?_
                  have hR : red S w = (1, k + 1, j) := by rw [← hred, show 101 - k = (100 - k) + 1 by omega, redF, if_neg (by omega), if_neg (by rw [hn]; decide), if_neg (by omega)]; obtain ⟨z, hz⟩ : ∃ z, 100 - k = z + 1 := ⟨99 - k, by omega⟩; rw [hz, redF, if_pos (by omega), hff]
                  exact hret _ _ _ _ _ _ dX11_reduces_118 ⟨((nI (chr S (xs S w k)))), ((nI (chp S (xs S w k)))), ((upd RW' (k + 1) (nI (xs S w (k + 1))))), ((upd RR' k (nI (chr S (xs S w k))))), ((nI j)), (by rw [hR]), (by rw [hR]), (by rw [hR]; exact g1n), (fun i hi => by rw [hR] at hi; have hi : i < k + 1 := hi; rcases Nat.lt_or_ge i k with q | q; (rw [pk_un (by omega)]; exact g2 i q); rw [show i = k by omega, pk_us]), (fun _ => by rw [hR])⟩ hP hD hS
          exact L94 _ 0 (by omega) (fun i h => absurd h (Nat.not_lt_zero i)) (Nat.lt_succ_self _) _ _ _ hP hD hS (lv_sub hl [2, 3, 1, 0] rfl)
  exact L12 _ 0 (upd RW 0 (nI w)) RR m8 m9 (by omega) (fun i hi => by rw [show i = 0 by omega, pk_us]; rfl) (fun i hi => absurd hi (Nat.not_lt_zero i)) ((red_eq S w).symm) (fun i hi => by rw [show i = 0 by omega]; exact hw) (rfl) (Nat.lt_succ_self _) _ _ _ hP hD hS hl

theorem hi_X11_keeps_X11 : ∀ w ∈ u_ws RX11 TX11 27, w ∈ wsX11_keeps := by decide +kernel
set_option maxHeartbeats 1000000 in
set_option maxRecDepth 100000 in
theorem k_X11_keeps (lY : Launch) (D : va_G) (cA : Nat → ClassId) (B : Nat → Nat) (S : St) (WA BG AS TX RW RR FD : Nat → Int32) (m1 m2 m3 m4 m5 m6 m7 m8 m9 m10 m11 m12 m13 m14 m15 m16 m17 m18 m19 : Int32)  : MetV lY D cA yX11_keeps wsX11_keeps 0 0 0 0 [.ref (B 0)] (gMo cA B (fN S) WA BG AS TX RW RR FD m1 m2 m3 m4 m5 m6 m7 m8 m9 m10 m11 m12 m13 m14 m15 m16 m17 m18 m19) (fun wY => ∃ (BG' : Nat → Int32), wY = gMo cA B (fN S) WA BG' AS TX RW RR FD m1 m2 m3 m4 m5 m6 m7 m8 m9 m10 m11 m12 m13 m14 m15 m16 m17 m18 m19 ∧ (∀ k, k < 52 → BG' k = nI (S k))) := by
  refine MetV.of (cc := cX11_keeps) (maxL := 2) (by decide) rfl (Nat.le_of_ble_eq_true rfl) ?_
  intro pY eY sY mY aY bY tY cY QY AY ls h0 hP hK hN hD hA hS hl hin hret
  obtain ⟨hx, hb, hml, hown, hts⟩ := id h0
  have hl : lv_has ls 2 [(0, .ref (B 0))] := hl
  have hP : va_P D vwCl (gMo cA B (fN S) WA BG AS TX RW RR FD m1 m2 m3 m4 m5 m6 m7 m8 m9 m10 m11 m12 m13 m14 m15 m16 m17 m18 m19) sY.heap := hP
  have hD : va_D AY (gMo cA B (fN S) WA BG AS TX RW RR FD m1 m2 m3 m4 m5 m6 m7 m8 m9 m10 m11 m12 m13 m14 m15 m16 m17 m18 m19) := hD
  refine lv_iconst (v := nI 0) hx hb dX11_keeps_0 (by decide +kernel) ?_
  refine lv_istore_n (lv' := [(1, .int (nI 0)), (0, .ref (B 0))]) hx hb dX11_keeps_1 rfl hl (by decide) rfl (fun ls hl => ?_)
  have L2 : ∀ (nY : Nat), ∀ (i : Nat) (BG' : Nat → Int32), (i ≤ 52) → (∀ k, k < i → BG' k = nI (S k)) → (52 - i < nY) → ∀ (H : Heap) (locs : List Loc) (ls : Array Slot), va_P D vwCl (gMo cA B (fN S) WA BG' AS TX RW RR FD m1 m2 m3 m4 m5 m6 m7 m8 m9 m10 m11 m12 m13 m14 m15 m16 m17 m18 m19) H → va_D AY (gMo cA B (fN S) WA BG' AS TX RW RR FD m1 m2 m3 m4 m5 m6 m7 m8 m9 m10 m11 m12 m13 m14 m15 m16 m17 m18 m19) → va_S AY sY.heap H locs → lv_has ls 2 [(0, .ref (B 0)), (1, .int (nI i))] → W pY lY eY { frames := 0, cells := 0, slots := 0, locals := 0 } sY mY aY bY tY cY H locs 0 0 QY (F0 mY 2 ls []) := by
    intro nY2
    induction nY2 with
    | zero => intro i BG' hi hbg hm2; exact absurd hm2 (Nat.not_lt_zero _)
    | succ nY2 ih2 =>
      intro i BG' hi hbg hm2 H locs ls hP hD hS hl
      refine lv_iload_n hx hb dX11_keeps_2 rfl (lv_at hl 1 rfl) ?_
      refine lv_bipush (v := nI 52) hx hb dX11_keeps_3 (by decide +kernel) ?_
      refine xc_ge (tgt := 26) hx hb dX11_keeps_5 (by decide) (by omega) (by omega) (fun c5 => ?_) (fun c5 => ?_)
      · exact hret _ _ _ _ _ dX11_keeps_26 ⟨BG', rfl, (fun k hk => hbg k (by omega))⟩ hP hD hS
      · refine lv_aload_n hx hb dX11_keeps_8 rfl (lv_at hl 0 rfl) ?_
        refine va_get (D := D) (ci := 10) (v := .ref (B 3)) (C := RX11) (T := TX11) (N := 27) hx hb hts hi_X11_keeps_X11 hown hK hP 0 rfl rfl 2 (by decide) (hts (.fieldLink RX11 16 "FallingWordsModel" "begun" "[I") (by decide +kernel)) (fun _ h9 => h9) rfl dX11_keeps_9 ?_
        refine lv_iload_n hx hb dX11_keeps_12 rfl (lv_at hl 1 rfl) ?_
        refine lv_aload_n hx hb dX11_keeps_13 rfl (lv_at hl 0 rfl) ?_
        refine va_get (D := D) (ci := 10) (v := .ref (B 1)) (C := RX11) (T := TX11) (N := 27) hx hb hts hi_X11_keeps_X11 hown hK hP 0 rfl rfl 0 (by decide) (hts (.fieldLink RX11 7 "FallingWordsModel" "s" "[I") (by decide +kernel)) (fun _ h9 => h9) rfl dX11_keeps_14 ?_
        refine lv_iload_n hx hb dX11_keeps_17 rfl (lv_at hl 1 rfl) ?_
        refine xa_ld (v := nI (S i)) hx hb hK hP 1 rfl (by omega) (by decide) (rfl) dX11_keeps_18 ?_
        refine xa_st hx hb hK hP hD hS 3 rfl (by omega) (by decide) dX11_keeps_19 (fun H locs hP hD hS => ?_)
        have hP : va_P D vwCl (gMo cA B (fN S) WA (upd BG' i (nI (S i))) AS TX RW RR FD m1 m2 m3 m4 m5 m6 m7 m8 m9 m10 m11 m12 m13 m14 m15 m16 m17 m18 m19) H := hP
        have hD : va_D AY (gMo cA B (fN S) WA (upd BG' i (nI (S i))) AS TX RW RR FD m1 m2 m3 m4 m5 m6 m7 m8 m9 m10 m11 m12 m13 m14 m15 m16 m17 m18 m19) := hD
        refine lv_iinc (v := nI (i + 1)) (lv' := [(1, .int (nI (i + 1))), (0, .ref (B 0))]) hx hb dX11_keeps_20 hl (k := 1) rfl (show nI i + Int32.ofInt 1 = nI (i + 1) from nI_add i 1) (by decide) rfl (fun ls hl => ?_)
        refine lv_goto (tgt := 2) hx hb dX11_keeps_23 (by decide) ?_
        exact ih2 (i + 1) (upd BG' i (nI (S i))) (by omega) (fun k hk => by rcases Nat.lt_or_ge k i with q | q; (rw [pk_un (by omega)]; exact hbg k q); rw [show k = i by omega, pk_us]) (by omega) _ _ _ hP hD hS (lv_sub hl [1, 0] rfl)
  exact L2 _ 0 BG (by omega) (fun k h => absurd h (Nat.not_lt_zero k)) (Nat.lt_succ_self _) _ _ _ hP hD hS (lv_sub hl [1, 0] rfl)

theorem hi_X11_acted_X11 : ∀ w ∈ u_ws RX11 TX11 27, w ∈ wsX11_acted := by decide +kernel
set_option maxHeartbeats 8000000 in
set_option maxRecDepth 100000 in
theorem k_X11_acted (lY : Launch) (D : va_G) (cA : Nat → ClassId) (B : Nat → Nat) (S : St) (WA BG AS TX RW RR FD : Nat → Int32) (m2 m3 m4 m5 m6 m7 m8 m9 m10 m11 m12 m13 m14 m15 m16 m17 m18 m19 : Int32) (r : Int32 × St) (h : Nat → St) (n : Nat) (hn4 : n ≤ 4) (hwas : rWas h n WA) (hbg : ∀ k, k < 52 → BG k = nI (S k)) (hkp : ¬ (-1000001 : Int) < r.1.toInt → r.2 = S) : MetI lY D cA yX11_acted wsX11_acted 0 0 [.ref (B 0), .int r.1] (gMo cA B (fN r.2) WA BG AS TX RW RR FD (nI n) m2 m3 m4 m5 m6 m7 m8 m9 m10 m11 m12 m13 m14 m15 m16 m17 m18 m19) (fun rY wY => ∃ (WA' : Nat → Int32), rY = (actZ S h n r).1 ∧ wY = gMo cA B (fN ((actZ S h n r).2.1)) WA' BG AS TX RW RR FD (nI ((actZ S h n r).2.2.2)) m2 m3 m4 m5 m6 m7 m8 m9 m10 m11 m12 m13 m14 m15 m16 m17 m18 m19 ∧ (rWas (actZ S h n r).2.2.1 (actZ S h n r).2.2.2 WA')) := by
  refine MetI.of (cc := cX11_acted) (maxL := 3) (ret := (some .int)) (by decide) rfl (Nat.le_of_ble_eq_true rfl) (Or.inl rfl) ?_
  intro pY eY sY mY aY bY tY cY QY AY ls h0 hP hK hN hD hA hS hl hret
  obtain ⟨hx, hb, hml, hown, hts⟩ := id h0
  have hl : lv_has ls 3 [(0, .ref (B 0)), (1, .int r.1)] := hl
  have hP : va_P D vwCl (gMo cA B (fN r.2) WA BG AS TX RW RR FD (nI n) m2 m3 m4 m5 m6 m7 m8 m9 m10 m11 m12 m13 m14 m15 m16 m17 m18 m19) sY.heap := hP
  have hD : va_D AY (gMo cA B (fN r.2) WA BG AS TX RW RR FD (nI n) m2 m3 m4 m5 m6 m7 m8 m9 m10 m11 m12 m13 m14 m15 m16 m17 m18 m19) := hD
  have em : ((-1000001) : Int32).toInt = -1000001 := rfl
  refine lv_iload_n hx hb dX11_acted_0 rfl (lv_at hl 1 rfl) ?_
  refine lv_ldc (v := (-1000001)) hx hb hown (hts (.constant RX11 78 (-1000001)) (by decide +kernel)) dX11_acted_1 ?_
  refine xr_le (tgt := 98) hx hb dX11_acted_3 (by decide) (fun c3 => ?_) (fun c3 => ?_)
  · refine lv_iload_n hx hb dX11_acted_98 rfl (lv_at hl 1 rfl) ?_
    have hR : actZ S h n r = (r.1, (S, h, n)) := by unfold actZ; rw [if_neg (by omega)]
    have hrk : r.2 = S := hkp (by omega)
    exact hret _ _ _ _ _ _ dX11_acted_99 ⟨WA, (by rw [hR]), (by rw [hR, hrk]), (by rw [hR]; exact hwas)⟩ hP hD hS
  · have L54 :  ∀ (t : Nat) (W2 : Nat → Int32), (t + 1 = min (n + 1) 4) → (∀ i, i < t → ∀ k, k < 52 → W2 (52 * i + k) = nI (psh h n S i k)) → ∀ (H : Heap) (locs : List Loc) (ls : Array Slot), va_P D vwCl (gMo cA B (fN r.2) W2 BG AS TX RW RR FD (nI t) m2 m3 m4 m5 m6 m7 m8 m9 m10 m11 m12 m13 m14 m15 m16 m17 m18 m19) H → va_D AY (gMo cA B (fN r.2) W2 BG AS TX RW RR FD (nI t) m2 m3 m4 m5 m6 m7 m8 m9 m10 m11 m12 m13 m14 m15 m16 m17 m18 m19) → va_S AY sY.heap H locs → lv_has ls 3 [(0, .ref (B 0)), (1, .int r.1)] → W pY lY eY { frames := 0, cells := 0, slots := 0, locals := 0 } sY mY aY bY tY cY H locs 0 0 QY (F0 mY 54 ls []) := by
      intro t W2 ht h2 H locs ls hP hD hS hl
      refine lv_iconst (v := nI 0) hx hb dX11_acted_54 (by decide +kernel) ?_
      refine lv_istore_n (lv' := [(2, .int (nI 0)), (0, .ref (B 0)), (1, .int r.1)]) hx hb dX11_acted_55 rfl hl (by decide) rfl (fun ls hl => ?_)
      have L56 : ∀ (nY : Nat), ∀ (i : Nat) (W3 : Nat → Int32), (i ≤ 52) → (∀ j, W3 j = if 52 * t ≤ j ∧ j < 52 * t + i then nI (S (j - 52 * t)) else W2 j) → (52 - i < nY) → ∀ (H : Heap) (locs : List Loc) (ls : Array Slot), va_P D vwCl (gMo cA B (fN r.2) W3 BG AS TX RW RR FD (nI t) m2 m3 m4 m5 m6 m7 m8 m9 m10 m11 m12 m13 m14 m15 m16 m17 m18 m19) H → va_D AY (gMo cA B (fN r.2) W3 BG AS TX RW RR FD (nI t) m2 m3 m4 m5 m6 m7 m8 m9 m10 m11 m12 m13 m14 m15 m16 m17 m18 m19) → va_S AY sY.heap H locs → lv_has ls 3 [(0, .ref (B 0)), (1, .int r.1), (2, .int (nI i))] → W pY lY eY { frames := 0, cells := 0, slots := 0, locals := 0 } sY mY aY bY tY cY H locs 0 0 QY (F0 mY 56 ls []) := by
        intro nY56
        induction nY56 with
        | zero => intro i W3 hi h3 hm56; exact absurd hm56 (Nat.not_lt_zero _)
        | succ nY56 ih56 =>
          intro i W3 hi h3 hm56 H locs ls hP hD hS hl
          refine lv_iload_n hx hb dX11_acted_56 rfl (lv_at hl 2 rfl) ?_
          refine lv_bipush (v := nI 52) hx hb dX11_acted_57 (by decide +kernel) ?_
          refine xc_ge (tgt := 88) hx hb dX11_acted_59 (by decide) (by omega) (by omega) (fun c59 => ?_) (fun c59 => ?_)
          · refine lv_aload_n hx hb dX11_acted_88 rfl (lv_at hl 0 rfl) ?_
            refine lv_dup hx hb dX11_acted_89 rfl ?_
            refine va_get (D := D) (ci := 10) (v := .int (nI t)) (C := RX11) (T := TX11) (N := 27) hx hb hts hi_X11_acted_X11 hown hK hP 0 rfl rfl 4 (by decide) (hts (.fieldLink RX11 79 "FallingWordsModel" "states" "I") (by decide +kernel)) (fun _ h9 => h9) rfl dX11_acted_90 ?_
            refine lv_iconst (v := nI 1) hx hb dX11_acted_93 (by decide +kernel) ?_
            refine lv_iadd hx hb dX11_acted_94 ?_
            refine xt (show (nI t) + (nI 1) = nI (t + 1) from nI_add _ _) ?_
            refine va_put (D := D) (ci := 10) (v := .int (nI (t + 1))) (ty := .int) (C := RX11) (T := TX11) (N := 27) hx hb hts hi_X11_acted_X11 tyX11 tyX11_ok nmX11 hown hK hP hD hS 0 rfl rfl 4 (by decide) (hts (.fieldLink RX11 79 "FallingWordsModel" "states" "I") (by decide +kernel)) (fun _ h9 => h9) rfl (by decide +kernel) rfl rfl (Nat.le_of_ble_eq_true rfl) dX11_acted_95 (fun H locs hP hD hS => ?_)
            have hP : va_P D vwCl (gMo cA B (fN r.2) W3 BG AS TX RW RR FD (nI (t + 1)) m2 m3 m4 m5 m6 m7 m8 m9 m10 m11 m12 m13 m14 m15 m16 m17 m18 m19) H := hP
            have hD : va_D AY (gMo cA B (fN r.2) W3 BG AS TX RW RR FD (nI (t + 1)) m2 m3 m4 m5 m6 m7 m8 m9 m10 m11 m12 m13 m14 m15 m16 m17 m18 m19) := hD
            refine lv_iload_n hx hb dX11_acted_98 rfl (lv_at hl 1 rfl) ?_
            have hR : actZ S h n r = (r.1, (r.2, psh h n S, min (n + 1) 4)) := by unfold actZ; rw [if_pos (by omega)]; rfl
            exact hret _ _ _ _ _ _ dX11_acted_99 ⟨W3, (by rw [hR]), (by rw [hR, ht]), (by rw [hR]; exact rWas_s hn4 ht h2 (fun j => by rw [h3 j, show i = 52 by omega]))⟩ hP hD hS
          · refine lv_aload_n hx hb dX11_acted_62 rfl (lv_at hl 0 rfl) ?_
            refine va_get (D := D) (ci := 10) (v := .ref (B 2)) (C := RX11) (T := TX11) (N := 27) hx hb hts hi_X11_acted_X11 hown hK hP 0 rfl rfl 1 (by decide) (hts (.fieldLink RX11 13 "FallingWordsModel" "was" "[I") (by decide +kernel)) (fun _ h9 => h9) rfl dX11_acted_63 ?_
            refine lv_bipush (v := nI 52) hx hb dX11_acted_66 (by decide +kernel) ?_
            refine lv_aload_n hx hb dX11_acted_68 rfl (lv_at hl 0 rfl) ?_
            refine va_get (D := D) (ci := 10) (v := .int (nI t)) (C := RX11) (T := TX11) (N := 27) hx hb hts hi_X11_acted_X11 hown hK hP 0 rfl rfl 4 (by decide) (hts (.fieldLink RX11 79 "FallingWordsModel" "states" "I") (by decide +kernel)) (fun _ h9 => h9) rfl dX11_acted_69 ?_
            refine lv_imul hx hb dX11_acted_72 ?_
            refine xt (show (nI 52) * (nI t) = nI (52 * t) from pk_mul _ _) ?_
            refine lv_iload_n hx hb dX11_acted_73 rfl (lv_at hl 2 rfl) ?_
            refine lv_iadd hx hb dX11_acted_74 ?_
            refine xt (show (nI (52 * t)) + (nI i) = nI (52 * t + i) from nI_add _ _) ?_
            refine lv_aload_n hx hb dX11_acted_75 rfl (lv_at hl 0 rfl) ?_
            refine va_get (D := D) (ci := 10) (v := .ref (B 3)) (C := RX11) (T := TX11) (N := 27) hx hb hts hi_X11_acted_X11 hown hK hP 0 rfl rfl 2 (by decide) (hts (.fieldLink RX11 16 "FallingWordsModel" "begun" "[I") (by decide +kernel)) (fun _ h9 => h9) rfl dX11_acted_76 ?_
            refine lv_iload_n hx hb dX11_acted_79 rfl (lv_at hl 2 rfl) ?_
            refine xa_ld (v := nI (S i)) hx hb hK hP 3 rfl (by omega) (by decide) (hbg i (by omega)) dX11_acted_80 ?_
            refine xa_st hx hb hK hP hD hS 2 rfl (by omega) (by decide) dX11_acted_81 (fun H locs hP hD hS => ?_)
            have hP : va_P D vwCl (gMo cA B (fN r.2) (upd W3 (52 * t + i) (nI (S i))) BG AS TX RW RR FD (nI t) m2 m3 m4 m5 m6 m7 m8 m9 m10 m11 m12 m13 m14 m15 m16 m17 m18 m19) H := hP
            have hD : va_D AY (gMo cA B (fN r.2) (upd W3 (52 * t + i) (nI (S i))) BG AS TX RW RR FD (nI t) m2 m3 m4 m5 m6 m7 m8 m9 m10 m11 m12 m13 m14 m15 m16 m17 m18 m19) := hD
            refine lv_iinc (v := nI (i + 1)) (lv' := [(2, .int (nI (i + 1))), (0, .ref (B 0)), (1, .int r.1)]) hx hb dX11_acted_82 hl (k := 2) rfl (show nI i + Int32.ofInt 1 = nI (i + 1) from nI_add i 1) (by decide) rfl (fun ls hl => ?_)
            refine lv_goto (tgt := 56) hx hb dX11_acted_85 (by decide) ?_
            exact ih56 (i + 1) (upd W3 (52 * t + i) (nI (S i))) (by omega) (fun j => by rcases Nat.lt_trichotomy j (52 * t + i) with q | q | q; (rw [pk_un (by omega), h3 j]; by_cases z : 52 * t ≤ j; (rw [if_pos (by omega), if_pos (by omega)]); rw [if_neg (by omega), if_neg (by omega)]); (rw [q, pk_us, if_pos (by omega), show 52 * t + i - 52 * t = i by omega]); rw [pk_un (by omega), h3 j, if_neg (by omega), if_neg (by omega)]) (by omega) _ _ _ hP hD hS (lv_sub hl [1, 2, 0] rfl)
      exact L56 _ 0 W2 (by omega) (fun j => (if_neg (by omega)).symm) (Nat.lt_succ_self _) _ _ _ hP hD hS (lv_sub hl [1, 2, 0] rfl)
    refine lv_aload_n hx hb dX11_acted_6 rfl (lv_at hl 0 rfl) ?_
    refine va_get (D := D) (ci := 10) (v := .int (nI n)) (C := RX11) (T := TX11) (N := 27) hx hb hts hi_X11_acted_X11 hown hK hP 0 rfl rfl 4 (by decide) (hts (.fieldLink RX11 79 "FallingWordsModel" "states" "I") (by decide +kernel)) (fun _ h9 => h9) rfl dX11_acted_7 ?_
    refine lv_iconst (v := nI 4) hx hb dX11_acted_10 (by decide +kernel) ?_
    refine xc_ne (tgt := 54) hx hb dX11_acted_11 (by decide) (by omega) (by omega) (fun c11 => ?_) (fun c11 => ?_)
    · exact L54 n WA (by omega) (rWas_n c11 hwas) _ _ _ hP hD hS hl
    · have h44 : n = 4 := c11
      refine lv_iconst (v := nI 0) hx hb dX11_acted_14 (by decide +kernel) ?_
      refine lv_istore_n (lv' := [(2, .int (nI 0)), (0, .ref (B 0)), (1, .int r.1)]) hx hb dX11_acted_15 rfl hl (by decide) rfl (fun ls hl => ?_)
      have L16 : ∀ (nY : Nat), ∀ (i : Nat) (W1 : Nat → Int32), (i ≤ 156) → (∀ j, W1 j = if j < i then WA (j + 52) else WA j) → (156 - i < nY) → ∀ (H : Heap) (locs : List Loc) (ls : Array Slot), va_P D vwCl (gMo cA B (fN r.2) W1 BG AS TX RW RR FD (nI n) m2 m3 m4 m5 m6 m7 m8 m9 m10 m11 m12 m13 m14 m15 m16 m17 m18 m19) H → va_D AY (gMo cA B (fN r.2) W1 BG AS TX RW RR FD (nI n) m2 m3 m4 m5 m6 m7 m8 m9 m10 m11 m12 m13 m14 m15 m16 m17 m18 m19) → va_S AY sY.heap H locs → lv_has ls 3 [(0, .ref (B 0)), (1, .int r.1), (2, .int (nI i))] → W pY lY eY { frames := 0, cells := 0, slots := 0, locals := 0 } sY mY aY bY tY cY H locs 0 0 QY (F0 mY 16 ls []) := by
        intro nY16
        induction nY16 with
        | zero => intro i W1 hi hs hm16; exact absurd hm16 (Nat.not_lt_zero _)
        | succ nY16 ih16 =>
          intro i W1 hi hs hm16 H locs ls hP hD hS hl
          refine lv_iload_n hx hb dX11_acted_16 rfl (lv_at hl 2 rfl) ?_
          refine lv_sipush (v := nI 156) hx hb dX11_acted_17 (by decide +kernel) ?_
          refine xc_ge (tgt := 44) hx hb dX11_acted_20 (by decide) (by omega) (by omega) (fun c20 => ?_) (fun c20 => ?_)
          · refine lv_aload_n hx hb dX11_acted_44 rfl (lv_at hl 0 rfl) ?_
            refine lv_dup hx hb dX11_acted_45 rfl ?_
            refine va_get (D := D) (ci := 10) (v := .int (nI n)) (C := RX11) (T := TX11) (N := 27) hx hb hts hi_X11_acted_X11 hown hK hP 0 rfl rfl 4 (by decide) (hts (.fieldLink RX11 79 "FallingWordsModel" "states" "I") (by decide +kernel)) (fun _ h9 => h9) rfl dX11_acted_46 ?_
            refine lv_iconst (v := nI 1) hx hb dX11_acted_49 (by decide +kernel) ?_
            refine lv_isub hx hb dX11_acted_50 ?_
            refine xt (show (nI n) - (nI 1) = nI (n - 1) from pk_sub (by omega)) ?_
            refine va_put (D := D) (ci := 10) (v := .int (nI (n - 1))) (ty := .int) (C := RX11) (T := TX11) (N := 27) hx hb hts hi_X11_acted_X11 tyX11 tyX11_ok nmX11 hown hK hP hD hS 0 rfl rfl 4 (by decide) (hts (.fieldLink RX11 79 "FallingWordsModel" "states" "I") (by decide +kernel)) (fun _ h9 => h9) rfl (by decide +kernel) rfl rfl (Nat.le_of_ble_eq_true rfl) dX11_acted_51 (fun H locs hP hD hS => ?_)
            have hP : va_P D vwCl (gMo cA B (fN r.2) W1 BG AS TX RW RR FD (nI (n - 1)) m2 m3 m4 m5 m6 m7 m8 m9 m10 m11 m12 m13 m14 m15 m16 m17 m18 m19) H := hP
            have hD : va_D AY (gMo cA B (fN r.2) W1 BG AS TX RW RR FD (nI (n - 1)) m2 m3 m4 m5 m6 m7 m8 m9 m10 m11 m12 m13 m14 m15 m16 m17 m18 m19) := hD
            exact L54 (n - 1) W1 (by omega) (by rw [h44] at hwas; rw [h44]; exact rWas_4 hwas (fun j => by rw [hs j, show i = 156 by omega])) _ _ _ hP hD hS (lv_sub hl [0, 1] rfl)
          · refine lv_aload_n hx hb dX11_acted_23 rfl (lv_at hl 0 rfl) ?_
            refine va_get (D := D) (ci := 10) (v := .ref (B 2)) (C := RX11) (T := TX11) (N := 27) hx hb hts hi_X11_acted_X11 hown hK hP 0 rfl rfl 1 (by decide) (hts (.fieldLink RX11 13 "FallingWordsModel" "was" "[I") (by decide +kernel)) (fun _ h9 => h9) rfl dX11_acted_24 ?_
            refine lv_iload_n hx hb dX11_acted_27 rfl (lv_at hl 2 rfl) ?_
            refine lv_aload_n hx hb dX11_acted_28 rfl (lv_at hl 0 rfl) ?_
            refine va_get (D := D) (ci := 10) (v := .ref (B 2)) (C := RX11) (T := TX11) (N := 27) hx hb hts hi_X11_acted_X11 hown hK hP 0 rfl rfl 1 (by decide) (hts (.fieldLink RX11 13 "FallingWordsModel" "was" "[I") (by decide +kernel)) (fun _ h9 => h9) rfl dX11_acted_29 ?_
            refine lv_iload_n hx hb dX11_acted_32 rfl (lv_at hl 2 rfl) ?_
            refine lv_bipush (v := nI 52) hx hb dX11_acted_33 (by decide +kernel) ?_
            refine lv_iadd hx hb dX11_acted_35 ?_
            refine xt (show (nI i) + (nI 52) = nI (i + 52) from nI_add _ _) ?_
            refine xa_ld (v := W1 (i + 52)) hx hb hK hP 2 rfl (by omega) (by decide) (rfl) dX11_acted_36 ?_
            refine xa_st hx hb hK hP hD hS 2 rfl (by omega) (by decide) dX11_acted_37 (fun H locs hP hD hS => ?_)
            have hP : va_P D vwCl (gMo cA B (fN r.2) (upd W1 i (W1 (i + 52))) BG AS TX RW RR FD (nI n) m2 m3 m4 m5 m6 m7 m8 m9 m10 m11 m12 m13 m14 m15 m16 m17 m18 m19) H := hP
            have hD : va_D AY (gMo cA B (fN r.2) (upd W1 i (W1 (i + 52))) BG AS TX RW RR FD (nI n) m2 m3 m4 m5 m6 m7 m8 m9 m10 m11 m12 m13 m14 m15 m16 m17 m18 m19) := hD
            refine lv_iinc (v := nI (i + 1)) (lv' := [(2, .int (nI (i + 1))), (0, .ref (B 0)), (1, .int r.1)]) hx hb dX11_acted_38 hl (k := 2) rfl (show nI i + Int32.ofInt 1 = nI (i + 1) from nI_add i 1) (by decide) rfl (fun ls hl => ?_)
            refine lv_goto (tgt := 16) hx hb dX11_acted_41 (by decide) ?_
            exact ih16 (i + 1) (upd W1 i (W1 (i + 52))) (by omega) (fun j => by rcases Nat.lt_trichotomy j i with q | q | q; (rw [pk_un (by omega), hs j, if_pos q, if_pos (by omega)]); (rw [q, pk_us, hs (i + 52), if_neg (by omega), if_pos (by omega)]); rw [pk_un (by omega), hs j, if_neg (by omega), if_neg (by omega)]) (by omega) _ _ _ hP hD hS (lv_sub hl [1, 2, 0] rfl)
      exact L16 _ 0 WA (by omega) (fun j => (if_neg (by omega)).symm) (Nat.lt_succ_self _) _ _ _ hP hD hS (lv_sub hl [1, 2, 0] rfl)

theorem hi_X11_drops_X11 : ∀ w ∈ u_ws RX11 TX11 27, w ∈ wsX11_drops := by decide +kernel
set_option maxHeartbeats 1000000 in
set_option maxRecDepth 100000 in
theorem k_X11_drops (lY : Launch) (D : va_G) (cA : Nat → ClassId) (B : Nat → Nat) (S : St) (WA BG AS TX RW RR FD : Nat → Int32) (m1 m2 m3 m4 m5 m6 m7 m8 m9 m10 m11 m12 m13 m14 m15 m16 m17 m18 m19 : Int32) (x : Int32) (h10 : S 1 ≤ 10) : MetI lY D cA yX11_drops wsX11_drops 2 43 [.ref (B 0), .int x] (gMo cA B (fN S) WA BG AS TX RW RR FD m1 m2 m3 m4 m5 m6 m7 m8 m9 m10 m11 m12 m13 m14 m15 m16 m17 m18 m19) (fun rY wY => rY = (dropR S x).1 ∧ wY = gMo cA B (fN ((dropR S x).2)) WA BG AS TX RW RR FD m1 m2 m3 m4 m5 m6 m7 m8 m9 m10 m11 m12 m13 m14 m15 m16 m17 m18 m19) := by
  refine MetI.of (cc := cX11_drops) (maxL := 3) (ret := (some .int)) (by decide) rfl (Nat.le_of_ble_eq_true rfl) (Or.inl rfl) ?_
  intro pY eY sY mY aY bY tY cY QY AY ls h0 hP hK hN hD hA hS hl hret
  obtain ⟨hx, hb, hml, hown, hts⟩ := id h0
  have hl : lv_has ls 3 [(0, .ref (B 0)), (1, .int x)] := hl
  have hP : va_P D vwCl (gMo cA B (fN S) WA BG AS TX RW RR FD m1 m2 m3 m4 m5 m6 m7 m8 m9 m10 m11 m12 m13 m14 m15 m16 m17 m18 m19) sY.heap := hP
  have hD : va_D AY (gMo cA B (fN S) WA BG AS TX RW RR FD m1 m2 m3 m4 m5 m6 m7 m8 m9 m10 m11 m12 m13 m14 m15 m16 m17 m18 m19) := hD
  refine lv_aload_n hx hb dX11_drops_0 rfl (lv_at hl 0 rfl) ?_
  refine lv_iload_n hx hb dX11_drops_1 rfl (lv_at hl 1 rfl) ?_
  refine ci_V (As := [.int x]) (rest := []) h0 hK hN hP hD hS hA hl.1 (k_X11_isRule lY D cA B S WA BG AS TX RW RR FD m1 m2 m3 m4 m5 m6 m7 m8 m9 m10 m11 m12 m13 m14 m15 m16 m17 m18 m19 x (by first | assumption | omega)) [0, 1, 2, 3, 4, 5, 6, 7, 8] rfl (by decide) (cwV 1 hts gX11_drops_X11_isRule rfl rfl rfl (by decide +kernel) ⟨Nat.le_of_ble_eq_true rfl, Nat.le_of_ble_eq_true rfl⟩) (cl_recv (ci := 10) (q := (RX11, TX11, 27)) (q0 := 0) hP hK rfl rfl) rfl rfl (Nat.le_of_ble_eq_true rfl) dX11_drops_2 ⟨Nat.zero_le _, Nat.zero_le _⟩ (fun rY wY H locs hwY hJ hS => ?_)
  obtain ⟨e1Y, e2Y⟩ := hwY
  have e3Y := e1Y.symm
  clear e1Y
  subst e3Y
  have e3Y := e2Y.symm
  clear e2Y
  subst e3Y
  obtain ⟨hP, hD⟩ := hJ rfl
  have hP : va_P D vwCl (gMo cA B (fN S) WA BG AS TX RW RR FD m1 m2 m3 m4 m5 m6 m7 m8 m9 m10 m11 m12 m13 m14 m15 m16 m17 m18 m19) H := hP
  have hD : va_D AY (gMo cA B (fN S) WA BG AS TX RW RR FD m1 m2 m3 m4 m5 m6 m7 m8 m9 m10 m11 m12 m13 m14 m15 m16 m17 m18 m19) := hD
  refine xb_ne (tgt := 11) hx hb dX11_drops_5 (by decide) (fun c5 => ?_) (fun c5 => ?_)
  · obtain ⟨g, hg, rfl⟩ := inR_of c5
    have hR : dropR S (nI g) = (nI (S 1 - 1), dropS S g) := by unfold dropR; rw [if_pos c5, nI_toInt (by omega), Int.toNat_natCast]
    refine lv_aload_n hx hb dX11_drops_11 rfl (lv_at hl 0 rfl) ?_
    refine va_get (D := D) (ci := 10) (v := .ref (B 1)) (C := RX11) (T := TX11) (N := 27) hx hb hts hi_X11_drops_X11 hown hK hP 0 rfl rfl 0 (by decide) (hts (.fieldLink RX11 7 "FallingWordsModel" "s" "[I") (by decide +kernel)) (fun _ h9 => h9) rfl dX11_drops_12 ?_
    refine lv_iconst (v := nI 1) hx hb dX11_drops_15 (by decide +kernel) ?_
    refine lv_dup2_11 hx hb dX11_drops_16 rfl rfl ?_
    refine xa_ld (v := nI (S 1)) hx hb hK hP 1 rfl (by omega) (by decide) (rfl) dX11_drops_17 ?_
    refine lv_iconst (v := nI 1) hx hb dX11_drops_18 (by decide +kernel) ?_
    refine lv_isub hx hb dX11_drops_19 ?_
    refine xt (show (nI (S 1)) - (nI 1) = nI ((S 1) - 1) from pk_sub (by omega)) ?_
    refine xa_st hx hb hK hP hD hS 1 rfl (by omega) (by decide) dX11_drops_20 (fun H locs hP hD hS => ?_)
    have hP : va_P D vwCl (gMo cA B (upd (fN S) 1 (nI ((S 1) - 1))) WA BG AS TX RW RR FD m1 m2 m3 m4 m5 m6 m7 m8 m9 m10 m11 m12 m13 m14 m15 m16 m17 m18 m19) H := hP
    have hD : va_D AY (gMo cA B (upd (fN S) 1 (nI ((S 1) - 1))) WA BG AS TX RW RR FD m1 m2 m3 m4 m5 m6 m7 m8 m9 m10 m11 m12 m13 m14 m15 m16 m17 m18 m19) := hD
    rw [show upd (fN S) 1 (nI ((S 1) - 1)) = fN (upN S 1 ((S 1) - 1)) from fN_up] at hP hD
    refine lv_iconst (v := nI 3) hx hb dX11_drops_21 (by decide +kernel) ?_
    refine lv_iload_n hx hb dX11_drops_22 rfl (lv_at hl 1 rfl) ?_
    refine lv_imul hx hb dX11_drops_23 ?_
    refine xt (show (nI 3) * (nI g) = nI (3 * g) from pk_mul _ _) ?_
    refine lv_istore_n (lv' := [(2, .int (nI (3 * g))), (0, .ref (B 0)), (1, .int (nI g))]) hx hb dX11_drops_24 rfl hl (by decide) rfl (fun ls hl => ?_)
    have L25 : ∀ (nY : Nat), ∀ (k : Nat) (T : St), (3 * g ≤ k) → (k ≤ 3 * (S 1 - 1) ∨ k = 3 * g) → (∀ j, T j = if j = 1 then S 1 - 1 else if 6 + 3 * g ≤ j ∧ j < 6 + k then S (j + 3) else S j) → (3 * (S 1 - 1) - k < nY) → ∀ (H : Heap) (locs : List Loc) (ls : Array Slot), va_P D vwCl (gMo cA B (fN T) WA BG AS TX RW RR FD m1 m2 m3 m4 m5 m6 m7 m8 m9 m10 m11 m12 m13 m14 m15 m16 m17 m18 m19) H → va_D AY (gMo cA B (fN T) WA BG AS TX RW RR FD m1 m2 m3 m4 m5 m6 m7 m8 m9 m10 m11 m12 m13 m14 m15 m16 m17 m18 m19) → va_S AY sY.heap H locs → lv_has ls 3 [(0, .ref (B 0)), (1, .int (nI g)), (2, .int (nI k))] → W pY lY eY { frames := 2, cells := 0, slots := 0, locals := 43 } sY mY aY bY tY cY H locs 0 0 QY (F0 mY 25 ls []) := by
      intro nY25
      induction nY25 with
      | zero => intro k T hk hk2 hT hm25; exact absurd hm25 (Nat.not_lt_zero _)
      | succ nY25 ih25 =>
        intro k T hk hk2 hT hm25 H locs ls hP hD hS hl
        refine lv_iload_n hx hb dX11_drops_25 rfl (lv_at hl 2 rfl) ?_
        refine lv_iconst (v := nI 3) hx hb dX11_drops_26 (by decide +kernel) ?_
        refine lv_aload_n hx hb dX11_drops_27 rfl (lv_at hl 0 rfl) ?_
        refine va_get (D := D) (ci := 10) (v := .ref (B 1)) (C := RX11) (T := TX11) (N := 27) hx hb hts hi_X11_drops_X11 hown hK hP 0 rfl rfl 0 (by decide) (hts (.fieldLink RX11 7 "FallingWordsModel" "s" "[I") (by decide +kernel)) (fun _ h9 => h9) rfl dX11_drops_28 ?_
        refine lv_iconst (v := nI 1) hx hb dX11_drops_31 (by decide +kernel) ?_
        refine xa_ld (v := nI (S 1 - 1)) hx hb hK hP 1 rfl (by omega) (by decide) (congrArg nI ((hT 1).trans (if_pos rfl))) dX11_drops_32 ?_
        refine lv_imul hx hb dX11_drops_33 ?_
        refine xt (show (nI 3) * (nI (S 1 - 1)) = nI (3 * (S 1 - 1)) from pk_mul _ _) ?_
        refine xc_ge (tgt := 63) hx hb dX11_drops_34 (by decide) (by omega) (by omega) (fun c34 => ?_) (fun c34 => ?_)
        · refine lv_aload_n hx hb dX11_drops_63 rfl (lv_at hl 0 rfl) ?_
          refine va_get (D := D) (ci := 10) (v := .ref (B 1)) (C := RX11) (T := TX11) (N := 27) hx hb hts hi_X11_drops_X11 hown hK hP 0 rfl rfl 0 (by decide) (hts (.fieldLink RX11 7 "FallingWordsModel" "s" "[I") (by decide +kernel)) (fun _ h9 => h9) rfl dX11_drops_64 ?_
          refine lv_iconst (v := nI 3) hx hb dX11_drops_67 (by decide +kernel) ?_
          refine lv_iconst (v := nI 0) hx hb dX11_drops_68 (by decide +kernel) ?_
          refine xa_st hx hb hK hP hD hS 1 rfl (by omega) (by decide) dX11_drops_69 (fun H locs hP hD hS => ?_)
          have hP : va_P D vwCl (gMo cA B (upd (fN T) 3 (nI 0)) WA BG AS TX RW RR FD m1 m2 m3 m4 m5 m6 m7 m8 m9 m10 m11 m12 m13 m14 m15 m16 m17 m18 m19) H := hP
          have hD : va_D AY (gMo cA B (upd (fN T) 3 (nI 0)) WA BG AS TX RW RR FD m1 m2 m3 m4 m5 m6 m7 m8 m9 m10 m11 m12 m13 m14 m15 m16 m17 m18 m19) := hD
          rw [show upd (fN T) 3 (nI 0) = fN (upN T 3 0) from fN_up] at hP hD
          refine lv_aload_n hx hb dX11_drops_70 rfl (lv_at hl 0 rfl) ?_
          refine va_get (D := D) (ci := 10) (v := .ref (B 1)) (C := RX11) (T := TX11) (N := 27) hx hb hts hi_X11_drops_X11 hown hK hP 0 rfl rfl 0 (by decide) (hts (.fieldLink RX11 7 "FallingWordsModel" "s" "[I") (by decide +kernel)) (fun _ h9 => h9) rfl dX11_drops_71 ?_
          refine lv_iconst (v := nI 1) hx hb dX11_drops_74 (by decide +kernel) ?_
          refine xa_ld (v := nI ((upN T 3 0) 1)) hx hb hK hP 1 rfl (by omega) (by decide) (rfl) dX11_drops_75 ?_
          exact hret _ _ _ _ _ _ dX11_drops_76 ⟨(by rw [hR]; exact congrArg nI ((upN_n (by decide)).trans ((hT 1).trans (if_pos rfl)))), (by rw [hR, dropS_eq (by omega) hk2 hg hT])⟩ hP hD hS
        · refine lv_aload_n hx hb dX11_drops_37 rfl (lv_at hl 0 rfl) ?_
          refine va_get (D := D) (ci := 10) (v := .ref (B 1)) (C := RX11) (T := TX11) (N := 27) hx hb hts hi_X11_drops_X11 hown hK hP 0 rfl rfl 0 (by decide) (hts (.fieldLink RX11 7 "FallingWordsModel" "s" "[I") (by decide +kernel)) (fun _ h9 => h9) rfl dX11_drops_38 ?_
          refine lv_bipush (v := nI 6) hx hb dX11_drops_41 (by decide +kernel) ?_
          refine lv_iload_n hx hb dX11_drops_43 rfl (lv_at hl 2 rfl) ?_
          refine lv_iadd hx hb dX11_drops_44 ?_
          refine xt (show (nI 6) + (nI k) = nI (6 + k) from nI_add _ _) ?_
          refine lv_aload_n hx hb dX11_drops_45 rfl (lv_at hl 0 rfl) ?_
          refine va_get (D := D) (ci := 10) (v := .ref (B 1)) (C := RX11) (T := TX11) (N := 27) hx hb hts hi_X11_drops_X11 hown hK hP 0 rfl rfl 0 (by decide) (hts (.fieldLink RX11 7 "FallingWordsModel" "s" "[I") (by decide +kernel)) (fun _ h9 => h9) rfl dX11_drops_46 ?_
          refine lv_bipush (v := nI 6) hx hb dX11_drops_49 (by decide +kernel) ?_
          refine lv_iload_n hx hb dX11_drops_51 rfl (lv_at hl 2 rfl) ?_
          refine lv_iadd hx hb dX11_drops_52 ?_
          refine xt (show (nI 6) + (nI k) = nI (6 + k) from nI_add _ _) ?_
          refine lv_iconst (v := nI 3) hx hb dX11_drops_53 (by decide +kernel) ?_
          refine lv_iadd hx hb dX11_drops_54 ?_
          refine xt (show (nI (6 + k)) + (nI 3) = nI (6 + k + 3) from nI_add _ _) ?_
          refine xa_ld (v := nI (S (k + 9))) hx hb hK hP 1 rfl (by omega) (by decide) (congrArg nI ((hT (6 + k + 3)).trans (by rw [if_neg (by omega), if_neg (by omega), show 6 + k + 3 = k + 9 by omega]))) dX11_drops_55 ?_
          refine xa_st hx hb hK hP hD hS 1 rfl (by omega) (by decide) dX11_drops_56 (fun H locs hP hD hS => ?_)
          have hP : va_P D vwCl (gMo cA B (upd (fN T) (6 + k) (nI (S (k + 9)))) WA BG AS TX RW RR FD m1 m2 m3 m4 m5 m6 m7 m8 m9 m10 m11 m12 m13 m14 m15 m16 m17 m18 m19) H := hP
          have hD : va_D AY (gMo cA B (upd (fN T) (6 + k) (nI (S (k + 9)))) WA BG AS TX RW RR FD m1 m2 m3 m4 m5 m6 m7 m8 m9 m10 m11 m12 m13 m14 m15 m16 m17 m18 m19) := hD
          rw [show upd (fN T) (6 + k) (nI (S (k + 9))) = fN (upN T (6 + k) (S (k + 9))) from fN_up] at hP hD
          refine lv_iinc (v := nI (k + 1)) (lv' := [(2, .int (nI (k + 1))), (0, .ref (B 0)), (1, .int (nI g))]) hx hb dX11_drops_57 hl (k := 2) rfl (show nI k + Int32.ofInt 1 = nI (k + 1) from nI_add k 1) (by decide) rfl (fun ls hl => ?_)
          refine lv_goto (tgt := 25) hx hb dX11_drops_60 (by decide) ?_
          exact ih25 (k + 1) (upN T (6 + k) (S (k + 9))) (by omega) (by omega) (fun j => by rcases Nat.lt_trichotomy j (6 + k) with q | q | q; (rw [upN_n (by omega), hT j]; by_cases e : j = 1; (rw [if_pos e, if_pos e]); rw [if_neg e, if_neg e]; by_cases z : 6 + 3 * g ≤ j; (rw [if_pos (by omega), if_pos (by omega)]); rw [if_neg (by omega), if_neg (by omega)]); (rw [q, upN_s, if_neg (by omega), if_pos (by omega), show 6 + k + 3 = k + 9 by omega]); rw [upN_n (by omega), hT j]; by_cases e : j = 1; (rw [if_pos e, if_pos e]); rw [if_neg e, if_neg e, if_neg (by omega), if_neg (by omega)]) (by omega) _ _ _ hP hD hS (lv_sub hl [1, 2, 0] rfl)
    exact L25 _ (3 * g) (upN S 1 (S 1 - 1)) (by omega) (by omega) (fun j => by by_cases e : j = 1; (rw [e, upN_s, if_pos rfl]); rw [upN_n e, if_neg e, if_neg (by omega)]) (Nat.lt_succ_self _) _ _ _ hP hD hS (lv_sub hl [1, 2, 0] rfl)
  · refine lv_ldc (v := (-1000001)) hx hb hown (hts (.constant RX11 78 (-1000001)) (by decide +kernel)) dX11_drops_8 ?_
    have hR : dropR S x = ((-1000001), S) := if_neg (by rw [c5]; decide)
    exact hret _ _ _ _ _ _ dX11_drops_10 ⟨(by rw [hR]), (by rw [hR])⟩ hP hD hS

set_option maxHeartbeats 1000000 in
set_option maxRecDepth 100000 in
theorem k_X11_drop (lY : Launch) (D : va_G) (cA : Nat → ClassId) (B : Nat → Nat) (S : St) (WA BG AS TX RW RR FD : Nat → Int32) (m2 m3 m4 m5 m6 m7 m8 m9 m10 m11 m12 m13 m14 m15 m16 m17 m18 m19 : Int32) (h : Nat → St) (n : Nat) (x : Int32) (hn4 : n ≤ 4) (hwas : rWas h n WA) (h10 : S 1 ≤ 10) : MetI lY D cA yX11_drop wsX11_drop 3 65 [.ref (B 0), .int x] (gMo cA B (fN S) WA BG AS TX RW RR FD (nI n) m2 m3 m4 m5 m6 m7 m8 m9 m10 m11 m12 m13 m14 m15 m16 m17 m18 m19) (fun rY wY => ∃ (WA' : Nat → Int32) (BG' : Nat → Int32), rY = (actZ S h n (dropR S x)).1 ∧ wY = gMo cA B (fN ((actZ S h n (dropR S x)).2.1)) WA' BG' AS TX RW RR FD (nI ((actZ S h n (dropR S x)).2.2.2)) m2 m3 m4 m5 m6 m7 m8 m9 m10 m11 m12 m13 m14 m15 m16 m17 m18 m19 ∧ (rWas (actZ S h n (dropR S x)).2.2.1 (actZ S h n (dropR S x)).2.2.2 WA')) := by
  refine MetI.of (cc := cX11_drop) (maxL := 2) (ret := (some .int)) (by decide) rfl (Nat.le_of_ble_eq_true rfl) (Or.inl rfl) ?_
  intro pY eY sY mY aY bY tY cY QY AY ls h0 hP hK hN hD hA hS hl hret
  obtain ⟨hx, hb, hml, hown, hts⟩ := id h0
  have hl : lv_has ls 2 [(0, .ref (B 0)), (1, .int x)] := hl
  have hP : va_P D vwCl (gMo cA B (fN S) WA BG AS TX RW RR FD (nI n) m2 m3 m4 m5 m6 m7 m8 m9 m10 m11 m12 m13 m14 m15 m16 m17 m18 m19) sY.heap := hP
  have hD : va_D AY (gMo cA B (fN S) WA BG AS TX RW RR FD (nI n) m2 m3 m4 m5 m6 m7 m8 m9 m10 m11 m12 m13 m14 m15 m16 m17 m18 m19) := hD
  refine lv_aload_n hx hb dX11_drop_0 rfl (lv_at hl 0 rfl) ?_
  refine cv_V (As := []) (rest := []) h0 hK hN hP hD hS hA hl.1 (k_X11_keeps lY D cA B S WA BG AS TX RW RR FD (nI n) m2 m3 m4 m5 m6 m7 m8 m9 m10 m11 m12 m13 m14 m15 m16 m17 m18 m19 ) [0, 1, 2, 3, 4, 5, 6, 7, 8] rfl (by decide) (cwV 0 hts gX11_drop_X11_keeps rfl rfl rfl (by decide +kernel) ⟨Nat.le_of_ble_eq_true rfl, Nat.le_of_ble_eq_true rfl⟩) (cl_recv (ci := 10) (q := (RX11, TX11, 27)) (q0 := 0) hP hK rfl rfl) rfl rfl (Nat.le_of_ble_eq_true rfl) dX11_drop_1 ⟨Nat.zero_le _, Nat.zero_le _⟩ (fun wY H locs hwY hJ hS => ?_)
  obtain ⟨BG'_1, e2Y, fb_1⟩ := hwY
  have e3Y := e2Y.symm
  clear e2Y
  subst e3Y
  obtain ⟨hP, hD⟩ := hJ rfl
  have hP : va_P D vwCl (gMo cA B (fN S) WA BG'_1 AS TX RW RR FD (nI n) m2 m3 m4 m5 m6 m7 m8 m9 m10 m11 m12 m13 m14 m15 m16 m17 m18 m19) H := hP
  have hD : va_D AY (gMo cA B (fN S) WA BG'_1 AS TX RW RR FD (nI n) m2 m3 m4 m5 m6 m7 m8 m9 m10 m11 m12 m13 m14 m15 m16 m17 m18 m19) := hD
  refine lv_aload_n hx hb dX11_drop_4 rfl (lv_at hl 0 rfl) ?_
  refine lv_aload_n hx hb dX11_drop_5 rfl (lv_at hl 0 rfl) ?_
  refine lv_iload_n hx hb dX11_drop_6 rfl (lv_at hl 1 rfl) ?_
  refine ci_V (As := [.int x]) (rest := [.ref (B 0)]) h0 hK hN hP hD hS hA hl.1 (k_X11_drops lY D cA B S WA BG'_1 AS TX RW RR FD (nI n) m2 m3 m4 m5 m6 m7 m8 m9 m10 m11 m12 m13 m14 m15 m16 m17 m18 m19 x (h10)) [0, 1, 2, 3, 4, 5, 6, 7, 8] rfl (by decide) (cwV 1 hts gX11_drop_X11_drops rfl rfl rfl (by decide +kernel) ⟨Nat.le_of_ble_eq_true rfl, Nat.le_of_ble_eq_true rfl⟩) (cl_recv (ci := 10) (q := (RX11, TX11, 27)) (q0 := 0) hP hK rfl rfl) rfl rfl (Nat.le_of_ble_eq_true rfl) dX11_drop_7 ⟨Nat.zero_le _, Nat.zero_le _⟩ (fun rY wY H locs hwY hJ hS => ?_)
  obtain ⟨e1Y, e2Y⟩ := hwY
  have e3Y := e1Y.symm
  clear e1Y
  subst e3Y
  have e3Y := e2Y.symm
  clear e2Y
  subst e3Y
  obtain ⟨hP, hD⟩ := hJ rfl
  have hP : va_P D vwCl (gMo cA B (fN ((dropR S x).2)) WA BG'_1 AS TX RW RR FD (nI n) m2 m3 m4 m5 m6 m7 m8 m9 m10 m11 m12 m13 m14 m15 m16 m17 m18 m19) H := hP
  have hD : va_D AY (gMo cA B (fN ((dropR S x).2)) WA BG'_1 AS TX RW RR FD (nI n) m2 m3 m4 m5 m6 m7 m8 m9 m10 m11 m12 m13 m14 m15 m16 m17 m18 m19) := hD
  refine ci_V (As := [.int ((dropR S x).1)]) (rest := []) h0 hK hN hP hD hS hA hl.1 (k_X11_acted lY D cA B S WA BG'_1 AS TX RW RR FD m2 m3 m4 m5 m6 m7 m8 m9 m10 m11 m12 m13 m14 m15 m16 m17 m18 m19 (dropR S x) h n (hn4) (hwas) (fb_1) (fun q => dropR_k q h10)) [0, 1, 2, 3, 4, 5, 6, 7, 8] rfl (by decide) (cwV 1 hts gX11_drop_X11_acted rfl rfl rfl (by decide +kernel) ⟨Nat.le_of_ble_eq_true rfl, Nat.le_of_ble_eq_true rfl⟩) (cl_recv (ci := 10) (q := (RX11, TX11, 27)) (q0 := 0) hP hK rfl rfl) rfl rfl (Nat.le_of_ble_eq_true rfl) dX11_drop_10 ⟨Nat.zero_le _, Nat.zero_le _⟩ (fun rY wY H locs hwY hJ hS => ?_)
  obtain ⟨WA'_10, e1Y, e2Y, fw_10⟩ := hwY
  have e3Y := e1Y.symm
  clear e1Y
  subst e3Y
  have e3Y := e2Y.symm
  clear e2Y
  subst e3Y
  obtain ⟨hP, hD⟩ := hJ rfl
  have hP : va_P D vwCl (gMo cA B (fN ((actZ S h n (dropR S x)).2.1)) WA'_10 BG'_1 AS TX RW RR FD (nI ((actZ S h n (dropR S x)).2.2.2)) m2 m3 m4 m5 m6 m7 m8 m9 m10 m11 m12 m13 m14 m15 m16 m17 m18 m19) H := hP
  have hD : va_D AY (gMo cA B (fN ((actZ S h n (dropR S x)).2.1)) WA'_10 BG'_1 AS TX RW RR FD (nI ((actZ S h n (dropR S x)).2.2.2)) m2 m3 m4 m5 m6 m7 m8 m9 m10 m11 m12 m13 m14 m15 m16 m17 m18 m19) := hD
  exact hret _ _ _ _ _ _ dX11_drop_13 ⟨WA'_10, BG'_1, rfl, rfl, (by first | assumption | omega)⟩ hP hD hS

theorem hi_X11_goes_X11 : ∀ w ∈ u_ws RX11 TX11 27, w ∈ wsX11_goes := by decide +kernel
set_option maxHeartbeats 1000000 in
set_option maxRecDepth 100000 in
theorem k_X11_goes (lY : Launch) (D : va_G) (cA : Nat → ClassId) (B : Nat → Nat) (S : St) (WA BG AS TX RW RR FD : Nat → Int32) (m1 m2 m3 m4 m5 m6 m7 m8 m9 m10 m11 m12 m13 m14 m15 m16 m17 m18 m19 : Int32) (x : Int32)  : MetI lY D cA yX11_goes wsX11_goes 1 22 [.ref (B 0), .int x] (gMo cA B (fN S) WA BG AS TX RW RR FD m1 m2 m3 m4 m5 m6 m7 m8 m9 m10 m11 m12 m13 m14 m15 m16 m17 m18 m19) (fun rY wY => rY = (wayR S x).1 ∧ wY = gMo cA B (fN ((wayR S x).2)) WA BG AS TX RW RR FD m1 m2 m3 m4 m5 m6 m7 m8 m9 m10 m11 m12 m13 m14 m15 m16 m17 m18 m19) := by
  refine MetI.of (cc := cX11_goes) (maxL := 3) (ret := (some .int)) (by decide) rfl (Nat.le_of_ble_eq_true rfl) (Or.inl rfl) ?_
  intro pY eY sY mY aY bY tY cY QY AY ls h0 hP hK hN hD hA hS hl hret
  obtain ⟨hx, hb, hml, hown, hts⟩ := id h0
  have hl : lv_has ls 3 [(0, .ref (B 0)), (1, .int x)] := hl
  have hP : va_P D vwCl (gMo cA B (fN S) WA BG AS TX RW RR FD m1 m2 m3 m4 m5 m6 m7 m8 m9 m10 m11 m12 m13 m14 m15 m16 m17 m18 m19) sY.heap := hP
  have hD : va_D AY (gMo cA B (fN S) WA BG AS TX RW RR FD m1 m2 m3 m4 m5 m6 m7 m8 m9 m10 m11 m12 m13 m14 m15 m16 m17 m18 m19) := hD
  have e0 : (nI 0).toInt = 0 := rfl
  have e2 : (nI 2).toInt = 2 := rfl
  refine lv_iload_n hx hb dX11_goes_0 rfl (lv_at hl 1 rfl) ?_
  refine lv_iconst (v := nI 0) hx hb dX11_goes_1 (by decide +kernel) ?_
  refine lv_iconst (v := nI 2) hx hb dX11_goes_2 (by decide +kernel) ?_
  refine ci_S (As := [.int x, .int (nI 0), .int (nI 2)]) (rest := []) h0 hK hN hP hD hS hA hl.1 (k_X11_in lY D cA x (nI 0) (nI 2) ) [] rfl (by decide) (va_cwS 3 hts gX11_goes_X11_in rfl rfl rfl (by decide +kernel) ⟨Nat.le_of_ble_eq_true rfl, Nat.le_of_ble_eq_true rfl⟩) rfl rfl (Nat.le_of_ble_eq_true rfl) dX11_goes_3 ⟨Nat.zero_le _, Nat.zero_le _⟩ (fun rY wY H locs hwY hJ hS => ?_)
  obtain ⟨e1Y, e2Y⟩ := hwY
  have e3Y := e1Y.symm
  clear e1Y
  subst e3Y
  have e3Y := e2Y.symm
  clear e2Y
  subst e3Y
  obtain ⟨hP, hD⟩ := hJ rfl
  have hP : va_P D vwCl (gMo cA B (fN S) WA BG AS TX RW RR FD m1 m2 m3 m4 m5 m6 m7 m8 m9 m10 m11 m12 m13 m14 m15 m16 m17 m18 m19) H := hP
  have hD : va_D AY (gMo cA B (fN S) WA BG AS TX RW RR FD m1 m2 m3 m4 m5 m6 m7 m8 m9 m10 m11 m12 m13 m14 m15 m16 m17 m18 m19) := hD
  refine xb_ne (tgt := 12) hx hb dX11_goes_6 (by decide) (fun c6 => ?_) (fun c6 => ?_)
  · have ci := inI_t c6
    obtain ⟨v, hv, rfl⟩ : ∃ v : Nat, v < 3 ∧ x = nI v := i32_of (by omega) (by omega)
    have hR : wayR S (nI v) = (nI (S 2), wayS S v) := by unfold wayR; rw [if_pos (by omega), nI_toInt (by omega), Int.toNat_natCast]
    refine lv_aload_n hx hb dX11_goes_12 rfl (lv_at hl 0 rfl) ?_
    refine va_get (D := D) (ci := 10) (v := .ref (B 1)) (C := RX11) (T := TX11) (N := 27) hx hb hts hi_X11_goes_X11 hown hK hP 0 rfl rfl 0 (by decide) (hts (.fieldLink RX11 7 "FallingWordsModel" "s" "[I") (by decide +kernel)) (fun _ h9 => h9) rfl dX11_goes_13 ?_
    refine lv_iconst (v := nI 2) hx hb dX11_goes_16 (by decide +kernel) ?_
    refine xa_ld (v := nI (S 2)) hx hb hK hP 1 rfl (by omega) (by decide) (rfl) dX11_goes_17 ?_
    refine lv_istore_n (lv' := [(2, .int (nI (S 2))), (0, .ref (B 0)), (1, .int (nI v))]) hx hb dX11_goes_18 rfl hl (by decide) rfl (fun ls hl => ?_)
    refine lv_aload_n hx hb dX11_goes_19 rfl (lv_at hl 1 rfl) ?_
    refine va_get (D := D) (ci := 10) (v := .ref (B 1)) (C := RX11) (T := TX11) (N := 27) hx hb hts hi_X11_goes_X11 hown hK hP 0 rfl rfl 0 (by decide) (hts (.fieldLink RX11 7 "FallingWordsModel" "s" "[I") (by decide +kernel)) (fun _ h9 => h9) rfl dX11_goes_20 ?_
    refine lv_iconst (v := nI 2) hx hb dX11_goes_23 (by decide +kernel) ?_
    refine lv_iload_n hx hb dX11_goes_24 rfl (lv_at hl 2 rfl) ?_
    refine xa_st hx hb hK hP hD hS 1 rfl (by omega) (by decide) dX11_goes_25 (fun H locs hP hD hS => ?_)
    have hP : va_P D vwCl (gMo cA B (upd (fN S) 2 (nI v)) WA BG AS TX RW RR FD m1 m2 m3 m4 m5 m6 m7 m8 m9 m10 m11 m12 m13 m14 m15 m16 m17 m18 m19) H := hP
    have hD : va_D AY (gMo cA B (upd (fN S) 2 (nI v)) WA BG AS TX RW RR FD m1 m2 m3 m4 m5 m6 m7 m8 m9 m10 m11 m12 m13 m14 m15 m16 m17 m18 m19) := hD
    rw [show upd (fN S) 2 (nI v) = fN (upN S 2 v) from fN_up] at hP hD
    refine lv_aload_n hx hb dX11_goes_26 rfl (lv_at hl 1 rfl) ?_
    refine va_get (D := D) (ci := 10) (v := .ref (B 1)) (C := RX11) (T := TX11) (N := 27) hx hb hts hi_X11_goes_X11 hown hK hP 0 rfl rfl 0 (by decide) (hts (.fieldLink RX11 7 "FallingWordsModel" "s" "[I") (by decide +kernel)) (fun _ h9 => h9) rfl dX11_goes_27 ?_
    refine lv_iconst (v := nI 3) hx hb dX11_goes_30 (by decide +kernel) ?_
    refine lv_iconst (v := nI 0) hx hb dX11_goes_31 (by decide +kernel) ?_
    refine xa_st hx hb hK hP hD hS 1 rfl (by omega) (by decide) dX11_goes_32 (fun H locs hP hD hS => ?_)
    have hP : va_P D vwCl (gMo cA B (upd (fN (upN S 2 v)) 3 (nI 0)) WA BG AS TX RW RR FD m1 m2 m3 m4 m5 m6 m7 m8 m9 m10 m11 m12 m13 m14 m15 m16 m17 m18 m19) H := hP
    have hD : va_D AY (gMo cA B (upd (fN (upN S 2 v)) 3 (nI 0)) WA BG AS TX RW RR FD m1 m2 m3 m4 m5 m6 m7 m8 m9 m10 m11 m12 m13 m14 m15 m16 m17 m18 m19) := hD
    rw [show upd (fN (upN S 2 v)) 3 (nI 0) = fN (upN (upN S 2 v) 3 0) from fN_up] at hP hD
    refine lv_iload_n hx hb dX11_goes_33 rfl (lv_at hl 0 rfl) ?_
    exact hret _ _ _ _ _ _ dX11_goes_34 ⟨(by rw [hR]), (by rw [hR]; rfl)⟩ hP hD hS
  · refine lv_ldc (v := (-1000001)) hx hb hown (hts (.constant RX11 78 (-1000001)) (by decide +kernel)) dX11_goes_9 ?_
    have ci := inI_f c6
    have hR : wayR S x = ((-1000001), S) := if_neg (by omega)
    exact hret _ _ _ _ _ _ dX11_goes_11 ⟨(by rw [hR]), (by rw [hR])⟩ hP hD hS

set_option maxHeartbeats 1000000 in
set_option maxRecDepth 100000 in
theorem k_X11_way (lY : Launch) (D : va_G) (cA : Nat → ClassId) (B : Nat → Nat) (S : St) (WA BG AS TX RW RR FD : Nat → Int32) (m2 m3 m4 m5 m6 m7 m8 m9 m10 m11 m12 m13 m14 m15 m16 m17 m18 m19 : Int32) (h : Nat → St) (n : Nat) (x : Int32) (hn4 : n ≤ 4) (hwas : rWas h n WA) (h2w : S 2 ≤ 2) : MetI lY D cA yX11_way wsX11_way 2 44 [.ref (B 0), .int x] (gMo cA B (fN S) WA BG AS TX RW RR FD (nI n) m2 m3 m4 m5 m6 m7 m8 m9 m10 m11 m12 m13 m14 m15 m16 m17 m18 m19) (fun rY wY => ∃ (WA' : Nat → Int32) (BG' : Nat → Int32), rY = (actZ S h n (wayR S x)).1 ∧ wY = gMo cA B (fN ((actZ S h n (wayR S x)).2.1)) WA' BG' AS TX RW RR FD (nI ((actZ S h n (wayR S x)).2.2.2)) m2 m3 m4 m5 m6 m7 m8 m9 m10 m11 m12 m13 m14 m15 m16 m17 m18 m19 ∧ (rWas (actZ S h n (wayR S x)).2.2.1 (actZ S h n (wayR S x)).2.2.2 WA')) := by
  refine MetI.of (cc := cX11_way) (maxL := 2) (ret := (some .int)) (by decide) rfl (Nat.le_of_ble_eq_true rfl) (Or.inl rfl) ?_
  intro pY eY sY mY aY bY tY cY QY AY ls h0 hP hK hN hD hA hS hl hret
  obtain ⟨hx, hb, hml, hown, hts⟩ := id h0
  have hl : lv_has ls 2 [(0, .ref (B 0)), (1, .int x)] := hl
  have hP : va_P D vwCl (gMo cA B (fN S) WA BG AS TX RW RR FD (nI n) m2 m3 m4 m5 m6 m7 m8 m9 m10 m11 m12 m13 m14 m15 m16 m17 m18 m19) sY.heap := hP
  have hD : va_D AY (gMo cA B (fN S) WA BG AS TX RW RR FD (nI n) m2 m3 m4 m5 m6 m7 m8 m9 m10 m11 m12 m13 m14 m15 m16 m17 m18 m19) := hD
  refine lv_aload_n hx hb dX11_way_0 rfl (lv_at hl 0 rfl) ?_
  refine cv_V (As := []) (rest := []) h0 hK hN hP hD hS hA hl.1 (k_X11_keeps lY D cA B S WA BG AS TX RW RR FD (nI n) m2 m3 m4 m5 m6 m7 m8 m9 m10 m11 m12 m13 m14 m15 m16 m17 m18 m19 ) [0, 1, 2, 3, 4, 5, 6, 7, 8] rfl (by decide) (cwV 0 hts gX11_way_X11_keeps rfl rfl rfl (by decide +kernel) ⟨Nat.le_of_ble_eq_true rfl, Nat.le_of_ble_eq_true rfl⟩) (cl_recv (ci := 10) (q := (RX11, TX11, 27)) (q0 := 0) hP hK rfl rfl) rfl rfl (Nat.le_of_ble_eq_true rfl) dX11_way_1 ⟨Nat.zero_le _, Nat.zero_le _⟩ (fun wY H locs hwY hJ hS => ?_)
  obtain ⟨BG'_1, e2Y, fb_1⟩ := hwY
  have e3Y := e2Y.symm
  clear e2Y
  subst e3Y
  obtain ⟨hP, hD⟩ := hJ rfl
  have hP : va_P D vwCl (gMo cA B (fN S) WA BG'_1 AS TX RW RR FD (nI n) m2 m3 m4 m5 m6 m7 m8 m9 m10 m11 m12 m13 m14 m15 m16 m17 m18 m19) H := hP
  have hD : va_D AY (gMo cA B (fN S) WA BG'_1 AS TX RW RR FD (nI n) m2 m3 m4 m5 m6 m7 m8 m9 m10 m11 m12 m13 m14 m15 m16 m17 m18 m19) := hD
  refine lv_aload_n hx hb dX11_way_4 rfl (lv_at hl 0 rfl) ?_
  refine lv_aload_n hx hb dX11_way_5 rfl (lv_at hl 0 rfl) ?_
  refine lv_iload_n hx hb dX11_way_6 rfl (lv_at hl 1 rfl) ?_
  refine ci_V (As := [.int x]) (rest := [.ref (B 0)]) h0 hK hN hP hD hS hA hl.1 (k_X11_goes lY D cA B S WA BG'_1 AS TX RW RR FD (nI n) m2 m3 m4 m5 m6 m7 m8 m9 m10 m11 m12 m13 m14 m15 m16 m17 m18 m19 x ) [0, 1, 2, 3, 4, 5, 6, 7, 8] rfl (by decide) (cwV 1 hts gX11_way_X11_goes rfl rfl rfl (by decide +kernel) ⟨Nat.le_of_ble_eq_true rfl, Nat.le_of_ble_eq_true rfl⟩) (cl_recv (ci := 10) (q := (RX11, TX11, 27)) (q0 := 0) hP hK rfl rfl) rfl rfl (Nat.le_of_ble_eq_true rfl) dX11_way_7 ⟨Nat.zero_le _, Nat.zero_le _⟩ (fun rY wY H locs hwY hJ hS => ?_)
  obtain ⟨e1Y, e2Y⟩ := hwY
  have e3Y := e1Y.symm
  clear e1Y
  subst e3Y
  have e3Y := e2Y.symm
  clear e2Y
  subst e3Y
  obtain ⟨hP, hD⟩ := hJ rfl
  have hP : va_P D vwCl (gMo cA B (fN ((wayR S x).2)) WA BG'_1 AS TX RW RR FD (nI n) m2 m3 m4 m5 m6 m7 m8 m9 m10 m11 m12 m13 m14 m15 m16 m17 m18 m19) H := hP
  have hD : va_D AY (gMo cA B (fN ((wayR S x).2)) WA BG'_1 AS TX RW RR FD (nI n) m2 m3 m4 m5 m6 m7 m8 m9 m10 m11 m12 m13 m14 m15 m16 m17 m18 m19) := hD
  refine ci_V (As := [.int ((wayR S x).1)]) (rest := []) h0 hK hN hP hD hS hA hl.1 (k_X11_acted lY D cA B S WA BG'_1 AS TX RW RR FD m2 m3 m4 m5 m6 m7 m8 m9 m10 m11 m12 m13 m14 m15 m16 m17 m18 m19 (wayR S x) h n (hn4) (hwas) (fb_1) (fun q => wayR_k q h2w)) [0, 1, 2, 3, 4, 5, 6, 7, 8] rfl (by decide) (cwV 1 hts gX11_way_X11_acted rfl rfl rfl (by decide +kernel) ⟨Nat.le_of_ble_eq_true rfl, Nat.le_of_ble_eq_true rfl⟩) (cl_recv (ci := 10) (q := (RX11, TX11, 27)) (q0 := 0) hP hK rfl rfl) rfl rfl (Nat.le_of_ble_eq_true rfl) dX11_way_10 ⟨Nat.zero_le _, Nat.zero_le _⟩ (fun rY wY H locs hwY hJ hS => ?_)
  obtain ⟨WA'_10, e1Y, e2Y, fw_10⟩ := hwY
  have e3Y := e1Y.symm
  clear e1Y
  subst e3Y
  have e3Y := e2Y.symm
  clear e2Y
  subst e3Y
  obtain ⟨hP, hD⟩ := hJ rfl
  have hP : va_P D vwCl (gMo cA B (fN ((actZ S h n (wayR S x)).2.1)) WA'_10 BG'_1 AS TX RW RR FD (nI ((actZ S h n (wayR S x)).2.2.2)) m2 m3 m4 m5 m6 m7 m8 m9 m10 m11 m12 m13 m14 m15 m16 m17 m18 m19) H := hP
  have hD : va_D AY (gMo cA B (fN ((actZ S h n (wayR S x)).2.1)) WA'_10 BG'_1 AS TX RW RR FD (nI ((actZ S h n (wayR S x)).2.2.2)) m2 m3 m4 m5 m6 m7 m8 m9 m10 m11 m12 m13 m14 m15 m16 m17 m18 m19) := hD
  exact hret _ _ _ _ _ _ dX11_way_13 ⟨WA'_10, BG'_1, rfl, rfl, (by first | assumption | omega)⟩ hP hD hS

theorem hi_X11_adds_X11 : ∀ w ∈ u_ws RX11 TX11 27, w ∈ wsX11_adds := by decide +kernel
set_option maxHeartbeats 1000000 in
set_option maxRecDepth 100000 in
theorem k_X11_adds (lY : Launch) (D : va_G) (cA : Nat → ClassId) (B : Nat → Nat) (S : St) (WA BG AS TX RW RR FD : Nat → Int32) (m1 m2 m3 m4 m5 m6 m7 m8 m9 m10 m11 m12 m13 m14 m15 m16 m17 m18 m19 : Int32) (a b : Nat) (h10 : S 1 < 10) : MetV lY D cA yX11_adds wsX11_adds 0 0 0 0 [.ref (B 0), .int (nI a), .int (nI b)] (gMo cA B (fN S) WA BG AS TX RW RR FD m1 m2 m3 m4 m5 m6 m7 m8 m9 m10 m11 m12 m13 m14 m15 m16 m17 m18 m19) (fun wY => wY = gMo cA B (fN (addS S a b)) WA BG AS TX RW RR FD m1 m2 m3 m4 m5 m6 m7 m8 m9 m10 m11 m12 m13 m14 m15 m16 m17 m18 m19) := by
  refine MetV.of (cc := cX11_adds) (maxL := 4) (by decide) rfl (Nat.le_of_ble_eq_true rfl) ?_
  intro pY eY sY mY aY bY tY cY QY AY ls h0 hP hK hN hD hA hS hl hin hret
  obtain ⟨hx, hb, hml, hown, hts⟩ := id h0
  have hl : lv_has ls 4 [(0, .ref (B 0)), (1, .int (nI a)), (2, .int (nI b))] := hl
  have hP : va_P D vwCl (gMo cA B (fN S) WA BG AS TX RW RR FD m1 m2 m3 m4 m5 m6 m7 m8 m9 m10 m11 m12 m13 m14 m15 m16 m17 m18 m19) sY.heap := hP
  have hD : va_D AY (gMo cA B (fN S) WA BG AS TX RW RR FD m1 m2 m3 m4 m5 m6 m7 m8 m9 m10 m11 m12 m13 m14 m15 m16 m17 m18 m19) := hD
  refine lv_bipush (v := nI 6) hx hb dX11_adds_0 (by decide +kernel) ?_
  refine lv_iconst (v := nI 3) hx hb dX11_adds_2 (by decide +kernel) ?_
  refine lv_aload_n hx hb dX11_adds_3 rfl (lv_at hl 0 rfl) ?_
  refine va_get (D := D) (ci := 10) (v := .ref (B 1)) (C := RX11) (T := TX11) (N := 27) hx hb hts hi_X11_adds_X11 hown hK hP 0 rfl rfl 0 (by decide) (hts (.fieldLink RX11 7 "FallingWordsModel" "s" "[I") (by decide +kernel)) (fun _ h9 => h9) rfl dX11_adds_4 ?_
  refine lv_iconst (v := nI 1) hx hb dX11_adds_7 (by decide +kernel) ?_
  refine xa_ld (v := nI (S 1)) hx hb hK hP 1 rfl (by omega) (by decide) (rfl) dX11_adds_8 ?_
  refine lv_imul hx hb dX11_adds_9 ?_
  refine xt (show (nI 3) * (nI (S 1)) = nI (3 * (S 1)) from pk_mul _ _) ?_
  refine lv_iadd hx hb dX11_adds_10 ?_
  refine xt (show (nI 6) + (nI (3 * (S 1))) = nI (6 + (3 * (S 1))) from nI_add _ _) ?_
  refine lv_istore_n (lv' := [(3, .int (nI (6 + (3 * (S 1))))), (0, .ref (B 0)), (1, .int (nI a)), (2, .int (nI b))]) hx hb dX11_adds_11 rfl hl (by decide) rfl (fun ls hl => ?_)
  refine lv_aload_n hx hb dX11_adds_12 rfl (lv_at hl 1 rfl) ?_
  refine va_get (D := D) (ci := 10) (v := .ref (B 1)) (C := RX11) (T := TX11) (N := 27) hx hb hts hi_X11_adds_X11 hown hK hP 0 rfl rfl 0 (by decide) (hts (.fieldLink RX11 7 "FallingWordsModel" "s" "[I") (by decide +kernel)) (fun _ h9 => h9) rfl dX11_adds_13 ?_
  refine lv_iload_n hx hb dX11_adds_16 rfl (lv_at hl 0 rfl) ?_
  refine lv_iload_n hx hb dX11_adds_17 rfl (lv_at hl 2 rfl) ?_
  refine xa_st hx hb hK hP hD hS 1 rfl (by omega) (by decide) dX11_adds_18 (fun H locs hP hD hS => ?_)
  have hP : va_P D vwCl (gMo cA B (upd (fN S) (6 + (3 * (S 1))) (nI a)) WA BG AS TX RW RR FD m1 m2 m3 m4 m5 m6 m7 m8 m9 m10 m11 m12 m13 m14 m15 m16 m17 m18 m19) H := hP
  have hD : va_D AY (gMo cA B (upd (fN S) (6 + (3 * (S 1))) (nI a)) WA BG AS TX RW RR FD m1 m2 m3 m4 m5 m6 m7 m8 m9 m10 m11 m12 m13 m14 m15 m16 m17 m18 m19) := hD
  rw [show upd (fN S) (6 + (3 * (S 1))) (nI a) = fN (upN S (6 + (3 * (S 1))) a) from fN_up] at hP hD
  refine lv_aload_n hx hb dX11_adds_19 rfl (lv_at hl 1 rfl) ?_
  refine va_get (D := D) (ci := 10) (v := .ref (B 1)) (C := RX11) (T := TX11) (N := 27) hx hb hts hi_X11_adds_X11 hown hK hP 0 rfl rfl 0 (by decide) (hts (.fieldLink RX11 7 "FallingWordsModel" "s" "[I") (by decide +kernel)) (fun _ h9 => h9) rfl dX11_adds_20 ?_
  refine lv_iload_n hx hb dX11_adds_23 rfl (lv_at hl 0 rfl) ?_
  refine lv_iconst (v := nI 1) hx hb dX11_adds_24 (by decide +kernel) ?_
  refine lv_iadd hx hb dX11_adds_25 ?_
  refine xt (show (nI (6 + (3 * (S 1)))) + (nI 1) = nI (6 + (3 * (S 1)) + 1) from nI_add _ _) ?_
  refine lv_iload_n hx hb dX11_adds_26 rfl (lv_at hl 3 rfl) ?_
  refine xa_st hx hb hK hP hD hS 1 rfl (by omega) (by decide) dX11_adds_27 (fun H locs hP hD hS => ?_)
  have hP : va_P D vwCl (gMo cA B (upd (fN (upN S (6 + (3 * (S 1))) a)) (6 + (3 * (S 1)) + 1) (nI b)) WA BG AS TX RW RR FD m1 m2 m3 m4 m5 m6 m7 m8 m9 m10 m11 m12 m13 m14 m15 m16 m17 m18 m19) H := hP
  have hD : va_D AY (gMo cA B (upd (fN (upN S (6 + (3 * (S 1))) a)) (6 + (3 * (S 1)) + 1) (nI b)) WA BG AS TX RW RR FD m1 m2 m3 m4 m5 m6 m7 m8 m9 m10 m11 m12 m13 m14 m15 m16 m17 m18 m19) := hD
  rw [show upd (fN (upN S (6 + (3 * (S 1))) a)) (6 + (3 * (S 1)) + 1) (nI b) = fN (upN (upN S (6 + (3 * (S 1))) a) (6 + (3 * (S 1)) + 1) b) from fN_up] at hP hD
  refine lv_aload_n hx hb dX11_adds_28 rfl (lv_at hl 1 rfl) ?_
  refine va_get (D := D) (ci := 10) (v := .ref (B 1)) (C := RX11) (T := TX11) (N := 27) hx hb hts hi_X11_adds_X11 hown hK hP 0 rfl rfl 0 (by decide) (hts (.fieldLink RX11 7 "FallingWordsModel" "s" "[I") (by decide +kernel)) (fun _ h9 => h9) rfl dX11_adds_29 ?_
  refine lv_iload_n hx hb dX11_adds_32 rfl (lv_at hl 0 rfl) ?_
  refine lv_iconst (v := nI 2) hx hb dX11_adds_33 (by decide +kernel) ?_
  refine lv_iadd hx hb dX11_adds_34 ?_
  refine xt (show (nI (6 + (3 * (S 1)))) + (nI 2) = nI (6 + (3 * (S 1)) + 2) from nI_add _ _) ?_
  refine lv_iconst (v := nI 0) hx hb dX11_adds_35 (by decide +kernel) ?_
  refine xa_st hx hb hK hP hD hS 1 rfl (by omega) (by decide) dX11_adds_36 (fun H locs hP hD hS => ?_)
  have hP : va_P D vwCl (gMo cA B (upd (fN (upN (upN S (6 + (3 * (S 1))) a) (6 + (3 * (S 1)) + 1) b)) (6 + (3 * (S 1)) + 2) (nI 0)) WA BG AS TX RW RR FD m1 m2 m3 m4 m5 m6 m7 m8 m9 m10 m11 m12 m13 m14 m15 m16 m17 m18 m19) H := hP
  have hD : va_D AY (gMo cA B (upd (fN (upN (upN S (6 + (3 * (S 1))) a) (6 + (3 * (S 1)) + 1) b)) (6 + (3 * (S 1)) + 2) (nI 0)) WA BG AS TX RW RR FD m1 m2 m3 m4 m5 m6 m7 m8 m9 m10 m11 m12 m13 m14 m15 m16 m17 m18 m19) := hD
  rw [show upd (fN (upN (upN S (6 + (3 * (S 1))) a) (6 + (3 * (S 1)) + 1) b)) (6 + (3 * (S 1)) + 2) (nI 0) = fN (upN (upN (upN S (6 + (3 * (S 1))) a) (6 + (3 * (S 1)) + 1) b) (6 + (3 * (S 1)) + 2) 0) from fN_up] at hP hD
  refine lv_aload_n hx hb dX11_adds_37 rfl (lv_at hl 1 rfl) ?_
  refine va_get (D := D) (ci := 10) (v := .ref (B 1)) (C := RX11) (T := TX11) (N := 27) hx hb hts hi_X11_adds_X11 hown hK hP 0 rfl rfl 0 (by decide) (hts (.fieldLink RX11 7 "FallingWordsModel" "s" "[I") (by decide +kernel)) (fun _ h9 => h9) rfl dX11_adds_38 ?_
  refine lv_iconst (v := nI 1) hx hb dX11_adds_41 (by decide +kernel) ?_
  refine lv_dup2_11 hx hb dX11_adds_42 rfl rfl ?_
  refine xa_ld (v := nI (S 1)) hx hb hK hP 1 rfl (by omega) (by decide) (congrArg nI ((upN_n (by omega)).trans ((upN_n (by omega)).trans (upN_n (by omega))))) dX11_adds_43 ?_
  refine lv_iconst (v := nI 1) hx hb dX11_adds_44 (by decide +kernel) ?_
  refine lv_iadd hx hb dX11_adds_45 ?_
  refine xt (show (nI (S 1)) + (nI 1) = nI (S 1 + 1) from nI_add _ _) ?_
  refine xa_st hx hb hK hP hD hS 1 rfl (by omega) (by decide) dX11_adds_46 (fun H locs hP hD hS => ?_)
  have hP : va_P D vwCl (gMo cA B (upd (fN (upN (upN (upN S (6 + (3 * (S 1))) a) (6 + (3 * (S 1)) + 1) b) (6 + (3 * (S 1)) + 2) 0)) 1 (nI (S 1 + 1))) WA BG AS TX RW RR FD m1 m2 m3 m4 m5 m6 m7 m8 m9 m10 m11 m12 m13 m14 m15 m16 m17 m18 m19) H := hP
  have hD : va_D AY (gMo cA B (upd (fN (upN (upN (upN S (6 + (3 * (S 1))) a) (6 + (3 * (S 1)) + 1) b) (6 + (3 * (S 1)) + 2) 0)) 1 (nI (S 1 + 1))) WA BG AS TX RW RR FD m1 m2 m3 m4 m5 m6 m7 m8 m9 m10 m11 m12 m13 m14 m15 m16 m17 m18 m19) := hD
  rw [show upd (fN (upN (upN (upN S (6 + (3 * (S 1))) a) (6 + (3 * (S 1)) + 1) b) (6 + (3 * (S 1)) + 2) 0)) 1 (nI (S 1 + 1)) = fN (upN (upN (upN (upN S (6 + (3 * (S 1))) a) (6 + (3 * (S 1)) + 1) b) (6 + (3 * (S 1)) + 2) 0) 1 (S 1 + 1)) from fN_up] at hP hD
  refine lv_aload_n hx hb dX11_adds_47 rfl (lv_at hl 1 rfl) ?_
  refine va_get (D := D) (ci := 10) (v := .ref (B 1)) (C := RX11) (T := TX11) (N := 27) hx hb hts hi_X11_adds_X11 hown hK hP 0 rfl rfl 0 (by decide) (hts (.fieldLink RX11 7 "FallingWordsModel" "s" "[I") (by decide +kernel)) (fun _ h9 => h9) rfl dX11_adds_48 ?_
  refine lv_iconst (v := nI 3) hx hb dX11_adds_51 (by decide +kernel) ?_
  refine lv_iconst (v := nI 0) hx hb dX11_adds_52 (by decide +kernel) ?_
  refine xa_st hx hb hK hP hD hS 1 rfl (by omega) (by decide) dX11_adds_53 (fun H locs hP hD hS => ?_)
  have hP : va_P D vwCl (gMo cA B (upd (fN (upN (upN (upN (upN S (6 + (3 * (S 1))) a) (6 + (3 * (S 1)) + 1) b) (6 + (3 * (S 1)) + 2) 0) 1 (S 1 + 1))) 3 (nI 0)) WA BG AS TX RW RR FD m1 m2 m3 m4 m5 m6 m7 m8 m9 m10 m11 m12 m13 m14 m15 m16 m17 m18 m19) H := hP
  have hD : va_D AY (gMo cA B (upd (fN (upN (upN (upN (upN S (6 + (3 * (S 1))) a) (6 + (3 * (S 1)) + 1) b) (6 + (3 * (S 1)) + 2) 0) 1 (S 1 + 1))) 3 (nI 0)) WA BG AS TX RW RR FD m1 m2 m3 m4 m5 m6 m7 m8 m9 m10 m11 m12 m13 m14 m15 m16 m17 m18 m19) := hD
  rw [show upd (fN (upN (upN (upN (upN S (6 + (3 * (S 1))) a) (6 + (3 * (S 1)) + 1) b) (6 + (3 * (S 1)) + 2) 0) 1 (S 1 + 1))) 3 (nI 0) = fN (upN (upN (upN (upN (upN S (6 + (3 * (S 1))) a) (6 + (3 * (S 1)) + 1) b) (6 + (3 * (S 1)) + 2) 0) 1 (S 1 + 1)) 3 0) from fN_up] at hP hD
  exact hret _ _ _ _ _ dX11_adds_54 rfl hP hD hS

theorem hi_X11_places_X11 : ∀ w ∈ u_ws RX11 TX11 27, w ∈ wsX11_places := by decide +kernel
set_option maxHeartbeats 1000000 in
set_option maxRecDepth 100000 in
theorem k_X11_places (lY : Launch) (D : va_G) (cA : Nat → ClassId) (B : Nat → Nat) (S : St) (WA BG AS TX RW RR FD : Nat → Int32) (m1 m2 m3 m4 m5 m6 m7 m8 m9 m10 m11 m12 m13 m14 m15 m16 m17 m18 m19 : Int32) (r : Nat) (hI : IR S) (hw : vw 12 (S 0)) (hr1 : r < S 1) : MetI lY D cA yX11_places wsX11_places 2 47 [.ref (B 0), .int (nI r)] (gMo cA B (fN S) WA BG AS TX RW RR FD m1 m2 m3 m4 m5 m6 m7 m8 m9 m10 m11 m12 m13 m14 m15 m16 m17 m18 m19) (fun rY wY => rY = nI (cn (fun p => stn (lf S r) (S 0) p) (len (S 0))) ∧ wY = gMo cA B (fN S) WA BG AS TX RW RR FD m1 m2 m3 m4 m5 m6 m7 m8 m9 m10 m11 m12 m13 m14 m15 m16 m17 m18 m19) := by
  refine MetI.of (cc := cX11_places) (maxL := 4) (ret := (some .int)) (by decide) rfl (Nat.le_of_ble_eq_true rfl) (Or.inl rfl) ?_
  intro pY eY sY mY aY bY tY cY QY AY ls h0 hP hK hN hD hA hS hl hret
  obtain ⟨hx, hb, hml, hown, hts⟩ := id h0
  have hl : lv_has ls 4 [(0, .ref (B 0)), (1, .int (nI r))] := hl
  have hP : va_P D vwCl (gMo cA B (fN S) WA BG AS TX RW RR FD m1 m2 m3 m4 m5 m6 m7 m8 m9 m10 m11 m12 m13 m14 m15 m16 m17 m18 m19) sY.heap := hP
  have hD : va_D AY (gMo cA B (fN S) WA BG AS TX RW RR FD m1 m2 m3 m4 m5 m6 m7 m8 m9 m10 m11 m12 m13 m14 m15 m16 m17 m18 m19) := hD
  have h12 := hw.2
  have h10 := hI.1
  obtain ⟨v1, v2, v3, v4⟩ := hI.2.2 r hr1
  have hB := vw_B hw (by decide)
  refine lv_iconst (v := nI 0) hx hb dX11_places_0 (by decide +kernel) ?_
  refine lv_istore_n (lv' := [(2, .int (nI 0)), (0, .ref (B 0)), (1, .int (nI r))]) hx hb dX11_places_1 rfl hl (by decide) rfl (fun ls hl => ?_)
  refine lv_iconst (v := nI 0) hx hb dX11_places_2 (by decide +kernel) ?_
  refine lv_istore_n (lv' := [(3, .int (nI 0)), (2, .int (nI 0)), (0, .ref (B 0)), (1, .int (nI r))]) hx hb dX11_places_3 rfl hl (by decide) rfl (fun ls hl => ?_)
  have L4 : ∀ (nY : Nat), ∀ (i : Nat) (c : Nat), (i ≤ len (S 0)) → (c = cn (fun p => stn (lf S r) (S 0) p) i) → (len (S 0) - i < nY) → ∀ (H : Heap) (locs : List Loc) (ls : Array Slot), va_P D vwCl (gMo cA B (fN S) WA BG AS TX RW RR FD m1 m2 m3 m4 m5 m6 m7 m8 m9 m10 m11 m12 m13 m14 m15 m16 m17 m18 m19) H → va_D AY (gMo cA B (fN S) WA BG AS TX RW RR FD m1 m2 m3 m4 m5 m6 m7 m8 m9 m10 m11 m12 m13 m14 m15 m16 m17 m18 m19) → va_S AY sY.heap H locs → lv_has ls 4 [(0, .ref (B 0)), (1, .int (nI r)), (2, .int (nI c)), (3, .int (nI i))] → W pY lY eY { frames := 2, cells := 0, slots := 0, locals := 47 } sY mY aY bY tY cY H locs 0 0 QY (F0 mY 4 ls []) := by
    intro nY4
    induction nY4 with
    | zero => intro i c hi hc hm4; exact absurd hm4 (Nat.not_lt_zero _)
    | succ nY4 ih4 =>
      intro i c hi hc hm4 H locs ls hP hD hS hl
      refine lv_iload_n hx hb dX11_places_4 rfl (lv_at hl 3 rfl) ?_
      refine lv_aload_n hx hb dX11_places_5 rfl (lv_at hl 0 rfl) ?_
      refine va_get (D := D) (ci := 10) (v := .ref (B 1)) (C := RX11) (T := TX11) (N := 27) hx hb hts hi_X11_places_X11 hown hK hP 0 rfl rfl 0 (by decide) (hts (.fieldLink RX11 7 "FallingWordsModel" "s" "[I") (by decide +kernel)) (fun _ h9 => h9) rfl dX11_places_6 ?_
      refine lv_iconst (v := nI 0) hx hb dX11_places_9 (by decide +kernel) ?_
      refine xa_ld (v := nI (S 0)) hx hb hK hP 1 rfl (by omega) (by decide) (rfl) dX11_places_10 ?_
      refine ci_S (As := [.int (nI (S 0))]) (rest := [.int (nI i)]) h0 hK hN hP hD hS hA hl.1 (k_X11_length lY D cA (S 0) (hw.1) (by omega)) [] rfl (by decide) (va_cwS 1 hts gX11_places_X11_length rfl rfl rfl (by decide +kernel) ⟨Nat.le_of_ble_eq_true rfl, Nat.le_of_ble_eq_true rfl⟩) rfl rfl (Nat.le_of_ble_eq_true rfl) dX11_places_11 ⟨Nat.zero_le _, Nat.zero_le _⟩ (fun rY wY H locs hwY hJ hS => ?_)
      obtain ⟨e1Y, e2Y⟩ := hwY
      have e3Y := e1Y.symm
      clear e1Y
      subst e3Y
      have e3Y := e2Y.symm
      clear e2Y
      subst e3Y
      obtain ⟨hP, hD⟩ := hJ rfl
      have hP : va_P D vwCl (gMo cA B (fN S) WA BG AS TX RW RR FD m1 m2 m3 m4 m5 m6 m7 m8 m9 m10 m11 m12 m13 m14 m15 m16 m17 m18 m19) H := hP
      have hD : va_D AY (gMo cA B (fN S) WA BG AS TX RW RR FD m1 m2 m3 m4 m5 m6 m7 m8 m9 m10 m11 m12 m13 m14 m15 m16 m17 m18 m19) := hD
      refine xc_ge (tgt := 49) hx hb dX11_places_14 (by decide) (by omega) (by omega) (fun c14 => ?_) (fun c14 => ?_)
      · refine lv_iload_n hx hb dX11_places_49 rfl (lv_at hl 2 rfl) ?_
        exact hret _ _ _ _ _ _ dX11_places_50 ⟨(congrArg nI (by rw [hc, show i = len (S 0) by omega])), rfl⟩ hP hD hS
      · refine lv_iload_n hx hb dX11_places_17 rfl (lv_at hl 2 rfl) ?_
        refine lv_aload_n hx hb dX11_places_18 rfl (lv_at hl 0 rfl) ?_
        refine lv_iload_n hx hb dX11_places_19 rfl (lv_at hl 1 rfl) ?_
        refine ci_V (As := [.int (nI r)]) (rest := [.int (nI c)]) h0 hK hN hP hD hS hA hl.1 (k_X11_left lY D cA B S WA BG AS TX RW RR FD m1 m2 m3 m4 m5 m6 m7 m8 m9 m10 m11 m12 m13 m14 m15 m16 m17 m18 m19 r (by omega)) [0, 1, 2, 3, 4, 5, 6, 7, 8] rfl (by decide) (cwV 1 hts gX11_places_X11_left rfl rfl rfl (by decide +kernel) ⟨Nat.le_of_ble_eq_true rfl, Nat.le_of_ble_eq_true rfl⟩) (cl_recv (ci := 10) (q := (RX11, TX11, 27)) (q0 := 0) hP hK rfl rfl) rfl rfl (Nat.le_of_ble_eq_true rfl) dX11_places_20 ⟨Nat.zero_le _, Nat.zero_le _⟩ (fun rY wY H locs hwY hJ hS => ?_)
        obtain ⟨e1Y, e2Y⟩ := hwY
        have e3Y := e1Y.symm
        clear e1Y
        subst e3Y
        have e3Y := e2Y.symm
        clear e2Y
        subst e3Y
        obtain ⟨hP, hD⟩ := hJ rfl
        have hP : va_P D vwCl (gMo cA B (fN S) WA BG AS TX RW RR FD m1 m2 m3 m4 m5 m6 m7 m8 m9 m10 m11 m12 m13 m14 m15 m16 m17 m18 m19) H := hP
        have hD : va_D AY (gMo cA B (fN S) WA BG AS TX RW RR FD m1 m2 m3 m4 m5 m6 m7 m8 m9 m10 m11 m12 m13 m14 m15 m16 m17 m18 m19) := hD
        refine lv_aload_n hx hb dX11_places_23 rfl (lv_at hl 0 rfl) ?_
        refine va_get (D := D) (ci := 10) (v := .ref (B 1)) (C := RX11) (T := TX11) (N := 27) hx hb hts hi_X11_places_X11 hown hK hP 0 rfl rfl 0 (by decide) (hts (.fieldLink RX11 7 "FallingWordsModel" "s" "[I") (by decide +kernel)) (fun _ h9 => h9) rfl dX11_places_24 ?_
        refine lv_iconst (v := nI 0) hx hb dX11_places_27 (by decide +kernel) ?_
        refine xa_ld (v := nI (S 0)) hx hb hK hP 1 rfl (by omega) (by decide) (rfl) dX11_places_28 ?_
        refine lv_iload_n hx hb dX11_places_29 rfl (lv_at hl 3 rfl) ?_
        refine ci_S (As := [.int (nI (lf S r)), .int (nI (S 0)), .int (nI i)]) (rest := [.int (nI c)]) h0 hK hN hP hD hS hA hl.1 (k_X11_stands lY D cA (lf S r) (S 0) i (v1) (hw) (by omega)) [] rfl (by decide) (va_cwS 3 hts gX11_places_X11_stands rfl rfl rfl (by decide +kernel) ⟨Nat.le_of_ble_eq_true rfl, Nat.le_of_ble_eq_true rfl⟩) rfl rfl (Nat.le_of_ble_eq_true rfl) dX11_places_30 ⟨Nat.zero_le _, Nat.zero_le _⟩ (fun rY wY H locs hwY hJ hS => ?_)
        obtain ⟨e1Y, e2Y⟩ := hwY
        have e3Y := e1Y.symm
        clear e1Y
        subst e3Y
        have e3Y := e2Y.symm
        clear e2Y
        subst e3Y
        obtain ⟨hP, hD⟩ := hJ rfl
        have hP : va_P D vwCl (gMo cA B (fN S) WA BG AS TX RW RR FD m1 m2 m3 m4 m5 m6 m7 m8 m9 m10 m11 m12 m13 m14 m15 m16 m17 m18 m19) H := hP
        have hD : va_D AY (gMo cA B (fN S) WA BG AS TX RW RR FD m1 m2 m3 m4 m5 m6 m7 m8 m9 m10 m11 m12 m13 m14 m15 m16 m17 m18 m19) := hD
        refine xb_eq (tgt := 40) hx hb dX11_places_33 (by decide) (fun c33 => ?_) (fun c33 => ?_)
        · refine lv_iconst (v := nI 0) hx hb dX11_places_40 (by decide +kernel) ?_
          refine lv_iadd hx hb dX11_places_41 ?_
          refine xt (show (nI c) + (nI 0) = nI (c + 0) from nI_add _ _) ?_
          refine lv_istore_n (lv' := [(2, .int (nI (c + 0))), (0, .ref (B 0)), (1, .int (nI r)), (3, .int (nI i))]) hx hb dX11_places_42 rfl hl (by decide) rfl (fun ls hl => ?_)
          refine lv_iinc (v := nI (i + 1)) (lv' := [(3, .int (nI (i + 1))), (2, .int (nI (c + 0))), (0, .ref (B 0)), (1, .int (nI r))]) hx hb dX11_places_43 hl (k := 3) rfl (show nI i + Int32.ofInt 1 = nI (i + 1) from nI_add i 1) (by decide) rfl (fun ls hl => ?_)
          refine lv_goto (tgt := 4) hx hb dX11_places_46 (by decide) ?_
          exact ih4 (i + 1) c (by omega) (hc.trans (cn_f (p := fun p => stn (lf S r) (S 0) p) c33).symm) (by omega) _ _ _ hP hD hS (lv_sub hl [2, 3, 1, 0] rfl)
        · refine lv_iconst (v := nI 1) hx hb dX11_places_36 (by decide +kernel) ?_
          refine lv_goto (tgt := 41) hx hb dX11_places_37 (by decide) ?_
          refine lv_iadd hx hb dX11_places_41 ?_
          refine xt (show (nI c) + (nI 1) = nI (c + 1) from nI_add _ _) ?_
          refine lv_istore_n (lv' := [(2, .int (nI (c + 1))), (0, .ref (B 0)), (1, .int (nI r)), (3, .int (nI i))]) hx hb dX11_places_42 rfl hl (by decide) rfl (fun ls hl => ?_)
          refine lv_iinc (v := nI (i + 1)) (lv' := [(3, .int (nI (i + 1))), (2, .int (nI (c + 1))), (0, .ref (B 0)), (1, .int (nI r))]) hx hb dX11_places_43 hl (k := 3) rfl (show nI i + Int32.ofInt 1 = nI (i + 1) from nI_add i 1) (by decide) rfl (fun ls hl => ?_)
          refine lv_goto (tgt := 4) hx hb dX11_places_46 (by decide) ?_
          exact ih4 (i + 1) (c + 1) (by omega) ((congrArg (· + 1) hc).trans (cn_t (p := fun p => stn (lf S r) (S 0) p) c33).symm) (by omega) _ _ _ hP hD hS (lv_sub hl [2, 3, 1, 0] rfl)
  exact L4 _ 0 0 (by omega) (rfl) (Nat.lt_succ_self _) _ _ _ hP hD hS (lv_sub hl [2, 3, 1, 0] rfl)
