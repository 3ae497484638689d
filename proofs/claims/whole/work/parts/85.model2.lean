/-! the reference chooses -/
def BsN (S : St) (w p r : Nat) : Prop := ∀ r' p', r' < S 1 → p' < len w → (p' < p ∨ (p' = p ∧ r' < r)) → stn (lf S r') w p' = false
def BsY (S : St) (w p r a b : Nat) : Prop := a < S 1 ∧ b < len w ∧ (b < p ∨ (b = p ∧ a < r)) ∧ stn (lf S a) w b = true ∧ ∀ r' p', r' < S 1 → p' < len w → (p' < p ∨ (p' = p ∧ r' < r)) → stn (lf S r') w p' = true → rnk (S 2) b a ≤ rnk (S 2) p' r'
def Bst (S : St) (w p r : Nat) (x y : Int32) : Prop := (x = (-1) ∧ BsN S w p r) ∨ ∃ a b : Nat, x = nI a ∧ y = nI b ∧ BsY S w p r a b
theorem BsN_0 {S : St} {w : Nat} : BsN S w 0 0 := fun _ _ _ _ h => by omega
theorem BsN_s {S : St} {w p r : Nat} (h : BsN S w p r) (hs : stn (lf S r) w p = false) : BsN S w p (r + 1) := by
  intro r' p' h1 h2 h3
  rcases Nat.lt_or_ge p' p with q | q
  · exact h r' p' h1 h2 (Or.inl q)
  · rcases Nat.lt_or_ge r' r with z | z
    · exact h r' p' h1 h2 (Or.inr ⟨by omega, z⟩)
    · rw [show r' = r by omega, show p' = p by omega]; exact hs
theorem BsY_s {S : St} {w p r a b : Nat} (h : BsY S w p r a b) (hs : stn (lf S r) w p = false) : BsY S w p (r + 1) a b := by
  obtain ⟨h1, h2, h3, h4, h5⟩ := h
  refine ⟨h1, h2, by omega, h4, fun r' p' k1 k2 k3 k4 => ?_⟩
  rcases Nat.lt_or_ge p' p with q | q
  · exact h5 r' p' k1 k2 (Or.inl q) k4
  · rcases Nat.lt_or_ge r' r with z | z
    · exact h5 r' p' k1 k2 (Or.inr ⟨by omega, z⟩) k4
    · rw [show r' = r by omega, show p' = p by omega, hs] at k4; cases k4
theorem rnk_le {way p r a b : Nat} (hp : p ≤ 12) (hr : r < 10) (ha : a < 10) (hb2 : b ≤ 12) (hs : b < p ∨ (b = p ∧ a < r)) (n1 : ¬ (way = 1 ∧ b < p)) (n2 : ¬ (way = 2 ∧ r < a)) : rnk way b a ≤ rnk way p r := by
  unfold rnk
  by_cases h1 : way = 1
  · rw [if_pos h1, if_pos h1]; omega
  · rw [if_neg h1, if_neg h1]
    by_cases h2 : way = 2
    · rw [if_pos h2, if_pos h2]; omega
    · rw [if_neg h2, if_neg h2]; omega
theorem rnk_ge {way p r a b : Nat} (hp : p ≤ 12) (hr : r < 10) (ha : a < 10) (hb2 : b ≤ 12) (h : (way = 1 ∧ b < p) ∨ (way = 2 ∧ r < a)) : rnk way p r ≤ rnk way b a := by
  unfold rnk
  by_cases h1 : way = 1
  · rw [if_pos h1, if_pos h1]; omega
  · rw [if_neg h1, if_neg h1]
    by_cases h2 : way = 2
    · rw [if_pos h2, if_pos h2]; omega
    · omega
theorem BsY_w {S : St} {w p r a b : Nat} (hI : IR S) (hw : vw 12 w) (hr : r < S 1) (hp : p < len w) (h : BsY S w p r a b) (n1 : ¬ (S 2 = 1 ∧ b < p)) (n2 : ¬ (S 2 = 2 ∧ r < a)) : BsY S w p (r + 1) a b := by
  obtain ⟨h1, h2, h3, h4, h5⟩ := h
  have h10 := hI.1
  have h12 := hw.2
  refine ⟨h1, h2, by omega, h4, fun r' p' k1 k2 k3 k4 => ?_⟩
  rcases Nat.lt_or_ge p' p with q | q
  · exact h5 r' p' k1 k2 (Or.inl q) k4
  · rcases Nat.lt_or_ge r' r with z | z
    · exact h5 r' p' k1 k2 (Or.inr ⟨by omega, z⟩) k4
    · rw [show r' = r by omega, show p' = p by omega]
      exact rnk_le (by omega) (by omega) (by omega) (by omega) h3 n1 n2
theorem BsN_t {S : St} {w p r : Nat} (hr : r < S 1) (hp : p < len w) (h : BsN S w p r) (hs : stn (lf S r) w p = true) : BsY S w p (r + 1) r p := by
  refine ⟨hr, hp, by omega, hs, fun r' p' k1 k2 k3 k4 => ?_⟩
  by_cases q : p' < p ∨ (p' = p ∧ r' < r)
  · rw [h r' p' k1 k2 q] at k4; cases k4
  · rw [show r' = r by omega, show p' = p by omega]; exact Nat.le_refl _
theorem BsY_t {S : St} {w p r a b : Nat} (hI : IR S) (hw : vw 12 w) (hr : r < S 1) (hp : p < len w) (h : BsY S w p r a b) (hb2 : (S 2 = 1 ∧ b < p) ∨ (S 2 = 2 ∧ r < a)) (hs : stn (lf S r) w p = true) : BsY S w p (r + 1) r p := by
  obtain ⟨h1, h2, h3, h4, h5⟩ := h
  have h10 := hI.1
  have h12 := hw.2
  refine ⟨hr, hp, by omega, hs, fun r' p' k1 k2 k3 k4 => ?_⟩
  by_cases q : p' < p ∨ (p' = p ∧ r' < r)
  · exact Nat.le_trans (rnk_ge (by omega) (by omega) (by omega) (by omega) hb2) (h5 r' p' k1 k2 q k4)
  · rw [show r' = r by omega, show p' = p by omega]; exact Nat.le_refl _
theorem Bst_p {S : St} {w p r : Nat} {x y : Int32} (hr : S 1 ≤ r) (h : Bst S w p r x y) : Bst S w (p + 1) 0 x y := by
  rcases h with ⟨e, h⟩ | ⟨a, b, e1, e2, h1, h2, h3, h4, h5⟩
  · exact Or.inl ⟨e, fun r' p' k1 k2 k3 => h r' p' k1 k2 (by omega)⟩
  · exact Or.inr ⟨a, b, e1, e2, h1, h2, by omega, h4, fun r' p' k1 k2 k3 k4 => h5 r' p' k1 k2 (by omega) k4⟩
theorem Bst_e {S : St} {w p : Nat} {x y : Int32} (hI : IR S) (hw : vw 12 w) (hp : len w ≤ p) (h : Bst S w p 0 x y) : (nrm S w = true ∧ x = (-1)) ∨ (nrm S w = false ∧ x = nI (chr S w) ∧ y = nI (chp S w) ∧ chr S w < 10) := by
  rcases h with ⟨e, h⟩ | ⟨a, b, e1, e2, h1, h2, h3, h4, h5⟩
  · exact Or.inl ⟨ch_no (fun r p' k1 k2 => h r p' k1 k2 (by omega)), e⟩
  · obtain ⟨g1, g2, g3⟩ := ch_is hI hw h1 h2 h4 (fun r' p' k1 k2 k3 => h5 r' p' k1 k2 (by omega) k3)
    have h10 := hI.1
    exact Or.inr ⟨g3, by rw [g1]; exact e1, by rw [g2]; exact e2, by omega⟩

theorem hi_X11_chooses_X11 : ∀ w ∈ u_ws RX11 TX11 27, w ∈ wsX11_chooses := by decide +kernel
set_option maxHeartbeats 8000000 in
set_option maxRecDepth 100000 in
theorem k_X11_chooses (lY : Launch) (D : va_G) (cA : Nat → ClassId) (B : Nat → Nat) (S : St) (WA BG AS TX RW RR FD : Nat → Int32) (m1 m2 m3 m4 m5 m6 m7 m8 m9 m10 m11 m12 m13 m14 m15 m16 m17 m18 m19 : Int32) (w : Nat) (hI : IR S) (hw : vw 12 w) : MetI lY D cA yX11_chooses wsX11_chooses 2 47 [.ref (B 0), .int (nI w)] (gMo cA B (fN S) WA BG AS TX RW RR FD m1 m2 m3 m4 m5 m6 m7 m8 m9 m10 m11 m12 m13 m14 m15 m16 m17 m18 m19) (fun rY wY => ∃ (k8 : Int32) (k9 : Int32), rY = bI (!nrm S w) ∧ wY = gMo cA B (fN S) WA BG AS TX RW RR FD m1 m2 m3 m4 m5 m6 m7 k8 k9 m10 m11 m12 m13 m14 m15 m16 m17 m18 m19 ∧ (nrm S w = false → k8 = nI (chr S w) ∧ k9 = nI (chp S w))) := by
  refine MetI.of (cc := cX11_chooses) (maxL := 6) (ret := (some .boolean)) (by decide) rfl (Nat.le_of_ble_eq_true rfl) (Or.inr ⟨rfl, fun r w' h => by obtain ⟨_, _, h, -⟩ := h; rw [h]; exact bI_nar _⟩) ?_
  intro pY eY sY mY aY bY tY cY QY AY ls h0 hP hK hN hD hA hS hl hret
  obtain ⟨hx, hb, hml, hown, hts⟩ := id h0
  have hl : lv_has ls 6 [(0, .ref (B 0)), (1, .int (nI w))] := hl
  have hP : va_P D vwCl (gMo cA B (fN S) WA BG AS TX RW RR FD m1 m2 m3 m4 m5 m6 m7 m8 m9 m10 m11 m12 m13 m14 m15 m16 m17 m18 m19) sY.heap := hP
  have hD : va_D AY (gMo cA B (fN S) WA BG AS TX RW RR FD m1 m2 m3 m4 m5 m6 m7 m8 m9 m10 m11 m12 m13 m14 m15 m16 m17 m18 m19) := hD
  have hB : w < 134217728 := vw_B hw (by decide)
  have h12 := hw.2
  have h10 := hI.1
  have h2w := hI.2.1
  refine lv_iload_n hx hb dX11_chooses_0 rfl (lv_at hl 1 rfl) ?_
  refine ci_S (As := [.int (nI w)]) (rest := []) h0 hK hN hP hD hS hA hl.1 (k_X11_length lY D cA w (hw.1) (by omega)) [] rfl (by decide) (va_cwS 1 hts gX11_chooses_X11_length rfl rfl rfl (by decide +kernel) ⟨Nat.le_of_ble_eq_true rfl, Nat.le_of_ble_eq_true rfl⟩) rfl rfl (Nat.le_of_ble_eq_true rfl) dX11_chooses_1 ⟨Nat.zero_le _, Nat.zero_le _⟩ (fun rY wY H locs hwY hJ hS => ?_)
  obtain ⟨e1Y, e2Y⟩ := hwY
  have e3Y := e1Y.symm
  clear e1Y
  subst e3Y
  have e3Y := e2Y.symm
  clear e2Y
  subst e3Y
  obtain ⟨hP, hD⟩ := hJ rfl
  have hP : va_P D vwCl (gMo cA B (fN S) WA BG AS TX RW RR FD m1 m2 m3 m4 m5 m6 m7 m8 m9 m10 m11 m12 m13 m14 m15 m16 m17 m18 m19) H := hP
  have hD : va_D AY (gMo cA B (fN S) WA BG AS TX RW RR FD m1 m2 m3 m4 m5 m6 m7 m8 m9 m10 m11 m12 m13 m14 m15 m16 m17 m18 m19) := hD
  refine lv_istore_n (lv' := [(2, .int (nI (len w))), (0, .ref (B 0)), (1, .int (nI w))]) hx hb dX11_chooses_4 rfl hl (by decide) rfl (fun ls hl => ?_)
  refine lv_aload_n hx hb dX11_chooses_5 rfl (lv_at hl 1 rfl) ?_
  refine lv_iconst (v := (-1)) hx hb dX11_chooses_6 (by decide +kernel) ?_
  refine va_put (D := D) (ci := 10) (v := .int (-1)) (ty := .int) (C := RX11) (T := TX11) (N := 27) hx hb hts hi_X11_chooses_X11 tyX11 tyX11_ok nmX11 hown hK hP hD hS 0 rfl rfl 12 (by decide) (hts (.fieldLink RX11 54 "FallingWordsModel" "chosenRule" "I") (by decide +kernel)) (fun _ h9 => h9) rfl (by decide +kernel) rfl rfl (Nat.le_of_ble_eq_true rfl) dX11_chooses_7 (fun H locs hP hD hS => ?_)
  have hP : va_P D vwCl (gMo cA B (fN S) WA BG AS TX RW RR FD m1 m2 m3 m4 m5 m6 m7 (-1) m9 m10 m11 m12 m13 m14 m15 m16 m17 m18 m19) H := hP
  have hD : va_D AY (gMo cA B (fN S) WA BG AS TX RW RR FD m1 m2 m3 m4 m5 m6 m7 (-1) m9 m10 m11 m12 m13 m14 m15 m16 m17 m18 m19) := hD
  refine lv_iconst (v := nI 0) hx hb dX11_chooses_10 (by decide +kernel) ?_
  refine lv_istore_n (lv' := [(3, .int (nI 0)), (2, .int (nI (len w))), (0, .ref (B 0)), (1, .int (nI w))]) hx hb dX11_chooses_11 rfl hl (by decide) rfl (fun ls hl => ?_)
  have L12 : ∀ (nY : Nat), ∀ (p : Nat) (x : Int32) (y : Int32), (p ≤ len w) → (Bst S w p 0 x y) → (len w - p < nY) → ∀ (H : Heap) (locs : List Loc) (ls : Array Slot), va_P D vwCl (gMo cA B (fN S) WA BG AS TX RW RR FD m1 m2 m3 m4 m5 m6 m7 x y m10 m11 m12 m13 m14 m15 m16 m17 m18 m19) H → va_D AY (gMo cA B (fN S) WA BG AS TX RW RR FD m1 m2 m3 m4 m5 m6 m7 x y m10 m11 m12 m13 m14 m15 m16 m17 m18 m19) → va_S AY sY.heap H locs → lv_has ls 6 [(0, .ref (B 0)), (1, .int (nI w)), (2, .int (nI (len w))), (3, .int (nI p))] → W pY lY eY { frames := 2, cells := 0, slots := 0, locals := 47 } sY mY aY bY tY cY H locs 0 0 QY (F0 mY 12 ls []) := by
    intro nY12
    induction nY12 with
    | zero => intro p x y hp hbst hm12; exact absurd hm12 (Nat.not_lt_zero _)
    | succ nY12 ih12 =>
      intro p x y hp hbst hm12 H locs ls hP hD hS hl
      refine lv_iload_n hx hb dX11_chooses_12 rfl (lv_at hl 3 rfl) ?_
      refine lv_iload_n hx hb dX11_chooses_13 rfl (lv_at hl 2 rfl) ?_
      refine xc_ge (tgt := 124) hx hb dX11_chooses_14 (by decide) (by omega) (by omega) (fun c14 => ?_) (fun c14 => ?_)
      · rcases Bst_e hI hw (by omega) hbst with ⟨hn, rfl⟩ | ⟨hn, rfl, rfl, hc10⟩
        · refine lv_aload_n hx hb dX11_chooses_124 rfl (lv_at hl 0 rfl) ?_
          refine va_get (D := D) (ci := 10) (v := .int (-1)) (C := RX11) (T := TX11) (N := 27) hx hb hts hi_X11_chooses_X11 hown hK hP 0 rfl rfl 12 (by decide) (hts (.fieldLink RX11 54 "FallingWordsModel" "chosenRule" "I") (by decide +kernel)) (fun _ h9 => h9) rfl dX11_chooses_125 ?_
          refine xz_lt (tgt := 135) hx hb dX11_chooses_128 (by decide) (fun c128 => ?_) (fun c128 => ?_)
          · refine lv_iconst (v := nI 0) hx hb dX11_chooses_135 (by decide +kernel) ?_
            exact hret _ _ _ _ _ _ dX11_chooses_136 ⟨(-1), y, (by rw [hn]; rfl), rfl, (fun h => by rw [hn] at h; cases h)⟩ hP hD hS
          · exact absurd c128 (by decide)
        · refine lv_aload_n hx hb dX11_chooses_124 rfl (lv_at hl 0 rfl) ?_
          refine va_get (D := D) (ci := 10) (v := .int (nI (chr S w))) (C := RX11) (T := TX11) (N := 27) hx hb hts hi_X11_chooses_X11 hown hK hP 0 rfl rfl 12 (by decide) (hts (.fieldLink RX11 54 "FallingWordsModel" "chosenRule" "I") (by decide +kernel)) (fun _ h9 => h9) rfl dX11_chooses_125 ?_
          refine x0_lt (tgt := 135) hx hb dX11_chooses_128 (by decide) (by omega) ?_
          refine lv_iconst (v := nI 1) hx hb dX11_chooses_131 (by decide +kernel) ?_
          refine lv_goto (tgt := 136) hx hb dX11_chooses_132 (by decide) ?_
          exact hret _ _ _ _ _ _ dX11_chooses_136 ⟨((nI (chr S w))), ((nI (chp S w))), (by rw [hn]; rfl), rfl, (fun _ => ⟨rfl, rfl⟩)⟩ hP hD hS
      · refine lv_iconst (v := nI 0) hx hb dX11_chooses_17 (by decide +kernel) ?_
        refine lv_istore (lv' := [(4, .int (nI 0)), (0, .ref (B 0)), (1, .int (nI w)), (2, .int (nI (len w))), (3, .int (nI p))]) hx hb dX11_chooses_18 hl (by decide) rfl (fun ls hl => ?_)
        have L20 : ∀ (nY : Nat), ∀ (r : Nat) (x2 : Int32) (y2 : Int32), (r ≤ S 1) → (Bst S w p r x2 y2) → (S 1 - r < nY) → ∀ (H : Heap) (locs : List Loc) (ls : Array Slot), va_P D vwCl (gMo cA B (fN S) WA BG AS TX RW RR FD m1 m2 m3 m4 m5 m6 m7 x2 y2 m10 m11 m12 m13 m14 m15 m16 m17 m18 m19) H → va_D AY (gMo cA B (fN S) WA BG AS TX RW RR FD m1 m2 m3 m4 m5 m6 m7 x2 y2 m10 m11 m12 m13 m14 m15 m16 m17 m18 m19) → va_S AY sY.heap H locs → lv_has ls 6 [(0, .ref (B 0)), (1, .int (nI w)), (2, .int (nI (len w))), (3, .int (nI p)), (4, .int (nI r))] → W pY lY eY { frames := 2, cells := 0, slots := 0, locals := 47 } sY mY aY bY tY cY H locs 0 0 QY (F0 mY 20 ls []) := by
          intro nY20
          induction nY20 with
          | zero => intro r x2 y2 hrS hbst2 hm20; exact absurd hm20 (Nat.not_lt_zero _)
          | succ nY20 ih20 =>
            intro r x2 y2 hrS hbst2 hm20 H locs ls hP hD hS hl
            refine lv_iload hx hb dX11_chooses_20 (lv_at hl 4 rfl) ?_
            refine lv_aload_n hx hb dX11_chooses_22 rfl (lv_at hl 0 rfl) ?_
            refine va_get (D := D) (ci := 10) (v := .ref (B 1)) (C := RX11) (T := TX11) (N := 27) hx hb hts hi_X11_chooses_X11 hown hK hP 0 rfl rfl 0 (by decide) (hts (.fieldLink RX11 7 "FallingWordsModel" "s" "[I") (by decide +kernel)) (fun _ h9 => h9) rfl dX11_chooses_23 ?_
            refine lv_iconst (v := nI 1) hx hb dX11_chooses_26 (by decide +kernel) ?_
            refine xa_ld (v := nI (S 1)) hx hb hK hP 1 rfl (by omega) (by decide) (rfl) dX11_chooses_27 ?_
            refine xc_ge (tgt := 118) hx hb dX11_chooses_28 (by decide) (by omega) (by omega) (fun c28 => ?_) (fun c28 => ?_)
            · refine lv_iinc (v := nI (p + 1)) (lv' := [(3, .int (nI (p + 1))), (0, .ref (B 0)), (1, .int (nI w)), (2, .int (nI (len w))), (4, .int (nI r))]) hx hb dX11_chooses_118 hl (k := 3) rfl (show nI p + Int32.ofInt 1 = nI (p + 1) from nI_add p 1) (by decide) rfl (fun ls hl => ?_)
              refine lv_goto (tgt := 12) hx hb dX11_chooses_121 (by decide) ?_
              exact ih12 (p + 1) x2 y2 (by omega) (Bst_p (by omega) hbst2) (by omega) _ _ _ hP hD hS (lv_sub hl [1, 2, 3, 0] rfl)
            · rcases hbst2 with ⟨rfl, hbN⟩ | ⟨a, b, rfl, rfl, hbY⟩
              · refine lv_aload_n hx hb dX11_chooses_31 rfl (lv_at hl 0 rfl) ?_
                refine va_get (D := D) (ci := 10) (v := .int (-1)) (C := RX11) (T := TX11) (N := 27) hx hb hts hi_X11_chooses_X11 hown hK hP 0 rfl rfl 12 (by decide) (hts (.fieldLink RX11 54 "FallingWordsModel" "chosenRule" "I") (by decide +kernel)) (fun _ h9 => h9) rfl dX11_chooses_32 ?_
                refine xz_lt (tgt := 75) hx hb dX11_chooses_35 (by decide) (fun c35 => ?_) (fun c35 => ?_)
                · refine lv_iconst (v := nI 1) hx hb dX11_chooses_75 (by decide +kernel) ?_
                  refine lv_goto (tgt := 80) hx hb dX11_chooses_76 (by decide) ?_
                  refine lv_istore (lv' := [(5, .int (nI 1)), (0, .ref (B 0)), (1, .int (nI w)), (2, .int (nI (len w))), (3, .int (nI p)), (4, .int (nI r))]) hx hb dX11_chooses_80 hl (by decide) rfl (fun ls hl => ?_)
                  refine lv_iload hx hb dX11_chooses_82 (lv_at hl 0 rfl) ?_
                  refine lv_if_eq (tgt := 112) hx hb dX11_chooses_84 (by decide) (fun c84 => ?_) (fun c84 => ?_)
                  · exact absurd c84 (by decide +kernel)
                  obtain ⟨v1, v2, v3, v4⟩ := hI.2.2 r (by omega)
                  refine lv_aload_n hx hb dX11_chooses_87 rfl (lv_at hl 1 rfl) ?_
                  refine lv_iload hx hb dX11_chooses_88 (lv_at hl 5 rfl) ?_
                  refine ci_V (As := [.int (nI r)]) (rest := []) h0 hK hN hP hD hS hA hl.1 (k_X11_left lY D cA B S WA BG AS TX RW RR FD m1 m2 m3 m4 m5 m6 m7 (-1) y2 m10 m11 m12 m13 m14 m15 m16 m17 m18 m19 r (by omega)) [0, 1, 2, 3, 4, 5, 6, 7, 8] rfl (by decide) (cwV 1 hts gX11_chooses_X11_left rfl rfl rfl (by decide +kernel) ⟨Nat.le_of_ble_eq_true rfl, Nat.le_of_ble_eq_true rfl⟩) (cl_recv (ci := 10) (q := (RX11, TX11, 27)) (q0 := 0) hP hK rfl rfl) rfl rfl (Nat.le_of_ble_eq_true rfl) dX11_chooses_90 ⟨Nat.zero_le _, Nat.zero_le _⟩ (fun rY wY H locs hwY hJ hS => ?_)
                  obtain ⟨e1Y, e2Y⟩ := hwY
                  have e3Y := e1Y.symm
                  clear e1Y
                  subst e3Y
                  have e3Y := e2Y.symm
                  clear e2Y
                  subst e3Y
                  obtain ⟨hP, hD⟩ := hJ rfl
                  have hP : va_P D vwCl (gMo cA B (fN S) WA BG AS TX RW RR FD m1 m2 m3 m4 m5 m6 m7 (-1) y2 m10 m11 m12 m13 m14 m15 m16 m17 m18 m19) H := hP
                  have hD : va_D AY (gMo cA B (fN S) WA BG AS TX RW RR FD m1 m2 m3 m4 m5 m6 m7 (-1) y2 m10 m11 m12 m13 m14 m15 m16 m17 m18 m19) := hD
                  refine lv_iload_n hx hb dX11_chooses_93 rfl (lv_at hl 2 rfl) ?_
                  refine lv_iload_n hx hb dX11_chooses_94 rfl (lv_at hl 4 rfl) ?_
                  refine ci_S (As := [.int (nI (lf S r)), .int (nI w), .int (nI p)]) (rest := []) h0 hK hN hP hD hS hA hl.1 (k_X11_stands lY D cA (lf S r) w p (v1) (hw) (by omega)) [] rfl (by decide) (va_cwS 3 hts gX11_chooses_X11_stands rfl rfl rfl (by decide +kernel) ⟨Nat.le_of_ble_eq_true rfl, Nat.le_of_ble_eq_true rfl⟩) rfl rfl (Nat.le_of_ble_eq_true rfl) dX11_chooses_95 ⟨Nat.zero_le _, Nat.zero_le _⟩ (fun rY wY H locs hwY hJ hS => ?_)
                  obtain ⟨e1Y, e2Y⟩ := hwY
                  have e3Y := e1Y.symm
                  clear e1Y
                  subst e3Y
                  have e3Y := e2Y.symm
                  clear e2Y
                  subst e3Y
                  obtain ⟨hP, hD⟩ := hJ rfl
                  have hP : va_P D vwCl (gMo cA B (fN S) WA BG AS TX RW RR FD m1 m2 m3 m4 m5 m6 m7 (-1) y2 m10 m11 m12 m13 m14 m15 m16 m17 m18 m19) H := hP
                  have hD : va_D AY (gMo cA B (fN S) WA BG AS TX RW RR FD m1 m2 m3 m4 m5 m6 m7 (-1) y2 m10 m11 m12 m13 m14 m15 m16 m17 m18 m19) := hD
                  refine xb_eq (tgt := 112) hx hb dX11_chooses_98 (by decide) (fun c98 => ?_) (fun c98 => ?_)
                  · refine lv_iinc (v := nI (r + 1)) (lv' := [(4, .int (nI (r + 1))), (5, .int (nI 1)), (0, .ref (B 0)), (1, .int (nI w)), (2, .int (nI (len w))), (3, .int (nI p))]) hx hb dX11_chooses_112 hl (k := 5) rfl (show nI r + Int32.ofInt 1 = nI (r + 1) from nI_add r 1) (by decide) rfl (fun ls hl => ?_)
                    refine lv_goto (tgt := 20) hx hb dX11_chooses_115 (by decide) ?_
                    exact ih20 (r + 1) (-1) y2 (by omega) (Or.inl ⟨rfl, BsN_s hbN c98⟩) (by omega) _ _ _ hP hD hS (lv_sub hl [2, 3, 4, 5, 0] rfl)
                  · refine lv_aload_n hx hb dX11_chooses_101 rfl (lv_at hl 1 rfl) ?_
                    refine lv_iload hx hb dX11_chooses_102 (lv_at hl 5 rfl) ?_
                    refine va_put (D := D) (ci := 10) (v := .int (nI r)) (ty := .int) (C := RX11) (T := TX11) (N := 27) hx hb hts hi_X11_chooses_X11 tyX11 tyX11_ok nmX11 hown hK hP hD hS 0 rfl rfl 12 (by decide) (hts (.fieldLink RX11 54 "FallingWordsModel" "chosenRule" "I") (by decide +kernel)) (fun _ h9 => h9) rfl (by decide +kernel) rfl rfl (Nat.le_of_ble_eq_true rfl) dX11_chooses_104 (fun H locs hP hD hS => ?_)
                    have hP : va_P D vwCl (gMo cA B (fN S) WA BG AS TX RW RR FD m1 m2 m3 m4 m5 m6 m7 (nI r) y2 m10 m11 m12 m13 m14 m15 m16 m17 m18 m19) H := hP
                    have hD : va_D AY (gMo cA B (fN S) WA BG AS TX RW RR FD m1 m2 m3 m4 m5 m6 m7 (nI r) y2 m10 m11 m12 m13 m14 m15 m16 m17 m18 m19) := hD
                    refine lv_aload_n hx hb dX11_chooses_107 rfl (lv_at hl 1 rfl) ?_
                    refine lv_iload_n hx hb dX11_chooses_108 rfl (lv_at hl 4 rfl) ?_
                    refine va_put (D := D) (ci := 10) (v := .int (nI p)) (ty := .int) (C := RX11) (T := TX11) (N := 27) hx hb hts hi_X11_chooses_X11 tyX11 tyX11_ok nmX11 hown hK hP hD hS 0 rfl rfl 13 (by decide) (hts (.fieldLink RX11 58 "FallingWordsModel" "chosenPlace" "I") (by decide +kernel)) (fun _ h9 => h9) rfl (by decide +kernel) rfl rfl (Nat.le_of_ble_eq_true rfl) dX11_chooses_109 (fun H locs hP hD hS => ?_)
                    have hP : va_P D vwCl (gMo cA B (fN S) WA BG AS TX RW RR FD m1 m2 m3 m4 m5 m6 m7 (nI r) (nI p) m10 m11 m12 m13 m14 m15 m16 m17 m18 m19) H := hP
                    have hD : va_D AY (gMo cA B (fN S) WA BG AS TX RW RR FD m1 m2 m3 m4 m5 m6 m7 (nI r) (nI p) m10 m11 m12 m13 m14 m15 m16 m17 m18 m19) := hD
                    refine lv_iinc (v := nI (r + 1)) (lv' := [(4, .int (nI (r + 1))), (5, .int (nI 1)), (0, .ref (B 0)), (1, .int (nI w)), (2, .int (nI (len w))), (3, .int (nI p))]) hx hb dX11_chooses_112 hl (k := 5) rfl (show nI r + Int32.ofInt 1 = nI (r + 1) from nI_add r 1) (by decide) rfl (fun ls hl => ?_)
                    refine lv_goto (tgt := 20) hx hb dX11_chooses_115 (by decide) ?_
                    exact ih20 (r + 1) (nI r) (nI p) (by omega) (Or.inr ⟨r, p, rfl, rfl, BsN_t (by omega) (by omega) hbN c98⟩) (by omega) _ _ _ hP hD hS (lv_sub hl [2, 3, 4, 5, 0] rfl)
                · exact absurd c35 (by decide)
              · obtain ⟨y1, y2, y3, y4, y5⟩ := id hbY
                refine lv_aload_n hx hb dX11_chooses_31 rfl (lv_at hl 0 rfl) ?_
                refine va_get (D := D) (ci := 10) (v := .int (nI a)) (C := RX11) (T := TX11) (N := 27) hx hb hts hi_X11_chooses_X11 hown hK hP 0 rfl rfl 12 (by decide) (hts (.fieldLink RX11 54 "FallingWordsModel" "chosenRule" "I") (by decide +kernel)) (fun _ h9 => h9) rfl dX11_chooses_32 ?_
                refine x0_lt (tgt := 75) hx hb dX11_chooses_35 (by decide) (by omega) ?_
                refine lv_aload_n hx hb dX11_chooses_38 rfl (lv_at hl 0 rfl) ?_
                refine va_get (D := D) (ci := 10) (v := .ref (B 1)) (C := RX11) (T := TX11) (N := 27) hx hb hts hi_X11_chooses_X11 hown hK hP 0 rfl rfl 0 (by decide) (hts (.fieldLink RX11 7 "FallingWordsModel" "s" "[I") (by decide +kernel)) (fun _ h9 => h9) rfl dX11_chooses_39 ?_
                refine lv_iconst (v := nI 2) hx hb dX11_chooses_42 (by decide +kernel) ?_
                refine xa_ld (v := nI (S 2)) hx hb hK hP 1 rfl (by omega) (by decide) (rfl) dX11_chooses_43 ?_
                refine lv_iconst (v := nI 1) hx hb dX11_chooses_44 (by decide +kernel) ?_
                refine xc_ne (tgt := 56) hx hb dX11_chooses_45 (by decide) (by omega) (by omega) (fun c45 => ?_) (fun c45 => ?_)
                · refine lv_aload_n hx hb dX11_chooses_56 rfl (lv_at hl 0 rfl) ?_
                  refine va_get (D := D) (ci := 10) (v := .ref (B 1)) (C := RX11) (T := TX11) (N := 27) hx hb hts hi_X11_chooses_X11 hown hK hP 0 rfl rfl 0 (by decide) (hts (.fieldLink RX11 7 "FallingWordsModel" "s" "[I") (by decide +kernel)) (fun _ h9 => h9) rfl dX11_chooses_57 ?_
                  refine lv_iconst (v := nI 2) hx hb dX11_chooses_60 (by decide +kernel) ?_
                  refine xa_ld (v := nI (S 2)) hx hb hK hP 1 rfl (by omega) (by decide) (rfl) dX11_chooses_61 ?_
                  refine lv_iconst (v := nI 2) hx hb dX11_chooses_62 (by decide +kernel) ?_
                  refine xc_ne (tgt := 79) hx hb dX11_chooses_63 (by decide) (by omega) (by omega) (fun c63 => ?_) (fun c63 => ?_)
                  · refine lv_iconst (v := nI 0) hx hb dX11_chooses_79 (by decide +kernel) ?_
                    refine lv_istore (lv' := [(5, .int (nI 0)), (0, .ref (B 0)), (1, .int (nI w)), (2, .int (nI (len w))), (3, .int (nI p)), (4, .int (nI r))]) hx hb dX11_chooses_80 hl (by decide) rfl (fun ls hl => ?_)
                    refine lv_iload hx hb dX11_chooses_82 (lv_at hl 0 rfl) ?_
                    refine lv_if_eq (tgt := 112) hx hb dX11_chooses_84 (by decide) (fun c84 => ?_) (fun c84 => ?_)
                    rotate_left
                    · exact absurd (by decide +kernel) c84
                    refine lv_iinc (v := nI (r + 1)) (lv' := [(4, .int (nI (r + 1))), (5, .int (nI 0)), (0, .ref (B 0)), (1, .int (nI w)), (2, .int (nI (len w))), (3, .int (nI p))]) hx hb dX11_chooses_112 hl (k := 5) rfl (show nI r + Int32.ofInt 1 = nI (r + 1) from nI_add r 1) (by decide) rfl (fun ls hl => ?_)
                    refine lv_goto (tgt := 20) hx hb dX11_chooses_115 (by decide) ?_
                    exact ih20 (r + 1) (nI a) (nI b) (by omega) (Or.inr ⟨a, b, rfl, rfl, BsY_w hI hw (by omega) (by omega) hbY (by omega) (by omega)⟩) (by omega) _ _ _ hP hD hS (lv_sub hl [2, 3, 4, 5, 0] rfl)
                  · refine lv_iload hx hb dX11_chooses_66 (lv_at hl 4 rfl) ?_
                    refine lv_aload_n hx hb dX11_chooses_68 rfl (lv_at hl 0 rfl) ?_
                    refine va_get (D := D) (ci := 10) (v := .int (nI a)) (C := RX11) (T := TX11) (N := 27) hx hb hts hi_X11_chooses_X11 hown hK hP 0 rfl rfl 12 (by decide) (hts (.fieldLink RX11 54 "FallingWordsModel" "chosenRule" "I") (by decide +kernel)) (fun _ h9 => h9) rfl dX11_chooses_69 ?_
                    refine xc_ge (tgt := 79) hx hb dX11_chooses_72 (by decide) (by omega) (by omega) (fun c72 => ?_) (fun c72 => ?_)
                    · refine lv_iconst (v := nI 0) hx hb dX11_chooses_79 (by decide +kernel) ?_
                      refine lv_istore (lv' := [(5, .int (nI 0)), (0, .ref (B 0)), (1, .int (nI w)), (2, .int (nI (len w))), (3, .int (nI p)), (4, .int (nI r))]) hx hb dX11_chooses_80 hl (by decide) rfl (fun ls hl => ?_)
                      refine lv_iload hx hb dX11_chooses_82 (lv_at hl 0 rfl) ?_
                      refine lv_if_eq (tgt := 112) hx hb dX11_chooses_84 (by decide) (fun c84 => ?_) (fun c84 => ?_)
                      rotate_left
                      · exact absurd (by decide +kernel) c84
                      refine lv_iinc (v := nI (r + 1)) (lv' := [(4, .int (nI (r + 1))), (5, .int (nI 0)), (0, .ref (B 0)), (1, .int (nI w)), (2, .int (nI (len w))), (3, .int (nI p))]) hx hb dX11_chooses_112 hl (k := 5) rfl (show nI r + Int32.ofInt 1 = nI (r + 1) from nI_add r 1) (by decide) rfl (fun ls hl => ?_)
                      refine lv_goto (tgt := 20) hx hb dX11_chooses_115 (by decide) ?_
                      exact ih20 (r + 1) (nI a) (nI b) (by omega) (Or.inr ⟨a, b, rfl, rfl, BsY_w hI hw (by omega) (by omega) hbY (by omega) (by omega)⟩) (by omega) _ _ _ hP hD hS (lv_sub hl [2, 3, 4, 5, 0] rfl)
                    · refine lv_iconst (v := nI 1) hx hb dX11_chooses_75 (by decide +kernel) ?_
                      refine lv_goto (tgt := 80) hx hb dX11_chooses_76 (by decide) ?_
                      refine lv_istore (lv' := [(5, .int (nI 1)), (0, .ref (B 0)), (1, .int (nI w)), (2, .int (nI (len w))), (3, .int (nI p)), (4, .int (nI r))]) hx hb dX11_chooses_80 hl (by decide) rfl (fun ls hl => ?_)
                      refine lv_iload hx hb dX11_chooses_82 (lv_at hl 0 rfl) ?_
                      refine lv_if_eq (tgt := 112) hx hb dX11_chooses_84 (by decide) (fun c84 => ?_) (fun c84 => ?_)
                      · exact absurd c84 (by decide +kernel)
                      obtain ⟨v1, v2, v3, v4⟩ := hI.2.2 r (by omega)
                      refine lv_aload_n hx hb dX11_chooses_87 rfl (lv_at hl 1 rfl) ?_
                      refine lv_iload hx hb dX11_chooses_88 (lv_at hl 5 rfl) ?_
                      refine ci_V (As := [.int (nI r)]) (rest := []) h0 hK hN hP hD hS hA hl.1 (k_X11_left lY D cA B S WA BG AS TX RW RR FD m1 m2 m3 m4 m5 m6 m7 (nI a) (nI b) m10 m11 m12 m13 m14 m15 m16 m17 m18 m19 r (by omega)) [0, 1, 2, 3, 4, 5, 6, 7, 8] rfl (by decide) (cwV 1 hts gX11_chooses_X11_left rfl rfl rfl (by decide +kernel) ⟨Nat.le_of_ble_eq_true rfl, Nat.le_of_ble_eq_true rfl⟩) (cl_recv (ci := 10) (q := (RX11, TX11, 27)) (q0 := 0) hP hK rfl rfl) rfl rfl (Nat.le_of_ble_eq_true rfl) dX11_chooses_90 ⟨Nat.zero_le _, Nat.zero_le _⟩ (fun rY wY H locs hwY hJ hS => ?_)
                      obtain ⟨e1Y, e2Y⟩ := hwY
                      have e3Y := e1Y.symm
                      clear e1Y
                      subst e3Y
                      have e3Y := e2Y.symm
                      clear e2Y
                      subst e3Y
                      obtain ⟨hP, hD⟩ := hJ rfl
                      have hP : va_P D vwCl (gMo cA B (fN S) WA BG AS TX RW RR FD m1 m2 m3 m4 m5 m6 m7 (nI a) (nI b) m10 m11 m12 m13 m14 m15 m16 m17 m18 m19) H := hP
                      have hD : va_D AY (gMo cA B (fN S) WA BG AS TX RW RR FD m1 m2 m3 m4 m5 m6 m7 (nI a) (nI b) m10 m11 m12 m13 m14 m15 m16 m17 m18 m19) := hD
                      refine lv_iload_n hx hb dX11_chooses_93 rfl (lv_at hl 2 rfl) ?_
                      refine lv_iload_n hx hb dX11_chooses_94 rfl (lv_at hl 4 rfl) ?_
                      refine ci_S (As := [.int (nI (lf S r)), .int (nI w), .int (nI p)]) (rest := []) h0 hK hN hP hD hS hA hl.1 (k_X11_stands lY D cA (lf S r) w p (v1) (hw) (by omega)) [] rfl (by decide) (va_cwS 3 hts gX11_chooses_X11_stands rfl rfl rfl (by decide +kernel) ⟨Nat.le_of_ble_eq_true rfl, Nat.le_of_ble_eq_true rfl⟩) rfl rfl (Nat.le_of_ble_eq_true rfl) dX11_chooses_95 ⟨Nat.zero_le _, Nat.zero_le _⟩ (fun rY wY H locs hwY hJ hS => ?_)
                      obtain ⟨e1Y, e2Y⟩ := hwY
                      have e3Y := e1Y.symm
                      clear e1Y
                      subst e3Y
                      have e3Y := e2Y.symm
                      clear e2Y
                      subst e3Y
                      obtain ⟨hP, hD⟩ := hJ rfl
                      have hP : va_P D vwCl (gMo cA B (fN S) WA BG AS TX RW RR FD m1 m2 m3 m4 m5 m6 m7 (nI a) (nI b) m10 m11 m12 m13 m14 m15 m16 m17 m18 m19) H := hP
                      have hD : va_D AY (gMo cA B (fN S) WA BG AS TX RW RR FD m1 m2 m3 m4 m5 m6 m7 (nI a) (nI b) m10 m11 m12 m13 m14 m15 m16 m17 m18 m19) := hD
                      refine xb_eq (tgt := 112) hx hb dX11_chooses_98 (by decide) (fun c98 => ?_) (fun c98 => ?_)
                      · refine lv_iinc (v := nI (r + 1)) (lv' := [(4, .int (nI (r + 1))), (5, .int (nI 1)), (0, .ref (B 0)), (1, .int (nI w)), (2, .int (nI (len w))), (3, .int (nI p))]) hx hb dX11_chooses_112 hl (k := 5) rfl (show nI r + Int32.ofInt 1 = nI (r + 1) from nI_add r 1) (by decide) rfl (fun ls hl => ?_)
                        refine lv_goto (tgt := 20) hx hb dX11_chooses_115 (by decide) ?_
                        exact ih20 (r + 1) (nI a) (nI b) (by omega) (Or.inr ⟨a, b, rfl, rfl, BsY_s hbY c98⟩) (by omega) _ _ _ hP hD hS (lv_sub hl [2, 3, 4, 5, 0] rfl)
                      · refine lv_aload_n hx hb dX11_chooses_101 rfl (lv_at hl 1 rfl) ?_
                        refine lv_iload hx hb dX11_chooses_102 (lv_at hl 5 rfl) ?_
                        refine va_put (D := D) (ci := 10) (v := .int (nI r)) (ty := .int) (C := RX11) (T := TX11) (N := 27) hx hb hts hi_X11_chooses_X11 tyX11 tyX11_ok nmX11 hown hK hP hD hS 0 rfl rfl 12 (by decide) (hts (.fieldLink RX11 54 "FallingWordsModel" "chosenRule" "I") (by decide +kernel)) (fun _ h9 => h9) rfl (by decide +kernel) rfl rfl (Nat.le_of_ble_eq_true rfl) dX11_chooses_104 (fun H locs hP hD hS => ?_)
                        have hP : va_P D vwCl (gMo cA B (fN S) WA BG AS TX RW RR FD m1 m2 m3 m4 m5 m6 m7 (nI r) (nI b) m10 m11 m12 m13 m14 m15 m16 m17 m18 m19) H := hP
                        have hD : va_D AY (gMo cA B (fN S) WA BG AS TX RW RR FD m1 m2 m3 m4 m5 m6 m7 (nI r) (nI b) m10 m11 m12 m13 m14 m15 m16 m17 m18 m19) := hD
                        refine lv_aload_n hx hb dX11_chooses_107 rfl (lv_at hl 1 rfl) ?_
                        refine lv_iload_n hx hb dX11_chooses_108 rfl (lv_at hl 4 rfl) ?_
                        refine va_put (D := D) (ci := 10) (v := .int (nI p)) (ty := .int) (C := RX11) (T := TX11) (N := 27) hx hb hts hi_X11_chooses_X11 tyX11 tyX11_ok nmX11 hown hK hP hD hS 0 rfl rfl 13 (by decide) (hts (.fieldLink RX11 58 "FallingWordsModel" "chosenPlace" "I") (by decide +kernel)) (fun _ h9 => h9) rfl (by decide +kernel) rfl rfl (Nat.le_of_ble_eq_true rfl) dX11_chooses_109 (fun H locs hP hD hS => ?_)
                        have hP : va_P D vwCl (gMo cA B (fN S) WA BG AS TX RW RR FD m1 m2 m3 m4 m5 m6 m7 (nI r) (nI p) m10 m11 m12 m13 m14 m15 m16 m17 m18 m19) H := hP
                        have hD : va_D AY (gMo cA B (fN S) WA BG AS TX RW RR FD m1 m2 m3 m4 m5 m6 m7 (nI r) (nI p) m10 m11 m12 m13 m14 m15 m16 m17 m18 m19) := hD
                        refine lv_iinc (v := nI (r + 1)) (lv' := [(4, .int (nI (r + 1))), (5, .int (nI 1)), (0, .ref (B 0)), (1, .int (nI w)), (2, .int (nI (len w))), (3, .int (nI p))]) hx hb dX11_chooses_112 hl (k := 5) rfl (show nI r + Int32.ofInt 1 = nI (r + 1) from nI_add r 1) (by decide) rfl (fun ls hl => ?_)
                        refine lv_goto (tgt := 20) hx hb dX11_chooses_115 (by decide) ?_
                        exact ih20 (r + 1) (nI r) (nI p) (by omega) (Or.inr ⟨r, p, rfl, rfl, BsY_t hI hw (by omega) (by omega) hbY (by omega) c98⟩) (by omega) _ _ _ hP hD hS (lv_sub hl [2, 3, 4, 5, 0] rfl)
                · refine lv_iload_n hx hb dX11_chooses_48 rfl (lv_at hl 3 rfl) ?_
                  refine lv_aload_n hx hb dX11_chooses_49 rfl (lv_at hl 0 rfl) ?_
                  refine va_get (D := D) (ci := 10) (v := .int (nI b)) (C := RX11) (T := TX11) (N := 27) hx hb hts hi_X11_chooses_X11 hown hK hP 0 rfl rfl 13 (by decide) (hts (.fieldLink RX11 58 "FallingWordsModel" "chosenPlace" "I") (by decide +kernel)) (fun _ h9 => h9) rfl dX11_chooses_50 ?_
                  refine xc_gt (tgt := 75) hx hb dX11_chooses_53 (by decide) (by omega) (by omega) (fun c53 => ?_) (fun c53 => ?_)
                  · refine lv_iconst (v := nI 1) hx hb dX11_chooses_75 (by decide +kernel) ?_
                    refine lv_goto (tgt := 80) hx hb dX11_chooses_76 (by decide) ?_
                    refine lv_istore (lv' := [(5, .int (nI 1)), (0, .ref (B 0)), (1, .int (nI w)), (2, .int (nI (len w))), (3, .int (nI p)), (4, .int (nI r))]) hx hb dX11_chooses_80 hl (by decide) rfl (fun ls hl => ?_)
                    refine lv_iload hx hb dX11_chooses_82 (lv_at hl 0 rfl) ?_
                    refine lv_if_eq (tgt := 112) hx hb dX11_chooses_84 (by decide) (fun c84 => ?_) (fun c84 => ?_)
                    · exact absurd c84 (by decide +kernel)
                    obtain ⟨v1, v2, v3, v4⟩ := hI.2.2 r (by omega)
                    refine lv_aload_n hx hb dX11_chooses_87 rfl (lv_at hl 1 rfl) ?_
                    refine lv_iload hx hb dX11_chooses_88 (lv_at hl 5 rfl) ?_
                    refine ci_V (As := [.int (nI r)]) (rest := []) h0 hK hN hP hD hS hA hl.1 (k_X11_left lY D cA B S WA BG AS TX RW RR FD m1 m2 m3 m4 m5 m6 m7 (nI a) (nI b) m10 m11 m12 m13 m14 m15 m16 m17 m18 m19 r (by omega)) [0, 1, 2, 3, 4, 5, 6, 7, 8] rfl (by decide) (cwV 1 hts gX11_chooses_X11_left rfl rfl rfl (by decide +kernel) ⟨Nat.le_of_ble_eq_true rfl, Nat.le_of_ble_eq_true rfl⟩) (cl_recv (ci := 10) (q := (RX11, TX11, 27)) (q0 := 0) hP hK rfl rfl) rfl rfl (Nat.le_of_ble_eq_true rfl) dX11_chooses_90 ⟨Nat.zero_le _, Nat.zero_le _⟩ (fun rY wY H locs hwY hJ hS => ?_)
                    obtain ⟨e1Y, e2Y⟩ := hwY
                    have e3Y := e1Y.symm
                    clear e1Y
                    subst e3Y
                    have e3Y := e2Y.symm
                    clear e2Y
                    subst e3Y
                    obtain ⟨hP, hD⟩ := hJ rfl
                    have hP : va_P D vwCl (gMo cA B (fN S) WA BG AS TX RW RR FD m1 m2 m3 m4 m5 m6 m7 (nI a) (nI b) m10 m11 m12 m13 m14 m15 m16 m17 m18 m19) H := hP
                    have hD : va_D AY (gMo cA B (fN S) WA BG AS TX RW RR FD m1 m2 m3 m4 m5 m6 m7 (nI a) (nI b) m10 m11 m12 m13 m14 m15 m16 m17 m18 m19) := hD
                    refine lv_iload_n hx hb dX11_chooses_93 rfl (lv_at hl 2 rfl) ?_
                    refine lv_iload_n hx hb dX11_chooses_94 rfl (lv_at hl 4 rfl) ?_
                    refine ci_S (As := [.int (nI (lf S r)), .int (nI w), .int (nI p)]) (rest := []) h0 hK hN hP hD hS hA hl.1 (k_X11_stands lY D cA (lf S r) w p (v1) (hw) (by omega)) [] rfl (by decide) (va_cwS 3 hts gX11_chooses_X11_stands rfl rfl rfl (by decide +kernel) ⟨Nat.le_of_ble_eq_true rfl, Nat.le_of_ble_eq_true rfl⟩) rfl rfl (Nat.le_of_ble_eq_true rfl) dX11_chooses_95 ⟨Nat.zero_le _, Nat.zero_le _⟩ (fun rY wY H locs hwY hJ hS => ?_)
                    obtain ⟨e1Y, e2Y⟩ := hwY
                    have e3Y := e1Y.symm
                    clear e1Y
                    subst e3Y
                    have e3Y := e2Y.symm
                    clear e2Y
                    subst e3Y
                    obtain ⟨hP, hD⟩ := hJ rfl
                    have hP : va_P D vwCl (gMo cA B (fN S) WA BG AS TX RW RR FD m1 m2 m3 m4 m5 m6 m7 (nI a) (nI b) m10 m11 m12 m13 m14 m15 m16 m17 m18 m19) H := hP
                    have hD : va_D AY (gMo cA B (fN S) WA BG AS TX RW RR FD m1 m2 m3 m4 m5 m6 m7 (nI a) (nI b) m10 m11 m12 m13 m14 m15 m16 m17 m18 m19) := hD
                    refine xb_eq (tgt := 112) hx hb dX11_chooses_98 (by decide) (fun c98 => ?_) (fun c98 => ?_)
                    · refine lv_iinc (v := nI (r + 1)) (lv' := [(4, .int (nI (r + 1))), (5, .int (nI 1)), (0, .ref (B 0)), (1, .int (nI w)), (2, .int (nI (len w))), (3, .int (nI p))]) hx hb dX11_chooses_112 hl (k := 5) rfl (show nI r + Int32.ofInt 1 = nI (r + 1) from nI_add r 1) (by decide) rfl (fun ls hl => ?_)
                      refine lv_goto (tgt := 20) hx hb dX11_chooses_115 (by decide) ?_
                      exact ih20 (r + 1) (nI a) (nI b) (by omega) (Or.inr ⟨a, b, rfl, rfl, BsY_s hbY c98⟩) (by omega) _ _ _ hP hD hS (lv_sub hl [2, 3, 4, 5, 0] rfl)
                    · refine lv_aload_n hx hb dX11_chooses_101 rfl (lv_at hl 1 rfl) ?_
                      refine lv_iload hx hb dX11_chooses_102 (lv_at hl 5 rfl) ?_
                      refine va_put (D := D) (ci := 10) (v := .int (nI r)) (ty := .int) (C := RX11) (T := TX11) (N := 27) hx hb hts hi_X11_chooses_X11 tyX11 tyX11_ok nmX11 hown hK hP hD hS 0 rfl rfl 12 (by decide) (hts (.fieldLink RX11 54 "FallingWordsModel" "chosenRule" "I") (by decide +kernel)) (fun _ h9 => h9) rfl (by decide +kernel) rfl rfl (Nat.le_of_ble_eq_true rfl) dX11_chooses_104 (fun H locs hP hD hS => ?_)
                      have hP : va_P D vwCl (gMo cA B (fN S) WA BG AS TX RW RR FD m1 m2 m3 m4 m5 m6 m7 (nI r) (nI b) m10 m11 m12 m13 m14 m15 m16 m17 m18 m19) H := hP
                      have hD : va_D AY (gMo cA B (fN S) WA BG AS TX RW RR FD m1 m2 m3 m4 m5 m6 m7 (nI r) (nI b) m10 m11 m12 m13 m14 m15 m16 m17 m18 m19) := hD
                      refine lv_aload_n hx hb dX11_chooses_107 rfl (lv_at hl 1 rfl) ?_
                      refine lv_iload_n hx hb dX11_chooses_108 rfl (lv_at hl 4 rfl) ?_
                      refine va_put (D := D) (ci := 10) (v := .int (nI p)) (ty := .int) (C := RX11) (T := TX11) (N := 27) hx hb hts hi_X11_chooses_X11 tyX11 tyX11_ok nmX11 hown hK hP hD hS 0 rfl rfl 13 (by decide) (hts (.fieldLink RX11 58 "FallingWordsModel" "chosenPlace" "I") (by decide +kernel)) (fun _ h9 => h9) rfl (by decide +kernel) rfl rfl (Nat.le_of_ble_eq_true rfl) dX11_chooses_109 (fun H locs hP hD hS => ?_)
                      have hP : va_P D vwCl (gMo cA B (fN S) WA BG AS TX RW RR FD m1 m2 m3 m4 m5 m6 m7 (nI r) (nI p) m10 m11 m12 m13 m14 m15 m16 m17 m18 m19) H := hP
                      have hD : va_D AY (gMo cA B (fN S) WA BG AS TX RW RR FD m1 m2 m3 m4 m5 m6 m7 (nI r) (nI p) m10 m11 m12 m13 m14 m15 m16 m17 m18 m19) := hD
                      refine lv_iinc (v := nI (r + 1)) (lv' := [(4, .int (nI (r + 1))), (5, .int (nI 1)), (0, .ref (B 0)), (1, .int (nI w)), (2, .int (nI (len w))), (3, .int (nI p))]) hx hb dX11_chooses_112 hl (k := 5) rfl (show nI r + Int32.ofInt 1 = nI (r + 1) from nI_add r 1) (by decide) rfl (fun ls hl => ?_)
                      refine lv_goto (tgt := 20) hx hb dX11_chooses_115 (by decide) ?_
                      exact ih20 (r + 1) (nI r) (nI p) (by omega) (Or.inr ⟨r, p, rfl, rfl, BsY_t hI hw (by omega) (by omega) hbY (by omega) c98⟩) (by omega) _ _ _ hP hD hS (lv_sub hl [2, 3, 4, 5, 0] rfl)
                  · refine lv_aload_n hx hb dX11_chooses_56 rfl (lv_at hl 0 rfl) ?_
                    refine va_get (D := D) (ci := 10) (v := .ref (B 1)) (C := RX11) (T := TX11) (N := 27) hx hb hts hi_X11_chooses_X11 hown hK hP 0 rfl rfl 0 (by decide) (hts (.fieldLink RX11 7 "FallingWordsModel" "s" "[I") (by decide +kernel)) (fun _ h9 => h9) rfl dX11_chooses_57 ?_
                    refine lv_iconst (v := nI 2) hx hb dX11_chooses_60 (by decide +kernel) ?_
                    refine xa_ld (v := nI (S 2)) hx hb hK hP 1 rfl (by omega) (by decide) (rfl) dX11_chooses_61 ?_
                    refine lv_iconst (v := nI 2) hx hb dX11_chooses_62 (by decide +kernel) ?_
                    refine xc_ne (tgt := 79) hx hb dX11_chooses_63 (by decide) (by omega) (by omega) (fun c63 => ?_) (fun c63 => ?_)
                    · refine lv_iconst (v := nI 0) hx hb dX11_chooses_79 (by decide +kernel) ?_
                      refine lv_istore (lv' := [(5, .int (nI 0)), (0, .ref (B 0)), (1, .int (nI w)), (2, .int (nI (len w))), (3, .int (nI p)), (4, .int (nI r))]) hx hb dX11_chooses_80 hl (by decide) rfl (fun ls hl => ?_)
                      refine lv_iload hx hb dX11_chooses_82 (lv_at hl 0 rfl) ?_
                      refine lv_if_eq (tgt := 112) hx hb dX11_chooses_84 (by decide) (fun c84 => ?_) (fun c84 => ?_)
                      rotate_left
                      · exact absurd (by decide +kernel) c84
                      refine lv_iinc (v := nI (r + 1)) (lv' := [(4, .int (nI (r + 1))), (5, .int (nI 0)), (0, .ref (B 0)), (1, .int (nI w)), (2, .int (nI (len w))), (3, .int (nI p))]) hx hb dX11_chooses_112 hl (k := 5) rfl (show nI r + Int32.ofInt 1 = nI (r + 1) from nI_add r 1) (by decide) rfl (fun ls hl => ?_)
                      refine lv_goto (tgt := 20) hx hb dX11_chooses_115 (by decide) ?_
                      exact ih20 (r + 1) (nI a) (nI b) (by omega) (Or.inr ⟨a, b, rfl, rfl, BsY_w hI hw (by omega) (by omega) hbY (by omega) (by omega)⟩) (by omega) _ _ _ hP hD hS (lv_sub hl [2, 3, 4, 5, 0] rfl)
                    · refine lv_iload hx hb dX11_chooses_66 (lv_at hl 4 rfl) ?_
                      refine lv_aload_n hx hb dX11_chooses_68 rfl (lv_at hl 0 rfl) ?_
                      refine va_get (D := D) (ci := 10) (v := .int (nI a)) (C := RX11) (T := TX11) (N := 27) hx hb hts hi_X11_chooses_X11 hown hK hP 0 rfl rfl 12 (by decide) (hts (.fieldLink RX11 54 "FallingWordsModel" "chosenRule" "I") (by decide +kernel)) (fun _ h9 => h9) rfl dX11_chooses_69 ?_
                      refine xc_ge (tgt := 79) hx hb dX11_chooses_72 (by decide) (by omega) (by omega) (fun c72 => ?_) (fun c72 => ?_)
                      · refine lv_iconst (v := nI 0) hx hb dX11_chooses_79 (by decide +kernel) ?_
                        refine lv_istore (lv' := [(5, .int (nI 0)), (0, .ref (B 0)), (1, .int (nI w)), (2, .int (nI (len w))), (3, .int (nI p)), (4, .int (nI r))]) hx hb dX11_chooses_80 hl (by decide) rfl (fun ls hl => ?_)
                        refine lv_iload hx hb dX11_chooses_82 (lv_at hl 0 rfl) ?_
                        refine lv_if_eq (tgt := 112) hx hb dX11_chooses_84 (by decide) (fun c84 => ?_) (fun c84 => ?_)
                        rotate_left
                        · exact absurd (by decide +kernel) c84
                        refine lv_iinc (v := nI (r + 1)) (lv' := [(4, .int (nI (r + 1))), (5, .int (nI 0)), (0, .ref (B 0)), (1, .int (nI w)), (2, .int (nI (len w))), (3, .int (nI p))]) hx hb dX11_chooses_112 hl (k := 5) rfl (show nI r + Int32.ofInt 1 = nI (r + 1) from nI_add r 1) (by decide) rfl (fun ls hl => ?_)
                        refine lv_goto (tgt := 20) hx hb dX11_chooses_115 (by decide) ?_
                        exact ih20 (r + 1) (nI a) (nI b) (by omega) (Or.inr ⟨a, b, rfl, rfl, BsY_w hI hw (by omega) (by omega) hbY (by omega) (by omega)⟩) (by omega) _ _ _ hP hD hS (lv_sub hl [2, 3, 4, 5, 0] rfl)
                      · refine lv_iconst (v := nI 1) hx hb dX11_chooses_75 (by decide +kernel) ?_
                        refine lv_goto (tgt := 80) hx hb dX11_chooses_76 (by decide) ?_
                        refine lv_istore (lv' := [(5, .int (nI 1)), (0, .ref (B 0)), (1, .int (nI w)), (2, .int (nI (len w))), (3, .int (nI p)), (4, .int (nI r))]) hx hb dX11_chooses_80 hl (by decide) rfl (fun ls hl => ?_)
                        refine lv_iload hx hb dX11_chooses_82 (lv_at hl 0 rfl) ?_
                        refine lv_if_eq (tgt := 112) hx hb dX11_chooses_84 (by decide) (fun c84 => ?_) (fun c84 => ?_)
                        · exact absurd c84 (by decide +kernel)
                        obtain ⟨v1, v2, v3, v4⟩ := hI.2.2 r (by omega)
                        refine lv_aload_n hx hb dX11_chooses_87 rfl (lv_at hl 1 rfl) ?_
                        refine lv_iload hx hb dX11_chooses_88 (lv_at hl 5 rfl) ?_
                        refine ci_V (As := [.int (nI r)]) (rest := []) h0 hK hN hP hD hS hA hl.1 (k_X11_left lY D cA B S WA BG AS TX RW RR FD m1 m2 m3 m4 m5 m6 m7 (nI a) (nI b) m10 m11 m12 m13 m14 m15 m16 m17 m18 m19 r (by omega)) [0, 1, 2, 3, 4, 5, 6, 7, 8] rfl (by decide) (cwV 1 hts gX11_chooses_X11_left rfl rfl rfl (by decide +kernel) ⟨Nat.le_of_ble_eq_true rfl, Nat.le_of_ble_eq_true rfl⟩) (cl_recv (ci := 10) (q := (RX11, TX11, 27)) (q0 := 0) hP hK rfl rfl) rfl rfl (Nat.le_of_ble_eq_true rfl) dX11_chooses_90 ⟨Nat.zero_le _, Nat.zero_le _⟩ (fun rY wY H locs hwY hJ hS => ?_)
                        obtain ⟨e1Y, e2Y⟩ := hwY
                        have e3Y := e1Y.symm
                        clear e1Y
                        subst e3Y
                        have e3Y := e2Y.symm
                        clear e2Y
                        subst e3Y
                        obtain ⟨hP, hD⟩ := hJ rfl
                        have hP : va_P D vwCl (gMo cA B (fN S) WA BG AS TX RW RR FD m1 m2 m3 m4 m5 m6 m7 (nI a) (nI b) m10 m11 m12 m13 m14 m15 m16 m17 m18 m19) H := hP
                        have hD : va_D AY (gMo cA B (fN S) WA BG AS TX RW RR FD m1 m2 m3 m4 m5 m6 m7 (nI a) (nI b) m10 m11 m12 m13 m14 m15 m16 m17 m18 m19) := hD
                        refine lv_iload_n hx hb dX11_chooses_93 rfl (lv_at hl 2 rfl) ?_
                        refine lv_iload_n hx hb dX11_chooses_94 rfl (lv_at hl 4 rfl) ?_
                        refine ci_S (As := [.int (nI (lf S r)), .int (nI w), .int (nI p)]) (rest := []) h0 hK hN hP hD hS hA hl.1 (k_X11_stands lY D cA (lf S r) w p (v1) (hw) (by omega)) [] rfl (by decide) (va_cwS 3 hts gX11_chooses_X11_stands rfl rfl rfl (by decide +kernel) ⟨Nat.le_of_ble_eq_true rfl, Nat.le_of_ble_eq_true rfl⟩) rfl rfl (Nat.le_of_ble_eq_true rfl) dX11_chooses_95 ⟨Nat.zero_le _, Nat.zero_le _⟩ (fun rY wY H locs hwY hJ hS => ?_)
                        obtain ⟨e1Y, e2Y⟩ := hwY
                        have e3Y := e1Y.symm
                        clear e1Y
                        subst e3Y
                        have e3Y := e2Y.symm
                        clear e2Y
                        subst e3Y
                        obtain ⟨hP, hD⟩ := hJ rfl
                        have hP : va_P D vwCl (gMo cA B (fN S) WA BG AS TX RW RR FD m1 m2 m3 m4 m5 m6 m7 (nI a) (nI b) m10 m11 m12 m13 m14 m15 m16 m17 m18 m19) H := hP
                        have hD : va_D AY (gMo cA B (fN S) WA BG AS TX RW RR FD m1 m2 m3 m4 m5 m6 m7 (nI a) (nI b) m10 m11 m12 m13 m14 m15 m16 m17 m18 m19) := hD
                        refine xb_eq (tgt := 112) hx hb dX11_chooses_98 (by decide) (fun c98 => ?_) (fun c98 => ?_)
                        · refine lv_iinc (v := nI (r + 1)) (lv' := [(4, .int (nI (r + 1))), (5, .int (nI 1)), (0, .ref (B 0)), (1, .int (nI w)), (2, .int (nI (len w))), (3, .int (nI p))]) hx hb dX11_chooses_112 hl (k := 5) rfl (show nI r + Int32.ofInt 1 = nI (r + 1) from nI_add r 1) (by decide) rfl (fun ls hl => ?_)
                          refine lv_goto (tgt := 20) hx hb dX11_chooses_115 (by decide) ?_
                          exact ih20 (r + 1) (nI a) (nI b) (by omega) (Or.inr ⟨a, b, rfl, rfl, BsY_s hbY c98⟩) (by omega) _ _ _ hP hD hS (lv_sub hl [2, 3, 4, 5, 0] rfl)
                        · refine lv_aload_n hx hb dX11_chooses_101 rfl (lv_at hl 1 rfl) ?_
                          refine lv_iload hx hb dX11_chooses_102 (lv_at hl 5 rfl) ?_
                          refine va_put (D := D) (ci := 10) (v := .int (nI r)) (ty := .int) (C := RX11) (T := TX11) (N := 27) hx hb hts hi_X11_chooses_X11 tyX11 tyX11_ok nmX11 hown hK hP hD hS 0 rfl rfl 12 (by decide) (hts (.fieldLink RX11 54 "FallingWordsModel" "chosenRule" "I") (by decide +kernel)) (fun _ h9 => h9) rfl (by decide +kernel) rfl rfl (Nat.le_of_ble_eq_true rfl) dX11_chooses_104 (fun H locs hP hD hS => ?_)
                          have hP : va_P D vwCl (gMo cA B (fN S) WA BG AS TX RW RR FD m1 m2 m3 m4 m5 m6 m7 (nI r) (nI b) m10 m11 m12 m13 m14 m15 m16 m17 m18 m19) H := hP
                          have hD : va_D AY (gMo cA B (fN S) WA BG AS TX RW RR FD m1 m2 m3 m4 m5 m6 m7 (nI r) (nI b) m10 m11 m12 m13 m14 m15 m16 m17 m18 m19) := hD
                          refine lv_aload_n hx hb dX11_chooses_107 rfl (lv_at hl 1 rfl) ?_
                          refine lv_iload_n hx hb dX11_chooses_108 rfl (lv_at hl 4 rfl) ?_
                          refine va_put (D := D) (ci := 10) (v := .int (nI p)) (ty := .int) (C := RX11) (T := TX11) (N := 27) hx hb hts hi_X11_chooses_X11 tyX11 tyX11_ok nmX11 hown hK hP hD hS 0 rfl rfl 13 (by decide) (hts (.fieldLink RX11 58 "FallingWordsModel" "chosenPlace" "I") (by decide +kernel)) (fun _ h9 => h9) rfl (by decide +kernel) rfl rfl (Nat.le_of_ble_eq_true rfl) dX11_chooses_109 (fun H locs hP hD hS => ?_)
                          have hP : va_P D vwCl (gMo cA B (fN S) WA BG AS TX RW RR FD m1 m2 m3 m4 m5 m6 m7 (nI r) (nI p) m10 m11 m12 m13 m14 m15 m16 m17 m18 m19) H := hP
                          have hD : va_D AY (gMo cA B (fN S) WA BG AS TX RW RR FD m1 m2 m3 m4 m5 m6 m7 (nI r) (nI p) m10 m11 m12 m13 m14 m15 m16 m17 m18 m19) := hD
                          refine lv_iinc (v := nI (r + 1)) (lv' := [(4, .int (nI (r + 1))), (5, .int (nI 1)), (0, .ref (B 0)), (1, .int (nI w)), (2, .int (nI (len w))), (3, .int (nI p))]) hx hb dX11_chooses_112 hl (k := 5) rfl (show nI r + Int32.ofInt 1 = nI (r + 1) from nI_add r 1) (by decide) rfl (fun ls hl => ?_)
                          refine lv_goto (tgt := 20) hx hb dX11_chooses_115 (by decide) ?_
                          exact ih20 (r + 1) (nI r) (nI p) (by omega) (Or.inr ⟨r, p, rfl, rfl, BsY_t hI hw (by omega) (by omega) hbY (by omega) c98⟩) (by omega) _ _ _ hP hD hS (lv_sub hl [2, 3, 4, 5, 0] rfl)
        exact L20 _ 0 x y (by omega) (hbst) (Nat.lt_succ_self _) _ _ _ hP hD hS (lv_sub hl [1, 2, 3, 4, 0] rfl)
  exact L12 _ 0 (-1) m9 (by omega) (Or.inl ⟨rfl, BsN_0⟩) (Nat.lt_succ_self _) _ _ _ hP hD hS (lv_sub hl [2, 3, 1, 0] rfl)
