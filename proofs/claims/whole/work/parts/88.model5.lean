/-! the reference: what is reached -/
def rFd (a : Acc) (FD : Nat → Int32) : Prop := a.2 ≤ 401 ∧ ∀ i, i < a.2 → FD i = nI (a.1 i) ∧ vw 12 (a.1 i)
theorem addR_seen {a : Acc} {w j : Nat} (hj : j < a.2) (h : a.1 j = w) : addR a w = a := by
  unfold addR
  by_cases e : 401 ≤ a.2
  · rw [if_pos e]
  · rw [if_neg e, if_pos (seen_t hj h)]
theorem addR_new {a : Acc} {w : Nat} (h4 : a.2 < 401) (h : ∀ i, i < a.2 → a.1 i ≠ w) : addR a w = (upN a.1 a.2 w, a.2 + 1) := by
  unfold addR
  rw [if_neg (by omega), if_neg (by rw [seen_f h]; decide)]
theorem rFd_new {a : Acc} {w : Nat} {FD : Nat → Int32} (h : rFd a FD) (h4 : a.2 < 401) (hw : vw 12 w) : rFd (upN a.1 a.2 w, a.2 + 1) (upd FD a.2 (nI w)) := by
  refine ⟨by show a.2 + 1 ≤ 401; omega, fun i hi => ?_⟩
  have hi2 : i < a.2 + 1 := hi
  show upd FD a.2 (nI w) i = nI (upN a.1 a.2 w i) ∧ vw 12 (upN a.1 a.2 w i)
  rcases Nat.lt_or_ge i a.2 with q | q
  · rw [pk_un (by omega), upN_n (by omega)]
    exact h.2 i q
  · rw [show i = a.2 by omega, pk_us, upN_s]
    exact ⟨rfl, hw⟩
theorem addR_full {a : Acc} {w : Nat} (h : 401 ≤ a.2) : addR a w = a := if_pos h
theorem gR_stop {S : St} {w p r : Nat} {a : Acc} (h : 401 ≤ (gR S w p a r).2) : ∀ d, gR S w p a (r + d) = gR S w p a r
  | 0 => rfl
  | d + 1 => by
    have ih := gR_stop (S := S) (w := w) (p := p) (a := a) (r := r) h d
    show (if stn (lf S (r + d)) w p then addR (gR S w p a (r + d)) _ else gR S w p a (r + d)) = _
    rw [ih]
    by_cases e : stn (lf S (r + d)) w p = true
    · rw [if_pos e, addR_full h]
    · rw [if_neg e]
theorem gR_end {S : St} {w p r n : Nat} {a : Acc} (h : 401 ≤ (gR S w p a r).2) (hr : r ≤ n) : gR S w p a n = gR S w p a r := by
  have := gR_stop h (n - r)
  rwa [show r + (n - r) = n by omega] at this
noncomputable def eN (S : St) (f : Nat → Nat) (z : Bool) (i : Nat) : Nat := bif z then (enF S f i).2.2 else (enF S f i).2.1
noncomputable def eV (S : St) (f : Nat → Nat) (z : Bool) (i : Nat) : Int32 := if (enF S f i).1 = 0 then (-1) else nI (eN S f z i)
theorem enF_t {S : St} {f : Nat → Nat} {i : Nat} (h : nrm S (f i) = true) : enF S f (i + 1) = ((enF S f i).1 + 1, if (enF S f i).1 = 0 then f i else min (enF S f i).2.1 (f i), if (enF S f i).1 = 0 then f i else max (enF S f i).2.2 (f i)) := if_pos h
theorem enF_f {S : St} {f : Nat → Nat} {i : Nat} (h : nrm S (f i) = false) : enF S f (i + 1) = enF S f i := if_neg (by rw [h]; decide)
theorem eV_k {S : St} {f : Nat → Nat} {z : Bool} {i : Nat} (h : nrm S (f i) = false) : eV S f z (i + 1) = eV S f z i := by unfold eV eN; rw [enF_f h]
theorem eV_n0 {S : St} {f : Nat → Nat} {z : Bool} {i : Nat} (h : nrm S (f i) = true) (h0 : (enF S f i).1 = 0) : eV S f z (i + 1) = nI (f i) := by
  unfold eV eN
  rw [enF_t h, if_neg (Nat.succ_ne_zero _)]
  cases z with
  | true => show nI (if (enF S f i).1 = 0 then f i else _) = _; rw [if_pos h0]
  | false => show nI (if (enF S f i).1 = 0 then f i else _) = _; rw [if_pos h0]
theorem eV_gt {S : St} {f : Nat → Nat} {z : Bool} {i : Nat} (h : nrm S (f i) = true) (h0 : (enF S f i).1 ≠ 0) (hc : (z = true ∧ eN S f z i < f i) ∨ (z = false ∧ f i < eN S f z i)) : eV S f z (i + 1) = nI (f i) := by
  unfold eV eN
  rw [enF_t h, if_neg (Nat.succ_ne_zero _)]
  rcases hc with ⟨rfl, hc⟩ | ⟨rfl, hc⟩
  · show nI (if (enF S f i).1 = 0 then f i else max (enF S f i).2.2 (f i)) = _
    have hc : (enF S f i).2.2 < f i := hc
    rw [if_neg h0, Nat.max_eq_right (by omega)]
  · show nI (if (enF S f i).1 = 0 then f i else min (enF S f i).2.1 (f i)) = _
    have hc : f i < (enF S f i).2.1 := hc
    rw [if_neg h0, Nat.min_eq_right (by omega)]
theorem eV_le {S : St} {f : Nat → Nat} {z : Bool} {i : Nat} (h0 : (enF S f i).1 ≠ 0) (hc : (z = true ∧ f i ≤ eN S f z i) ∨ (z = false ∧ eN S f z i ≤ f i)) : eV S f z (i + 1) = nI (eN S f z i) := by
  cases hn : nrm S (f i) with
  | false => rw [eV_k hn]; exact if_neg h0
  | true =>
    unfold eV eN
    rw [enF_t hn, if_neg (Nat.succ_ne_zero _)]
    rcases hc with ⟨rfl, hc⟩ | ⟨rfl, hc⟩
    · show nI (if (enF S f i).1 = 0 then f i else max (enF S f i).2.2 (f i)) = nI (enF S f i).2.2
      have hc : f i ≤ (enF S f i).2.2 := hc
      rw [if_neg h0, Nat.max_eq_left hc]
    · show nI (if (enF S f i).1 = 0 then f i else min (enF S f i).2.1 (f i)) = nI (enF S f i).2.1
      have hc : (enF S f i).2.1 ≤ f i := hc
      rw [if_neg h0, Nat.min_eq_left hc]
theorem eN_vw {S : St} {f : Nat → Nat} {z : Bool} {k : Nat} (h : ∀ j, j < k → vw 12 (f j)) (h0 : (enF S f k).1 ≠ 0) : vw 12 (eN S f z k) := by
  obtain ⟨a, b⟩ := enF_vw (S := S) (f := f) k h (by omega)
  cases z with
  | true => exact b
  | false => exact a

theorem hi_X11_reaches_X11 : ∀ w ∈ u_ws RX11 TX11 27, w ∈ wsX11_reaches := by decide +kernel
set_option maxHeartbeats 1000000 in
set_option maxRecDepth 100000 in
theorem k_X11_reaches (lY : Launch) (D : va_G) (cA : Nat → ClassId) (B : Nat → Nat) (S : St) (WA BG AS TX RW RR FD : Nat → Int32) (m1 m2 m3 m4 m5 m6 m7 m8 m9 m10 m11 m13 m14 m15 m16 m17 m18 m19 : Int32) (a : Acc) (w : Nat) (hf : rFd a FD) (h4 : a.2 ≤ 400) (hw : vw 12 w) : MetV lY D cA yX11_reaches wsX11_reaches 0 0 0 0 [.ref (B 0), .int (nI w)] (gMo cA B (fN S) WA BG AS TX RW RR FD m1 m2 m3 m4 m5 m6 m7 m8 m9 m10 m11 (nI a.2) m13 m14 m15 m16 m17 m18 m19) (fun wY => ∃ (FD' : Nat → Int32), wY = gMo cA B (fN S) WA BG AS TX RW RR FD' m1 m2 m3 m4 m5 m6 m7 m8 m9 m10 m11 (nI ((addR a w).2)) m13 m14 m15 m16 m17 m18 m19 ∧ (rFd (addR a w) FD')) := by
  refine MetV.of (cc := cX11_reaches) (maxL := 4) (by decide) rfl (Nat.le_of_ble_eq_true rfl) ?_
  intro pY eY sY mY aY bY tY cY QY AY ls h0 hP hK hN hD hA hS hl hin hret
  obtain ⟨hx, hb, hml, hown, hts⟩ := id h0
  have hl : lv_has ls 4 [(0, .ref (B 0)), (1, .int (nI w))] := hl
  have hP : va_P D vwCl (gMo cA B (fN S) WA BG AS TX RW RR FD m1 m2 m3 m4 m5 m6 m7 m8 m9 m10 m11 (nI a.2) m13 m14 m15 m16 m17 m18 m19) sY.heap := hP
  have hD : va_D AY (gMo cA B (fN S) WA BG AS TX RW RR FD m1 m2 m3 m4 m5 m6 m7 m8 m9 m10 m11 (nI a.2) m13 m14 m15 m16 m17 m18 m19) := hD
  have hB := vw_B hw (by decide)
  refine lv_iconst (v := nI 0) hx hb dX11_reaches_0 (by decide +kernel) ?_
  refine lv_istore_n (lv' := [(2, .int (nI 0)), (0, .ref (B 0)), (1, .int (nI w))]) hx hb dX11_reaches_1 rfl hl (by decide) rfl (fun ls hl => ?_)
  refine lv_iconst (v := nI 0) hx hb dX11_reaches_2 (by decide +kernel) ?_
  refine lv_istore_n (lv' := [(3, .int (nI 0)), (2, .int (nI 0)), (0, .ref (B 0)), (1, .int (nI w))]) hx hb dX11_reaches_3 rfl hl (by decide) rfl (fun ls hl => ?_)
  have L4 : ∀ (nY : Nat), ∀ (i : Nat) (z : Bool), (i ≤ a.2) → (z = true → ∃ j, j < a.2 ∧ a.1 j = w) → (z = false → ∀ j, j < i → a.1 j ≠ w) → (a.2 - i < nY) → ∀ (H : Heap) (locs : List Loc) (ls : Array Slot), va_P D vwCl (gMo cA B (fN S) WA BG AS TX RW RR FD m1 m2 m3 m4 m5 m6 m7 m8 m9 m10 m11 (nI a.2) m13 m14 m15 m16 m17 m18 m19) H → va_D AY (gMo cA B (fN S) WA BG AS TX RW RR FD m1 m2 m3 m4 m5 m6 m7 m8 m9 m10 m11 (nI a.2) m13 m14 m15 m16 m17 m18 m19) → va_S AY sY.heap H locs → lv_has ls 4 [(0, .ref (B 0)), (1, .int (nI w)), (2, .int (bI z)), (3, .int (nI i))] → W pY lY eY { frames := 0, cells := 0, slots := 0, locals := 0 } sY mY aY bY tY cY H locs 0 0 QY (F0 mY 4 ls []) := by
    intro nY4
    induction nY4 with
    | zero => intro i z hi hz1 hz2 hm4; exact absurd hm4 (Nat.not_lt_zero _)
    | succ nY4 ih4 =>
      intro i z hi hz1 hz2 hm4 H locs ls hP hD hS hl
      refine lv_iload_n hx hb dX11_reaches_4 rfl (lv_at hl 3 rfl) ?_
      refine lv_aload_n hx hb dX11_reaches_5 rfl (lv_at hl 0 rfl) ?_
      refine va_get (D := D) (ci := 10) (v := .int (nI a.2)) (C := RX11) (T := TX11) (N := 27) hx hb hts hi_X11_reaches_X11 hown hK hP 0 rfl rfl 19 (by decide) (hts (.fieldLink RX11 119 "FallingWordsModel" "many" "I") (by decide +kernel)) (fun _ h9 => h9) rfl dX11_reaches_6 ?_
      refine xc_ge (tgt := 38) hx hb dX11_reaches_9 (by decide) (by omega) (by omega) (fun c9 => ?_) (fun c9 => ?_)
      · refine lv_iload_n hx hb dX11_reaches_38 rfl (lv_at hl 2 rfl) ?_
        refine xb_ne (tgt := 62) hx hb dX11_reaches_39 (by decide) (fun c39 => ?_) (fun c39 => ?_)
        · obtain ⟨j, hj, hjw⟩ := hz1 c39
          have hR := addR_seen hj hjw
          exact hret _ _ _ _ _ dX11_reaches_62 ⟨FD, (by rw [hR]), (by rw [hR]; exact hf)⟩ hP hD hS
        · refine lv_aload_n hx hb dX11_reaches_42 rfl (lv_at hl 0 rfl) ?_
          refine va_get (D := D) (ci := 10) (v := .ref (B 8)) (C := RX11) (T := TX11) (N := 27) hx hb hts hi_X11_reaches_X11 hown hK hP 0 rfl rfl 18 (by decide) (hts (.fieldLink RX11 32 "FallingWordsModel" "found" "[I") (by decide +kernel)) (fun _ h9 => h9) rfl dX11_reaches_43 ?_
          refine lv_aload_n hx hb dX11_reaches_46 rfl (lv_at hl 0 rfl) ?_
          refine va_get (D := D) (ci := 10) (v := .int (nI a.2)) (C := RX11) (T := TX11) (N := 27) hx hb hts hi_X11_reaches_X11 hown hK hP 0 rfl rfl 19 (by decide) (hts (.fieldLink RX11 119 "FallingWordsModel" "many" "I") (by decide +kernel)) (fun _ h9 => h9) rfl dX11_reaches_47 ?_
          refine lv_iload_n hx hb dX11_reaches_50 rfl (lv_at hl 1 rfl) ?_
          refine xa_st hx hb hK hP hD hS 8 rfl (by omega) (by decide) dX11_reaches_51 (fun H locs hP hD hS => ?_)
          have hP : va_P D vwCl (gMo cA B (fN S) WA BG AS TX RW RR (upd FD a.2 (nI w)) m1 m2 m3 m4 m5 m6 m7 m8 m9 m10 m11 (nI a.2) m13 m14 m15 m16 m17 m18 m19) H := hP
          have hD : va_D AY (gMo cA B (fN S) WA BG AS TX RW RR (upd FD a.2 (nI w)) m1 m2 m3 m4 m5 m6 m7 m8 m9 m10 m11 (nI a.2) m13 m14 m15 m16 m17 m18 m19) := hD
          refine lv_aload_n hx hb dX11_reaches_52 rfl (lv_at hl 0 rfl) ?_
          refine lv_dup hx hb dX11_reaches_53 rfl ?_
          refine va_get (D := D) (ci := 10) (v := .int (nI a.2)) (C := RX11) (T := TX11) (N := 27) hx hb hts hi_X11_reaches_X11 hown hK hP 0 rfl rfl 19 (by decide) (hts (.fieldLink RX11 119 "FallingWordsModel" "many" "I") (by decide +kernel)) (fun _ h9 => h9) rfl dX11_reaches_54 ?_
          refine lv_iconst (v := nI 1) hx hb dX11_reaches_57 (by decide +kernel) ?_
          refine lv_iadd hx hb dX11_reaches_58 ?_
          refine xt (show (nI a.2) + (nI 1) = nI (a.2 + 1) from nI_add _ _) ?_
          refine va_put (D := D) (ci := 10) (v := .int (nI (a.2 + 1))) (ty := .int) (C := RX11) (T := TX11) (N := 27) hx hb hts hi_X11_reaches_X11 tyX11 tyX11_ok nmX11 hown hK hP hD hS 0 rfl rfl 19 (by decide) (hts (.fieldLink RX11 119 "FallingWordsModel" "many" "I") (by decide +kernel)) (fun _ h9 => h9) rfl (by decide +kernel) rfl rfl (Nat.le_of_ble_eq_true rfl) dX11_reaches_59 (fun H locs hP hD hS => ?_)
          have hP : va_P D vwCl (gMo cA B (fN S) WA BG AS TX RW RR (upd FD a.2 (nI w)) m1 m2 m3 m4 m5 m6 m7 m8 m9 m10 m11 (nI (a.2 + 1)) m13 m14 m15 m16 m17 m18 m19) H := hP
          have hD : va_D AY (gMo cA B (fN S) WA BG AS TX RW RR (upd FD a.2 (nI w)) m1 m2 m3 m4 m5 m6 m7 m8 m9 m10 m11 (nI (a.2 + 1)) m13 m14 m15 m16 m17 m18 m19) := hD
          have hR := addR_new (a := a) (w := w) (by omega) (fun j hj => hz2 c39 j (by omega))
          exact hret _ _ _ _ _ dX11_reaches_62 ⟨((upd FD a.2 (nI w))), (by rw [hR]), (by rw [hR]; exact rFd_new hf (by omega) hw)⟩ hP hD hS
      · refine lv_iload_n hx hb dX11_reaches_12 rfl (lv_at hl 2 rfl) ?_
        refine xb_ne (tgt := 38) hx hb dX11_reaches_13 (by decide) (fun c13 => ?_) (fun c13 => ?_)
        · refine lv_iload_n hx hb dX11_reaches_38 rfl (lv_at hl 2 rfl) ?_
          refine xb_ne (tgt := 62) hx hb dX11_reaches_39 (by decide) (fun c39 => ?_) (fun c39 => ?_)
          · obtain ⟨j, hj, hjw⟩ := hz1 c39
            have hR := addR_seen hj hjw
            exact hret _ _ _ _ _ dX11_reaches_62 ⟨FD, (by rw [hR]), (by rw [hR]; exact hf)⟩ hP hD hS
          · exact absurd (c13.symm.trans c39) (by decide)
        · obtain ⟨d1, d2⟩ := hf.2 i (by omega)
          have hBi := vw_B d2 (by decide)
          refine lv_aload_n hx hb dX11_reaches_16 rfl (lv_at hl 0 rfl) ?_
          refine va_get (D := D) (ci := 10) (v := .ref (B 8)) (C := RX11) (T := TX11) (N := 27) hx hb hts hi_X11_reaches_X11 hown hK hP 0 rfl rfl 18 (by decide) (hts (.fieldLink RX11 32 "FallingWordsModel" "found" "[I") (by decide +kernel)) (fun _ h9 => h9) rfl dX11_reaches_17 ?_
          refine lv_iload_n hx hb dX11_reaches_20 rfl (lv_at hl 3 rfl) ?_
          refine xa_ld (v := nI (a.1 i)) hx hb hK hP 8 rfl (by omega) (by decide) (d1) dX11_reaches_21 ?_
          refine lv_iload_n hx hb dX11_reaches_22 rfl (lv_at hl 1 rfl) ?_
          refine xc_ne (tgt := 30) hx hb dX11_reaches_23 (by decide) (by omega) (by omega) (fun c23 => ?_) (fun c23 => ?_)
          · refine lv_iconst (v := nI 0) hx hb dX11_reaches_30 (by decide +kernel) ?_
            refine lv_istore_n (lv' := [(2, .int (nI 0)), (0, .ref (B 0)), (1, .int (nI w)), (3, .int (nI i))]) hx hb dX11_reaches_31 rfl hl (by decide) rfl (fun ls hl => ?_)
            refine lv_iinc (v := nI (i + 1)) (lv' := [(3, .int (nI (i + 1))), (2, .int (nI 0)), (0, .ref (B 0)), (1, .int (nI w))]) hx hb dX11_reaches_32 hl (k := 3) rfl (show nI i + Int32.ofInt 1 = nI (i + 1) from nI_add i 1) (by decide) rfl (fun ls hl => ?_)
            refine lv_goto (tgt := 4) hx hb dX11_reaches_35 (by decide) ?_
            exact ih4 (i + 1) false (by omega) (fun h => by cases h) (fun _ => lt_s (hz2 c13) c23) (by omega) _ _ _ hP hD hS (lv_sub hl [2, 3, 1, 0] rfl)
          · refine lv_iconst (v := nI 1) hx hb dX11_reaches_26 (by decide +kernel) ?_
            refine lv_goto (tgt := 31) hx hb dX11_reaches_27 (by decide) ?_
            refine lv_istore_n (lv' := [(2, .int (nI 1)), (0, .ref (B 0)), (1, .int (nI w)), (3, .int (nI i))]) hx hb dX11_reaches_31 rfl hl (by decide) rfl (fun ls hl => ?_)
            refine lv_iinc (v := nI (i + 1)) (lv' := [(3, .int (nI (i + 1))), (2, .int (nI 1)), (0, .ref (B 0)), (1, .int (nI w))]) hx hb dX11_reaches_32 hl (k := 3) rfl (show nI i + Int32.ofInt 1 = nI (i + 1) from nI_add i 1) (by decide) rfl (fun ls hl => ?_)
            refine lv_goto (tgt := 4) hx hb dX11_reaches_35 (by decide) ?_
            exact ih4 (i + 1) true (by omega) (fun _ => ⟨i, by omega, c23⟩) (fun h => by cases h) (by omega) _ _ _ hP hD hS (lv_sub hl [2, 3, 1, 0] rfl)
  exact L4 _ 0 false (by omega) (fun h => by cases h) (fun _ j h => absurd h (Nat.not_lt_zero j)) (Nat.lt_succ_self _) _ _ _ hP hD hS (lv_sub hl [2, 3, 1, 0] rfl)

theorem hi_X11_reachesAll_X11 : ∀ w ∈ u_ws RX11 TX11 27, w ∈ wsX11_reachesAll := by decide +kernel
set_option maxHeartbeats 8000000 in
set_option maxRecDepth 100000 in
theorem k_X11_reachesAll (lY : Launch) (D : va_G) (cA : Nat → ClassId) (B : Nat → Nat) (S : St) (WA BG AS TX RW RR FD : Nat → Int32) (m1 m2 m3 m4 m5 m6 m7 m8 m9 m10 m11 m12 m13 m14 m15 m16 m17 m18 m19 : Int32) (hI : IR S) (hw : vw 12 (S 0)) : MetV lY D cA yX11_reachesAll wsX11_reachesAll 2 48 0 0 [.ref (B 0)] (gMo cA B (fN S) WA BG AS TX RW RR FD m1 m2 m3 m4 m5 m6 m7 m8 m9 m10 m11 m12 m13 m14 m15 m16 m17 m18 m19) (fun wY => ∃ (FD' : Nat → Int32), wY = gMo cA B (fN S) WA BG AS TX RW RR FD' m1 m2 m3 m4 m5 m6 m7 m8 m9 m10 m11 (nI ((bfs S (S 0)).2)) m13 m14 m15 m16 m17 m18 m19 ∧ (rFd (bfs S (S 0)) FD')) := by
  refine MetV.of (cc := cX11_reachesAll) (maxL := 4) (by decide) rfl (Nat.le_of_ble_eq_true rfl) ?_
  intro pY eY sY mY aY bY tY cY QY AY ls h0 hP hK hN hD hA hS hl hin hret
  obtain ⟨hx, hb, hml, hown, hts⟩ := id h0
  have hl : lv_has ls 4 [(0, .ref (B 0))] := hl
  have hP : va_P D vwCl (gMo cA B (fN S) WA BG AS TX RW RR FD m1 m2 m3 m4 m5 m6 m7 m8 m9 m10 m11 m12 m13 m14 m15 m16 m17 m18 m19) sY.heap := hP
  have hD : va_D AY (gMo cA B (fN S) WA BG AS TX RW RR FD m1 m2 m3 m4 m5 m6 m7 m8 m9 m10 m11 m12 m13 m14 m15 m16 m17 m18 m19) := hD
  have h10 := hI.1
  refine lv_aload_n hx hb dX11_reachesAll_0 rfl (lv_at hl 0 rfl) ?_
  refine lv_iconst (v := nI 0) hx hb dX11_reachesAll_1 (by decide +kernel) ?_
  refine va_put (D := D) (ci := 10) (v := .int (nI 0)) (ty := .int) (C := RX11) (T := TX11) (N := 27) hx hb hts hi_X11_reachesAll_X11 tyX11 tyX11_ok nmX11 hown hK hP hD hS 0 rfl rfl 19 (by decide) (hts (.fieldLink RX11 119 "FallingWordsModel" "many" "I") (by decide +kernel)) (fun _ h9 => h9) rfl (by decide +kernel) rfl rfl (Nat.le_of_ble_eq_true rfl) dX11_reachesAll_2 (fun H locs hP hD hS => ?_)
  have hP : va_P D vwCl (gMo cA B (fN S) WA BG AS TX RW RR FD m1 m2 m3 m4 m5 m6 m7 m8 m9 m10 m11 (nI 0) m13 m14 m15 m16 m17 m18 m19) H := hP
  have hD : va_D AY (gMo cA B (fN S) WA BG AS TX RW RR FD m1 m2 m3 m4 m5 m6 m7 m8 m9 m10 m11 (nI 0) m13 m14 m15 m16 m17 m18 m19) := hD
  refine lv_aload_n hx hb dX11_reachesAll_5 rfl (lv_at hl 0 rfl) ?_
  refine lv_aload_n hx hb dX11_reachesAll_6 rfl (lv_at hl 0 rfl) ?_
  refine va_get (D := D) (ci := 10) (v := .ref (B 1)) (C := RX11) (T := TX11) (N := 27) hx hb hts hi_X11_reachesAll_X11 hown hK hP 0 rfl rfl 0 (by decide) (hts (.fieldLink RX11 7 "FallingWordsModel" "s" "[I") (by decide +kernel)) (fun _ h9 => h9) rfl dX11_reachesAll_7 ?_
  refine lv_iconst (v := nI 0) hx hb dX11_reachesAll_10 (by decide +kernel) ?_
  refine xa_ld (v := nI (S 0)) hx hb hK hP 1 rfl (by omega) (by decide) (rfl) dX11_reachesAll_11 ?_
  refine cv_V (As := [.int (nI (S 0))]) (rest := []) h0 hK hN hP hD hS hA hl.1 (k_X11_reaches lY D cA B S WA BG AS TX RW RR FD m1 m2 m3 m4 m5 m6 m7 m8 m9 m10 m11 m13 m14 m15 m16 m17 m18 m19 ((fun _ => 0), 0) (S 0) (⟨Nat.zero_le _, fun i hi => absurd hi (Nat.not_lt_zero i)⟩) (Nat.zero_le _) (hw)) [0, 1, 2, 3, 4, 5, 6, 7, 8] rfl (by decide) (cwV 1 hts gX11_reachesAll_X11_reaches rfl rfl rfl (by decide +kernel) ⟨Nat.le_of_ble_eq_true rfl, Nat.le_of_ble_eq_true rfl⟩) (cl_recv (ci := 10) (q := (RX11, TX11, 27)) (q0 := 0) hP hK rfl rfl) rfl rfl (Nat.le_of_ble_eq_true rfl) dX11_reachesAll_12 ⟨Nat.zero_le _, Nat.zero_le _⟩ (fun wY H locs hwY hJ hS => ?_)
  obtain ⟨FD'_12, e2Y, ff_12⟩ := hwY
  have e3Y := e2Y.symm
  clear e2Y
  subst e3Y
  obtain ⟨hP, hD⟩ := hJ rfl
  have hP : va_P D vwCl (gMo cA B (fN S) WA BG AS TX RW RR FD'_12 m1 m2 m3 m4 m5 m6 m7 m8 m9 m10 m11 (nI ((addR ((fun _ => 0), 0) (S 0)).2)) m13 m14 m15 m16 m17 m18 m19) H := hP
  have hD : va_D AY (gMo cA B (fN S) WA BG AS TX RW RR FD'_12 m1 m2 m3 m4 m5 m6 m7 m8 m9 m10 m11 (nI ((addR ((fun _ => 0), 0) (S 0)).2)) m13 m14 m15 m16 m17 m18 m19) := hD
  have ea : addR ((fun _ => 0), 0) (S 0) = (upN (fun _ => 0) 0 (S 0), 1) := addR_new (by decide) (fun i hi => absurd hi (Nat.not_lt_zero i))
  rw [ea] at hP hD ff_12
  have hP : va_P D vwCl (gMo cA B (fN S) WA BG AS TX RW RR FD'_12 m1 m2 m3 m4 m5 m6 m7 m8 m9 m10 m11 (nI (((upN (fun _ => 0) 0 (S 0), 1) : Acc).2)) m13 m14 m15 m16 m17 m18 m19) H := hP
  have hD : va_D AY (gMo cA B (fN S) WA BG AS TX RW RR FD'_12 m1 m2 m3 m4 m5 m6 m7 m8 m9 m10 m11 (nI (((upN (fun _ => 0) 0 (S 0), 1) : Acc).2)) m13 m14 m15 m16 m17 m18 m19) := hD
  refine lv_iconst (v := nI 0) hx hb dX11_reachesAll_15 (by decide +kernel) ?_
  refine lv_istore_n (lv' := [(1, .int (nI 0)), (0, .ref (B 0))]) hx hb dX11_reachesAll_16 rfl hl (by decide) rfl (fun ls hl => ?_)
  have L17 : ∀ (nY : Nat), ∀ (k : Nat) (a : Acc) (F1 : Nat → Int32), (k ≤ a.2) → (rFd a F1) → (bfF S (402 - k) k a = bfs S (S 0)) → (402 - k < nY) → ∀ (H : Heap) (locs : List Loc) (ls : Array Slot), va_P D vwCl (gMo cA B (fN S) WA BG AS TX RW RR F1 m1 m2 m3 m4 m5 m6 m7 m8 m9 m10 m11 (nI a.2) m13 m14 m15 m16 m17 m18 m19) H → va_D AY (gMo cA B (fN S) WA BG AS TX RW RR F1 m1 m2 m3 m4 m5 m6 m7 m8 m9 m10 m11 (nI a.2) m13 m14 m15 m16 m17 m18 m19) → va_S AY sY.heap H locs → lv_has ls 4 [(0, .ref (B 0)), (1, .int (nI k))] → W pY lY eY { frames := 2, cells := 0, slots := 0, locals := 48 } sY mY aY bY tY cY H locs 0 0 QY (F0 mY 17 ls []) := by
    intro nY17
    induction nY17 with
    | zero => intro k a F1 hk hf hbf hm17; exact absurd hm17 (Nat.not_lt_zero _)
    | succ nY17 ih17 =>
      intro k a F1 hk hf hbf hm17 H locs ls hP hD hS hl
      have hf401 := hf.1
      refine lv_iload_n hx hb dX11_reachesAll_17 rfl (lv_at hl 1 rfl) ?_
      refine lv_aload_n hx hb dX11_reachesAll_18 rfl (lv_at hl 0 rfl) ?_
      refine va_get (D := D) (ci := 10) (v := .int (nI a.2)) (C := RX11) (T := TX11) (N := 27) hx hb hts hi_X11_reachesAll_X11 hown hK hP 0 rfl rfl 19 (by decide) (hts (.fieldLink RX11 119 "FallingWordsModel" "many" "I") (by decide +kernel)) (fun _ h9 => h9) rfl dX11_reachesAll_19 ?_
      refine xc_ge (tgt := 124) hx hb dX11_reachesAll_22 (by decide) (by omega) (by omega) (fun c22 => ?_) (fun c22 => ?_)
      · have hR : bfs S (S 0) = a := by rw [← hbf]; obtain ⟨z, hz⟩ : ∃ z, 402 - k = z + 1 ∨ z + 0 = 0 ∧ 402 - k = 0 := ⟨401 - k, by omega⟩; rcases hz with hz | ⟨-, hz⟩; (rw [hz, bfF, if_neg (fun q => by omega)]); rw [hz, bfF]
        exact hret _ _ _ _ _ dX11_reachesAll_124 ⟨F1, (by rw [hR]), (by rw [hR]; exact hf)⟩ hP hD hS
      · refine lv_aload_n hx hb dX11_reachesAll_25 rfl (lv_at hl 0 rfl) ?_
        refine va_get (D := D) (ci := 10) (v := .int (nI a.2)) (C := RX11) (T := TX11) (N := 27) hx hb hts hi_X11_reachesAll_X11 hown hK hP 0 rfl rfl 19 (by decide) (hts (.fieldLink RX11 119 "FallingWordsModel" "many" "I") (by decide +kernel)) (fun _ h9 => h9) rfl dX11_reachesAll_26 ?_
        refine lv_sipush (v := nI 401) hx hb dX11_reachesAll_29 (by decide +kernel) ?_
        refine xc_ge (tgt := 124) hx hb dX11_reachesAll_32 (by decide) (by omega) (by omega) (fun c32 => ?_) (fun c32 => ?_)
        · have hR : bfs S (S 0) = a := by rw [← hbf]; obtain ⟨z, hz⟩ : ∃ z, 402 - k = z + 1 ∨ z + 0 = 0 ∧ 402 - k = 0 := ⟨401 - k, by omega⟩; rcases hz with hz | ⟨-, hz⟩; (rw [hz, bfF, if_neg (fun q => by omega)]); rw [hz, bfF]
          exact hret _ _ _ _ _ dX11_reachesAll_124 ⟨F1, (by rw [hR]), (by rw [hR]; exact hf)⟩ hP hD hS
        · obtain ⟨d1, d2⟩ := hf.2 k (by omega)
          have d12 := d2.2
          refine lv_iconst (v := nI 0) hx hb dX11_reachesAll_35 (by decide +kernel) ?_
          refine lv_istore_n (lv' := [(2, .int (nI 0)), (0, .ref (B 0)), (1, .int (nI k))]) hx hb dX11_reachesAll_36 rfl hl (by decide) rfl (fun ls hl => ?_)
          have L37 : ∀ (nY : Nat), ∀ (p : Nat) (F2 : Nat → Int32), (p ≤ len (a.1 k)) → (rFd (gP S (a.1 k) a p) F2) → (len (a.1 k) - p < nY) → ∀ (H : Heap) (locs : List Loc) (ls : Array Slot), va_P D vwCl (gMo cA B (fN S) WA BG AS TX RW RR F2 m1 m2 m3 m4 m5 m6 m7 m8 m9 m10 m11 (nI ((gP S (a.1 k) a p).2)) m13 m14 m15 m16 m17 m18 m19) H → va_D AY (gMo cA B (fN S) WA BG AS TX RW RR F2 m1 m2 m3 m4 m5 m6 m7 m8 m9 m10 m11 (nI ((gP S (a.1 k) a p).2)) m13 m14 m15 m16 m17 m18 m19) → va_S AY sY.heap H locs → lv_has ls 4 [(0, .ref (B 0)), (1, .int (nI k)), (2, .int (nI p))] → W pY lY eY { frames := 2, cells := 0, slots := 0, locals := 48 } sY mY aY bY tY cY H locs 0 0 QY (F0 mY 37 ls []) := by
            intro nY37
            induction nY37 with
            | zero => intro p F2 hp hf2 hm37; exact absurd hm37 (Nat.not_lt_zero _)
            | succ nY37 ih37 =>
              intro p F2 hp hf2 hm37 H locs ls hP hD hS hl
              obtain ⟨g1, g2, g3⟩ := gP_le (S := S) (w := a.1 k) hf.1 p
              refine lv_iload_n hx hb dX11_reachesAll_37 rfl (lv_at hl 2 rfl) ?_
              refine lv_aload_n hx hb dX11_reachesAll_38 rfl (lv_at hl 0 rfl) ?_
              refine va_get (D := D) (ci := 10) (v := .ref (B 8)) (C := RX11) (T := TX11) (N := 27) hx hb hts hi_X11_reachesAll_X11 hown hK hP 0 rfl rfl 18 (by decide) (hts (.fieldLink RX11 32 "FallingWordsModel" "found" "[I") (by decide +kernel)) (fun _ h9 => h9) rfl dX11_reachesAll_39 ?_
              refine lv_iload_n hx hb dX11_reachesAll_42 rfl (lv_at hl 1 rfl) ?_
              refine xa_ld (v := nI (a.1 k)) hx hb hK hP 8 rfl (by omega) (by decide) ((hf2.2 k (by omega)).1.trans (congrArg nI (g3 k (by omega)))) dX11_reachesAll_43 ?_
              refine ci_S (As := [.int (nI (a.1 k))]) (rest := [.int (nI p)]) h0 hK hN hP hD hS hA hl.1 (k_X11_length lY D cA (a.1 k) (d2.1) (by omega)) [] rfl (by decide) (va_cwS 1 hts gX11_reachesAll_X11_length rfl rfl rfl (by decide +kernel) ⟨Nat.le_of_ble_eq_true rfl, Nat.le_of_ble_eq_true rfl⟩) rfl rfl (Nat.le_of_ble_eq_true rfl) dX11_reachesAll_44 ⟨Nat.zero_le _, Nat.zero_le _⟩ (fun rY wY H locs hwY hJ hS => ?_)
              obtain ⟨e1Y, e2Y⟩ := hwY
              have e3Y := e1Y.symm
              clear e1Y
              subst e3Y
              have e3Y := e2Y.symm
              clear e2Y
              subst e3Y
              obtain ⟨hP, hD⟩ := hJ rfl
              have hP : va_P D vwCl (gMo cA B (fN S) WA BG AS TX RW RR F2 m1 m2 m3 m4 m5 m6 m7 m8 m9 m10 m11 (nI ((gP S (a.1 k) a p).2)) m13 m14 m15 m16 m17 m18 m19) H := hP
              have hD : va_D AY (gMo cA B (fN S) WA BG AS TX RW RR F2 m1 m2 m3 m4 m5 m6 m7 m8 m9 m10 m11 (nI ((gP S (a.1 k) a p).2)) m13 m14 m15 m16 m17 m18 m19) := hD
              refine xc_ge (tgt := 118) hx hb dX11_reachesAll_47 (by decide) (by omega) (by omega) (fun c47 => ?_) (fun c47 => ?_)
              · have hlp : p = len (a.1 k) := by omega
                rw [hlp] at hP hD
                have hP : va_P D vwCl (gMo cA B (fN S) WA BG AS TX RW RR F2 m1 m2 m3 m4 m5 m6 m7 m8 m9 m10 m11 (nI ((gP S (a.1 k) a (len (a.1 k))).2)) m13 m14 m15 m16 m17 m18 m19) H := hP
                have hD : va_D AY (gMo cA B (fN S) WA BG AS TX RW RR F2 m1 m2 m3 m4 m5 m6 m7 m8 m9 m10 m11 (nI ((gP S (a.1 k) a (len (a.1 k))).2)) m13 m14 m15 m16 m17 m18 m19) := hD
                refine lv_iinc (v := nI (k + 1)) (lv' := [(1, .int (nI (k + 1))), (0, .ref (B 0)), (2, .int (nI p))]) hx hb dX11_reachesAll_118 hl (k := 1) rfl (show nI k + Int32.ofInt 1 = nI (k + 1) from nI_add k 1) (by decide) rfl (fun ls hl => ?_)
                refine lv_goto (tgt := 17) hx hb dX11_reachesAll_121 (by decide) ?_
                exact ih17 (k + 1) (gP S (a.1 k) a (len (a.1 k))) F2 (by have := (gP_le (S := S) (w := a.1 k) hf.1 (len (a.1 k))).2.1; omega) (by rw [← hlp]; exact hf2) (by rw [← hbf, show 402 - k = (402 - (k + 1)) + 1 by omega, bfF, if_pos ⟨by omega, by omega⟩]) (by omega) _ _ _ hP hD hS (lv_sub hl [1, 0] rfl)
              · refine lv_iconst (v := nI 0) hx hb dX11_reachesAll_50 (by decide +kernel) ?_
                refine lv_istore_n (lv' := [(3, .int (nI 0)), (0, .ref (B 0)), (1, .int (nI k)), (2, .int (nI p))]) hx hb dX11_reachesAll_51 rfl hl (by decide) rfl (fun ls hl => ?_)
                have L52 : ∀ (nY : Nat), ∀ (r : Nat) (F3 : Nat → Int32), (r ≤ S 1) → (rFd (gR S (a.1 k) p (gP S (a.1 k) a p) r) F3) → (S 1 - r < nY) → ∀ (H : Heap) (locs : List Loc) (ls : Array Slot), va_P D vwCl (gMo cA B (fN S) WA BG AS TX RW RR F3 m1 m2 m3 m4 m5 m6 m7 m8 m9 m10 m11 (nI ((gR S (a.1 k) p (gP S (a.1 k) a p) r).2)) m13 m14 m15 m16 m17 m18 m19) H → va_D AY (gMo cA B (fN S) WA BG AS TX RW RR F3 m1 m2 m3 m4 m5 m6 m7 m8 m9 m10 m11 (nI ((gR S (a.1 k) p (gP S (a.1 k) a p) r).2)) m13 m14 m15 m16 m17 m18 m19) → va_S AY sY.heap H locs → lv_has ls 4 [(0, .ref (B 0)), (1, .int (nI k)), (2, .int (nI p)), (3, .int (nI r))] → W pY lY eY { frames := 2, cells := 0, slots := 0, locals := 48 } sY mY aY bY tY cY H locs 0 0 QY (F0 mY 52 ls []) := by
                  intro nY52
                  induction nY52 with
                  | zero => intro r F3 hr1 hf3 hm52; exact absurd hm52 (Nat.not_lt_zero _)
                  | succ nY52 ih52 =>
                    intro r F3 hr1 hf3 hm52 H locs ls hP hD hS hl
                    obtain ⟨j1, j2, j3⟩ := gR_le (S := S) (w := a.1 k) (p := p) g1 r
                    refine lv_iload_n hx hb dX11_reachesAll_52 rfl (lv_at hl 3 rfl) ?_
                    refine lv_aload_n hx hb dX11_reachesAll_53 rfl (lv_at hl 0 rfl) ?_
                    refine va_get (D := D) (ci := 10) (v := .ref (B 1)) (C := RX11) (T := TX11) (N := 27) hx hb hts hi_X11_reachesAll_X11 hown hK hP 0 rfl rfl 0 (by decide) (hts (.fieldLink RX11 7 "FallingWordsModel" "s" "[I") (by decide +kernel)) (fun _ h9 => h9) rfl dX11_reachesAll_54 ?_
                    refine lv_iconst (v := nI 1) hx hb dX11_reachesAll_57 (by decide +kernel) ?_
                    refine xa_ld (v := nI (S 1)) hx hb hK hP 1 rfl (by omega) (by decide) (rfl) dX11_reachesAll_58 ?_
                    refine xc_ge (tgt := 112) hx hb dX11_reachesAll_59 (by decide) (by omega) (by omega) (fun c59 => ?_) (fun c59 => ?_)
                    · have hgp : gP S (a.1 k) a (p + 1) = (gR S (a.1 k) p (gP S (a.1 k) a p) r) := by show gR S (a.1 k) p (gP S (a.1 k) a p) (S 1) = _; rw [show S 1 = r by omega]
                      rw [← hgp] at hP hD
                      have hP : va_P D vwCl (gMo cA B (fN S) WA BG AS TX RW RR F3 m1 m2 m3 m4 m5 m6 m7 m8 m9 m10 m11 (nI ((gP S (a.1 k) a (p + 1)).2)) m13 m14 m15 m16 m17 m18 m19) H := hP
                      have hD : va_D AY (gMo cA B (fN S) WA BG AS TX RW RR F3 m1 m2 m3 m4 m5 m6 m7 m8 m9 m10 m11 (nI ((gP S (a.1 k) a (p + 1)).2)) m13 m14 m15 m16 m17 m18 m19) := hD
                      refine lv_iinc (v := nI (p + 1)) (lv' := [(2, .int (nI (p + 1))), (0, .ref (B 0)), (1, .int (nI k)), (3, .int (nI r))]) hx hb dX11_reachesAll_112 hl (k := 2) rfl (show nI p + Int32.ofInt 1 = nI (p + 1) from nI_add p 1) (by decide) rfl (fun ls hl => ?_)
                      refine lv_goto (tgt := 37) hx hb dX11_reachesAll_115 (by decide) ?_
                      exact ih37 (p + 1) F3 (by omega) (by rw [hgp]; exact hf3) (by omega) _ _ _ hP hD hS (lv_sub hl [1, 2, 0] rfl)
                    · refine lv_aload_n hx hb dX11_reachesAll_62 rfl (lv_at hl 0 rfl) ?_
                      refine va_get (D := D) (ci := 10) (v := .int (nI ((gR S (a.1 k) p (gP S (a.1 k) a p) r).2))) (C := RX11) (T := TX11) (N := 27) hx hb hts hi_X11_reachesAll_X11 hown hK hP 0 rfl rfl 19 (by decide) (hts (.fieldLink RX11 119 "FallingWordsModel" "many" "I") (by decide +kernel)) (fun _ h9 => h9) rfl dX11_reachesAll_63 ?_
                      refine lv_sipush (v := nI 401) hx hb dX11_reachesAll_66 (by decide +kernel) ?_
                      refine xc_ge (tgt := 112) hx hb dX11_reachesAll_69 (by decide) (by omega) (by omega) (fun c69 => ?_) (fun c69 => ?_)
                      · have hgp : gP S (a.1 k) a (p + 1) = (gR S (a.1 k) p (gP S (a.1 k) a p) r) := by show gR S (a.1 k) p (gP S (a.1 k) a p) (S 1) = _; rw [gR_end (by omega) hr1]
                        rw [← hgp] at hP hD
                        have hP : va_P D vwCl (gMo cA B (fN S) WA BG AS TX RW RR F3 m1 m2 m3 m4 m5 m6 m7 m8 m9 m10 m11 (nI ((gP S (a.1 k) a (p + 1)).2)) m13 m14 m15 m16 m17 m18 m19) H := hP
                        have hD : va_D AY (gMo cA B (fN S) WA BG AS TX RW RR F3 m1 m2 m3 m4 m5 m6 m7 m8 m9 m10 m11 (nI ((gP S (a.1 k) a (p + 1)).2)) m13 m14 m15 m16 m17 m18 m19) := hD
                        refine lv_iinc (v := nI (p + 1)) (lv' := [(2, .int (nI (p + 1))), (0, .ref (B 0)), (1, .int (nI k)), (3, .int (nI r))]) hx hb dX11_reachesAll_112 hl (k := 2) rfl (show nI p + Int32.ofInt 1 = nI (p + 1) from nI_add p 1) (by decide) rfl (fun ls hl => ?_)
                        refine lv_goto (tgt := 37) hx hb dX11_reachesAll_115 (by decide) ?_
                        exact ih37 (p + 1) F3 (by omega) (by rw [hgp]; exact hf3) (by omega) _ _ _ hP hD hS (lv_sub hl [1, 2, 0] rfl)
                      · obtain ⟨v1, v2, v3, v4⟩ := hI.2.2 r (by omega)
                        have hfk : F3 k = nI (a.1 k) := (hf3.2 k (by omega)).1.trans (congrArg nI ((j3 k (by omega)).trans (g3 k (by omega))))
                        refine lv_aload_n hx hb dX11_reachesAll_72 rfl (lv_at hl 0 rfl) ?_
                        refine lv_iload_n hx hb dX11_reachesAll_73 rfl (lv_at hl 3 rfl) ?_
                        refine ci_V (As := [.int (nI r)]) (rest := []) h0 hK hN hP hD hS hA hl.1 (k_X11_left lY D cA B S WA BG AS TX RW RR F3 m1 m2 m3 m4 m5 m6 m7 m8 m9 m10 m11 (nI ((gR S (a.1 k) p (gP S (a.1 k) a p) r).2)) m13 m14 m15 m16 m17 m18 m19 r (by omega)) [0, 1, 2, 3, 4, 5, 6, 7, 8] rfl (by decide) (cwV 1 hts gX11_reachesAll_X11_left rfl rfl rfl (by decide +kernel) ⟨Nat.le_of_ble_eq_true rfl, Nat.le_of_ble_eq_true rfl⟩) (cl_recv (ci := 10) (q := (RX11, TX11, 27)) (q0 := 0) hP hK rfl rfl) rfl rfl (Nat.le_of_ble_eq_true rfl) dX11_reachesAll_74 ⟨Nat.zero_le _, Nat.zero_le _⟩ (fun rY wY H locs hwY hJ hS => ?_)
                        obtain ⟨e1Y, e2Y⟩ := hwY
                        have e3Y := e1Y.symm
                        clear e1Y
                        subst e3Y
                        have e3Y := e2Y.symm
                        clear e2Y
                        subst e3Y
                        obtain ⟨hP, hD⟩ := hJ rfl
                        have hP : va_P D vwCl (gMo cA B (fN S) WA BG AS TX RW RR F3 m1 m2 m3 m4 m5 m6 m7 m8 m9 m10 m11 (nI ((gR S (a.1 k) p (gP S (a.1 k) a p) r).2)) m13 m14 m15 m16 m17 m18 m19) H := hP
                        have hD : va_D AY (gMo cA B (fN S) WA BG AS TX RW RR F3 m1 m2 m3 m4 m5 m6 m7 m8 m9 m10 m11 (nI ((gR S (a.1 k) p (gP S (a.1 k) a p) r).2)) m13 m14 m15 m16 m17 m18 m19) := hD
                        refine lv_aload_n hx hb dX11_reachesAll_77 rfl (lv_at hl 0 rfl) ?_
                        refine va_get (D := D) (ci := 10) (v := .ref (B 8)) (C := RX11) (T := TX11) (N := 27) hx hb hts hi_X11_reachesAll_X11 hown hK hP 0 rfl rfl 18 (by decide) (hts (.fieldLink RX11 32 "FallingWordsModel" "found" "[I") (by decide +kernel)) (fun _ h9 => h9) rfl dX11_reachesAll_78 ?_
                        refine lv_iload_n hx hb dX11_reachesAll_81 rfl (lv_at hl 1 rfl) ?_
                        refine xa_ld (v := nI (a.1 k)) hx hb hK hP 8 rfl (by omega) (by decide) (hfk) dX11_reachesAll_82 ?_
                        refine lv_iload_n hx hb dX11_reachesAll_83 rfl (lv_at hl 2 rfl) ?_
                        refine ci_S (As := [.int (nI (lf S r)), .int (nI (a.1 k)), .int (nI p)]) (rest := []) h0 hK hN hP hD hS hA hl.1 (k_X11_stands lY D cA (lf S r) (a.1 k) p (v1) (d2) (by omega)) [] rfl (by decide) (va_cwS 3 hts gX11_reachesAll_X11_stands rfl rfl rfl (by decide +kernel) ⟨Nat.le_of_ble_eq_true rfl, Nat.le_of_ble_eq_true rfl⟩) rfl rfl (Nat.le_of_ble_eq_true rfl) dX11_reachesAll_84 ⟨Nat.zero_le _, Nat.zero_le _⟩ (fun rY wY H locs hwY hJ hS => ?_)
                        obtain ⟨e1Y, e2Y⟩ := hwY
                        have e3Y := e1Y.symm
                        clear e1Y
                        subst e3Y
                        have e3Y := e2Y.symm
                        clear e2Y
                        subst e3Y
                        obtain ⟨hP, hD⟩ := hJ rfl
                        have hP : va_P D vwCl (gMo cA B (fN S) WA BG AS TX RW RR F3 m1 m2 m3 m4 m5 m6 m7 m8 m9 m10 m11 (nI ((gR S (a.1 k) p (gP S (a.1 k) a p) r).2)) m13 m14 m15 m16 m17 m18 m19) H := hP
                        have hD : va_D AY (gMo cA B (fN S) WA BG AS TX RW RR F3 m1 m2 m3 m4 m5 m6 m7 m8 m9 m10 m11 (nI ((gR S (a.1 k) p (gP S (a.1 k) a p) r).2)) m13 m14 m15 m16 m17 m18 m19) := hD
                        refine xb_eq (tgt := 106) hx hb dX11_reachesAll_87 (by decide) (fun c87 => ?_) (fun c87 => ?_)
                        · have hgr : gR S (a.1 k) p (gP S (a.1 k) a p) (r + 1) = (gR S (a.1 k) p (gP S (a.1 k) a p) r) := by show (if _ then _ else _) = _; rw [if_neg (by rw [c87]; decide)]
                          rw [← hgr] at hP hD
                          have hP : va_P D vwCl (gMo cA B (fN S) WA BG AS TX RW RR F3 m1 m2 m3 m4 m5 m6 m7 m8 m9 m10 m11 (nI ((gR S (a.1 k) p (gP S (a.1 k) a p) (r + 1)).2)) m13 m14 m15 m16 m17 m18 m19) H := hP
                          have hD : va_D AY (gMo cA B (fN S) WA BG AS TX RW RR F3 m1 m2 m3 m4 m5 m6 m7 m8 m9 m10 m11 (nI ((gR S (a.1 k) p (gP S (a.1 k) a p) (r + 1)).2)) m13 m14 m15 m16 m17 m18 m19) := hD
                          refine lv_iinc (v := nI (r + 1)) (lv' := [(3, .int (nI (r + 1))), (0, .ref (B 0)), (1, .int (nI k)), (2, .int (nI p))]) hx hb dX11_reachesAll_106 hl (k := 3) rfl (show nI r + Int32.ofInt 1 = nI (r + 1) from nI_add r 1) (by decide) rfl (fun ls hl => ?_)
                          refine lv_goto (tgt := 52) hx hb dX11_reachesAll_109 (by decide) ?_
                          exact ih52 (r + 1) F3 (by omega) (by rw [hgr]; exact hf3) (by omega) _ _ _ hP hD hS (lv_sub hl [1, 2, 3, 0] rfl)
                        · refine lv_aload_n hx hb dX11_reachesAll_90 rfl (lv_at hl 0 rfl) ?_
                          refine lv_aload_n hx hb dX11_reachesAll_91 rfl (lv_at hl 0 rfl) ?_
                          refine lv_aload_n hx hb dX11_reachesAll_92 rfl (lv_at hl 0 rfl) ?_
                          refine va_get (D := D) (ci := 10) (v := .ref (B 8)) (C := RX11) (T := TX11) (N := 27) hx hb hts hi_X11_reachesAll_X11 hown hK hP 0 rfl rfl 18 (by decide) (hts (.fieldLink RX11 32 "FallingWordsModel" "found" "[I") (by decide +kernel)) (fun _ h9 => h9) rfl dX11_reachesAll_93 ?_
                          refine lv_iload_n hx hb dX11_reachesAll_96 rfl (lv_at hl 1 rfl) ?_
                          refine xa_ld (v := nI (a.1 k)) hx hb hK hP 8 rfl (by omega) (by decide) (hfk) dX11_reachesAll_97 ?_
                          refine lv_iload_n hx hb dX11_reachesAll_98 rfl (lv_at hl 3 rfl) ?_
                          refine lv_iload_n hx hb dX11_reachesAll_99 rfl (lv_at hl 2 rfl) ?_
                          refine ci_V (As := [.int (nI (a.1 k)), .int (nI r), .int (nI p)]) (rest := [.ref (B 0)]) h0 hK hN hP hD hS hA hl.1 (k_X11_applied lY D cA B S WA BG AS TX RW RR F3 m1 m2 m3 m4 m5 m6 m7 m8 m9 m10 m11 (nI ((gR S (a.1 k) p (gP S (a.1 k) a p) r).2)) m13 m14 m15 m16 m17 m18 m19 (a.1 k) r p (hI) (d2) (by omega) (stn_le c87)) [0, 1, 2, 3, 4, 5, 6, 7, 8] rfl (by decide) (cwV 3 hts gX11_reachesAll_X11_applied rfl rfl rfl (by decide +kernel) ⟨Nat.le_of_ble_eq_true rfl, Nat.le_of_ble_eq_true rfl⟩) (cl_recv (ci := 10) (q := (RX11, TX11, 27)) (q0 := 0) hP hK rfl rfl) rfl rfl (Nat.le_of_ble_eq_true rfl) dX11_reachesAll_100 ⟨Nat.zero_le _, Nat.zero_le _⟩ (fun rY wY H locs hwY hJ hS => ?_)
                          obtain ⟨e1Y, e2Y⟩ := hwY
                          have e3Y := e1Y.symm
                          clear e1Y
                          subst e3Y
                          have e3Y := e2Y.symm
                          clear e2Y
                          subst e3Y
                          obtain ⟨hP, hD⟩ := hJ rfl
                          have hP : va_P D vwCl (gMo cA B (fN S) WA BG AS TX RW RR F3 m1 m2 m3 m4 m5 m6 m7 m8 m9 m10 m11 (nI ((gR S (a.1 k) p (gP S (a.1 k) a p) r).2)) m13 m14 m15 m16 m17 m18 m19) H := hP
                          have hD : va_D AY (gMo cA B (fN S) WA BG AS TX RW RR F3 m1 m2 m3 m4 m5 m6 m7 m8 m9 m10 m11 (nI ((gR S (a.1 k) p (gP S (a.1 k) a p) r).2)) m13 m14 m15 m16 m17 m18 m19) := hD
                          refine cv_V (As := [.int (nI (app (lf S r) (rt S r) (a.1 k) p))]) (rest := []) h0 hK hN hP hD hS hA hl.1 (k_X11_reaches lY D cA B S WA BG AS TX RW RR F3 m1 m2 m3 m4 m5 m6 m7 m8 m9 m10 m11 m13 m14 m15 m16 m17 m18 m19 (gR S (a.1 k) p (gP S (a.1 k) a p) r) (app (lf S r) (rt S r) (a.1 k) p) (hf3) (by omega) (ap_vw hI d2 (by omega) c87)) [0, 1, 2, 3, 4, 5, 6, 7, 8] rfl (by decide) (cwV 1 hts gX11_reachesAll_X11_reaches rfl rfl rfl (by decide +kernel) ⟨Nat.le_of_ble_eq_true rfl, Nat.le_of_ble_eq_true rfl⟩) (cl_recv (ci := 10) (q := (RX11, TX11, 27)) (q0 := 0) hP hK rfl rfl) rfl rfl (Nat.le_of_ble_eq_true rfl) dX11_reachesAll_103 ⟨Nat.zero_le _, Nat.zero_le _⟩ (fun wY H locs hwY hJ hS => ?_)
                          obtain ⟨FD'_103, e2Y, ff_103⟩ := hwY
                          have e3Y := e2Y.symm
                          clear e2Y
                          subst e3Y
                          obtain ⟨hP, hD⟩ := hJ rfl
                          have hP : va_P D vwCl (gMo cA B (fN S) WA BG AS TX RW RR FD'_103 m1 m2 m3 m4 m5 m6 m7 m8 m9 m10 m11 (nI ((addR (gR S (a.1 k) p (gP S (a.1 k) a p) r) (app (lf S r) (rt S r) (a.1 k) p)).2)) m13 m14 m15 m16 m17 m18 m19) H := hP
                          have hD : va_D AY (gMo cA B (fN S) WA BG AS TX RW RR FD'_103 m1 m2 m3 m4 m5 m6 m7 m8 m9 m10 m11 (nI ((addR (gR S (a.1 k) p (gP S (a.1 k) a p) r) (app (lf S r) (rt S r) (a.1 k) p)).2)) m13 m14 m15 m16 m17 m18 m19) := hD
                          have hgr : gR S (a.1 k) p (gP S (a.1 k) a p) (r + 1) = addR (gR S (a.1 k) p (gP S (a.1 k) a p) r) (app (lf S r) (rt S r) (a.1 k) p) := by show (if _ then _ else _) = _; rw [if_pos c87]
                          rw [← hgr] at hP hD
                          have hP : va_P D vwCl (gMo cA B (fN S) WA BG AS TX RW RR FD'_103 m1 m2 m3 m4 m5 m6 m7 m8 m9 m10 m11 (nI ((gR S (a.1 k) p (gP S (a.1 k) a p) (r + 1)).2)) m13 m14 m15 m16 m17 m18 m19) H := hP
                          have hD : va_D AY (gMo cA B (fN S) WA BG AS TX RW RR FD'_103 m1 m2 m3 m4 m5 m6 m7 m8 m9 m10 m11 (nI ((gR S (a.1 k) p (gP S (a.1 k) a p) (r + 1)).2)) m13 m14 m15 m16 m17 m18 m19) := hD
                          refine lv_iinc (v := nI (r + 1)) (lv' := [(3, .int (nI (r + 1))), (0, .ref (B 0)), (1, .int (nI k)), (2, .int (nI p))]) hx hb dX11_reachesAll_106 hl (k := 3) rfl (show nI r + Int32.ofInt 1 = nI (r + 1) from nI_add r 1) (by decide) rfl (fun ls hl => ?_)
                          refine lv_goto (tgt := 52) hx hb dX11_reachesAll_109 (by decide) ?_
                          exact ih52 (r + 1) FD'_103 (by omega) (by rw [hgr]; exact ff_103) (by omega) _ _ _ hP hD hS (lv_sub hl [1, 2, 3, 0] rfl)
                exact L52 _ 0 F2 (by omega) (hf2) (Nat.lt_succ_self _) _ _ _ hP hD hS (lv_sub hl [1, 2, 3, 0] rfl)
          exact L37 _ 0 F1 (by omega) (hf) (Nat.lt_succ_self _) _ _ _ hP hD hS (lv_sub hl [1, 2, 0] rfl)
  exact L17 _ 0 (upN (fun _ => 0) 0 (S 0), 1) FD'_12 (Nat.zero_le _) (ff_12) (by unfold bfs; rw [sl_eq]) (Nat.lt_succ_self _) _ _ _ hP hD hS (lv_sub hl [1, 0] rfl)

theorem hi_X11_end_X11 : ∀ w ∈ u_ws RX11 TX11 27, w ∈ wsX11_end := by decide +kernel
set_option maxHeartbeats 1000000 in
set_option maxRecDepth 100000 in
theorem k_X11_end (lY : Launch) (D : va_G) (cA : Nat → ClassId) (B : Nat → Nat) (S : St) (WA BG AS TX RW RR FD : Nat → Int32) (m1 m2 m3 m4 m5 m6 m7 m8 m9 m10 m11 m13 m14 m15 m16 m17 m18 m19 : Int32) (a : Acc) (z : Bool) (hI : IR S) (hf : rFd a FD) : MetI lY D cA yX11_end wsX11_end 3 72 [.ref (B 0), .int (bI z)] (gMo cA B (fN S) WA BG AS TX RW RR FD m1 m2 m3 m4 m5 m6 m7 m8 m9 m10 m11 (nI a.2) m13 m14 m15 m16 m17 m18 m19) (fun rY wY => ∃ (k8 : Int32) (k9 : Int32), rY = eV S a.1 z a.2 ∧ wY = gMo cA B (fN S) WA BG AS TX RW RR FD m1 m2 m3 m4 m5 m6 m7 k8 k9 m10 m11 (nI a.2) m13 m14 m15 m16 m17 m18 m19) := by
  refine MetI.of (cc := cX11_end) (maxL := 5) (ret := (some .int)) (by decide) rfl (Nat.le_of_ble_eq_true rfl) (Or.inl rfl) ?_
  intro pY eY sY mY aY bY tY cY QY AY ls h0 hP hK hN hD hA hS hl hret
  obtain ⟨hx, hb, hml, hown, hts⟩ := id h0
  have hl : lv_has ls 5 [(0, .ref (B 0)), (1, .int (bI z))] := hl
  have hP : va_P D vwCl (gMo cA B (fN S) WA BG AS TX RW RR FD m1 m2 m3 m4 m5 m6 m7 m8 m9 m10 m11 (nI a.2) m13 m14 m15 m16 m17 m18 m19) sY.heap := hP
  have hD : va_D AY (gMo cA B (fN S) WA BG AS TX RW RR FD m1 m2 m3 m4 m5 m6 m7 m8 m9 m10 m11 (nI a.2) m13 m14 m15 m16 m17 m18 m19) := hD
  have h401 := hf.1
  refine lv_iconst (v := (-1)) hx hb dX11_end_0 (by decide +kernel) ?_
  refine lv_istore_n (lv' := [(2, .int (-1)), (0, .ref (B 0)), (1, .int (bI z))]) hx hb dX11_end_1 rfl hl (by decide) rfl (fun ls hl => ?_)
  refine lv_iconst (v := nI 0) hx hb dX11_end_2 (by decide +kernel) ?_
  refine lv_istore_n (lv' := [(3, .int (nI 0)), (2, .int (-1)), (0, .ref (B 0)), (1, .int (bI z))]) hx hb dX11_end_3 rfl hl (by decide) rfl (fun ls hl => ?_)
  have L4 : ∀ (nY : Nat), ∀ (i : Nat) (x8 : Int32) (x9 : Int32), (i ≤ a.2) → (a.2 - i < nY) → ∀ (H : Heap) (locs : List Loc) (ls : Array Slot), va_P D vwCl (gMo cA B (fN S) WA BG AS TX RW RR FD m1 m2 m3 m4 m5 m6 m7 x8 x9 m10 m11 (nI a.2) m13 m14 m15 m16 m17 m18 m19) H → va_D AY (gMo cA B (fN S) WA BG AS TX RW RR FD m1 m2 m3 m4 m5 m6 m7 x8 x9 m10 m11 (nI a.2) m13 m14 m15 m16 m17 m18 m19) → va_S AY sY.heap H locs → lv_has ls 5 [(0, .ref (B 0)), (1, .int (bI z)), (2, .int (eV S a.1 z i)), (3, .int (nI i))] → W pY lY eY { frames := 3, cells := 0, slots := 0, locals := 72 } sY mY aY bY tY cY H locs 0 0 QY (F0 mY 4 ls []) := by
    intro nY4
    induction nY4 with
    | zero => intro i x8 x9 hi hm4; exact absurd hm4 (Nat.not_lt_zero _)
    | succ nY4 ih4 =>
      intro i x8 x9 hi hm4 H locs ls hP hD hS hl
      by_cases he : (enF S a.1 i).1 = 0
      · refine lv_iload_n hx hb dX11_end_4 rfl (lv_at hl 3 rfl) ?_
        refine lv_aload_n hx hb dX11_end_5 rfl (lv_at hl 0 rfl) ?_
        refine va_get (D := D) (ci := 10) (v := .int (nI a.2)) (C := RX11) (T := TX11) (N := 27) hx hb hts hi_X11_end_X11 hown hK hP 0 rfl rfl 19 (by decide) (hts (.fieldLink RX11 119 "FallingWordsModel" "many" "I") (by decide +kernel)) (fun _ h9 => h9) rfl dX11_end_6 ?_
        refine xc_ge (tgt := 85) hx hb dX11_end_9 (by decide) (by omega) (by omega) (fun c9 => ?_) (fun c9 => ?_)
        · refine lv_iload_n hx hb dX11_end_85 rfl (lv_at hl 2 rfl) ?_
          exact hret _ _ _ _ _ _ dX11_end_86 ⟨x8, x9, (by rw [show a.2 = i by omega]), rfl⟩ hP hD hS
        · obtain ⟨d1, d2⟩ := hf.2 i (by omega)
          have hBi := vw_B d2 (by decide)
          have hl : lv_has ls 5 [(0, .ref (B 0)), (1, .int (bI z)), (2, .int (-1)), (3, .int (nI i))] := Eq.mp (congrArg (fun zY : Int32 => lv_has ls 5 [(0, .ref (B 0)), (1, .int (bI z)), (2, .int zY), (3, .int (nI i))]) (show eV S a.1 z i = (-1) from if_pos he)) hl
          refine lv_iload_n hx hb dX11_end_12 rfl (lv_at hl 2 rfl) ?_
          refine xz_lt (tgt := 43) hx hb dX11_end_13 (by decide) (fun c13 => ?_) (fun c13 => ?_)
          · refine lv_iconst (v := nI 1) hx hb dX11_end_43 (by decide +kernel) ?_
            refine lv_goto (tgt := 48) hx hb dX11_end_44 (by decide) ?_
            refine lv_istore (lv' := [(4, .int (nI 1)), (0, .ref (B 0)), (1, .int (bI z)), (2, .int (-1)), (3, .int (nI i))]) hx hb dX11_end_48 hl (by decide) rfl (fun ls hl => ?_)
            refine lv_iload hx hb dX11_end_50 (lv_at hl 0 rfl) ?_
            refine lv_if_eq (tgt := 77) hx hb dX11_end_52 (by decide) (fun c52 => ?_) (fun c52 => ?_)
            · exact absurd c52 (by decide +kernel)
            refine lv_aload_n hx hb dX11_end_55 rfl (lv_at hl 1 rfl) ?_
            refine lv_aload_n hx hb dX11_end_56 rfl (lv_at hl 1 rfl) ?_
            refine va_get (D := D) (ci := 10) (v := .ref (B 8)) (C := RX11) (T := TX11) (N := 27) hx hb hts hi_X11_end_X11 hown hK hP 0 rfl rfl 18 (by decide) (hts (.fieldLink RX11 32 "FallingWordsModel" "found" "[I") (by decide +kernel)) (fun _ h9 => h9) rfl dX11_end_57 ?_
            refine lv_iload_n hx hb dX11_end_60 rfl (lv_at hl 4 rfl) ?_
            refine xa_ld (v := nI (a.1 i)) hx hb hK hP 8 rfl (by omega) (by decide) (d1) dX11_end_61 ?_
            refine ci_V (As := [.int (nI (a.1 i))]) (rest := []) h0 hK hN hP hD hS hA hl.1 (k_X11_chooses lY D cA B S WA BG AS TX RW RR FD m1 m2 m3 m4 m5 m6 m7 x8 x9 m10 m11 (nI a.2) m13 m14 m15 m16 m17 m18 m19 (a.1 i) (hI) (d2)) [0, 1, 2, 3, 4, 5, 6, 7, 8] rfl (by decide) (cwV 1 hts gX11_end_X11_chooses rfl rfl rfl (by decide +kernel) ⟨Nat.le_of_ble_eq_true rfl, Nat.le_of_ble_eq_true rfl⟩) (cl_recv (ci := 10) (q := (RX11, TX11, 27)) (q0 := 0) hP hK rfl rfl) rfl rfl (Nat.le_of_ble_eq_true rfl) dX11_end_62 ⟨Nat.zero_le _, Nat.zero_le _⟩ (fun rY wY H locs hwY hJ hS => ?_)
            obtain ⟨k8_62, k9_62, e1Y, e2Y, fc_62⟩ := hwY
            have e3Y := e1Y.symm
            clear e1Y
            subst e3Y
            have e3Y := e2Y.symm
            clear e2Y
            subst e3Y
            obtain ⟨hP, hD⟩ := hJ rfl
            have hP : va_P D vwCl (gMo cA B (fN S) WA BG AS TX RW RR FD m1 m2 m3 m4 m5 m6 m7 k8_62 k9_62 m10 m11 (nI a.2) m13 m14 m15 m16 m17 m18 m19) H := hP
            have hD : va_D AY (gMo cA B (fN S) WA BG AS TX RW RR FD m1 m2 m3 m4 m5 m6 m7 k8_62 k9_62 m10 m11 (nI a.2) m13 m14 m15 m16 m17 m18 m19) := hD
            refine xb_ne (tgt := 77) hx hb dX11_end_65 (by decide) (fun c65 => ?_) (fun c65 => ?_)
            · refine lv_iload_n hx hb dX11_end_77 rfl (lv_at hl 3 rfl) ?_
              refine lv_istore_n (lv' := [(2, .int (-1)), (4, .int (nI 1)), (0, .ref (B 0)), (1, .int (bI z)), (3, .int (nI i))]) hx hb dX11_end_78 rfl hl (by decide) rfl (fun ls hl => ?_)
              refine lv_iinc (v := nI (i + 1)) (lv' := [(3, .int (nI (i + 1))), (2, .int (-1)), (4, .int (nI 1)), (0, .ref (B 0)), (1, .int (bI z))]) hx hb dX11_end_79 hl (k := 4) rfl (show nI i + Int32.ofInt 1 = nI (i + 1) from nI_add i 1) (by decide) rfl (fun ls hl => ?_)
              refine lv_goto (tgt := 4) hx hb dX11_end_82 (by decide) ?_
              have hl : lv_has ls 5 [(3, .int (nI (i + 1))), (2, .int (eV S a.1 z (i + 1))), (4, .int (nI 1)), (0, .ref (B 0)), (1, .int (bI z))] := Eq.mp (congrArg (fun zY : Int32 => lv_has ls 5 [(3, .int (nI (i + 1))), (2, .int zY), (4, .int (nI 1)), (0, .ref (B 0)), (1, .int (bI z))]) (show (-1) = eV S a.1 z (i + 1) from ((eV_k (nt_t c65)).trans (if_pos he)).symm)) hl
              exact ih4 (i + 1) k8_62 k9_62 (by omega) (by omega) _ _ _ hP hD hS (lv_sub hl [3, 4, 1, 0] rfl)
            · refine lv_aload_n hx hb dX11_end_68 rfl (lv_at hl 1 rfl) ?_
              refine va_get (D := D) (ci := 10) (v := .ref (B 8)) (C := RX11) (T := TX11) (N := 27) hx hb hts hi_X11_end_X11 hown hK hP 0 rfl rfl 18 (by decide) (hts (.fieldLink RX11 32 "FallingWordsModel" "found" "[I") (by decide +kernel)) (fun _ h9 => h9) rfl dX11_end_69 ?_
              refine lv_iload_n hx hb dX11_end_72 rfl (lv_at hl 4 rfl) ?_
              refine xa_ld (v := nI (a.1 i)) hx hb hK hP 8 rfl (by omega) (by decide) (d1) dX11_end_73 ?_
              refine lv_goto (tgt := 78) hx hb dX11_end_74 (by decide) ?_
              refine lv_istore_n (lv' := [(2, .int (nI (a.1 i))), (4, .int (nI 1)), (0, .ref (B 0)), (1, .int (bI z)), (3, .int (nI i))]) hx hb dX11_end_78 rfl hl (by decide) rfl (fun ls hl => ?_)
              refine lv_iinc (v := nI (i + 1)) (lv' := [(3, .int (nI (i + 1))), (2, .int (nI (a.1 i))), (4, .int (nI 1)), (0, .ref (B 0)), (1, .int (bI z))]) hx hb dX11_end_79 hl (k := 4) rfl (show nI i + Int32.ofInt 1 = nI (i + 1) from nI_add i 1) (by decide) rfl (fun ls hl => ?_)
              refine lv_goto (tgt := 4) hx hb dX11_end_82 (by decide) ?_
              have hl : lv_has ls 5 [(3, .int (nI (i + 1))), (2, .int (eV S a.1 z (i + 1))), (4, .int (nI 1)), (0, .ref (B 0)), (1, .int (bI z))] := Eq.mp (congrArg (fun zY : Int32 => lv_has ls 5 [(3, .int (nI (i + 1))), (2, .int zY), (4, .int (nI 1)), (0, .ref (B 0)), (1, .int (bI z))]) (show nI (a.1 i) = eV S a.1 z (i + 1) from (eV_n0 (nt_f c65) he).symm)) hl
              exact ih4 (i + 1) k8_62 k9_62 (by omega) (by omega) _ _ _ hP hD hS (lv_sub hl [3, 4, 1, 0] rfl)
          · exact absurd c13 (by decide)
      · refine lv_iload_n hx hb dX11_end_4 rfl (lv_at hl 3 rfl) ?_
        refine lv_aload_n hx hb dX11_end_5 rfl (lv_at hl 0 rfl) ?_
        refine va_get (D := D) (ci := 10) (v := .int (nI a.2)) (C := RX11) (T := TX11) (N := 27) hx hb hts hi_X11_end_X11 hown hK hP 0 rfl rfl 19 (by decide) (hts (.fieldLink RX11 119 "FallingWordsModel" "many" "I") (by decide +kernel)) (fun _ h9 => h9) rfl dX11_end_6 ?_
        refine xc_ge (tgt := 85) hx hb dX11_end_9 (by decide) (by omega) (by omega) (fun c9 => ?_) (fun c9 => ?_)
        · refine lv_iload_n hx hb dX11_end_85 rfl (lv_at hl 2 rfl) ?_
          exact hret _ _ _ _ _ _ dX11_end_86 ⟨x8, x9, (by rw [show a.2 = i by omega]), rfl⟩ hP hD hS
        · obtain ⟨d1, d2⟩ := hf.2 i (by omega)
          have hBi := vw_B d2 (by decide)
          have hBn := vw_B (eN_vw (z := z) (fun j hj => (hf.2 j (by omega)).2) he) (by decide)
          have hl : lv_has ls 5 [(0, .ref (B 0)), (1, .int (bI z)), (2, .int (nI (eN S a.1 z i))), (3, .int (nI i))] := Eq.mp (congrArg (fun zY : Int32 => lv_has ls 5 [(0, .ref (B 0)), (1, .int (bI z)), (2, .int zY), (3, .int (nI i))]) (show eV S a.1 z i = nI (eN S a.1 z i) from if_neg he)) hl
          refine lv_iload_n hx hb dX11_end_12 rfl (lv_at hl 2 rfl) ?_
          refine x0_lt (tgt := 43) hx hb dX11_end_13 (by decide) (by omega) ?_
          refine lv_iload_n hx hb dX11_end_16 rfl (lv_at hl 1 rfl) ?_
          refine xb_eq (tgt := 33) hx hb dX11_end_17 (by decide) (fun c17 => ?_) (fun c17 => ?_)
          · refine lv_aload_n hx hb dX11_end_33 rfl (lv_at hl 0 rfl) ?_
            refine va_get (D := D) (ci := 10) (v := .ref (B 8)) (C := RX11) (T := TX11) (N := 27) hx hb hts hi_X11_end_X11 hown hK hP 0 rfl rfl 18 (by decide) (hts (.fieldLink RX11 32 "FallingWordsModel" "found" "[I") (by decide +kernel)) (fun _ h9 => h9) rfl dX11_end_34 ?_
            refine lv_iload_n hx hb dX11_end_37 rfl (lv_at hl 3 rfl) ?_
            refine xa_ld (v := nI (a.1 i)) hx hb hK hP 8 rfl (by omega) (by decide) (d1) dX11_end_38 ?_
            refine lv_iload_n hx hb dX11_end_39 rfl (lv_at hl 2 rfl) ?_
            refine xc_ge (tgt := 47) hx hb dX11_end_40 (by decide) (by omega) (by omega) (fun c40 => ?_) (fun c40 => ?_)
            · refine lv_iconst (v := nI 0) hx hb dX11_end_47 (by decide +kernel) ?_
              refine lv_istore (lv' := [(4, .int (nI 0)), (0, .ref (B 0)), (1, .int (bI z)), (2, .int (nI (eN S a.1 z i))), (3, .int (nI i))]) hx hb dX11_end_48 hl (by decide) rfl (fun ls hl => ?_)
              refine lv_iload hx hb dX11_end_50 (lv_at hl 0 rfl) ?_
              refine lv_if_eq (tgt := 77) hx hb dX11_end_52 (by decide) (fun c52 => ?_) (fun c52 => ?_)
              rotate_left
              · exact absurd (by decide +kernel) c52
              refine lv_iload_n hx hb dX11_end_77 rfl (lv_at hl 3 rfl) ?_
              refine lv_istore_n (lv' := [(2, .int (nI (eN S a.1 z i))), (4, .int (nI 0)), (0, .ref (B 0)), (1, .int (bI z)), (3, .int (nI i))]) hx hb dX11_end_78 rfl hl (by decide) rfl (fun ls hl => ?_)
              refine lv_iinc (v := nI (i + 1)) (lv' := [(3, .int (nI (i + 1))), (2, .int (nI (eN S a.1 z i))), (4, .int (nI 0)), (0, .ref (B 0)), (1, .int (bI z))]) hx hb dX11_end_79 hl (k := 4) rfl (show nI i + Int32.ofInt 1 = nI (i + 1) from nI_add i 1) (by decide) rfl (fun ls hl => ?_)
              refine lv_goto (tgt := 4) hx hb dX11_end_82 (by decide) ?_
              have hl : lv_has ls 5 [(3, .int (nI (i + 1))), (2, .int (eV S a.1 z (i + 1))), (4, .int (nI 0)), (0, .ref (B 0)), (1, .int (bI z))] := Eq.mp (congrArg (fun zY : Int32 => lv_has ls 5 [(3, .int (nI (i + 1))), (2, .int zY), (4, .int (nI 0)), (0, .ref (B 0)), (1, .int (bI z))]) (show nI (eN S a.1 z i) = eV S a.1 z (i + 1) from (eV_le he (Or.inr ⟨c17, by omega⟩)).symm)) hl
              exact ih4 (i + 1) x8 x9 (by omega) (by omega) _ _ _ hP hD hS (lv_sub hl [3, 4, 1, 0] rfl)
            · refine lv_iconst (v := nI 1) hx hb dX11_end_43 (by decide +kernel) ?_
              refine lv_goto (tgt := 48) hx hb dX11_end_44 (by decide) ?_
              refine lv_istore (lv' := [(4, .int (nI 1)), (0, .ref (B 0)), (1, .int (bI z)), (2, .int (nI (eN S a.1 z i))), (3, .int (nI i))]) hx hb dX11_end_48 hl (by decide) rfl (fun ls hl => ?_)
              refine lv_iload hx hb dX11_end_50 (lv_at hl 0 rfl) ?_
              refine lv_if_eq (tgt := 77) hx hb dX11_end_52 (by decide) (fun c52 => ?_) (fun c52 => ?_)
              · exact absurd c52 (by decide +kernel)
              refine lv_aload_n hx hb dX11_end_55 rfl (lv_at hl 1 rfl) ?_
              refine lv_aload_n hx hb dX11_end_56 rfl (lv_at hl 1 rfl) ?_
              refine va_get (D := D) (ci := 10) (v := .ref (B 8)) (C := RX11) (T := TX11) (N := 27) hx hb hts hi_X11_end_X11 hown hK hP 0 rfl rfl 18 (by decide) (hts (.fieldLink RX11 32 "FallingWordsModel" "found" "[I") (by decide +kernel)) (fun _ h9 => h9) rfl dX11_end_57 ?_
              refine lv_iload_n hx hb dX11_end_60 rfl (lv_at hl 4 rfl) ?_
              refine xa_ld (v := nI (a.1 i)) hx hb hK hP 8 rfl (by omega) (by decide) (d1) dX11_end_61 ?_
              refine ci_V (As := [.int (nI (a.1 i))]) (rest := []) h0 hK hN hP hD hS hA hl.1 (k_X11_chooses lY D cA B S WA BG AS TX RW RR FD m1 m2 m3 m4 m5 m6 m7 x8 x9 m10 m11 (nI a.2) m13 m14 m15 m16 m17 m18 m19 (a.1 i) (hI) (d2)) [0, 1, 2, 3, 4, 5, 6, 7, 8] rfl (by decide) (cwV 1 hts gX11_end_X11_chooses rfl rfl rfl (by decide +kernel) ⟨Nat.le_of_ble_eq_true rfl, Nat.le_of_ble_eq_true rfl⟩) (cl_recv (ci := 10) (q := (RX11, TX11, 27)) (q0 := 0) hP hK rfl rfl) rfl rfl (Nat.le_of_ble_eq_true rfl) dX11_end_62 ⟨Nat.zero_le _, Nat.zero_le _⟩ (fun rY wY H locs hwY hJ hS => ?_)
              obtain ⟨k8_62, k9_62, e1Y, e2Y, fc_62⟩ := hwY
              have e3Y := e1Y.symm
              clear e1Y
              subst e3Y
              have e3Y := e2Y.symm
              clear e2Y
              subst e3Y
              obtain ⟨hP, hD⟩ := hJ rfl
              have hP : va_P D vwCl (gMo cA B (fN S) WA BG AS TX RW RR FD m1 m2 m3 m4 m5 m6 m7 k8_62 k9_62 m10 m11 (nI a.2) m13 m14 m15 m16 m17 m18 m19) H := hP
              have hD : va_D AY (gMo cA B (fN S) WA BG AS TX RW RR FD m1 m2 m3 m4 m5 m6 m7 k8_62 k9_62 m10 m11 (nI a.2) m13 m14 m15 m16 m17 m18 m19) := hD
              refine xb_ne (tgt := 77) hx hb dX11_end_65 (by decide) (fun c65 => ?_) (fun c65 => ?_)
              · refine lv_iload_n hx hb dX11_end_77 rfl (lv_at hl 3 rfl) ?_
                refine lv_istore_n (lv' := [(2, .int (nI (eN S a.1 z i))), (4, .int (nI 1)), (0, .ref (B 0)), (1, .int (bI z)), (3, .int (nI i))]) hx hb dX11_end_78 rfl hl (by decide) rfl (fun ls hl => ?_)
                refine lv_iinc (v := nI (i + 1)) (lv' := [(3, .int (nI (i + 1))), (2, .int (nI (eN S a.1 z i))), (4, .int (nI 1)), (0, .ref (B 0)), (1, .int (bI z))]) hx hb dX11_end_79 hl (k := 4) rfl (show nI i + Int32.ofInt 1 = nI (i + 1) from nI_add i 1) (by decide) rfl (fun ls hl => ?_)
                refine lv_goto (tgt := 4) hx hb dX11_end_82 (by decide) ?_
                have hl : lv_has ls 5 [(3, .int (nI (i + 1))), (2, .int (eV S a.1 z (i + 1))), (4, .int (nI 1)), (0, .ref (B 0)), (1, .int (bI z))] := Eq.mp (congrArg (fun zY : Int32 => lv_has ls 5 [(3, .int (nI (i + 1))), (2, .int zY), (4, .int (nI 1)), (0, .ref (B 0)), (1, .int (bI z))]) (show nI (eN S a.1 z i) = eV S a.1 z (i + 1) from ((eV_k (nt_t c65)).trans (if_neg he)).symm)) hl
                exact ih4 (i + 1) k8_62 k9_62 (by omega) (by omega) _ _ _ hP hD hS (lv_sub hl [3, 4, 1, 0] rfl)
              · refine lv_aload_n hx hb dX11_end_68 rfl (lv_at hl 1 rfl) ?_
                refine va_get (D := D) (ci := 10) (v := .ref (B 8)) (C := RX11) (T := TX11) (N := 27) hx hb hts hi_X11_end_X11 hown hK hP 0 rfl rfl 18 (by decide) (hts (.fieldLink RX11 32 "FallingWordsModel" "found" "[I") (by decide +kernel)) (fun _ h9 => h9) rfl dX11_end_69 ?_
                refine lv_iload_n hx hb dX11_end_72 rfl (lv_at hl 4 rfl) ?_
                refine xa_ld (v := nI (a.1 i)) hx hb hK hP 8 rfl (by omega) (by decide) (d1) dX11_end_73 ?_
                refine lv_goto (tgt := 78) hx hb dX11_end_74 (by decide) ?_
                refine lv_istore_n (lv' := [(2, .int (nI (a.1 i))), (4, .int (nI 1)), (0, .ref (B 0)), (1, .int (bI z)), (3, .int (nI i))]) hx hb dX11_end_78 rfl hl (by decide) rfl (fun ls hl => ?_)
                refine lv_iinc (v := nI (i + 1)) (lv' := [(3, .int (nI (i + 1))), (2, .int (nI (a.1 i))), (4, .int (nI 1)), (0, .ref (B 0)), (1, .int (bI z))]) hx hb dX11_end_79 hl (k := 4) rfl (show nI i + Int32.ofInt 1 = nI (i + 1) from nI_add i 1) (by decide) rfl (fun ls hl => ?_)
                refine lv_goto (tgt := 4) hx hb dX11_end_82 (by decide) ?_
                have hl : lv_has ls 5 [(3, .int (nI (i + 1))), (2, .int (eV S a.1 z (i + 1))), (4, .int (nI 1)), (0, .ref (B 0)), (1, .int (bI z))] := Eq.mp (congrArg (fun zY : Int32 => lv_has ls 5 [(3, .int (nI (i + 1))), (2, .int zY), (4, .int (nI 1)), (0, .ref (B 0)), (1, .int (bI z))]) (show nI (a.1 i) = eV S a.1 z (i + 1) from (eV_gt (nt_f c65) he (Or.inr ⟨c17, by omega⟩)).symm)) hl
                exact ih4 (i + 1) k8_62 k9_62 (by omega) (by omega) _ _ _ hP hD hS (lv_sub hl [3, 4, 1, 0] rfl)
          · refine lv_aload_n hx hb dX11_end_20 rfl (lv_at hl 0 rfl) ?_
            refine va_get (D := D) (ci := 10) (v := .ref (B 8)) (C := RX11) (T := TX11) (N := 27) hx hb hts hi_X11_end_X11 hown hK hP 0 rfl rfl 18 (by decide) (hts (.fieldLink RX11 32 "FallingWordsModel" "found" "[I") (by decide +kernel)) (fun _ h9 => h9) rfl dX11_end_21 ?_
            refine lv_iload_n hx hb dX11_end_24 rfl (lv_at hl 3 rfl) ?_
            refine xa_ld (v := nI (a.1 i)) hx hb hK hP 8 rfl (by omega) (by decide) (d1) dX11_end_25 ?_
            refine lv_iload_n hx hb dX11_end_26 rfl (lv_at hl 2 rfl) ?_
            refine xc_le (tgt := 47) hx hb dX11_end_27 (by decide) (by omega) (by omega) (fun c27 => ?_) (fun c27 => ?_)
            · refine lv_iconst (v := nI 0) hx hb dX11_end_47 (by decide +kernel) ?_
              refine lv_istore (lv' := [(4, .int (nI 0)), (0, .ref (B 0)), (1, .int (bI z)), (2, .int (nI (eN S a.1 z i))), (3, .int (nI i))]) hx hb dX11_end_48 hl (by decide) rfl (fun ls hl => ?_)
              refine lv_iload hx hb dX11_end_50 (lv_at hl 0 rfl) ?_
              refine lv_if_eq (tgt := 77) hx hb dX11_end_52 (by decide) (fun c52 => ?_) (fun c52 => ?_)
              rotate_left
              · exact absurd (by decide +kernel) c52
              refine lv_iload_n hx hb dX11_end_77 rfl (lv_at hl 3 rfl) ?_
              refine lv_istore_n (lv' := [(2, .int (nI (eN S a.1 z i))), (4, .int (nI 0)), (0, .ref (B 0)), (1, .int (bI z)), (3, .int (nI i))]) hx hb dX11_end_78 rfl hl (by decide) rfl (fun ls hl => ?_)
              refine lv_iinc (v := nI (i + 1)) (lv' := [(3, .int (nI (i + 1))), (2, .int (nI (eN S a.1 z i))), (4, .int (nI 0)), (0, .ref (B 0)), (1, .int (bI z))]) hx hb dX11_end_79 hl (k := 4) rfl (show nI i + Int32.ofInt 1 = nI (i + 1) from nI_add i 1) (by decide) rfl (fun ls hl => ?_)
              refine lv_goto (tgt := 4) hx hb dX11_end_82 (by decide) ?_
              have hl : lv_has ls 5 [(3, .int (nI (i + 1))), (2, .int (eV S a.1 z (i + 1))), (4, .int (nI 0)), (0, .ref (B 0)), (1, .int (bI z))] := Eq.mp (congrArg (fun zY : Int32 => lv_has ls 5 [(3, .int (nI (i + 1))), (2, .int zY), (4, .int (nI 0)), (0, .ref (B 0)), (1, .int (bI z))]) (show nI (eN S a.1 z i) = eV S a.1 z (i + 1) from (eV_le he (Or.inl ⟨c17, by omega⟩)).symm)) hl
              exact ih4 (i + 1) x8 x9 (by omega) (by omega) _ _ _ hP hD hS (lv_sub hl [3, 4, 1, 0] rfl)
            · refine lv_goto (tgt := 43) hx hb dX11_end_30 (by decide) ?_
              refine lv_iconst (v := nI 1) hx hb dX11_end_43 (by decide +kernel) ?_
              refine lv_goto (tgt := 48) hx hb dX11_end_44 (by decide) ?_
              refine lv_istore (lv' := [(4, .int (nI 1)), (0, .ref (B 0)), (1, .int (bI z)), (2, .int (nI (eN S a.1 z i))), (3, .int (nI i))]) hx hb dX11_end_48 hl (by decide) rfl (fun ls hl => ?_)
              refine lv_iload hx hb dX11_end_50 (lv_at hl 0 rfl) ?_
              refine lv_if_eq (tgt := 77) hx hb dX11_end_52 (by decide) (fun c52 => ?_) (fun c52 => ?_)
              · exact absurd c52 (by decide +kernel)
              refine lv_aload_n hx hb dX11_end_55 rfl (lv_at hl 1 rfl) ?_
              refine lv_aload_n hx hb dX11_end_56 rfl (lv_at hl 1 rfl) ?_
              refine va_get (D := D) (ci := 10) (v := .ref (B 8)) (C := RX11) (T := TX11) (N := 27) hx hb hts hi_X11_end_X11 hown hK hP 0 rfl rfl 18 (by decide) (hts (.fieldLink RX11 32 "FallingWordsModel" "found" "[I") (by decide +kernel)) (fun _ h9 => h9) rfl dX11_end_57 ?_
              refine lv_iload_n hx hb dX11_end_60 rfl (lv_at hl 4 rfl) ?_
              refine xa_ld (v := nI (a.1 i)) hx hb hK hP 8 rfl (by omega) (by decide) (d1) dX11_end_61 ?_
              refine ci_V (As := [.int (nI (a.1 i))]) (rest := []) h0 hK hN hP hD hS hA hl.1 (k_X11_chooses lY D cA B S WA BG AS TX RW RR FD m1 m2 m3 m4 m5 m6 m7 x8 x9 m10 m11 (nI a.2) m13 m14 m15 m16 m17 m18 m19 (a.1 i) (hI) (d2)) [0, 1, 2, 3, 4, 5, 6, 7, 8] rfl (by decide) (cwV 1 hts gX11_end_X11_chooses rfl rfl rfl (by decide +kernel) ⟨Nat.le_of_ble_eq_true rfl, Nat.le_of_ble_eq_true rfl⟩) (cl_recv (ci := 10) (q := (RX11, TX11, 27)) (q0 := 0) hP hK rfl rfl) rfl rfl (Nat.le_of_ble_eq_true rfl) dX11_end_62 ⟨Nat.zero_le _, Nat.zero_le _⟩ (fun rY wY H locs hwY hJ hS => ?_)
              obtain ⟨k8_62, k9_62, e1Y, e2Y, fc_62⟩ := hwY
              have e3Y := e1Y.symm
              clear e1Y
              subst e3Y
              have e3Y := e2Y.symm
              clear e2Y
              subst e3Y
              obtain ⟨hP, hD⟩ := hJ rfl
              have hP : va_P D vwCl (gMo cA B (fN S) WA BG AS TX RW RR FD m1 m2 m3 m4 m5 m6 m7 k8_62 k9_62 m10 m11 (nI a.2) m13 m14 m15 m16 m17 m18 m19) H := hP
              have hD : va_D AY (gMo cA B (fN S) WA BG AS TX RW RR FD m1 m2 m3 m4 m5 m6 m7 k8_62 k9_62 m10 m11 (nI a.2) m13 m14 m15 m16 m17 m18 m19) := hD
              refine xb_ne (tgt := 77) hx hb dX11_end_65 (by decide) (fun c65 => ?_) (fun c65 => ?_)
              · refine lv_iload_n hx hb dX11_end_77 rfl (lv_at hl 3 rfl) ?_
                refine lv_istore_n (lv' := [(2, .int (nI (eN S a.1 z i))), (4, .int (nI 1)), (0, .ref (B 0)), (1, .int (bI z)), (3, .int (nI i))]) hx hb dX11_end_78 rfl hl (by decide) rfl (fun ls hl => ?_)
                refine lv_iinc (v := nI (i + 1)) (lv' := [(3, .int (nI (i + 1))), (2, .int (nI (eN S a.1 z i))), (4, .int (nI 1)), (0, .ref (B 0)), (1, .int (bI z))]) hx hb dX11_end_79 hl (k := 4) rfl (show nI i + Int32.ofInt 1 = nI (i + 1) from nI_add i 1) (by decide) rfl (fun ls hl => ?_)
                refine lv_goto (tgt := 4) hx hb dX11_end_82 (by decide) ?_
                have hl : lv_has ls 5 [(3, .int (nI (i + 1))), (2, .int (eV S a.1 z (i + 1))), (4, .int (nI 1)), (0, .ref (B 0)), (1, .int (bI z))] := Eq.mp (congrArg (fun zY : Int32 => lv_has ls 5 [(3, .int (nI (i + 1))), (2, .int zY), (4, .int (nI 1)), (0, .ref (B 0)), (1, .int (bI z))]) (show nI (eN S a.1 z i) = eV S a.1 z (i + 1) from ((eV_k (nt_t c65)).trans (if_neg he)).symm)) hl
                exact ih4 (i + 1) k8_62 k9_62 (by omega) (by omega) _ _ _ hP hD hS (lv_sub hl [3, 4, 1, 0] rfl)
              · refine lv_aload_n hx hb dX11_end_68 rfl (lv_at hl 1 rfl) ?_
                refine va_get (D := D) (ci := 10) (v := .ref (B 8)) (C := RX11) (T := TX11) (N := 27) hx hb hts hi_X11_end_X11 hown hK hP 0 rfl rfl 18 (by decide) (hts (.fieldLink RX11 32 "FallingWordsModel" "found" "[I") (by decide +kernel)) (fun _ h9 => h9) rfl dX11_end_69 ?_
                refine lv_iload_n hx hb dX11_end_72 rfl (lv_at hl 4 rfl) ?_
                refine xa_ld (v := nI (a.1 i)) hx hb hK hP 8 rfl (by omega) (by decide) (d1) dX11_end_73 ?_
                refine lv_goto (tgt := 78) hx hb dX11_end_74 (by decide) ?_
                refine lv_istore_n (lv' := [(2, .int (nI (a.1 i))), (4, .int (nI 1)), (0, .ref (B 0)), (1, .int (bI z)), (3, .int (nI i))]) hx hb dX11_end_78 rfl hl (by decide) rfl (fun ls hl => ?_)
                refine lv_iinc (v := nI (i + 1)) (lv' := [(3, .int (nI (i + 1))), (2, .int (nI (a.1 i))), (4, .int (nI 1)), (0, .ref (B 0)), (1, .int (bI z))]) hx hb dX11_end_79 hl (k := 4) rfl (show nI i + Int32.ofInt 1 = nI (i + 1) from nI_add i 1) (by decide) rfl (fun ls hl => ?_)
                refine lv_goto (tgt := 4) hx hb dX11_end_82 (by decide) ?_
                have hl : lv_has ls 5 [(3, .int (nI (i + 1))), (2, .int (eV S a.1 z (i + 1))), (4, .int (nI 1)), (0, .ref (B 0)), (1, .int (bI z))] := Eq.mp (congrArg (fun zY : Int32 => lv_has ls 5 [(3, .int (nI (i + 1))), (2, .int zY), (4, .int (nI 1)), (0, .ref (B 0)), (1, .int (bI z))]) (show nI (a.1 i) = eV S a.1 z (i + 1) from (eV_gt (nt_f c65) he (Or.inl ⟨c17, by omega⟩)).symm)) hl
                exact ih4 (i + 1) k8_62 k9_62 (by omega) (by omega) _ _ _ hP hD hS (lv_sub hl [3, 4, 1, 0] rfl)
  have hl : lv_has ls 5 [(3, .int (nI 0)), (2, .int (eV S a.1 z 0)), (0, .ref (B 0)), (1, .int (bI z))] := Eq.mp (congrArg (fun zY : Int32 => lv_has ls 5 [(3, .int (nI 0)), (2, .int zY), (0, .ref (B 0)), (1, .int (bI z))]) (show (-1) = eV S a.1 z 0 from rfl)) hl
  exact L4 _ 0 m8 m9 (by omega) (Nat.lt_succ_self _) _ _ _ hP hD hS (lv_sub hl [2, 3, 1, 0] rfl)

theorem hi_X11_ends_X11 : ∀ w ∈ u_ws RX11 TX11 27, w ∈ wsX11_ends := by decide +kernel
set_option maxHeartbeats 1000000 in
set_option maxRecDepth 100000 in
theorem k_X11_ends (lY : Launch) (D : va_G) (cA : Nat → ClassId) (B : Nat → Nat) (S : St) (WA BG AS TX RW RR FD : Nat → Int32) (m1 m2 m3 m4 m5 m6 m7 m8 m9 m10 m11 m13 m14 m15 m16 m17 m18 m19 : Int32) (a : Acc) (hI : IR S) (hf : rFd a FD) : MetI lY D cA yX11_ends wsX11_ends 3 72 [.ref (B 0)] (gMo cA B (fN S) WA BG AS TX RW RR FD m1 m2 m3 m4 m5 m6 m7 m8 m9 m10 m11 (nI a.2) m13 m14 m15 m16 m17 m18 m19) (fun rY wY => ∃ (k8 : Int32) (k9 : Int32), rY = nI ((enF S a.1 a.2).1) ∧ wY = gMo cA B (fN S) WA BG AS TX RW RR FD m1 m2 m3 m4 m5 m6 m7 k8 k9 m10 m11 (nI a.2) m13 m14 m15 m16 m17 m18 m19) := by
  refine MetI.of (cc := cX11_ends) (maxL := 3) (ret := (some .int)) (by decide) rfl (Nat.le_of_ble_eq_true rfl) (Or.inl rfl) ?_
  intro pY eY sY mY aY bY tY cY QY AY ls h0 hP hK hN hD hA hS hl hret
  obtain ⟨hx, hb, hml, hown, hts⟩ := id h0
  have hl : lv_has ls 3 [(0, .ref (B 0))] := hl
  have hP : va_P D vwCl (gMo cA B (fN S) WA BG AS TX RW RR FD m1 m2 m3 m4 m5 m6 m7 m8 m9 m10 m11 (nI a.2) m13 m14 m15 m16 m17 m18 m19) sY.heap := hP
  have hD : va_D AY (gMo cA B (fN S) WA BG AS TX RW RR FD m1 m2 m3 m4 m5 m6 m7 m8 m9 m10 m11 (nI a.2) m13 m14 m15 m16 m17 m18 m19) := hD
  have h401 := hf.1
  refine lv_iconst (v := nI 0) hx hb dX11_ends_0 (by decide +kernel) ?_
  refine lv_istore_n (lv' := [(1, .int (nI 0)), (0, .ref (B 0))]) hx hb dX11_ends_1 rfl hl (by decide) rfl (fun ls hl => ?_)
  refine lv_iconst (v := nI 0) hx hb dX11_ends_2 (by decide +kernel) ?_
  refine lv_istore_n (lv' := [(2, .int (nI 0)), (1, .int (nI 0)), (0, .ref (B 0))]) hx hb dX11_ends_3 rfl hl (by decide) rfl (fun ls hl => ?_)
  have L4 : ∀ (nY : Nat), ∀ (i : Nat) (x8 : Int32) (x9 : Int32), (i ≤ a.2) → (a.2 - i < nY) → ∀ (H : Heap) (locs : List Loc) (ls : Array Slot), va_P D vwCl (gMo cA B (fN S) WA BG AS TX RW RR FD m1 m2 m3 m4 m5 m6 m7 x8 x9 m10 m11 (nI a.2) m13 m14 m15 m16 m17 m18 m19) H → va_D AY (gMo cA B (fN S) WA BG AS TX RW RR FD m1 m2 m3 m4 m5 m6 m7 x8 x9 m10 m11 (nI a.2) m13 m14 m15 m16 m17 m18 m19) → va_S AY sY.heap H locs → lv_has ls 3 [(0, .ref (B 0)), (1, .int (nI ((enF S a.1 i).1))), (2, .int (nI i))] → W pY lY eY { frames := 3, cells := 0, slots := 0, locals := 72 } sY mY aY bY tY cY H locs 0 0 QY (F0 mY 4 ls []) := by
    intro nY4
    induction nY4 with
    | zero => intro i x8 x9 hi hm4; exact absurd hm4 (Nat.not_lt_zero _)
    | succ nY4 ih4 =>
      intro i x8 x9 hi hm4 H locs ls hP hD hS hl
      refine lv_iload_n hx hb dX11_ends_4 rfl (lv_at hl 2 rfl) ?_
      refine lv_aload_n hx hb dX11_ends_5 rfl (lv_at hl 0 rfl) ?_
      refine va_get (D := D) (ci := 10) (v := .int (nI a.2)) (C := RX11) (T := TX11) (N := 27) hx hb hts hi_X11_ends_X11 hown hK hP 0 rfl rfl 19 (by decide) (hts (.fieldLink RX11 119 "FallingWordsModel" "many" "I") (by decide +kernel)) (fun _ h9 => h9) rfl dX11_ends_6 ?_
      refine xc_ge (tgt := 39) hx hb dX11_ends_9 (by decide) (by omega) (by omega) (fun c9 => ?_) (fun c9 => ?_)
      · refine lv_iload_n hx hb dX11_ends_39 rfl (lv_at hl 1 rfl) ?_
        exact hret _ _ _ _ _ _ dX11_ends_40 ⟨x8, x9, (by rw [show a.2 = i by omega]), rfl⟩ hP hD hS
      · obtain ⟨d1, d2⟩ := hf.2 i (by omega)
        refine lv_iload_n hx hb dX11_ends_12 rfl (lv_at hl 1 rfl) ?_
        refine lv_aload_n hx hb dX11_ends_13 rfl (lv_at hl 0 rfl) ?_
        refine lv_aload_n hx hb dX11_ends_14 rfl (lv_at hl 0 rfl) ?_
        refine va_get (D := D) (ci := 10) (v := .ref (B 8)) (C := RX11) (T := TX11) (N := 27) hx hb hts hi_X11_ends_X11 hown hK hP 0 rfl rfl 18 (by decide) (hts (.fieldLink RX11 32 "FallingWordsModel" "found" "[I") (by decide +kernel)) (fun _ h9 => h9) rfl dX11_ends_15 ?_
        refine lv_iload_n hx hb dX11_ends_18 rfl (lv_at hl 2 rfl) ?_
        refine xa_ld (v := nI (a.1 i)) hx hb hK hP 8 rfl (by omega) (by decide) (d1) dX11_ends_19 ?_
        refine ci_V (As := [.int (nI (a.1 i))]) (rest := [.int (nI ((enF S a.1 i).1))]) h0 hK hN hP hD hS hA hl.1 (k_X11_chooses lY D cA B S WA BG AS TX RW RR FD m1 m2 m3 m4 m5 m6 m7 x8 x9 m10 m11 (nI a.2) m13 m14 m15 m16 m17 m18 m19 (a.1 i) (hI) (d2)) [0, 1, 2, 3, 4, 5, 6, 7, 8] rfl (by decide) (cwV 1 hts gX11_ends_X11_chooses rfl rfl rfl (by decide +kernel) ⟨Nat.le_of_ble_eq_true rfl, Nat.le_of_ble_eq_true rfl⟩) (cl_recv (ci := 10) (q := (RX11, TX11, 27)) (q0 := 0) hP hK rfl rfl) rfl rfl (Nat.le_of_ble_eq_true rfl) dX11_ends_20 ⟨Nat.zero_le _, Nat.zero_le _⟩ (fun rY wY H locs hwY hJ hS => ?_)
        obtain ⟨k8_20, k9_20, e1Y, e2Y, fc_20⟩ := hwY
        have e3Y := e1Y.symm
        clear e1Y
        subst e3Y
        have e3Y := e2Y.symm
        clear e2Y
        subst e3Y
        obtain ⟨hP, hD⟩ := hJ rfl
        have hP : va_P D vwCl (gMo cA B (fN S) WA BG AS TX RW RR FD m1 m2 m3 m4 m5 m6 m7 k8_20 k9_20 m10 m11 (nI a.2) m13 m14 m15 m16 m17 m18 m19) H := hP
        have hD : va_D AY (gMo cA B (fN S) WA BG AS TX RW RR FD m1 m2 m3 m4 m5 m6 m7 k8_20 k9_20 m10 m11 (nI a.2) m13 m14 m15 m16 m17 m18 m19) := hD
        refine xb_eq (tgt := 30) hx hb dX11_ends_23 (by decide) (fun c23 => ?_) (fun c23 => ?_)
        · refine lv_iconst (v := nI 1) hx hb dX11_ends_30 (by decide +kernel) ?_
          refine lv_iadd hx hb dX11_ends_31 ?_
          refine xt (show (nI ((enF S a.1 i).1)) + (nI 1) = nI ((enF S a.1 i).1 + 1) from nI_add _ _) ?_
          refine lv_istore_n (lv' := [(1, .int (nI ((enF S a.1 i).1 + 1))), (0, .ref (B 0)), (2, .int (nI i))]) hx hb dX11_ends_32 rfl hl (by decide) rfl (fun ls hl => ?_)
          refine lv_iinc (v := nI (i + 1)) (lv' := [(2, .int (nI (i + 1))), (1, .int (nI ((enF S a.1 i).1 + 1))), (0, .ref (B 0))]) hx hb dX11_ends_33 hl (k := 2) rfl (show nI i + Int32.ofInt 1 = nI (i + 1) from nI_add i 1) (by decide) rfl (fun ls hl => ?_)
          refine lv_goto (tgt := 4) hx hb dX11_ends_36 (by decide) ?_
          have hl : lv_has ls 3 [(2, .int (nI (i + 1))), (1, .int (nI ((enF S a.1 (i + 1)).1))), (0, .ref (B 0))] := Eq.mp (congrArg (fun zY : Int32 => lv_has ls 3 [(2, .int (nI (i + 1))), (1, .int zY), (0, .ref (B 0))]) (show nI ((enF S a.1 i).1 + 1) = nI ((enF S a.1 (i + 1)).1) from congrArg nI (by rw [enF_t (nt_f c23)]))) hl
          exact ih4 (i + 1) k8_20 k9_20 (by omega) (by omega) _ _ _ hP hD hS (lv_sub hl [2, 1, 0] rfl)
        · refine lv_iconst (v := nI 0) hx hb dX11_ends_26 (by decide +kernel) ?_
          refine lv_goto (tgt := 31) hx hb dX11_ends_27 (by decide) ?_
          refine lv_iadd hx hb dX11_ends_31 ?_
          refine xt (show (nI ((enF S a.1 i).1)) + (nI 0) = nI ((enF S a.1 i).1 + 0) from nI_add _ _) ?_
          refine lv_istore_n (lv' := [(1, .int (nI ((enF S a.1 i).1 + 0))), (0, .ref (B 0)), (2, .int (nI i))]) hx hb dX11_ends_32 rfl hl (by decide) rfl (fun ls hl => ?_)
          refine lv_iinc (v := nI (i + 1)) (lv' := [(2, .int (nI (i + 1))), (1, .int (nI ((enF S a.1 i).1 + 0))), (0, .ref (B 0))]) hx hb dX11_ends_33 hl (k := 2) rfl (show nI i + Int32.ofInt 1 = nI (i + 1) from nI_add i 1) (by decide) rfl (fun ls hl => ?_)
          refine lv_goto (tgt := 4) hx hb dX11_ends_36 (by decide) ?_
          have hl : lv_has ls 3 [(2, .int (nI (i + 1))), (1, .int (nI ((enF S a.1 (i + 1)).1))), (0, .ref (B 0))] := Eq.mp (congrArg (fun zY : Int32 => lv_has ls 3 [(2, .int (nI (i + 1))), (1, .int zY), (0, .ref (B 0))]) (show nI ((enF S a.1 i).1 + 0) = nI ((enF S a.1 (i + 1)).1) from congrArg nI (by rw [enF_f (nt_t c23)]; omega))) hl
          exact ih4 (i + 1) k8_20 k9_20 (by omega) (by omega) _ _ _ hP hD hS (lv_sub hl [2, 1, 0] rfl)
  have hl : lv_has ls 3 [(2, .int (nI 0)), (1, .int (nI ((enF S a.1 0).1))), (0, .ref (B 0))] := Eq.mp (congrArg (fun zY : Int32 => lv_has ls 3 [(2, .int (nI 0)), (1, .int zY), (0, .ref (B 0))]) (show nI 0 = nI ((enF S a.1 0).1) from rfl)) hl
  exact L4 _ 0 m8 m9 (by omega) (Nat.lt_succ_self _) _ _ _ hP hD hS (lv_sub hl [2, 1, 0] rfl)

theorem hi_X11_reached_X11 : ∀ w ∈ u_ws RX11 TX11 27, w ∈ wsX11_reached := by decide +kernel
set_option maxHeartbeats 1000000 in
set_option maxRecDepth 100000 in
theorem k_X11_reached (lY : Launch) (D : va_G) (cA : Nat → ClassId) (B : Nat → Nat) (S : St) (WA BG AS TX RW RR FD : Nat → Int32) (m1 m2 m3 m4 m5 m6 m7 m8 m9 m10 m11 m12 m13 m14 m15 m16 m17 m18 m19 : Int32) (x : Int32) (hI : IR S) (hw : vw 12 (S 0)) : MetI lY D cA yX11_reached wsX11_reached 4 96 [.ref (B 0), .int x] (gMo cA B (fN S) WA BG AS TX RW RR FD m1 m2 m3 m4 m5 m6 m7 m8 m9 m10 m11 m12 m13 m14 m15 m16 m17 m18 m19) (fun rY wY => ∃ (FD' : Nat → Int32) (k8 : Int32) (k9 : Int32) (k12 : Int32), rY = reaZ S x ∧ wY = gMo cA B (fN S) WA BG AS TX RW RR FD' m1 m2 m3 m4 m5 m6 m7 k8 k9 m10 m11 k12 m13 m14 m15 m16 m17 m18 m19) := by
  refine MetI.of (cc := cX11_reached) (maxL := 3) (ret := (some .int)) (by decide) rfl (Nat.le_of_ble_eq_true rfl) (Or.inl rfl) ?_
  intro pY eY sY mY aY bY tY cY QY AY ls h0 hP hK hN hD hA hS hl hret
  obtain ⟨hx, hb, hml, hown, hts⟩ := id h0
  have hl : lv_has ls 3 [(0, .ref (B 0)), (1, .int x)] := hl
  have hP : va_P D vwCl (gMo cA B (fN S) WA BG AS TX RW RR FD m1 m2 m3 m4 m5 m6 m7 m8 m9 m10 m11 m12 m13 m14 m15 m16 m17 m18 m19) sY.heap := hP
  have hD : va_D AY (gMo cA B (fN S) WA BG AS TX RW RR FD m1 m2 m3 m4 m5 m6 m7 m8 m9 m10 m11 m12 m13 m14 m15 m16 m17 m18 m19) := hD
  have e0 : (nI 0).toInt = 0 := rfl
  have e2 : (nI 2).toInt = 2 := rfl
  have e3 : (nI 3).toInt = 3 := rfl
  have e10 : (nI 10).toInt = 10 := rfl
  have e21 : (nI 21).toInt = 21 := rfl
  have e30 : (nI 30).toInt = 30 := rfl
  have e41 : (nI 41).toInt = 41 := rfl
  have L34 :  ((0 ≤ x.toInt ∧ x.toInt ≤ 3) ∨ (10 ≤ x.toInt ∧ x.toInt ≤ 21) ∨ (30 ≤ x.toInt ∧ x.toInt ≤ 41)) → ∀ (H : Heap) (locs : List Loc) (ls : Array Slot), va_P D vwCl (gMo cA B (fN S) WA BG AS TX RW RR FD m1 m2 m3 m4 m5 m6 m7 m8 m9 m10 m11 m12 m13 m14 m15 m16 m17 m18 m19) H → va_D AY (gMo cA B (fN S) WA BG AS TX RW RR FD m1 m2 m3 m4 m5 m6 m7 m8 m9 m10 m11 m12 m13 m14 m15 m16 m17 m18 m19) → va_S AY sY.heap H locs → lv_has ls 3 [(0, .ref (B 0)), (1, .int x)] → W pY lY eY { frames := 4, cells := 0, slots := 0, locals := 96 } sY mY aY bY tY cY H locs 0 0 QY (F0 mY 34 ls []) := by
    intro hv H locs ls hP hD hS hl
    refine lv_aload_n hx hb dX11_reached_34 rfl (lv_at hl 0 rfl) ?_
    refine cv_V (As := []) (rest := []) h0 hK hN hP hD hS hA hl.1 (k_X11_reachesAll lY D cA B S WA BG AS TX RW RR FD m1 m2 m3 m4 m5 m6 m7 m8 m9 m10 m11 m12 m13 m14 m15 m16 m17 m18 m19 (hI) (hw)) [0, 1, 2, 3, 4, 5, 6, 7, 8] rfl (by decide) (cwV 0 hts gX11_reached_X11_reachesAll rfl rfl rfl (by decide +kernel) ⟨Nat.le_of_ble_eq_true rfl, Nat.le_of_ble_eq_true rfl⟩) (cl_recv (ci := 10) (q := (RX11, TX11, 27)) (q0 := 0) hP hK rfl rfl) rfl rfl (Nat.le_of_ble_eq_true rfl) dX11_reached_35 ⟨Nat.zero_le _, Nat.zero_le _⟩ (fun wY H locs hwY hJ hS => ?_)
    obtain ⟨FD'_35, e2Y, ff_35⟩ := hwY
    have e3Y := e2Y.symm
    clear e2Y
    subst e3Y
    obtain ⟨hP, hD⟩ := hJ rfl
    have hP : va_P D vwCl (gMo cA B (fN S) WA BG AS TX RW RR FD'_35 m1 m2 m3 m4 m5 m6 m7 m8 m9 m10 m11 (nI ((bfs S (S 0)).2)) m13 m14 m15 m16 m17 m18 m19) H := hP
    have hD : va_D AY (gMo cA B (fN S) WA BG AS TX RW RR FD'_35 m1 m2 m3 m4 m5 m6 m7 m8 m9 m10 m11 (nI ((bfs S (S 0)).2)) m13 m14 m15 m16 m17 m18 m19) := hD
    have h401 := ff_35.1
    refine lv_aload_n hx hb dX11_reached_38 rfl (lv_at hl 0 rfl) ?_
    refine va_get (D := D) (ci := 10) (v := .int (nI ((bfs S (S 0)).2))) (C := RX11) (T := TX11) (N := 27) hx hb hts hi_X11_reached_X11 hown hK hP 0 rfl rfl 19 (by decide) (hts (.fieldLink RX11 119 "FallingWordsModel" "many" "I") (by decide +kernel)) (fun _ h9 => h9) rfl dX11_reached_39 ?_
    refine lv_sipush (v := nI 400) hx hb dX11_reached_42 (by decide +kernel) ?_
    refine xc_le (tgt := 51) hx hb dX11_reached_45 (by decide) (by omega) (by omega) (fun c45 => ?_) (fun c45 => ?_)
    · refine lv_iload_n hx hb dX11_reached_51 rfl (lv_at hl 1 rfl) ?_
      refine lv_iconst (v := nI 2) hx hb dX11_reached_52 (by decide +kernel) ?_
      refine xr_ge (tgt := 72) hx hb dX11_reached_53 (by decide) (fun c53 => ?_) (fun c53 => ?_)
      · refine lv_aload_n hx hb dX11_reached_72 rfl (lv_at hl 0 rfl) ?_
        refine lv_iload_n hx hb dX11_reached_73 rfl (lv_at hl 1 rfl) ?_
        refine lv_iconst (v := nI 3) hx hb dX11_reached_74 (by decide +kernel) ?_
        refine xr_eq (tgt := 84) hx hb dX11_reached_75 (by decide) (fun c75 => ?_) (fun c75 => ?_)
        · refine lv_iconst (v := nI 1) hx hb dX11_reached_84 (by decide +kernel) ?_
          refine lv_goto (tgt := 89) hx hb dX11_reached_85 (by decide) ?_
          refine ci_V (As := [.int (nI 1)]) (rest := []) h0 hK hN hP hD hS hA hl.1 (k_X11_end lY D cA B S WA BG AS TX RW RR FD'_35 m1 m2 m3 m4 m5 m6 m7 m8 m9 m10 m11 m13 m14 m15 m16 m17 m18 m19 (bfs S (S 0)) true (hI) (ff_35)) [0, 1, 2, 3, 4, 5, 6, 7, 8] rfl (by decide) (cwV 1 hts gX11_reached_X11_end rfl rfl rfl (by decide +kernel) ⟨Nat.le_of_ble_eq_true rfl, Nat.le_of_ble_eq_true rfl⟩) (cl_recv (ci := 10) (q := (RX11, TX11, 27)) (q0 := 0) hP hK rfl rfl) rfl rfl (Nat.le_of_ble_eq_true rfl) dX11_reached_89 ⟨Nat.zero_le _, Nat.zero_le _⟩ (fun rY wY H locs hwY hJ hS => ?_)
          obtain ⟨k8_89, k9_89, e1Y, e2Y⟩ := hwY
          have e3Y := e1Y.symm
          clear e1Y
          subst e3Y
          have e3Y := e2Y.symm
          clear e2Y
          subst e3Y
          obtain ⟨hP, hD⟩ := hJ rfl
          have hP : va_P D vwCl (gMo cA B (fN S) WA BG AS TX RW RR FD'_35 m1 m2 m3 m4 m5 m6 m7 k8_89 k9_89 m10 m11 (nI ((bfs S (S 0)).2)) m13 m14 m15 m16 m17 m18 m19) H := hP
          have hD : va_D AY (gMo cA B (fN S) WA BG AS TX RW RR FD'_35 m1 m2 m3 m4 m5 m6 m7 k8_89 k9_89 m10 m11 (nI ((bfs S (S 0)).2)) m13 m14 m15 m16 m17 m18 m19) := hD
          by_cases he : (enF S (bfs S (S 0)).1 (bfs S (S 0)).2).1 = 0
          · refine lv_istore_n (lv' := [(2, .int (eV S (bfs S (S 0)).1 true (bfs S (S 0)).2)), (0, .ref (B 0)), (1, .int x)]) hx hb dX11_reached_92 rfl hl (by decide) rfl (fun ls hl => ?_)
            have hl : lv_has ls 3 [(2, .int (-1)), (0, .ref (B 0)), (1, .int x)] := Eq.mp (congrArg (fun zY : Int32 => lv_has ls 3 [(2, .int zY), (0, .ref (B 0)), (1, .int x)]) (show eV S (bfs S (S 0)).1 true (bfs S (S 0)).2 = (-1) from if_pos he)) hl
            refine lv_iload_n hx hb dX11_reached_93 rfl (lv_at hl 0 rfl) ?_
            refine xz_ge (tgt := 100) hx hb dX11_reached_94 (by decide) (fun c94 => ?_) (fun c94 => ?_)
            · exact absurd c94 (by decide)
            · refine lv_ldc (v := (-1000004)) hx hb hown (hts (.constant RX11 43 (-1000004)) (by decide +kernel)) dX11_reached_97 ?_
              exact hret _ _ _ _ _ _ dX11_reached_99 ⟨FD'_35, k8_89, k9_89, ((nI ((bfs S (S 0)).2))), (by unfold reaZ; rw [if_neg (show ¬ (isL x 10 12 = false ∧ isL x 30 12 = false ∧ ¬ (0 ≤ x.toInt ∧ x.toInt ≤ 3)) from fun h => by have := isL_out h.1; have := isL_out h.2.1; omega), if_neg (show ¬ (bfs S (S 0)).2 = 401 by omega), if_neg (show ¬ x.toInt = 0 by omega), if_neg (show ¬ x.toInt = 1 by omega), if_pos he]), rfl⟩ hP hD hS
          · refine lv_istore_n (lv' := [(2, .int (eV S (bfs S (S 0)).1 true (bfs S (S 0)).2)), (0, .ref (B 0)), (1, .int x)]) hx hb dX11_reached_92 rfl hl (by decide) rfl (fun ls hl => ?_)
            have hvn := eN_vw (z := true) (fun j hj => (ff_35.2 j (by omega)).2) he
            have hvl := hvn.2
            have hBn := vw_B hvn (by decide)
            have hl : lv_has ls 3 [(2, .int (nI (eN S (bfs S (S 0)).1 true (bfs S (S 0)).2))), (0, .ref (B 0)), (1, .int x)] := Eq.mp (congrArg (fun zY : Int32 => lv_has ls 3 [(2, .int zY), (0, .ref (B 0)), (1, .int x)]) (show eV S (bfs S (S 0)).1 true (bfs S (S 0)).2 = nI (eN S (bfs S (S 0)).1 true (bfs S (S 0)).2) from if_neg he)) hl
            refine lv_iload_n hx hb dX11_reached_93 rfl (lv_at hl 0 rfl) ?_
            refine x0_ge (tgt := 100) hx hb dX11_reached_94 (by decide) (by omega) ?_
            refine lv_iload_n hx hb dX11_reached_100 rfl (lv_at hl 2 rfl) ?_
            refine lv_bipush (v := nI 10) hx hb dX11_reached_101 (by decide +kernel) ?_
            refine xr_ge (tgt := 113) hx hb dX11_reached_103 (by decide) (fun c103 => ?_) (fun c103 => ?_)
            · refine lv_iload_n hx hb dX11_reached_113 rfl (lv_at hl 0 rfl) ?_
              refine lv_iload_n hx hb dX11_reached_114 rfl (lv_at hl 2 rfl) ?_
              refine lv_bipush (v := nI 30) hx hb dX11_reached_115 (by decide +kernel) ?_
              refine xr_ge (tgt := 127) hx hb dX11_reached_117 (by decide) (fun c117 => ?_) (fun c117 => ?_)
              · refine lv_iload_n hx hb dX11_reached_127 rfl (lv_at hl 2 rfl) ?_
                refine lv_bipush (v := nI 30) hx hb dX11_reached_128 (by decide +kernel) ?_
                refine lv_isub hx hb dX11_reached_130 ?_
                have ey : (x - nI 30).toInt = x.toInt - 30 := i_sub (by omega) (by omega)
                refine ci_S (As := [.int (nI (eN S (bfs S (S 0)).1 true (bfs S (S 0)).2)), .int (x - (nI 30))]) (rest := []) h0 hK hN hP hD hS hA hl.1 (k_X11_letterOf lY D cA (eN S (bfs S (S 0)).1 true (bfs S (S 0)).2) (x - (nI 30)) (vw_up hvn (by decide)) (by omega)) [] rfl (by decide) (va_cwS 2 hts gX11_reached_X11_letterOf rfl rfl rfl (by decide +kernel) ⟨Nat.le_of_ble_eq_true rfl, Nat.le_of_ble_eq_true rfl⟩) rfl rfl (Nat.le_of_ble_eq_true rfl) dX11_reached_131 ⟨Nat.zero_le _, Nat.zero_le _⟩ (fun rY wY H locs hwY hJ hS => ?_)
                obtain ⟨e1Y, e2Y⟩ := hwY
                have e3Y := e1Y.symm
                clear e1Y
                subst e3Y
                have e3Y := e2Y.symm
                clear e2Y
                subst e3Y
                obtain ⟨hP, hD⟩ := hJ rfl
                have hP : va_P D vwCl (gMo cA B (fN S) WA BG AS TX RW RR FD'_35 m1 m2 m3 m4 m5 m6 m7 k8_89 k9_89 m10 m11 (nI ((bfs S (S 0)).2)) m13 m14 m15 m16 m17 m18 m19) H := hP
                have hD : va_D AY (gMo cA B (fN S) WA BG AS TX RW RR FD'_35 m1 m2 m3 m4 m5 m6 m7 k8_89 k9_89 m10 m11 (nI ((bfs S (S 0)).2)) m13 m14 m15 m16 m17 m18 m19) := hD
                exact hret _ _ _ _ _ _ dX11_reached_134 ⟨FD'_35, k8_89, k9_89, ((nI ((bfs S (S 0)).2))), (by unfold reaZ; rw [if_neg (show ¬ (isL x 10 12 = false ∧ isL x 30 12 = false ∧ ¬ (0 ≤ x.toInt ∧ x.toInt ≤ 3)) from fun h => by have := isL_out h.1; have := isL_out h.2.1; omega), if_neg (show ¬ (bfs S (S 0)).2 = 401 by omega), if_neg (show ¬ x.toInt = 0 by omega), if_neg (show ¬ x.toInt = 1 by omega), if_neg he, show isL x 10 12 = false from decide_eq_false (by omega), if_neg (by decide), show isL x 30 12 = true from decide_eq_true (by omega), if_pos rfl]; rfl), rfl⟩ hP hD hS
              · exfalso; omega
            · refine lv_iload_n hx hb dX11_reached_106 rfl (lv_at hl 0 rfl) ?_
              refine ci_S (As := [.int (nI (eN S (bfs S (S 0)).1 true (bfs S (S 0)).2))]) (rest := []) h0 hK hN hP hD hS hA hl.1 (k_X11_length lY D cA (eN S (bfs S (S 0)).1 true (bfs S (S 0)).2) (hvn.1) (by omega)) [] rfl (by decide) (va_cwS 1 hts gX11_reached_X11_length rfl rfl rfl (by decide +kernel) ⟨Nat.le_of_ble_eq_true rfl, Nat.le_of_ble_eq_true rfl⟩) rfl rfl (Nat.le_of_ble_eq_true rfl) dX11_reached_107 ⟨Nat.zero_le _, Nat.zero_le _⟩ (fun rY wY H locs hwY hJ hS => ?_)
              obtain ⟨e1Y, e2Y⟩ := hwY
              have e3Y := e1Y.symm
              clear e1Y
              subst e3Y
              have e3Y := e2Y.symm
              clear e2Y
              subst e3Y
              obtain ⟨hP, hD⟩ := hJ rfl
              have hP : va_P D vwCl (gMo cA B (fN S) WA BG AS TX RW RR FD'_35 m1 m2 m3 m4 m5 m6 m7 k8_89 k9_89 m10 m11 (nI ((bfs S (S 0)).2)) m13 m14 m15 m16 m17 m18 m19) H := hP
              have hD : va_D AY (gMo cA B (fN S) WA BG AS TX RW RR FD'_35 m1 m2 m3 m4 m5 m6 m7 k8_89 k9_89 m10 m11 (nI ((bfs S (S 0)).2)) m13 m14 m15 m16 m17 m18 m19) := hD
              refine lv_goto (tgt := 134) hx hb dX11_reached_110 (by decide) ?_
              exact hret _ _ _ _ _ _ dX11_reached_134 ⟨FD'_35, k8_89, k9_89, ((nI ((bfs S (S 0)).2))), (by unfold reaZ; rw [if_neg (show ¬ (isL x 10 12 = false ∧ isL x 30 12 = false ∧ ¬ (0 ≤ x.toInt ∧ x.toInt ≤ 3)) from fun h => by have := isL_out h.1; have := isL_out h.2.1; omega), if_neg (show ¬ (bfs S (S 0)).2 = 401 by omega), if_neg (show ¬ x.toInt = 0 by omega), if_neg (show ¬ x.toInt = 1 by omega), if_neg he, show isL x 10 12 = false from decide_eq_false (by omega), if_neg (by decide), show isL x 30 12 = false from decide_eq_false (by omega), if_neg (by decide), if_neg (show ¬ x.toInt = 2 by omega)]; rfl), rfl⟩ hP hD hS
        · refine lv_iload_n hx hb dX11_reached_78 rfl (lv_at hl 1 rfl) ?_
          refine lv_bipush (v := nI 30) hx hb dX11_reached_79 (by decide +kernel) ?_
          refine xr_lt (tgt := 88) hx hb dX11_reached_81 (by decide) (fun c81 => ?_) (fun c81 => ?_)
          · refine lv_iconst (v := nI 0) hx hb dX11_reached_88 (by decide +kernel) ?_
            refine ci_V (As := [.int (nI 0)]) (rest := []) h0 hK hN hP hD hS hA hl.1 (k_X11_end lY D cA B S WA BG AS TX RW RR FD'_35 m1 m2 m3 m4 m5 m6 m7 m8 m9 m10 m11 m13 m14 m15 m16 m17 m18 m19 (bfs S (S 0)) false (hI) (ff_35)) [0, 1, 2, 3, 4, 5, 6, 7, 8] rfl (by decide) (cwV 1 hts gX11_reached_X11_end rfl rfl rfl (by decide +kernel) ⟨Nat.le_of_ble_eq_true rfl, Nat.le_of_ble_eq_true rfl⟩) (cl_recv (ci := 10) (q := (RX11, TX11, 27)) (q0 := 0) hP hK rfl rfl) rfl rfl (Nat.le_of_ble_eq_true rfl) dX11_reached_89 ⟨Nat.zero_le _, Nat.zero_le _⟩ (fun rY wY H locs hwY hJ hS => ?_)
            obtain ⟨k8_89, k9_89, e1Y, e2Y⟩ := hwY
            have e3Y := e1Y.symm
            clear e1Y
            subst e3Y
            have e3Y := e2Y.symm
            clear e2Y
            subst e3Y
            obtain ⟨hP, hD⟩ := hJ rfl
            have hP : va_P D vwCl (gMo cA B (fN S) WA BG AS TX RW RR FD'_35 m1 m2 m3 m4 m5 m6 m7 k8_89 k9_89 m10 m11 (nI ((bfs S (S 0)).2)) m13 m14 m15 m16 m17 m18 m19) H := hP
            have hD : va_D AY (gMo cA B (fN S) WA BG AS TX RW RR FD'_35 m1 m2 m3 m4 m5 m6 m7 k8_89 k9_89 m10 m11 (nI ((bfs S (S 0)).2)) m13 m14 m15 m16 m17 m18 m19) := hD
            by_cases he : (enF S (bfs S (S 0)).1 (bfs S (S 0)).2).1 = 0
            · refine lv_istore_n (lv' := [(2, .int (eV S (bfs S (S 0)).1 false (bfs S (S 0)).2)), (0, .ref (B 0)), (1, .int x)]) hx hb dX11_reached_92 rfl hl (by decide) rfl (fun ls hl => ?_)
              have hl : lv_has ls 3 [(2, .int (-1)), (0, .ref (B 0)), (1, .int x)] := Eq.mp (congrArg (fun zY : Int32 => lv_has ls 3 [(2, .int zY), (0, .ref (B 0)), (1, .int x)]) (show eV S (bfs S (S 0)).1 false (bfs S (S 0)).2 = (-1) from if_pos he)) hl
              refine lv_iload_n hx hb dX11_reached_93 rfl (lv_at hl 0 rfl) ?_
              refine xz_ge (tgt := 100) hx hb dX11_reached_94 (by decide) (fun c94 => ?_) (fun c94 => ?_)
              · exact absurd c94 (by decide)
              · refine lv_ldc (v := (-1000004)) hx hb hown (hts (.constant RX11 43 (-1000004)) (by decide +kernel)) dX11_reached_97 ?_
                exact hret _ _ _ _ _ _ dX11_reached_99 ⟨FD'_35, k8_89, k9_89, ((nI ((bfs S (S 0)).2))), (by unfold reaZ; rw [if_neg (show ¬ (isL x 10 12 = false ∧ isL x 30 12 = false ∧ ¬ (0 ≤ x.toInt ∧ x.toInt ≤ 3)) from fun h => by have := isL_out h.1; have := isL_out h.2.1; omega), if_neg (show ¬ (bfs S (S 0)).2 = 401 by omega), if_neg (show ¬ x.toInt = 0 by omega), if_neg (show ¬ x.toInt = 1 by omega), if_pos he]), rfl⟩ hP hD hS
            · refine lv_istore_n (lv' := [(2, .int (eV S (bfs S (S 0)).1 false (bfs S (S 0)).2)), (0, .ref (B 0)), (1, .int x)]) hx hb dX11_reached_92 rfl hl (by decide) rfl (fun ls hl => ?_)
              have hvn := eN_vw (z := false) (fun j hj => (ff_35.2 j (by omega)).2) he
              have hvl := hvn.2
              have hBn := vw_B hvn (by decide)
              have hl : lv_has ls 3 [(2, .int (nI (eN S (bfs S (S 0)).1 false (bfs S (S 0)).2))), (0, .ref (B 0)), (1, .int x)] := Eq.mp (congrArg (fun zY : Int32 => lv_has ls 3 [(2, .int zY), (0, .ref (B 0)), (1, .int x)]) (show eV S (bfs S (S 0)).1 false (bfs S (S 0)).2 = nI (eN S (bfs S (S 0)).1 false (bfs S (S 0)).2) from if_neg he)) hl
              refine lv_iload_n hx hb dX11_reached_93 rfl (lv_at hl 0 rfl) ?_
              refine x0_ge (tgt := 100) hx hb dX11_reached_94 (by decide) (by omega) ?_
              refine lv_iload_n hx hb dX11_reached_100 rfl (lv_at hl 2 rfl) ?_
              refine lv_bipush (v := nI 10) hx hb dX11_reached_101 (by decide +kernel) ?_
              refine xr_ge (tgt := 113) hx hb dX11_reached_103 (by decide) (fun c103 => ?_) (fun c103 => ?_)
              · refine lv_iload_n hx hb dX11_reached_113 rfl (lv_at hl 0 rfl) ?_
                refine lv_iload_n hx hb dX11_reached_114 rfl (lv_at hl 2 rfl) ?_
                refine lv_bipush (v := nI 30) hx hb dX11_reached_115 (by decide +kernel) ?_
                refine xr_ge (tgt := 127) hx hb dX11_reached_117 (by decide) (fun c117 => ?_) (fun c117 => ?_)
                · exfalso; omega
                · refine lv_iload_n hx hb dX11_reached_120 rfl (lv_at hl 2 rfl) ?_
                  refine lv_bipush (v := nI 10) hx hb dX11_reached_121 (by decide +kernel) ?_
                  refine lv_isub hx hb dX11_reached_123 ?_
                  refine lv_goto (tgt := 131) hx hb dX11_reached_124 (by decide) ?_
                  have ey : (x - nI 10).toInt = x.toInt - 10 := i_sub (by omega) (by omega)
                  refine ci_S (As := [.int (nI (eN S (bfs S (S 0)).1 false (bfs S (S 0)).2)), .int (x - (nI 10))]) (rest := []) h0 hK hN hP hD hS hA hl.1 (k_X11_letterOf lY D cA (eN S (bfs S (S 0)).1 false (bfs S (S 0)).2) (x - (nI 10)) (vw_up hvn (by decide)) (by omega)) [] rfl (by decide) (va_cwS 2 hts gX11_reached_X11_letterOf rfl rfl rfl (by decide +kernel) ⟨Nat.le_of_ble_eq_true rfl, Nat.le_of_ble_eq_true rfl⟩) rfl rfl (Nat.le_of_ble_eq_true rfl) dX11_reached_131 ⟨Nat.zero_le _, Nat.zero_le _⟩ (fun rY wY H locs hwY hJ hS => ?_)
                  obtain ⟨e1Y, e2Y⟩ := hwY
                  have e3Y := e1Y.symm
                  clear e1Y
                  subst e3Y
                  have e3Y := e2Y.symm
                  clear e2Y
                  subst e3Y
                  obtain ⟨hP, hD⟩ := hJ rfl
                  have hP : va_P D vwCl (gMo cA B (fN S) WA BG AS TX RW RR FD'_35 m1 m2 m3 m4 m5 m6 m7 k8_89 k9_89 m10 m11 (nI ((bfs S (S 0)).2)) m13 m14 m15 m16 m17 m18 m19) H := hP
                  have hD : va_D AY (gMo cA B (fN S) WA BG AS TX RW RR FD'_35 m1 m2 m3 m4 m5 m6 m7 k8_89 k9_89 m10 m11 (nI ((bfs S (S 0)).2)) m13 m14 m15 m16 m17 m18 m19) := hD
                  exact hret _ _ _ _ _ _ dX11_reached_134 ⟨FD'_35, k8_89, k9_89, ((nI ((bfs S (S 0)).2))), (by unfold reaZ; rw [if_neg (show ¬ (isL x 10 12 = false ∧ isL x 30 12 = false ∧ ¬ (0 ≤ x.toInt ∧ x.toInt ≤ 3)) from fun h => by have := isL_out h.1; have := isL_out h.2.1; omega), if_neg (show ¬ (bfs S (S 0)).2 = 401 by omega), if_neg (show ¬ x.toInt = 0 by omega), if_neg (show ¬ x.toInt = 1 by omega), if_neg he, show isL x 10 12 = true from decide_eq_true (by omega), if_pos rfl]; rfl), rfl⟩ hP hD hS
              · refine lv_iload_n hx hb dX11_reached_106 rfl (lv_at hl 0 rfl) ?_
                refine ci_S (As := [.int (nI (eN S (bfs S (S 0)).1 false (bfs S (S 0)).2))]) (rest := []) h0 hK hN hP hD hS hA hl.1 (k_X11_length lY D cA (eN S (bfs S (S 0)).1 false (bfs S (S 0)).2) (hvn.1) (by omega)) [] rfl (by decide) (va_cwS 1 hts gX11_reached_X11_length rfl rfl rfl (by decide +kernel) ⟨Nat.le_of_ble_eq_true rfl, Nat.le_of_ble_eq_true rfl⟩) rfl rfl (Nat.le_of_ble_eq_true rfl) dX11_reached_107 ⟨Nat.zero_le _, Nat.zero_le _⟩ (fun rY wY H locs hwY hJ hS => ?_)
                obtain ⟨e1Y, e2Y⟩ := hwY
                have e3Y := e1Y.symm
                clear e1Y
                subst e3Y
                have e3Y := e2Y.symm
                clear e2Y
                subst e3Y
                obtain ⟨hP, hD⟩ := hJ rfl
                have hP : va_P D vwCl (gMo cA B (fN S) WA BG AS TX RW RR FD'_35 m1 m2 m3 m4 m5 m6 m7 k8_89 k9_89 m10 m11 (nI ((bfs S (S 0)).2)) m13 m14 m15 m16 m17 m18 m19) H := hP
                have hD : va_D AY (gMo cA B (fN S) WA BG AS TX RW RR FD'_35 m1 m2 m3 m4 m5 m6 m7 k8_89 k9_89 m10 m11 (nI ((bfs S (S 0)).2)) m13 m14 m15 m16 m17 m18 m19) := hD
                refine lv_goto (tgt := 134) hx hb dX11_reached_110 (by decide) ?_
                exact hret _ _ _ _ _ _ dX11_reached_134 ⟨FD'_35, k8_89, k9_89, ((nI ((bfs S (S 0)).2))), (by unfold reaZ; rw [if_neg (show ¬ (isL x 10 12 = false ∧ isL x 30 12 = false ∧ ¬ (0 ≤ x.toInt ∧ x.toInt ≤ 3)) from fun h => by have := isL_out h.1; have := isL_out h.2.1; omega), if_neg (show ¬ (bfs S (S 0)).2 = 401 by omega), if_neg (show ¬ x.toInt = 0 by omega), if_neg (show ¬ x.toInt = 1 by omega), if_neg he, show isL x 10 12 = false from decide_eq_false (by omega), if_neg (by decide), show isL x 30 12 = false from decide_eq_false (by omega), if_neg (by decide), if_pos (show x.toInt = 2 by omega)]; rfl), rfl⟩ hP hD hS
          · refine lv_iconst (v := nI 1) hx hb dX11_reached_84 (by decide +kernel) ?_
            refine lv_goto (tgt := 89) hx hb dX11_reached_85 (by decide) ?_
            refine ci_V (As := [.int (nI 1)]) (rest := []) h0 hK hN hP hD hS hA hl.1 (k_X11_end lY D cA B S WA BG AS TX RW RR FD'_35 m1 m2 m3 m4 m5 m6 m7 m8 m9 m10 m11 m13 m14 m15 m16 m17 m18 m19 (bfs S (S 0)) true (hI) (ff_35)) [0, 1, 2, 3, 4, 5, 6, 7, 8] rfl (by decide) (cwV 1 hts gX11_reached_X11_end rfl rfl rfl (by decide +kernel) ⟨Nat.le_of_ble_eq_true rfl, Nat.le_of_ble_eq_true rfl⟩) (cl_recv (ci := 10) (q := (RX11, TX11, 27)) (q0 := 0) hP hK rfl rfl) rfl rfl (Nat.le_of_ble_eq_true rfl) dX11_reached_89 ⟨Nat.zero_le _, Nat.zero_le _⟩ (fun rY wY H locs hwY hJ hS => ?_)
            obtain ⟨k8_89, k9_89, e1Y, e2Y⟩ := hwY
            have e3Y := e1Y.symm
            clear e1Y
            subst e3Y
            have e3Y := e2Y.symm
            clear e2Y
            subst e3Y
            obtain ⟨hP, hD⟩ := hJ rfl
            have hP : va_P D vwCl (gMo cA B (fN S) WA BG AS TX RW RR FD'_35 m1 m2 m3 m4 m5 m6 m7 k8_89 k9_89 m10 m11 (nI ((bfs S (S 0)).2)) m13 m14 m15 m16 m17 m18 m19) H := hP
            have hD : va_D AY (gMo cA B (fN S) WA BG AS TX RW RR FD'_35 m1 m2 m3 m4 m5 m6 m7 k8_89 k9_89 m10 m11 (nI ((bfs S (S 0)).2)) m13 m14 m15 m16 m17 m18 m19) := hD
            by_cases he : (enF S (bfs S (S 0)).1 (bfs S (S 0)).2).1 = 0
            · refine lv_istore_n (lv' := [(2, .int (eV S (bfs S (S 0)).1 true (bfs S (S 0)).2)), (0, .ref (B 0)), (1, .int x)]) hx hb dX11_reached_92 rfl hl (by decide) rfl (fun ls hl => ?_)
              have hl : lv_has ls 3 [(2, .int (-1)), (0, .ref (B 0)), (1, .int x)] := Eq.mp (congrArg (fun zY : Int32 => lv_has ls 3 [(2, .int zY), (0, .ref (B 0)), (1, .int x)]) (show eV S (bfs S (S 0)).1 true (bfs S (S 0)).2 = (-1) from if_pos he)) hl
              refine lv_iload_n hx hb dX11_reached_93 rfl (lv_at hl 0 rfl) ?_
              refine xz_ge (tgt := 100) hx hb dX11_reached_94 (by decide) (fun c94 => ?_) (fun c94 => ?_)
              · exact absurd c94 (by decide)
              · refine lv_ldc (v := (-1000004)) hx hb hown (hts (.constant RX11 43 (-1000004)) (by decide +kernel)) dX11_reached_97 ?_
                exact hret _ _ _ _ _ _ dX11_reached_99 ⟨FD'_35, k8_89, k9_89, ((nI ((bfs S (S 0)).2))), (by unfold reaZ; rw [if_neg (show ¬ (isL x 10 12 = false ∧ isL x 30 12 = false ∧ ¬ (0 ≤ x.toInt ∧ x.toInt ≤ 3)) from fun h => by have := isL_out h.1; have := isL_out h.2.1; omega), if_neg (show ¬ (bfs S (S 0)).2 = 401 by omega), if_neg (show ¬ x.toInt = 0 by omega), if_neg (show ¬ x.toInt = 1 by omega), if_pos he]), rfl⟩ hP hD hS
            · refine lv_istore_n (lv' := [(2, .int (eV S (bfs S (S 0)).1 true (bfs S (S 0)).2)), (0, .ref (B 0)), (1, .int x)]) hx hb dX11_reached_92 rfl hl (by decide) rfl (fun ls hl => ?_)
              have hvn := eN_vw (z := true) (fun j hj => (ff_35.2 j (by omega)).2) he
              have hvl := hvn.2
              have hBn := vw_B hvn (by decide)
              have hl : lv_has ls 3 [(2, .int (nI (eN S (bfs S (S 0)).1 true (bfs S (S 0)).2))), (0, .ref (B 0)), (1, .int x)] := Eq.mp (congrArg (fun zY : Int32 => lv_has ls 3 [(2, .int zY), (0, .ref (B 0)), (1, .int x)]) (show eV S (bfs S (S 0)).1 true (bfs S (S 0)).2 = nI (eN S (bfs S (S 0)).1 true (bfs S (S 0)).2) from if_neg he)) hl
              refine lv_iload_n hx hb dX11_reached_93 rfl (lv_at hl 0 rfl) ?_
              refine x0_ge (tgt := 100) hx hb dX11_reached_94 (by decide) (by omega) ?_
              refine lv_iload_n hx hb dX11_reached_100 rfl (lv_at hl 2 rfl) ?_
              refine lv_bipush (v := nI 10) hx hb dX11_reached_101 (by decide +kernel) ?_
              refine xr_ge (tgt := 113) hx hb dX11_reached_103 (by decide) (fun c103 => ?_) (fun c103 => ?_)
              · refine lv_iload_n hx hb dX11_reached_113 rfl (lv_at hl 0 rfl) ?_
                refine lv_iload_n hx hb dX11_reached_114 rfl (lv_at hl 2 rfl) ?_
                refine lv_bipush (v := nI 30) hx hb dX11_reached_115 (by decide +kernel) ?_
                refine xr_ge (tgt := 127) hx hb dX11_reached_117 (by decide) (fun c117 => ?_) (fun c117 => ?_)
                · refine lv_iload_n hx hb dX11_reached_127 rfl (lv_at hl 2 rfl) ?_
                  refine lv_bipush (v := nI 30) hx hb dX11_reached_128 (by decide +kernel) ?_
                  refine lv_isub hx hb dX11_reached_130 ?_
                  have ey : (x - nI 30).toInt = x.toInt - 30 := i_sub (by omega) (by omega)
                  refine ci_S (As := [.int (nI (eN S (bfs S (S 0)).1 true (bfs S (S 0)).2)), .int (x - (nI 30))]) (rest := []) h0 hK hN hP hD hS hA hl.1 (k_X11_letterOf lY D cA (eN S (bfs S (S 0)).1 true (bfs S (S 0)).2) (x - (nI 30)) (vw_up hvn (by decide)) (by omega)) [] rfl (by decide) (va_cwS 2 hts gX11_reached_X11_letterOf rfl rfl rfl (by decide +kernel) ⟨Nat.le_of_ble_eq_true rfl, Nat.le_of_ble_eq_true rfl⟩) rfl rfl (Nat.le_of_ble_eq_true rfl) dX11_reached_131 ⟨Nat.zero_le _, Nat.zero_le _⟩ (fun rY wY H locs hwY hJ hS => ?_)
                  obtain ⟨e1Y, e2Y⟩ := hwY
                  have e3Y := e1Y.symm
                  clear e1Y
                  subst e3Y
                  have e3Y := e2Y.symm
                  clear e2Y
                  subst e3Y
                  obtain ⟨hP, hD⟩ := hJ rfl
                  have hP : va_P D vwCl (gMo cA B (fN S) WA BG AS TX RW RR FD'_35 m1 m2 m3 m4 m5 m6 m7 k8_89 k9_89 m10 m11 (nI ((bfs S (S 0)).2)) m13 m14 m15 m16 m17 m18 m19) H := hP
                  have hD : va_D AY (gMo cA B (fN S) WA BG AS TX RW RR FD'_35 m1 m2 m3 m4 m5 m6 m7 k8_89 k9_89 m10 m11 (nI ((bfs S (S 0)).2)) m13 m14 m15 m16 m17 m18 m19) := hD
                  exact hret _ _ _ _ _ _ dX11_reached_134 ⟨FD'_35, k8_89, k9_89, ((nI ((bfs S (S 0)).2))), (by unfold reaZ; rw [if_neg (show ¬ (isL x 10 12 = false ∧ isL x 30 12 = false ∧ ¬ (0 ≤ x.toInt ∧ x.toInt ≤ 3)) from fun h => by have := isL_out h.1; have := isL_out h.2.1; omega), if_neg (show ¬ (bfs S (S 0)).2 = 401 by omega), if_neg (show ¬ x.toInt = 0 by omega), if_neg (show ¬ x.toInt = 1 by omega), if_neg he, show isL x 10 12 = false from decide_eq_false (by omega), if_neg (by decide), show isL x 30 12 = true from decide_eq_true (by omega), if_pos rfl]; rfl), rfl⟩ hP hD hS
                · exfalso; omega
              · refine lv_iload_n hx hb dX11_reached_106 rfl (lv_at hl 0 rfl) ?_
                refine ci_S (As := [.int (nI (eN S (bfs S (S 0)).1 true (bfs S (S 0)).2))]) (rest := []) h0 hK hN hP hD hS hA hl.1 (k_X11_length lY D cA (eN S (bfs S (S 0)).1 true (bfs S (S 0)).2) (hvn.1) (by omega)) [] rfl (by decide) (va_cwS 1 hts gX11_reached_X11_length rfl rfl rfl (by decide +kernel) ⟨Nat.le_of_ble_eq_true rfl, Nat.le_of_ble_eq_true rfl⟩) rfl rfl (Nat.le_of_ble_eq_true rfl) dX11_reached_107 ⟨Nat.zero_le _, Nat.zero_le _⟩ (fun rY wY H locs hwY hJ hS => ?_)
                obtain ⟨e1Y, e2Y⟩ := hwY
                have e3Y := e1Y.symm
                clear e1Y
                subst e3Y
                have e3Y := e2Y.symm
                clear e2Y
                subst e3Y
                obtain ⟨hP, hD⟩ := hJ rfl
                have hP : va_P D vwCl (gMo cA B (fN S) WA BG AS TX RW RR FD'_35 m1 m2 m3 m4 m5 m6 m7 k8_89 k9_89 m10 m11 (nI ((bfs S (S 0)).2)) m13 m14 m15 m16 m17 m18 m19) H := hP
                have hD : va_D AY (gMo cA B (fN S) WA BG AS TX RW RR FD'_35 m1 m2 m3 m4 m5 m6 m7 k8_89 k9_89 m10 m11 (nI ((bfs S (S 0)).2)) m13 m14 m15 m16 m17 m18 m19) := hD
                refine lv_goto (tgt := 134) hx hb dX11_reached_110 (by decide) ?_
                exact hret _ _ _ _ _ _ dX11_reached_134 ⟨FD'_35, k8_89, k9_89, ((nI ((bfs S (S 0)).2))), (by unfold reaZ; rw [if_neg (show ¬ (isL x 10 12 = false ∧ isL x 30 12 = false ∧ ¬ (0 ≤ x.toInt ∧ x.toInt ≤ 3)) from fun h => by have := isL_out h.1; have := isL_out h.2.1; omega), if_neg (show ¬ (bfs S (S 0)).2 = 401 by omega), if_neg (show ¬ x.toInt = 0 by omega), if_neg (show ¬ x.toInt = 1 by omega), if_neg he, show isL x 10 12 = false from decide_eq_false (by omega), if_neg (by decide), show isL x 30 12 = false from decide_eq_false (by omega), if_neg (by decide), if_neg (show ¬ x.toInt = 2 by omega)]; rfl), rfl⟩ hP hD hS
      · refine lv_iload_n hx hb dX11_reached_56 rfl (lv_at hl 1 rfl) ?_
        refine xz_ne (tgt := 67) hx hb dX11_reached_57 (by decide) (fun c57 => ?_) (fun c57 => ?_)
        · refine lv_aload_n hx hb dX11_reached_67 rfl (lv_at hl 0 rfl) ?_
          refine ci_V (As := []) (rest := []) h0 hK hN hP hD hS hA hl.1 (k_X11_ends lY D cA B S WA BG AS TX RW RR FD'_35 m1 m2 m3 m4 m5 m6 m7 m8 m9 m10 m11 m13 m14 m15 m16 m17 m18 m19 (bfs S (S 0)) (hI) (ff_35)) [0, 1, 2, 3, 4, 5, 6, 7, 8] rfl (by decide) (cwV 0 hts gX11_reached_X11_ends rfl rfl rfl (by decide +kernel) ⟨Nat.le_of_ble_eq_true rfl, Nat.le_of_ble_eq_true rfl⟩) (cl_recv (ci := 10) (q := (RX11, TX11, 27)) (q0 := 0) hP hK rfl rfl) rfl rfl (Nat.le_of_ble_eq_true rfl) dX11_reached_68 ⟨Nat.zero_le _, Nat.zero_le _⟩ (fun rY wY H locs hwY hJ hS => ?_)
          obtain ⟨k8_68, k9_68, e1Y, e2Y⟩ := hwY
          have e3Y := e1Y.symm
          clear e1Y
          subst e3Y
          have e3Y := e2Y.symm
          clear e2Y
          subst e3Y
          obtain ⟨hP, hD⟩ := hJ rfl
          have hP : va_P D vwCl (gMo cA B (fN S) WA BG AS TX RW RR FD'_35 m1 m2 m3 m4 m5 m6 m7 k8_68 k9_68 m10 m11 (nI ((bfs S (S 0)).2)) m13 m14 m15 m16 m17 m18 m19) H := hP
          have hD : va_D AY (gMo cA B (fN S) WA BG AS TX RW RR FD'_35 m1 m2 m3 m4 m5 m6 m7 k8_68 k9_68 m10 m11 (nI ((bfs S (S 0)).2)) m13 m14 m15 m16 m17 m18 m19) := hD
          exact hret _ _ _ _ _ _ dX11_reached_71 ⟨FD'_35, k8_68, k9_68, ((nI ((bfs S (S 0)).2))), (by unfold reaZ; rw [if_neg (show ¬ (isL x 10 12 = false ∧ isL x 30 12 = false ∧ ¬ (0 ≤ x.toInt ∧ x.toInt ≤ 3)) from fun h => by have := isL_out h.1; have := isL_out h.2.1; omega), if_neg (show ¬ (bfs S (S 0)).2 = 401 by omega), if_neg (show ¬ x.toInt = 0 by omega), if_pos (show x.toInt = 1 by omega)]), rfl⟩ hP hD hS
        · refine lv_aload_n hx hb dX11_reached_60 rfl (lv_at hl 0 rfl) ?_
          refine va_get (D := D) (ci := 10) (v := .int (nI ((bfs S (S 0)).2))) (C := RX11) (T := TX11) (N := 27) hx hb hts hi_X11_reached_X11 hown hK hP 0 rfl rfl 19 (by decide) (hts (.fieldLink RX11 119 "FallingWordsModel" "many" "I") (by decide +kernel)) (fun _ h9 => h9) rfl dX11_reached_61 ?_
          refine lv_goto (tgt := 71) hx hb dX11_reached_64 (by decide) ?_
          exact hret _ _ _ _ _ _ dX11_reached_71 ⟨FD'_35, m8, m9, ((nI ((bfs S (S 0)).2))), (by unfold reaZ; rw [if_neg (show ¬ (isL x 10 12 = false ∧ isL x 30 12 = false ∧ ¬ (0 ≤ x.toInt ∧ x.toInt ≤ 3)) from fun h => by have := isL_out h.1; have := isL_out h.2.1; omega), if_neg (show ¬ (bfs S (S 0)).2 = 401 by omega), if_pos (show x.toInt = 0 by omega)]), rfl⟩ hP hD hS
    · refine lv_ldc (v := (-1000003)) hx hb hown (hts (.constant RX11 115 (-1000003)) (by decide +kernel)) dX11_reached_48 ?_
      exact hret _ _ _ _ _ _ dX11_reached_50 ⟨FD'_35, m8, m9, ((nI ((bfs S (S 0)).2))), (by unfold reaZ; rw [if_neg (show ¬ (isL x 10 12 = false ∧ isL x 30 12 = false ∧ ¬ (0 ≤ x.toInt ∧ x.toInt ≤ 3)) from fun h => by have := isL_out h.1; have := isL_out h.2.1; omega), if_pos (show (bfs S (S 0)).2 = 401 by omega)]), rfl⟩ hP hD hS
  refine lv_iload_n hx hb dX11_reached_0 rfl (lv_at hl 1 rfl) ?_
  refine lv_iconst (v := nI 0) hx hb dX11_reached_1 (by decide +kernel) ?_
  refine lv_iconst (v := nI 3) hx hb dX11_reached_2 (by decide +kernel) ?_
  refine ci_S (As := [.int x, .int (nI 0), .int (nI 3)]) (rest := []) h0 hK hN hP hD hS hA hl.1 (k_X11_in lY D cA x (nI 0) (nI 3) ) [] rfl (by decide) (va_cwS 3 hts gX11_reached_X11_in rfl rfl rfl (by decide +kernel) ⟨Nat.le_of_ble_eq_true rfl, Nat.le_of_ble_eq_true rfl⟩) rfl rfl (Nat.le_of_ble_eq_true rfl) dX11_reached_3 ⟨Nat.zero_le _, Nat.zero_le _⟩ (fun rY wY H locs hwY hJ hS => ?_)
  obtain ⟨e1Y, e2Y⟩ := hwY
  have e3Y := e1Y.symm
  clear e1Y
  subst e3Y
  have e3Y := e2Y.symm
  clear e2Y
  subst e3Y
  obtain ⟨hP, hD⟩ := hJ rfl
  have hP : va_P D vwCl (gMo cA B (fN S) WA BG AS TX RW RR FD m1 m2 m3 m4 m5 m6 m7 m8 m9 m10 m11 m12 m13 m14 m15 m16 m17 m18 m19) H := hP
  have hD : va_D AY (gMo cA B (fN S) WA BG AS TX RW RR FD m1 m2 m3 m4 m5 m6 m7 m8 m9 m10 m11 m12 m13 m14 m15 m16 m17 m18 m19) := hD
  refine xb_ne (tgt := 34) hx hb dX11_reached_6 (by decide) (fun c6 => ?_) (fun c6 => ?_)
  · exact L34  (by have := inI_t c6; omega) _ _ _ hP hD hS hl
  · refine lv_iload_n hx hb dX11_reached_9 rfl (lv_at hl 1 rfl) ?_
    refine lv_bipush (v := nI 10) hx hb dX11_reached_10 (by decide +kernel) ?_
    refine lv_bipush (v := nI 21) hx hb dX11_reached_12 (by decide +kernel) ?_
    refine ci_S (As := [.int x, .int (nI 10), .int (nI 21)]) (rest := []) h0 hK hN hP hD hS hA hl.1 (k_X11_in lY D cA x (nI 10) (nI 21) ) [] rfl (by decide) (va_cwS 3 hts gX11_reached_X11_in rfl rfl rfl (by decide +kernel) ⟨Nat.le_of_ble_eq_true rfl, Nat.le_of_ble_eq_true rfl⟩) rfl rfl (Nat.le_of_ble_eq_true rfl) dX11_reached_14 ⟨Nat.zero_le _, Nat.zero_le _⟩ (fun rY wY H locs hwY hJ hS => ?_)
    obtain ⟨e1Y, e2Y⟩ := hwY
    have e3Y := e1Y.symm
    clear e1Y
    subst e3Y
    have e3Y := e2Y.symm
    clear e2Y
    subst e3Y
    obtain ⟨hP, hD⟩ := hJ rfl
    have hP : va_P D vwCl (gMo cA B (fN S) WA BG AS TX RW RR FD m1 m2 m3 m4 m5 m6 m7 m8 m9 m10 m11 m12 m13 m14 m15 m16 m17 m18 m19) H := hP
    have hD : va_D AY (gMo cA B (fN S) WA BG AS TX RW RR FD m1 m2 m3 m4 m5 m6 m7 m8 m9 m10 m11 m12 m13 m14 m15 m16 m17 m18 m19) := hD
    refine xb_ne (tgt := 34) hx hb dX11_reached_17 (by decide) (fun c17 => ?_) (fun c17 => ?_)
    · exact L34  (by have := inI_t c17; omega) _ _ _ hP hD hS hl
    · refine lv_iload_n hx hb dX11_reached_20 rfl (lv_at hl 1 rfl) ?_
      refine lv_bipush (v := nI 30) hx hb dX11_reached_21 (by decide +kernel) ?_
      refine lv_bipush (v := nI 41) hx hb dX11_reached_23 (by decide +kernel) ?_
      refine ci_S (As := [.int x, .int (nI 30), .int (nI 41)]) (rest := []) h0 hK hN hP hD hS hA hl.1 (k_X11_in lY D cA x (nI 30) (nI 41) ) [] rfl (by decide) (va_cwS 3 hts gX11_reached_X11_in rfl rfl rfl (by decide +kernel) ⟨Nat.le_of_ble_eq_true rfl, Nat.le_of_ble_eq_true rfl⟩) rfl rfl (Nat.le_of_ble_eq_true rfl) dX11_reached_25 ⟨Nat.zero_le _, Nat.zero_le _⟩ (fun rY wY H locs hwY hJ hS => ?_)
      obtain ⟨e1Y, e2Y⟩ := hwY
      have e3Y := e1Y.symm
      clear e1Y
      subst e3Y
      have e3Y := e2Y.symm
      clear e2Y
      subst e3Y
      obtain ⟨hP, hD⟩ := hJ rfl
      have hP : va_P D vwCl (gMo cA B (fN S) WA BG AS TX RW RR FD m1 m2 m3 m4 m5 m6 m7 m8 m9 m10 m11 m12 m13 m14 m15 m16 m17 m18 m19) H := hP
      have hD : va_D AY (gMo cA B (fN S) WA BG AS TX RW RR FD m1 m2 m3 m4 m5 m6 m7 m8 m9 m10 m11 m12 m13 m14 m15 m16 m17 m18 m19) := hD
      refine xb_ne (tgt := 34) hx hb dX11_reached_28 (by decide) (fun c28 => ?_) (fun c28 => ?_)
      · exact L34  (by have := inI_t c28; omega) _ _ _ hP hD hS hl
      · refine lv_ldc (v := (-1000001)) hx hb hown (hts (.constant RX11 78 (-1000001)) (by decide +kernel)) dX11_reached_31 ?_
        have i1 := inI_f c6
        have i2 := inI_f c17
        have i3 := inI_f c28
        exact hret _ _ _ _ _ _ dX11_reached_33 ⟨FD, m8, m9, m12, (by unfold reaZ; rw [if_pos ⟨decide_eq_false (by omega), decide_eq_false (by omega), by omega⟩]), rfl⟩ hP hD hS

theorem hi_X11_storeOf_X11 : ∀ w ∈ u_ws RX11 TX11 27, w ∈ wsX11_storeOf := by decide +kernel
set_option maxHeartbeats 1000000 in
set_option maxRecDepth 100000 in
theorem k_X11_storeOf (lY : Launch) (D : va_G) (cA : Nat → ClassId) (B : Nat → Nat) (S : St) (WA BG AS TX RW RR FD : Nat → Int32) (m1 m2 m3 m4 m5 m6 m7 m8 m9 m10 m11 m12 m13 m14 m15 m16 m17 m18 m19 : Int32) (x y : Int32) (hI : IV S) : MetI lY D cA yX11_storeOf wsX11_storeOf 3 64 [.ref (B 0), .int x, .int y] (gMo cA B (fN S) WA BG AS TX RW RR FD m1 m2 m3 m4 m5 m6 m7 m8 m9 m10 m11 m12 m13 m14 m15 m16 m17 m18 m19) (fun rY wY => rY = stoZ S x y ∧ wY = gMo cA B (fN S) WA BG AS TX RW RR FD m1 m2 m3 m4 m5 m6 m7 m8 m9 m10 m11 m12 m13 m14 m15 m16 m17 m18 m19) := by
  refine MetI.of (cc := cX11_storeOf) (maxL := 4) (ret := (some .int)) (by decide) rfl (Nat.le_of_ble_eq_true rfl) (Or.inl rfl) ?_
  intro pY eY sY mY aY bY tY cY QY AY ls h0 hP hK hN hD hA hS hl hret
  obtain ⟨hx, hb, hml, hown, hts⟩ := id h0
  have hl : lv_has ls 4 [(0, .ref (B 0)), (1, .int x), (2, .int y)] := hl
  have hP : va_P D vwCl (gMo cA B (fN S) WA BG AS TX RW RR FD m1 m2 m3 m4 m5 m6 m7 m8 m9 m10 m11 m12 m13 m14 m15 m16 m17 m18 m19) sY.heap := hP
  have hD : va_D AY (gMo cA B (fN S) WA BG AS TX RW RR FD m1 m2 m3 m4 m5 m6 m7 m8 m9 m10 m11 m12 m13 m14 m15 m16 m17 m18 m19) := hD
  have e0 : (nI 0).toInt = 0 := rfl
  have e1 : (nI 1).toInt = 1 := rfl
  have e10 : (nI 10).toInt = 10 := rfl
  have e21 : (nI 21).toInt = 21 := rfl
  have e30 : (nI 30).toInt = 30 := rfl
  have e41 : (nI 41).toInt = 41 := rfl
  have h8 := hI.2.1
  have ez : (nI (S 3)).toInt = (S 3 : Int) := nI_toInt (by omega)
  refine lv_iload_n hx hb dX11_storeOf_0 rfl (lv_at hl 1 rfl) ?_
  refine xz_lt (tgt := 35) hx hb dX11_storeOf_1 (by decide) (fun c1 => ?_) (fun c1 => ?_)
  · refine lv_ldc (v := (-1000001)) hx hb hown (hts (.constant RX11 78 (-1000001)) (by decide +kernel)) dX11_storeOf_35 ?_
    exact hret _ _ _ _ _ _ dX11_storeOf_37 ⟨(by unfold stoZ; rw [if_pos (Or.inl (by omega))]), rfl⟩ hP hD hS
  · have L38 :  (0 ≤ x.toInt) → ((0 ≤ y.toInt ∧ y.toInt ≤ 1) ∨ (10 ≤ y.toInt ∧ y.toInt ≤ 21) ∨ (30 ≤ y.toInt ∧ y.toInt ≤ 41)) → ∀ (H : Heap) (locs : List Loc) (ls : Array Slot), va_P D vwCl (gMo cA B (fN S) WA BG AS TX RW RR FD m1 m2 m3 m4 m5 m6 m7 m8 m9 m10 m11 m12 m13 m14 m15 m16 m17 m18 m19) H → va_D AY (gMo cA B (fN S) WA BG AS TX RW RR FD m1 m2 m3 m4 m5 m6 m7 m8 m9 m10 m11 m12 m13 m14 m15 m16 m17 m18 m19) → va_S AY sY.heap H locs → lv_has ls 4 [(0, .ref (B 0)), (1, .int x), (2, .int y)] → W pY lY eY { frames := 3, cells := 0, slots := 0, locals := 64 } sY mY aY bY tY cY H locs 0 0 QY (F0 mY 38 ls []) := by
      intro hx0 hy H locs ls hP hD hS hl
      refine lv_iload_n hx hb dX11_storeOf_38 rfl (lv_at hl 1 rfl) ?_
      refine lv_aload_n hx hb dX11_storeOf_39 rfl (lv_at hl 0 rfl) ?_
      refine va_get (D := D) (ci := 10) (v := .ref (B 1)) (C := RX11) (T := TX11) (N := 27) hx hb hts hi_X11_storeOf_X11 hown hK hP 0 rfl rfl 0 (by decide) (hts (.fieldLink RX11 7 "FallingWordsModel" "s" "[I") (by decide +kernel)) (fun _ h9 => h9) rfl dX11_storeOf_40 ?_
      refine lv_iconst (v := nI 3) hx hb dX11_storeOf_43 (by decide +kernel) ?_
      refine xa_ld (v := nI (S 3)) hx hb hK hP 1 rfl (by omega) (by decide) (rfl) dX11_storeOf_44 ?_
      refine xr_lt (tgt := 51) hx hb dX11_storeOf_45 (by decide) (fun c45 => ?_) (fun c45 => ?_)
      · obtain ⟨k, hk, rfl⟩ : ∃ k : Nat, k < S 3 ∧ x = nI k := i32_of hx0 (by omega)
        have ekk : (nI k).toInt = (k : Int) := nI_toInt (by omega)
        have ek : (nI k).toInt.toNat = k := by omega
        obtain ⟨p1, p2⟩ := hI.2.2.2 k hk
        refine lv_aload_n hx hb dX11_storeOf_51 rfl (lv_at hl 0 rfl) ?_
        refine va_get (D := D) (ci := 10) (v := .ref (B 1)) (C := RX11) (T := TX11) (N := 27) hx hb hts hi_X11_storeOf_X11 hown hK hP 0 rfl rfl 0 (by decide) (hts (.fieldLink RX11 7 "FallingWordsModel" "s" "[I") (by decide +kernel)) (fun _ h9 => h9) rfl dX11_storeOf_52 ?_
        refine lv_bipush (v := nI 36) hx hb dX11_storeOf_55 (by decide +kernel) ?_
        refine lv_iconst (v := nI 2) hx hb dX11_storeOf_57 (by decide +kernel) ?_
        refine lv_iload_n hx hb dX11_storeOf_58 rfl (lv_at hl 1 rfl) ?_
        refine lv_imul hx hb dX11_storeOf_59 ?_
        refine xt (show (nI 2) * (nI k) = nI (2 * k) from pk_mul _ _) ?_
        refine lv_iadd hx hb dX11_storeOf_60 ?_
        refine xt (show (nI 36) + (nI (2 * k)) = nI (36 + (2 * k)) from nI_add _ _) ?_
        refine lv_iload_n hx hb dX11_storeOf_61 rfl (lv_at hl 2 rfl) ?_
        refine xz_eq (tgt := 76) hx hb dX11_storeOf_62 (by decide) (fun c62 => ?_) (fun c62 => ?_)
        · refine lv_iconst (v := nI 0) hx hb dX11_storeOf_76 (by decide +kernel) ?_
          refine lv_goto (tgt := 81) hx hb dX11_storeOf_77 (by decide) ?_
          refine lv_iadd hx hb dX11_storeOf_81 ?_
          refine xt (show (nI (36 + (2 * k))) + (nI 0) = nI (36 + (2 * k) + 0) from nI_add _ _) ?_
          refine xa_ld (v := nI (S (36 + 2 * k))) hx hb hK hP 1 rfl (by omega) (by decide) (rfl) dX11_storeOf_82 ?_
          have i73 := c62
          have hq := p1
          have hql := hq.2
          refine lv_istore_n (lv' := [(3, .int (nI (S (36 + 2 * k)))), (0, .ref (B 0)), (1, .int (nI k)), (2, .int y)]) hx hb dX11_storeOf_83 rfl hl (by decide) rfl (fun ls hl => ?_)
          refine lv_iload_n hx hb dX11_storeOf_84 rfl (lv_at hl 3 rfl) ?_
          refine lv_bipush (v := nI 10) hx hb dX11_storeOf_85 (by decide +kernel) ?_
          refine xr_ge (tgt := 97) hx hb dX11_storeOf_87 (by decide) (fun c87 => ?_) (fun c87 => ?_)
          · exfalso; omega
          · refine lv_iload_n hx hb dX11_storeOf_90 rfl (lv_at hl 0 rfl) ?_
            refine ci_S (As := [.int (nI (S (36 + 2 * k)))]) (rest := []) h0 hK hN hP hD hS hA hl.1 (k_X11_length lY D cA (S (36 + 2 * k)) (hq.1) (by omega)) [] rfl (by decide) (va_cwS 1 hts gX11_storeOf_X11_length rfl rfl rfl (by decide +kernel) ⟨Nat.le_of_ble_eq_true rfl, Nat.le_of_ble_eq_true rfl⟩) rfl rfl (Nat.le_of_ble_eq_true rfl) dX11_storeOf_91 ⟨Nat.zero_le _, Nat.zero_le _⟩ (fun rY wY H locs hwY hJ hS => ?_)
            obtain ⟨e1Y, e2Y⟩ := hwY
            have e3Y := e1Y.symm
            clear e1Y
            subst e3Y
            have e3Y := e2Y.symm
            clear e2Y
            subst e3Y
            obtain ⟨hP, hD⟩ := hJ rfl
            have hP : va_P D vwCl (gMo cA B (fN S) WA BG AS TX RW RR FD m1 m2 m3 m4 m5 m6 m7 m8 m9 m10 m11 m12 m13 m14 m15 m16 m17 m18 m19) H := hP
            have hD : va_D AY (gMo cA B (fN S) WA BG AS TX RW RR FD m1 m2 m3 m4 m5 m6 m7 m8 m9 m10 m11 m12 m13 m14 m15 m16 m17 m18 m19) := hD
            refine lv_goto (tgt := 118) hx hb dX11_storeOf_94 (by decide) ?_
            exact hret _ _ _ _ _ _ dX11_storeOf_118 ⟨(by unfold stoZ; rw [if_neg (show ¬ ((nI k).toInt < 0 ∨ (isL y 10 12 = false ∧ isL y 30 12 = false ∧ ¬ (y.toInt = 0 ∨ y.toInt = 1))) from fun h => h.elim (fun h => by omega) (fun h => by have := isL_out h.1; have := isL_out h.2.1; omega)), if_neg (by omega), ek, show isL y 10 12 = false from decide_eq_false (by omega), if_neg (by decide), show isL y 30 12 = false from decide_eq_false (by omega), if_neg (by decide), if_pos (show y.toInt = 0 by omega)]), rfl⟩ hP hD hS
        · refine lv_iload_n hx hb dX11_storeOf_65 rfl (lv_at hl 2 rfl) ?_
          refine lv_bipush (v := nI 10) hx hb dX11_storeOf_66 (by decide +kernel) ?_
          refine lv_bipush (v := nI 21) hx hb dX11_storeOf_68 (by decide +kernel) ?_
          refine ci_S (As := [.int y, .int (nI 10), .int (nI 21)]) (rest := [.int (nI (36 + (2 * k))), .ref (B 1)]) h0 hK hN hP hD hS hA hl.1 (k_X11_in lY D cA y (nI 10) (nI 21) ) [] rfl (by decide) (va_cwS 3 hts gX11_storeOf_X11_in rfl rfl rfl (by decide +kernel) ⟨Nat.le_of_ble_eq_true rfl, Nat.le_of_ble_eq_true rfl⟩) rfl rfl (Nat.le_of_ble_eq_true rfl) dX11_storeOf_70 ⟨Nat.zero_le _, Nat.zero_le _⟩ (fun rY wY H locs hwY hJ hS => ?_)
          obtain ⟨e1Y, e2Y⟩ := hwY
          have e3Y := e1Y.symm
          clear e1Y
          subst e3Y
          have e3Y := e2Y.symm
          clear e2Y
          subst e3Y
          obtain ⟨hP, hD⟩ := hJ rfl
          have hP : va_P D vwCl (gMo cA B (fN S) WA BG AS TX RW RR FD m1 m2 m3 m4 m5 m6 m7 m8 m9 m10 m11 m12 m13 m14 m15 m16 m17 m18 m19) H := hP
          have hD : va_D AY (gMo cA B (fN S) WA BG AS TX RW RR FD m1 m2 m3 m4 m5 m6 m7 m8 m9 m10 m11 m12 m13 m14 m15 m16 m17 m18 m19) := hD
          refine xb_eq (tgt := 80) hx hb dX11_storeOf_73 (by decide) (fun c73 => ?_) (fun c73 => ?_)
          · refine lv_iconst (v := nI 1) hx hb dX11_storeOf_80 (by decide +kernel) ?_
            refine lv_iadd hx hb dX11_storeOf_81 ?_
            refine xt (show (nI (36 + (2 * k))) + (nI 1) = nI (36 + (2 * k) + 1) from nI_add _ _) ?_
            refine xa_ld (v := nI (S (37 + 2 * k))) hx hb hK hP 1 rfl (by omega) (by decide) (congrArg (fun z => nI (S z)) (by omega)) dX11_storeOf_82 ?_
            have i73 := inI_f c73
            have hq := p2
            have hql := hq.2
            refine lv_istore_n (lv' := [(3, .int (nI (S (37 + 2 * k)))), (0, .ref (B 0)), (1, .int (nI k)), (2, .int y)]) hx hb dX11_storeOf_83 rfl hl (by decide) rfl (fun ls hl => ?_)
            refine lv_iload_n hx hb dX11_storeOf_84 rfl (lv_at hl 3 rfl) ?_
            refine lv_bipush (v := nI 10) hx hb dX11_storeOf_85 (by decide +kernel) ?_
            refine xr_ge (tgt := 97) hx hb dX11_storeOf_87 (by decide) (fun c87 => ?_) (fun c87 => ?_)
            · refine lv_iload_n hx hb dX11_storeOf_97 rfl (lv_at hl 0 rfl) ?_
              refine lv_iload_n hx hb dX11_storeOf_98 rfl (lv_at hl 3 rfl) ?_
              refine lv_bipush (v := nI 30) hx hb dX11_storeOf_99 (by decide +kernel) ?_
              refine xr_ge (tgt := 111) hx hb dX11_storeOf_101 (by decide) (fun c101 => ?_) (fun c101 => ?_)
              · refine lv_iload_n hx hb dX11_storeOf_111 rfl (lv_at hl 3 rfl) ?_
                refine lv_bipush (v := nI 30) hx hb dX11_storeOf_112 (by decide +kernel) ?_
                refine lv_isub hx hb dX11_storeOf_114 ?_
                have ey : (y - nI 30).toInt = y.toInt - 30 := i_sub (by omega) (by omega)
                refine ci_S (As := [.int (nI (S (37 + 2 * k))), .int (y - (nI 30))]) (rest := []) h0 hK hN hP hD hS hA hl.1 (k_X11_letterOf lY D cA (S (37 + 2 * k)) (y - (nI 30)) (vw_up hq (by decide)) (by omega)) [] rfl (by decide) (va_cwS 2 hts gX11_storeOf_X11_letterOf rfl rfl rfl (by decide +kernel) ⟨Nat.le_of_ble_eq_true rfl, Nat.le_of_ble_eq_true rfl⟩) rfl rfl (Nat.le_of_ble_eq_true rfl) dX11_storeOf_115 ⟨Nat.zero_le _, Nat.zero_le _⟩ (fun rY wY H locs hwY hJ hS => ?_)
                obtain ⟨e1Y, e2Y⟩ := hwY
                have e3Y := e1Y.symm
                clear e1Y
                subst e3Y
                have e3Y := e2Y.symm
                clear e2Y
                subst e3Y
                obtain ⟨hP, hD⟩ := hJ rfl
                have hP : va_P D vwCl (gMo cA B (fN S) WA BG AS TX RW RR FD m1 m2 m3 m4 m5 m6 m7 m8 m9 m10 m11 m12 m13 m14 m15 m16 m17 m18 m19) H := hP
                have hD : va_D AY (gMo cA B (fN S) WA BG AS TX RW RR FD m1 m2 m3 m4 m5 m6 m7 m8 m9 m10 m11 m12 m13 m14 m15 m16 m17 m18 m19) := hD
                exact hret _ _ _ _ _ _ dX11_storeOf_118 ⟨(by unfold stoZ; rw [if_neg (show ¬ ((nI k).toInt < 0 ∨ (isL y 10 12 = false ∧ isL y 30 12 = false ∧ ¬ (y.toInt = 0 ∨ y.toInt = 1))) from fun h => h.elim (fun h => by omega) (fun h => by have := isL_out h.1; have := isL_out h.2.1; omega)), if_neg (by omega), ek, show isL y 10 12 = false from decide_eq_false (by omega), if_neg (by decide), show isL y 30 12 = true from decide_eq_true (by omega), if_pos rfl]), rfl⟩ hP hD hS
              · exfalso; omega
            · refine lv_iload_n hx hb dX11_storeOf_90 rfl (lv_at hl 0 rfl) ?_
              refine ci_S (As := [.int (nI (S (37 + 2 * k)))]) (rest := []) h0 hK hN hP hD hS hA hl.1 (k_X11_length lY D cA (S (37 + 2 * k)) (hq.1) (by omega)) [] rfl (by decide) (va_cwS 1 hts gX11_storeOf_X11_length rfl rfl rfl (by decide +kernel) ⟨Nat.le_of_ble_eq_true rfl, Nat.le_of_ble_eq_true rfl⟩) rfl rfl (Nat.le_of_ble_eq_true rfl) dX11_storeOf_91 ⟨Nat.zero_le _, Nat.zero_le _⟩ (fun rY wY H locs hwY hJ hS => ?_)
              obtain ⟨e1Y, e2Y⟩ := hwY
              have e3Y := e1Y.symm
              clear e1Y
              subst e3Y
              have e3Y := e2Y.symm
              clear e2Y
              subst e3Y
              obtain ⟨hP, hD⟩ := hJ rfl
              have hP : va_P D vwCl (gMo cA B (fN S) WA BG AS TX RW RR FD m1 m2 m3 m4 m5 m6 m7 m8 m9 m10 m11 m12 m13 m14 m15 m16 m17 m18 m19) H := hP
              have hD : va_D AY (gMo cA B (fN S) WA BG AS TX RW RR FD m1 m2 m3 m4 m5 m6 m7 m8 m9 m10 m11 m12 m13 m14 m15 m16 m17 m18 m19) := hD
              refine lv_goto (tgt := 118) hx hb dX11_storeOf_94 (by decide) ?_
              exact hret _ _ _ _ _ _ dX11_storeOf_118 ⟨(by unfold stoZ; rw [if_neg (show ¬ ((nI k).toInt < 0 ∨ (isL y 10 12 = false ∧ isL y 30 12 = false ∧ ¬ (y.toInt = 0 ∨ y.toInt = 1))) from fun h => h.elim (fun h => by omega) (fun h => by have := isL_out h.1; have := isL_out h.2.1; omega)), if_neg (by omega), ek, show isL y 10 12 = false from decide_eq_false (by omega), if_neg (by decide), show isL y 30 12 = false from decide_eq_false (by omega), if_neg (by decide), if_neg (show ¬ y.toInt = 0 by omega)]), rfl⟩ hP hD hS
          · refine lv_iconst (v := nI 0) hx hb dX11_storeOf_76 (by decide +kernel) ?_
            refine lv_goto (tgt := 81) hx hb dX11_storeOf_77 (by decide) ?_
            refine lv_iadd hx hb dX11_storeOf_81 ?_
            refine xt (show (nI (36 + (2 * k))) + (nI 0) = nI (36 + (2 * k) + 0) from nI_add _ _) ?_
            refine xa_ld (v := nI (S (36 + 2 * k))) hx hb hK hP 1 rfl (by omega) (by decide) (rfl) dX11_storeOf_82 ?_
            have i73 := inI_t c73
            have hq := p1
            have hql := hq.2
            refine lv_istore_n (lv' := [(3, .int (nI (S (36 + 2 * k)))), (0, .ref (B 0)), (1, .int (nI k)), (2, .int y)]) hx hb dX11_storeOf_83 rfl hl (by decide) rfl (fun ls hl => ?_)
            refine lv_iload_n hx hb dX11_storeOf_84 rfl (lv_at hl 3 rfl) ?_
            refine lv_bipush (v := nI 10) hx hb dX11_storeOf_85 (by decide +kernel) ?_
            refine xr_ge (tgt := 97) hx hb dX11_storeOf_87 (by decide) (fun c87 => ?_) (fun c87 => ?_)
            · refine lv_iload_n hx hb dX11_storeOf_97 rfl (lv_at hl 0 rfl) ?_
              refine lv_iload_n hx hb dX11_storeOf_98 rfl (lv_at hl 3 rfl) ?_
              refine lv_bipush (v := nI 30) hx hb dX11_storeOf_99 (by decide +kernel) ?_
              refine xr_ge (tgt := 111) hx hb dX11_storeOf_101 (by decide) (fun c101 => ?_) (fun c101 => ?_)
              · exfalso; omega
              · refine lv_iload_n hx hb dX11_storeOf_104 rfl (lv_at hl 3 rfl) ?_
                refine lv_bipush (v := nI 10) hx hb dX11_storeOf_105 (by decide +kernel) ?_
                refine lv_isub hx hb dX11_storeOf_107 ?_
                refine lv_goto (tgt := 115) hx hb dX11_storeOf_108 (by decide) ?_
                have ey : (y - nI 10).toInt = y.toInt - 10 := i_sub (by omega) (by omega)
                refine ci_S (As := [.int (nI (S (36 + 2 * k))), .int (y - (nI 10))]) (rest := []) h0 hK hN hP hD hS hA hl.1 (k_X11_letterOf lY D cA (S (36 + 2 * k)) (y - (nI 10)) (vw_up hq (by decide)) (by omega)) [] rfl (by decide) (va_cwS 2 hts gX11_storeOf_X11_letterOf rfl rfl rfl (by decide +kernel) ⟨Nat.le_of_ble_eq_true rfl, Nat.le_of_ble_eq_true rfl⟩) rfl rfl (Nat.le_of_ble_eq_true rfl) dX11_storeOf_115 ⟨Nat.zero_le _, Nat.zero_le _⟩ (fun rY wY H locs hwY hJ hS => ?_)
                obtain ⟨e1Y, e2Y⟩ := hwY
                have e3Y := e1Y.symm
                clear e1Y
                subst e3Y
                have e3Y := e2Y.symm
                clear e2Y
                subst e3Y
                obtain ⟨hP, hD⟩ := hJ rfl
                have hP : va_P D vwCl (gMo cA B (fN S) WA BG AS TX RW RR FD m1 m2 m3 m4 m5 m6 m7 m8 m9 m10 m11 m12 m13 m14 m15 m16 m17 m18 m19) H := hP
                have hD : va_D AY (gMo cA B (fN S) WA BG AS TX RW RR FD m1 m2 m3 m4 m5 m6 m7 m8 m9 m10 m11 m12 m13 m14 m15 m16 m17 m18 m19) := hD
                exact hret _ _ _ _ _ _ dX11_storeOf_118 ⟨(by unfold stoZ; rw [if_neg (show ¬ ((nI k).toInt < 0 ∨ (isL y 10 12 = false ∧ isL y 30 12 = false ∧ ¬ (y.toInt = 0 ∨ y.toInt = 1))) from fun h => h.elim (fun h => by omega) (fun h => by have := isL_out h.1; have := isL_out h.2.1; omega)), if_neg (by omega), ek, show isL y 10 12 = true from decide_eq_true (by omega), if_pos rfl]), rfl⟩ hP hD hS
            · exfalso; omega
      · refine lv_ldc (v := (-1000004)) hx hb hown (hts (.constant RX11 43 (-1000004)) (by decide +kernel)) dX11_storeOf_48 ?_
        exact hret _ _ _ _ _ _ dX11_storeOf_50 ⟨(by unfold stoZ; rw [if_neg (show ¬ (x.toInt < 0 ∨ (isL y 10 12 = false ∧ isL y 30 12 = false ∧ ¬ (y.toInt = 0 ∨ y.toInt = 1))) from fun h => h.elim (fun h => by omega) (fun h => by have := isL_out h.1; have := isL_out h.2.1; omega)), if_pos (by omega)]), rfl⟩ hP hD hS
    refine lv_iload_n hx hb dX11_storeOf_4 rfl (lv_at hl 2 rfl) ?_
    refine lv_iconst (v := nI 0) hx hb dX11_storeOf_5 (by decide +kernel) ?_
    refine lv_iconst (v := nI 1) hx hb dX11_storeOf_6 (by decide +kernel) ?_
    refine ci_S (As := [.int y, .int (nI 0), .int (nI 1)]) (rest := []) h0 hK hN hP hD hS hA hl.1 (k_X11_in lY D cA y (nI 0) (nI 1) ) [] rfl (by decide) (va_cwS 3 hts gX11_storeOf_X11_in rfl rfl rfl (by decide +kernel) ⟨Nat.le_of_ble_eq_true rfl, Nat.le_of_ble_eq_true rfl⟩) rfl rfl (Nat.le_of_ble_eq_true rfl) dX11_storeOf_7 ⟨Nat.zero_le _, Nat.zero_le _⟩ (fun rY wY H locs hwY hJ hS => ?_)
    obtain ⟨e1Y, e2Y⟩ := hwY
    have e3Y := e1Y.symm
    clear e1Y
    subst e3Y
    have e3Y := e2Y.symm
    clear e2Y
    subst e3Y
    obtain ⟨hP, hD⟩ := hJ rfl
    have hP : va_P D vwCl (gMo cA B (fN S) WA BG AS TX RW RR FD m1 m2 m3 m4 m5 m6 m7 m8 m9 m10 m11 m12 m13 m14 m15 m16 m17 m18 m19) H := hP
    have hD : va_D AY (gMo cA B (fN S) WA BG AS TX RW RR FD m1 m2 m3 m4 m5 m6 m7 m8 m9 m10 m11 m12 m13 m14 m15 m16 m17 m18 m19) := hD
    refine xb_ne (tgt := 38) hx hb dX11_storeOf_10 (by decide) (fun c10 => ?_) (fun c10 => ?_)
    · exact L38  (by omega) (by have := inI_t c10; omega) _ _ _ hP hD hS hl
    · refine lv_iload_n hx hb dX11_storeOf_13 rfl (lv_at hl 2 rfl) ?_
      refine lv_bipush (v := nI 10) hx hb dX11_storeOf_14 (by decide +kernel) ?_
      refine lv_bipush (v := nI 21) hx hb dX11_storeOf_16 (by decide +kernel) ?_
      refine ci_S (As := [.int y, .int (nI 10), .int (nI 21)]) (rest := []) h0 hK hN hP hD hS hA hl.1 (k_X11_in lY D cA y (nI 10) (nI 21) ) [] rfl (by decide) (va_cwS 3 hts gX11_storeOf_X11_in rfl rfl rfl (by decide +kernel) ⟨Nat.le_of_ble_eq_true rfl, Nat.le_of_ble_eq_true rfl⟩) rfl rfl (Nat.le_of_ble_eq_true rfl) dX11_storeOf_18 ⟨Nat.zero_le _, Nat.zero_le _⟩ (fun rY wY H locs hwY hJ hS => ?_)
      obtain ⟨e1Y, e2Y⟩ := hwY
      have e3Y := e1Y.symm
      clear e1Y
      subst e3Y
      have e3Y := e2Y.symm
      clear e2Y
      subst e3Y
      obtain ⟨hP, hD⟩ := hJ rfl
      have hP : va_P D vwCl (gMo cA B (fN S) WA BG AS TX RW RR FD m1 m2 m3 m4 m5 m6 m7 m8 m9 m10 m11 m12 m13 m14 m15 m16 m17 m18 m19) H := hP
      have hD : va_D AY (gMo cA B (fN S) WA BG AS TX RW RR FD m1 m2 m3 m4 m5 m6 m7 m8 m9 m10 m11 m12 m13 m14 m15 m16 m17 m18 m19) := hD
      refine xb_ne (tgt := 38) hx hb dX11_storeOf_21 (by decide) (fun c21 => ?_) (fun c21 => ?_)
      · exact L38  (by omega) (by have := inI_t c21; omega) _ _ _ hP hD hS hl
      · refine lv_iload_n hx hb dX11_storeOf_24 rfl (lv_at hl 2 rfl) ?_
        refine lv_bipush (v := nI 30) hx hb dX11_storeOf_25 (by decide +kernel) ?_
        refine lv_bipush (v := nI 41) hx hb dX11_storeOf_27 (by decide +kernel) ?_
        refine ci_S (As := [.int y, .int (nI 30), .int (nI 41)]) (rest := []) h0 hK hN hP hD hS hA hl.1 (k_X11_in lY D cA y (nI 30) (nI 41) ) [] rfl (by decide) (va_cwS 3 hts gX11_storeOf_X11_in rfl rfl rfl (by decide +kernel) ⟨Nat.le_of_ble_eq_true rfl, Nat.le_of_ble_eq_true rfl⟩) rfl rfl (Nat.le_of_ble_eq_true rfl) dX11_storeOf_29 ⟨Nat.zero_le _, Nat.zero_le _⟩ (fun rY wY H locs hwY hJ hS => ?_)
        obtain ⟨e1Y, e2Y⟩ := hwY
        have e3Y := e1Y.symm
        clear e1Y
        subst e3Y
        have e3Y := e2Y.symm
        clear e2Y
        subst e3Y
        obtain ⟨hP, hD⟩ := hJ rfl
        have hP : va_P D vwCl (gMo cA B (fN S) WA BG AS TX RW RR FD m1 m2 m3 m4 m5 m6 m7 m8 m9 m10 m11 m12 m13 m14 m15 m16 m17 m18 m19) H := hP
        have hD : va_D AY (gMo cA B (fN S) WA BG AS TX RW RR FD m1 m2 m3 m4 m5 m6 m7 m8 m9 m10 m11 m12 m13 m14 m15 m16 m17 m18 m19) := hD
        refine xb_ne (tgt := 38) hx hb dX11_storeOf_32 (by decide) (fun c32 => ?_) (fun c32 => ?_)
        · exact L38  (by omega) (by have := inI_t c32; omega) _ _ _ hP hD hS hl
        · refine lv_ldc (v := (-1000001)) hx hb hown (hts (.constant RX11 78 (-1000001)) (by decide +kernel)) dX11_storeOf_35 ?_
          have i1 := inI_f c10
          have i2 := inI_f c21
          have i3 := inI_f c32
          exact hret _ _ _ _ _ _ dX11_storeOf_37 ⟨(by unfold stoZ; rw [if_pos (Or.inr ⟨decide_eq_false (by omega), decide_eq_false (by omega), by omega⟩)]), rfl⟩ hP hD hS
