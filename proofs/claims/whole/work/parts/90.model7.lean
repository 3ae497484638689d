/-! the reference: completing, counting, the text -/
noncomputable def cmZ (S : St) (x : Int32) : Int32 := if 1 ≤ x.toInt ∧ x.toInt ≤ 10 then (if (cpl x.toInt.toNat S).1 = true then nI (cpl x.toInt.toNat S).2.1 else (-1000003)) else (-1000001)
noncomputable def cmS (S : St) (x : Int32) : St := if 0 ≤ (cmZ S x).toInt then (cpl x.toInt.toNat S).2.2 else S
noncomputable def cmR (S : St) (x : Int32) : Int32 × St := (cmZ S x, cmS S x)
theorem cmR_k {S : St} {x : Int32} (h : ¬ (-1000001 : Int) < (cmR S x).1.toInt) : (cmR S x).2 = S := by
  show cmS S x = S
  unfold cmS
  rw [if_neg (fun z => h (by show (-1000001 : Int) < (cmZ S x).toInt; omega))]
theorem i_eq {x : Int32} {k : Nat} (h : x.toInt = (k : Int)) (hk : k < 1000) : x = nI k := Int32.toInt_inj.mp (by rw [h, nI_toInt (by omega)])
theorem pth_is {S : St} {k : Nat} (hk : k < 400) (h : (ovk S k && decide (prk S k = 1)) = true) (hn : cn (fun k => ovk S k && decide (prk S k = 1)) k = 0) : pth S = k := by
  unfold pth
  rw [sl_eq]
  refine ff_is hk h (fun j hj => ?_)
  cases hj1 : (ovk S j && decide (prk S j = 1)) with
  | false => rfl
  | true =>
    have h1 := cn_t (p := fun k => ovk S k && decide (prk S k = 1)) hj1
    have h2 := cn_mono (fun k => ovk S k && decide (prk S k = 1)) (show j + 1 ≤ k by omega)
    omega
theorem pth_no {S : St} (hn : 0 = cn (fun k => ovk S k && decide (prk S k = 1)) 400) : ¬ pth S < 400 := by
  unfold pth
  rw [sl_eq]
  intro h
  have h1 := ff_yes _ _ h
  have h2 := cn_t (p := fun k => ovk S k && decide (prk S k = 1)) h1
  have h3 := cn_mono (fun k => ovk S k && decide (prk S k = 1)) (show ff (fun k => ovk S k && decide (prk S k = 1)) 400 + 1 ≤ 400 by omega)
  omega

theorem hi_X11_completes_X11 : ∀ w ∈ u_ws RX11 TX11 27, w ∈ wsX11_completes := by decide +kernel
set_option maxHeartbeats 8000000 in
set_option maxRecDepth 100000 in
theorem k_X11_completes (lY : Launch) (D : va_G) (cA : Nat → ClassId) (B : Nat → Nat) (S : St) (WA BG AS TX RW RR FD : Nat → Int32) (m1 m2 m3 m4 m5 m6 m7 m8 m9 m10 m11 m12 m13 m14 m15 m16 m17 m18 m19 : Int32) (x : Int32) (hI : IV S) : MetI lY D cA yX11_completes wsX11_completes 6 143 [.ref (B 0), .int x] (gMo cA B (fN S) WA BG AS TX RW RR FD m1 m2 m3 m4 m5 m6 m7 m8 m9 m10 m11 m12 m13 m14 m15 m16 m17 m18 m19) (fun rY wY => ∃ (T' : St) (y8f : Int32) (y9f : Int32) (y10f : Int32) (y11f : Int32) (y13f : Int32) (y14f : Int32) (y15f : Int32) (y16f : Int32) (y17f : Int32) (y18f : Int32) (y19f : Int32) (RWf : Nat → Int32) (RRf : Nat → Int32), rY = cmZ S x ∧ wY = gMo cA B (fN T') WA BG AS TX RWf RRf FD m1 m2 m3 m4 m5 m6 m7 y8f y9f y10f y11f m12 y13f y14f y15f y16f y17f y18f y19f ∧ (0 ≤ (cmZ S x).toInt → T' = (cpl x.toInt.toNat S).2.2)) := by
  refine MetI.of (cc := cX11_completes) (maxL := 4) (ret := (some .int)) (by decide) rfl (Nat.le_of_ble_eq_true rfl) (Or.inl rfl) ?_
  intro pY eY sY mY aY bY tY cY QY AY ls h0 hP hK hN hD hA hS hl hret
  obtain ⟨hx, hb, hml, hown, hts⟩ := id h0
  have hl : lv_has ls 4 [(0, .ref (B 0)), (1, .int x)] := hl
  have hP : va_P D vwCl (gMo cA B (fN S) WA BG AS TX RW RR FD m1 m2 m3 m4 m5 m6 m7 m8 m9 m10 m11 m12 m13 m14 m15 m16 m17 m18 m19) sY.heap := hP
  have hD : va_D AY (gMo cA B (fN S) WA BG AS TX RW RR FD m1 m2 m3 m4 m5 m6 m7 m8 m9 m10 m11 m12 m13 m14 m15 m16 m17 m18 m19) := hD
  have e1 : (nI 1).toInt = 1 := rfl
  have e10 : (nI 10).toInt = 10 := rfl
  have em1 : ((-1000001) : Int32).toInt = -1000001 := rfl
  have em3 : ((-1000003) : Int32).toInt = -1000003 := rfl
  refine lv_iload_n hx hb dX11_completes_0 rfl (lv_at hl 1 rfl) ?_
  refine lv_iconst (v := nI 1) hx hb dX11_completes_1 (by decide +kernel) ?_
  refine lv_bipush (v := nI 10) hx hb dX11_completes_2 (by decide +kernel) ?_
  refine ci_S (As := [.int x, .int (nI 1), .int (nI 10)]) (rest := []) h0 hK hN hP hD hS hA hl.1 (k_X11_in lY D cA x (nI 1) (nI 10) ) [] rfl (by decide) (va_cwS 3 hts gX11_completes_X11_in rfl rfl rfl (by decide +kernel) ⟨Nat.le_of_ble_eq_true rfl, Nat.le_of_ble_eq_true rfl⟩) rfl rfl (Nat.le_of_ble_eq_true rfl) dX11_completes_4 ⟨Nat.zero_le _, Nat.zero_le _⟩ (fun rY wY H locs hwY hJ hS => ?_)
  obtain ⟨e1Y, e2Y⟩ := hwY
  have e3Y := e1Y.symm
  clear e1Y
  subst e3Y
  have e3Y := e2Y.symm
  clear e2Y
  subst e3Y
  obtain ⟨hP, hD⟩ := hJ rfl
  have hP : va_P D vwCl (gMo cA B (fN S) WA BG AS TX RW RR FD m1 m2 m3 m4 m5 m6 m7 m8 m9 m10 m11 m12 m13 m14 m15 m16 m17 m18 m19) H := hP
  have hD : va_D AY (gMo cA B (fN S) WA BG AS TX RW RR FD m1 m2 m3 m4 m5 m6 m7 m8 m9 m10 m11 m12 m13 m14 m15 m16 m17 m18 m19) := hD
  refine xb_ne (tgt := 13) hx hb dX11_completes_7 (by decide) (fun c7 => ?_) (fun c7 => ?_)
  · have ci := inI_t c7
    obtain ⟨y, hy, rfl⟩ : ∃ y : Nat, y < 11 ∧ x = nI y := i32_of (by omega) (by omega)
    have ey : (nI y).toInt = (y : Int) := nI_toInt (by omega)
    have hy1 : 1 ≤ y := by omega
    have hcz : cmZ S (nI y) = if (cpl y S).1 = true then nI (cpl y S).2.1 else (-1000003) := by unfold cmZ; rw [ey, if_pos (by omega), Int.toNat_natCast]
    refine lv_iconst (v := nI 0) hx hb dX11_completes_13 (by decide +kernel) ?_
    refine lv_istore_n (lv' := [(2, .int (nI 0)), (0, .ref (B 0)), (1, .int (nI y))]) hx hb dX11_completes_14 rfl hl (by decide) rfl (fun ls hl => ?_)
    have L15 : ∀ (nY : Nat), ∀ (c : Nat) (T : St) (f : Nat) (y81 : Int32) (y91 : Int32) (y101 : Int32) (y111 : Int32) (y131 : Int32) (y141 : Int32) (y151 : Int32) (y161 : Int32) (y171 : Int32) (y181 : Int32) (y191 : Int32) (RW1 : Nat → Int32) (RR1 : Nat → Int32), (c ≤ y) → (y - c < f) → (IV T) → (cpF f y T c = cpl y S) → (y - c < nY) → ∀ (H : Heap) (locs : List Loc) (ls : Array Slot), va_P D vwCl (gMo cA B (fN T) WA BG AS TX RW1 RR1 FD m1 m2 m3 m4 m5 m6 m7 y81 y91 y101 y111 m12 y131 y141 y151 y161 y171 y181 y191) H → va_D AY (gMo cA B (fN T) WA BG AS TX RW1 RR1 FD m1 m2 m3 m4 m5 m6 m7 y81 y91 y101 y111 m12 y131 y141 y151 y161 y171 y181 y191) → va_S AY sY.heap H locs → lv_has ls 4 [(0, .ref (B 0)), (1, .int (nI y)), (2, .int (nI c))] → W pY lY eY { frames := 6, cells := 0, slots := 0, locals := 143 } sY mY aY bY tY cY H locs 0 0 QY (F0 mY 15 ls []) := by
      intro nY15
      induction nY15 with
      | zero => intro c T f y81 y91 y101 y111 y131 y141 y151 y161 y171 y181 y191 RW1 RR1 hcy hf hTI hrun hm15; exact absurd hm15 (Nat.not_lt_zero _)
      | succ nY15 ih15 =>
        intro c T f y81 y91 y101 y111 y131 y141 y151 y161 y171 y181 y191 RW1 RR1 hcy hf hTI hrun hm15 H locs ls hP hD hS hl
        refine lv_iload_n hx hb dX11_completes_15 rfl (lv_at hl 2 rfl) ?_
        refine lv_iload_n hx hb dX11_completes_16 rfl (lv_at hl 1 rfl) ?_
        refine xc_ge (tgt := 107) hx hb dX11_completes_17 (by decide) (by omega) (by omega) (fun c17 => ?_) (fun c17 => ?_)
        · refine lv_iload_n hx hb dX11_completes_107 rfl (lv_at hl 2 rfl) ?_
          have hcp : cpl y S = (true, c, T) := by rw [← hrun, show f = (f - 1) + 1 by omega, cpF, if_neg (fun q => by omega)]
          have hR : cmZ S (nI y) = nI c := by rw [hcz, hcp]; rfl
          exact hret _ _ _ _ _ _ dX11_completes_108 ⟨_, y81, y91, y101, y111, y131, y141, y151, y161, y171, y181, y191, RW1, RR1, (by rw [hR]), rfl, (fun _ => by rw [ey, Int.toNat_natCast, hcp])⟩ hP hD hS
        · refine lv_aload_n hx hb dX11_completes_20 rfl (lv_at hl 0 rfl) ?_
          refine lv_iconst (v := nI 0) hx hb dX11_completes_21 (by decide +kernel) ?_
          refine lv_iconst (v := nI 1) hx hb dX11_completes_22 (by decide +kernel) ?_
          refine ci_V (As := [.int (nI 0), .int (nI 1)]) (rest := []) h0 hK hN hP hD hS hA hl.1 (k_X11_finds lY D cA B T WA BG AS TX RW1 RR1 FD m1 m2 m3 m4 m5 m6 m7 y81 y91 y101 y111 m12 y131 y141 y151 y161 y171 y181 y191 0 (nI 1) (hTI.1) (by decide)) [0, 1, 2, 3, 4, 5, 6, 7, 8] rfl (by decide) (cwV 2 hts gX11_completes_X11_finds rfl rfl rfl (by decide +kernel) ⟨Nat.le_of_ble_eq_true rfl, Nat.le_of_ble_eq_true rfl⟩) (cl_recv (ci := 10) (q := (RX11, TX11, 27)) (q0 := 0) hP hK rfl rfl) rfl rfl (Nat.le_of_ble_eq_true rfl) dX11_completes_23 ⟨Nat.zero_le _, Nat.zero_le _⟩ (fun rY wY H locs hwY hJ hS => ?_)
          obtain ⟨t_23, k_23, y8f_23, y9f_23, y10f_23, y11f_23, y13f_23, y14f_23, y15f_23, y16f_23, y17f_23, y18f_23, y19f_23, RWf_23, RRf_23, e1Y, e2Y, ff0_23, ff1_23, ff2_23⟩ := hwY
          have e3Y := e1Y.symm
          clear e1Y
          subst e3Y
          have e3Y := e2Y.symm
          clear e2Y
          subst e3Y
          obtain ⟨hP, hD⟩ := hJ rfl
          have hP : va_P D vwCl (gMo cA B (fN T) WA BG AS TX RWf_23 RRf_23 FD m1 m2 m3 m4 m5 m6 m7 y8f_23 y9f_23 y10f_23 y11f_23 m12 y13f_23 y14f_23 y15f_23 y16f_23 y17f_23 y18f_23 y19f_23) H := hP
          have hD : va_D AY (gMo cA B (fN T) WA BG AS TX RWf_23 RRf_23 FD m1 m2 m3 m4 m5 m6 m7 y8f_23 y9f_23 y10f_23 y11f_23 m12 y13f_23 y14f_23 y15f_23 y16f_23 y17f_23 y18f_23 y19f_23) := hD
          have hfk := fdP_v (S := T) (v := 1) (by decide)
          rw [hfk] at ff1_23 ff2_23
          refine x0_le (tgt := 107) hx hb dX11_completes_26 (by decide) (by omega) (fun c26 => ?_) (fun c26 => ?_)
          · refine lv_iload_n hx hb dX11_completes_107 rfl (lv_at hl 2 rfl) ?_
            have hcp : cpl y S = (true, c, T) := by rw [← hrun, show f = (f - 1) + 1 by omega, cpF, if_neg (fun q => pth_no ((show 0 = t_23 by omega).trans (ff1_23 (by omega))) q.2)]
            have hR : cmZ S (nI y) = nI c := by rw [hcz, hcp]; rfl
            exact hret _ _ _ _ _ _ dX11_completes_108 ⟨_, y8f_23, y9f_23, y10f_23, y11f_23, y13f_23, y14f_23, y15f_23, y16f_23, y17f_23, y18f_23, y19f_23, RWf_23, RRf_23, (by rw [hR]), rfl, (fun _ => by rw [ey, Int.toNat_natCast, hcp])⟩ hP hD hS
          · obtain ⟨t1, t2, t3, t4, t5, t6, t7, t8, t9, t10⟩ := ff2_23 (by omega)
            have hpk := pth_is t2 t3 t4
            have hp4 : pth T < 400 := by omega
            obtain ⟨t11, t12⟩ := t10 (by decide)
            rw [← hpk] at t11 t12
            have p1 : ovk T (pth T) = true := by rw [hpk]; exact (Bool.and_eq_true _ _ |>.mp t3).1
            have p2 : prk T (pth T) = 1 := by rw [hpk]; exact of_decide_eq_true (Bool.and_eq_true _ _ |>.mp t3).2
            obtain ⟨g1, g2, g3, g4, g5, g6⟩ := cp_ok hTI.1 hp4 p1 p2
            have q1 := vw_B g5 (by decide)
            have q2 := vw_B g6 (by decide)
            have h10 := hTI.1.1
            have g1b := g1.2
            refine lv_aload_n hx hb dX11_completes_29 rfl (lv_at hl 0 rfl) ?_
            refine va_get (D := D) (ci := 10) (v := .int y18f_23) (C := RX11) (T := TX11) (N := 27) hx hb hts hi_X11_completes_X11 hown hK hP 0 rfl rfl 25 (by decide) (hts (.fieldLink RX11 151 "FallingWordsModel" "oneNormal" "I") (by decide +kernel)) (fun _ h9 => h9) rfl dX11_completes_30 ?_
            refine xt (show y18f_23 = nI (oN1 T) from t11) ?_
            refine lv_aload_n hx hb dX11_completes_33 rfl (lv_at hl 0 rfl) ?_
            refine va_get (D := D) (ci := 10) (v := .int y19f_23) (C := RX11) (T := TX11) (N := 27) hx hb hts hi_X11_completes_X11 hown hK hP 0 rfl rfl 26 (by decide) (hts (.fieldLink RX11 154 "FallingWordsModel" "otherNormal" "I") (by decide +kernel)) (fun _ h9 => h9) rfl dX11_completes_34 ?_
            refine xt (show y19f_23 = nI (oN2 T) from t12) ?_
            refine xc_le (tgt := 47) hx hb dX11_completes_37 (by decide) (by omega) (by omega) (fun c37 => ?_) (fun c37 => ?_)
            · refine lv_aload_n hx hb dX11_completes_47 rfl (lv_at hl 0 rfl) ?_
              refine va_get (D := D) (ci := 10) (v := .int y19f_23) (C := RX11) (T := TX11) (N := 27) hx hb hts hi_X11_completes_X11 hown hK hP 0 rfl rfl 26 (by decide) (hts (.fieldLink RX11 154 "FallingWordsModel" "otherNormal" "I") (by decide +kernel)) (fun _ h9 => h9) rfl dX11_completes_48 ?_
              refine xt (show y19f_23 = nI (oN2 T) from t12) ?_
              refine lv_istore_n (lv' := [(3, .int (nI (oN2 T))), (0, .ref (B 0)), (1, .int (nI y)), (2, .int (nI c))]) hx hb dX11_completes_51 rfl hl (by decide) rfl (fun ls hl => ?_)
              have hl : lv_has ls 4 [(3, .int (nI (max (oN1 T) (oN2 T)))), (0, .ref (B 0)), (1, .int (nI y)), (2, .int (nI c))] := Eq.mp (congrArg (fun zY : Int32 => lv_has ls 4 [(3, .int zY), (0, .ref (B 0)), (1, .int (nI y)), (2, .int (nI c))]) (show nI (oN2 T) = nI (max (oN1 T) (oN2 T)) from congrArg nI (by omega))) hl
              refine lv_aload_n hx hb dX11_completes_52 rfl (lv_at hl 1 rfl) ?_
              refine va_get (D := D) (ci := 10) (v := .ref (B 1)) (C := RX11) (T := TX11) (N := 27) hx hb hts hi_X11_completes_X11 hown hK hP 0 rfl rfl 0 (by decide) (hts (.fieldLink RX11 7 "FallingWordsModel" "s" "[I") (by decide +kernel)) (fun _ h9 => h9) rfl dX11_completes_53 ?_
              refine lv_iconst (v := nI 1) hx hb dX11_completes_56 (by decide +kernel) ?_
              refine xa_ld (v := nI (T 1)) hx hb hK hP 1 rfl (by omega) (by decide) (rfl) dX11_completes_57 ?_
              refine lv_bipush (v := nI 10) hx hb dX11_completes_58 (by decide +kernel) ?_
              refine xc_eq (tgt := 71) hx hb dX11_completes_60 (by decide) (by omega) (by omega) (fun c60 => ?_) (fun c60 => ?_)
              · refine lv_ldc (v := (-1000003)) hx hb hown (hts (.constant RX11 115 (-1000003)) (by decide +kernel)) dX11_completes_71 ?_
                have hcp : cpl y S = (false, c, T) := by rw [← hrun, show f = (f - 1) + 1 by omega, cpF, if_pos ⟨by omega, hp4⟩, if_pos (Or.inl (by omega))]
                have hR : cmZ S (nI y) = (-1000003) := by rw [hcz, hcp]; rfl
                exact hret _ _ _ _ _ _ dX11_completes_73 ⟨_, y8f_23, y9f_23, y10f_23, y11f_23, y13f_23, y14f_23, y15f_23, y16f_23, y17f_23, y18f_23, y19f_23, RWf_23, RRf_23, (by rw [hR]), rfl, (fun h => by rw [hR] at h; omega)⟩ hP hD hS
              · refine lv_iload_n hx hb dX11_completes_63 rfl (lv_at hl 0 rfl) ?_
                refine ci_S (As := [.int (nI (max (oN1 T) (oN2 T)))]) (rest := []) h0 hK hN hP hD hS hA hl.1 (k_X11_length lY D cA (max (oN1 T) (oN2 T)) (g1.1) (by omega)) [] rfl (by decide) (va_cwS 1 hts gX11_completes_X11_length rfl rfl rfl (by decide +kernel) ⟨Nat.le_of_ble_eq_true rfl, Nat.le_of_ble_eq_true rfl⟩) rfl rfl (Nat.le_of_ble_eq_true rfl) dX11_completes_64 ⟨Nat.zero_le _, Nat.zero_le _⟩ (fun rY wY H locs hwY hJ hS => ?_)
                obtain ⟨e1Y, e2Y⟩ := hwY
                have e3Y := e1Y.symm
                clear e1Y
                subst e3Y
                have e3Y := e2Y.symm
                clear e2Y
                subst e3Y
                obtain ⟨hP, hD⟩ := hJ rfl
                have hP : va_P D vwCl (gMo cA B (fN T) WA BG AS TX RWf_23 RRf_23 FD m1 m2 m3 m4 m5 m6 m7 y8f_23 y9f_23 y10f_23 y11f_23 m12 y13f_23 y14f_23 y15f_23 y16f_23 y17f_23 y18f_23 y19f_23) H := hP
                have hD : va_D AY (gMo cA B (fN T) WA BG AS TX RWf_23 RRf_23 FD m1 m2 m3 m4 m5 m6 m7 y8f_23 y9f_23 y10f_23 y11f_23 m12 y13f_23 y14f_23 y15f_23 y16f_23 y17f_23 y18f_23 y19f_23) := hD
                refine lv_iconst (v := nI 4) hx hb dX11_completes_67 (by decide +kernel) ?_
                refine xc_le (tgt := 74) hx hb dX11_completes_68 (by decide) (by omega) (by omega) (fun c68 => ?_) (fun c68 => ?_)
                · have hM4 : vw 4 (max (oN1 T) (oN2 T)) := ⟨g1.1, by omega⟩
                  have hm4 : vw 4 (min (oN1 T) (oN2 T)) := ⟨g2.1, by omega⟩
                  refine lv_aload_n hx hb dX11_completes_74 rfl (lv_at hl 1 rfl) ?_
                  refine lv_iload_n hx hb dX11_completes_75 rfl (lv_at hl 0 rfl) ?_
                  refine lv_aload_n hx hb dX11_completes_76 rfl (lv_at hl 1 rfl) ?_
                  refine va_get (D := D) (ci := 10) (v := .int y18f_23) (C := RX11) (T := TX11) (N := 27) hx hb hts hi_X11_completes_X11 hown hK hP 0 rfl rfl 25 (by decide) (hts (.fieldLink RX11 151 "FallingWordsModel" "oneNormal" "I") (by decide +kernel)) (fun _ h9 => h9) rfl dX11_completes_77 ?_
                  refine xt (show y18f_23 = nI (oN1 T) from t11) ?_
                  refine lv_aload_n hx hb dX11_completes_80 rfl (lv_at hl 1 rfl) ?_
                  refine va_get (D := D) (ci := 10) (v := .int y19f_23) (C := RX11) (T := TX11) (N := 27) hx hb hts hi_X11_completes_X11 hown hK hP 0 rfl rfl 26 (by decide) (hts (.fieldLink RX11 154 "FallingWordsModel" "otherNormal" "I") (by decide +kernel)) (fun _ h9 => h9) rfl dX11_completes_81 ?_
                  refine xt (show y19f_23 = nI (oN2 T) from t12) ?_
                  refine xc_le (tgt := 94) hx hb dX11_completes_84 (by decide) (by omega) (by omega) (fun c84 => ?_) (fun c84 => ?_)
                  · refine lv_aload_n hx hb dX11_completes_94 rfl (lv_at hl 1 rfl) ?_
                    refine va_get (D := D) (ci := 10) (v := .int y18f_23) (C := RX11) (T := TX11) (N := 27) hx hb hts hi_X11_completes_X11 hown hK hP 0 rfl rfl 25 (by decide) (hts (.fieldLink RX11 151 "FallingWordsModel" "oneNormal" "I") (by decide +kernel)) (fun _ h9 => h9) rfl dX11_completes_95 ?_
                    refine xt (show y18f_23 = nI (oN1 T) from t11) ?_
                    refine xt (show _ = nI (min (oN1 T) (oN2 T)) from congrArg nI (by omega)) ?_
                    refine cv_V (As := [.int (nI (max (oN1 T) (oN2 T))), .int (nI (min (oN1 T) (oN2 T)))]) (rest := []) h0 hK hN hP hD hS hA hl.1 (k_X11_adds lY D cA B T WA BG AS TX RWf_23 RRf_23 FD m1 m2 m3 m4 m5 m6 m7 y8f_23 y9f_23 y10f_23 y11f_23 m12 y13f_23 y14f_23 y15f_23 y16f_23 y17f_23 y18f_23 y19f_23 (max (oN1 T) (oN2 T)) (min (oN1 T) (oN2 T)) (by omega)) [0, 1, 2, 3, 4, 5, 6, 7, 8] rfl (by decide) (cwV 2 hts gX11_completes_X11_adds rfl rfl rfl (by decide +kernel) ⟨Nat.le_of_ble_eq_true rfl, Nat.le_of_ble_eq_true rfl⟩) (cl_recv (ci := 10) (q := (RX11, TX11, 27)) (q0 := 0) hP hK rfl rfl) rfl rfl (Nat.le_of_ble_eq_true rfl) dX11_completes_98 ⟨Nat.zero_le _, Nat.zero_le _⟩ (fun wY H locs hwY hJ hS => ?_)
                    have e2Y := hwY
                    have e3Y := e2Y.symm
                    clear e2Y
                    subst e3Y
                    obtain ⟨hP, hD⟩ := hJ rfl
                    have hP : va_P D vwCl (gMo cA B (fN (addS T (max (oN1 T) (oN2 T)) (min (oN1 T) (oN2 T)))) WA BG AS TX RWf_23 RRf_23 FD m1 m2 m3 m4 m5 m6 m7 y8f_23 y9f_23 y10f_23 y11f_23 m12 y13f_23 y14f_23 y15f_23 y16f_23 y17f_23 y18f_23 y19f_23) H := hP
                    have hD : va_D AY (gMo cA B (fN (addS T (max (oN1 T) (oN2 T)) (min (oN1 T) (oN2 T)))) WA BG AS TX RWf_23 RRf_23 FD m1 m2 m3 m4 m5 m6 m7 y8f_23 y9f_23 y10f_23 y11f_23 m12 y13f_23 y14f_23 y15f_23 y16f_23 y17f_23 y18f_23 y19f_23) := hD
                    refine lv_iinc (v := nI (c + 1)) (lv' := [(2, .int (nI (c + 1))), (3, .int (nI (max (oN1 T) (oN2 T)))), (0, .ref (B 0)), (1, .int (nI y))]) hx hb dX11_completes_101 hl (k := 3) rfl (show nI c + Int32.ofInt 1 = nI (c + 1) from nI_add c 1) (by decide) rfl (fun ls hl => ?_)
                    refine lv_goto (tgt := 15) hx hb dX11_completes_104 (by decide) ?_
                    exact ih15 (c + 1) (addS T (max (oN1 T) (oN2 T)) (min (oN1 T) (oN2 T))) (f - 1) y8f_23 y9f_23 y10f_23 y11f_23 y13f_23 y14f_23 y15f_23 y16f_23 y17f_23 y18f_23 y19f_23 RWf_23 RRf_23 (by omega) (by omega) (IV_add hTI (by omega) hM4 hm4 g3 g4) (by rw [← hrun, show f = (f - 1) + 1 by omega, cpF, if_pos ⟨by omega, hp4⟩, if_neg (by omega), show f - 1 + 1 - 1 = f - 1 by omega]) (by omega) _ _ _ hP hD hS (lv_sub hl [2, 3, 0] rfl)
                  · exfalso; omega
                · refine lv_ldc (v := (-1000003)) hx hb hown (hts (.constant RX11 115 (-1000003)) (by decide +kernel)) dX11_completes_71 ?_
                  have hcp : cpl y S = (false, c, T) := by rw [← hrun, show f = (f - 1) + 1 by omega, cpF, if_pos ⟨by omega, hp4⟩, if_pos (Or.inr (by omega))]
                  have hR : cmZ S (nI y) = (-1000003) := by rw [hcz, hcp]; rfl
                  exact hret _ _ _ _ _ _ dX11_completes_73 ⟨_, y8f_23, y9f_23, y10f_23, y11f_23, y13f_23, y14f_23, y15f_23, y16f_23, y17f_23, y18f_23, y19f_23, RWf_23, RRf_23, (by rw [hR]), rfl, (fun h => by rw [hR] at h; omega)⟩ hP hD hS
            · refine lv_aload_n hx hb dX11_completes_40 rfl (lv_at hl 0 rfl) ?_
              refine va_get (D := D) (ci := 10) (v := .int y18f_23) (C := RX11) (T := TX11) (N := 27) hx hb hts hi_X11_completes_X11 hown hK hP 0 rfl rfl 25 (by decide) (hts (.fieldLink RX11 151 "FallingWordsModel" "oneNormal" "I") (by decide +kernel)) (fun _ h9 => h9) rfl dX11_completes_41 ?_
              refine xt (show y18f_23 = nI (oN1 T) from t11) ?_
              refine lv_goto (tgt := 51) hx hb dX11_completes_44 (by decide) ?_
              refine lv_istore_n (lv' := [(3, .int (nI (oN1 T))), (0, .ref (B 0)), (1, .int (nI y)), (2, .int (nI c))]) hx hb dX11_completes_51 rfl hl (by decide) rfl (fun ls hl => ?_)
              have hl : lv_has ls 4 [(3, .int (nI (max (oN1 T) (oN2 T)))), (0, .ref (B 0)), (1, .int (nI y)), (2, .int (nI c))] := Eq.mp (congrArg (fun zY : Int32 => lv_has ls 4 [(3, .int zY), (0, .ref (B 0)), (1, .int (nI y)), (2, .int (nI c))]) (show nI (oN1 T) = nI (max (oN1 T) (oN2 T)) from congrArg nI (by omega))) hl
              refine lv_aload_n hx hb dX11_completes_52 rfl (lv_at hl 1 rfl) ?_
              refine va_get (D := D) (ci := 10) (v := .ref (B 1)) (C := RX11) (T := TX11) (N := 27) hx hb hts hi_X11_completes_X11 hown hK hP 0 rfl rfl 0 (by decide) (hts (.fieldLink RX11 7 "FallingWordsModel" "s" "[I") (by decide +kernel)) (fun _ h9 => h9) rfl dX11_completes_53 ?_
              refine lv_iconst (v := nI 1) hx hb dX11_completes_56 (by decide +kernel) ?_
              refine xa_ld (v := nI (T 1)) hx hb hK hP 1 rfl (by omega) (by decide) (rfl) dX11_completes_57 ?_
              refine lv_bipush (v := nI 10) hx hb dX11_completes_58 (by decide +kernel) ?_
              refine xc_eq (tgt := 71) hx hb dX11_completes_60 (by decide) (by omega) (by omega) (fun c60 => ?_) (fun c60 => ?_)
              · refine lv_ldc (v := (-1000003)) hx hb hown (hts (.constant RX11 115 (-1000003)) (by decide +kernel)) dX11_completes_71 ?_
                have hcp : cpl y S = (false, c, T) := by rw [← hrun, show f = (f - 1) + 1 by omega, cpF, if_pos ⟨by omega, hp4⟩, if_pos (Or.inl (by omega))]
                have hR : cmZ S (nI y) = (-1000003) := by rw [hcz, hcp]; rfl
                exact hret _ _ _ _ _ _ dX11_completes_73 ⟨_, y8f_23, y9f_23, y10f_23, y11f_23, y13f_23, y14f_23, y15f_23, y16f_23, y17f_23, y18f_23, y19f_23, RWf_23, RRf_23, (by rw [hR]), rfl, (fun h => by rw [hR] at h; omega)⟩ hP hD hS
              · refine lv_iload_n hx hb dX11_completes_63 rfl (lv_at hl 0 rfl) ?_
                refine ci_S (As := [.int (nI (max (oN1 T) (oN2 T)))]) (rest := []) h0 hK hN hP hD hS hA hl.1 (k_X11_length lY D cA (max (oN1 T) (oN2 T)) (g1.1) (by omega)) [] rfl (by decide) (va_cwS 1 hts gX11_completes_X11_length rfl rfl rfl (by decide +kernel) ⟨Nat.le_of_ble_eq_true rfl, Nat.le_of_ble_eq_true rfl⟩) rfl rfl (Nat.le_of_ble_eq_true rfl) dX11_completes_64 ⟨Nat.zero_le _, Nat.zero_le _⟩ (fun rY wY H locs hwY hJ hS => ?_)
                obtain ⟨e1Y, e2Y⟩ := hwY
                have e3Y := e1Y.symm
                clear e1Y
                subst e3Y
                have e3Y := e2Y.symm
                clear e2Y
                subst e3Y
                obtain ⟨hP, hD⟩ := hJ rfl
                have hP : va_P D vwCl (gMo cA B (fN T) WA BG AS TX RWf_23 RRf_23 FD m1 m2 m3 m4 m5 m6 m7 y8f_23 y9f_23 y10f_23 y11f_23 m12 y13f_23 y14f_23 y15f_23 y16f_23 y17f_23 y18f_23 y19f_23) H := hP
                have hD : va_D AY (gMo cA B (fN T) WA BG AS TX RWf_23 RRf_23 FD m1 m2 m3 m4 m5 m6 m7 y8f_23 y9f_23 y10f_23 y11f_23 m12 y13f_23 y14f_23 y15f_23 y16f_23 y17f_23 y18f_23 y19f_23) := hD
                refine lv_iconst (v := nI 4) hx hb dX11_completes_67 (by decide +kernel) ?_
                refine xc_le (tgt := 74) hx hb dX11_completes_68 (by decide) (by omega) (by omega) (fun c68 => ?_) (fun c68 => ?_)
                · have hM4 : vw 4 (max (oN1 T) (oN2 T)) := ⟨g1.1, by omega⟩
                  have hm4 : vw 4 (min (oN1 T) (oN2 T)) := ⟨g2.1, by omega⟩
                  refine lv_aload_n hx hb dX11_completes_74 rfl (lv_at hl 1 rfl) ?_
                  refine lv_iload_n hx hb dX11_completes_75 rfl (lv_at hl 0 rfl) ?_
                  refine lv_aload_n hx hb dX11_completes_76 rfl (lv_at hl 1 rfl) ?_
                  refine va_get (D := D) (ci := 10) (v := .int y18f_23) (C := RX11) (T := TX11) (N := 27) hx hb hts hi_X11_completes_X11 hown hK hP 0 rfl rfl 25 (by decide) (hts (.fieldLink RX11 151 "FallingWordsModel" "oneNormal" "I") (by decide +kernel)) (fun _ h9 => h9) rfl dX11_completes_77 ?_
                  refine xt (show y18f_23 = nI (oN1 T) from t11) ?_
                  refine lv_aload_n hx hb dX11_completes_80 rfl (lv_at hl 1 rfl) ?_
                  refine va_get (D := D) (ci := 10) (v := .int y19f_23) (C := RX11) (T := TX11) (N := 27) hx hb hts hi_X11_completes_X11 hown hK hP 0 rfl rfl 26 (by decide) (hts (.fieldLink RX11 154 "FallingWordsModel" "otherNormal" "I") (by decide +kernel)) (fun _ h9 => h9) rfl dX11_completes_81 ?_
                  refine xt (show y19f_23 = nI (oN2 T) from t12) ?_
                  refine xc_le (tgt := 94) hx hb dX11_completes_84 (by decide) (by omega) (by omega) (fun c84 => ?_) (fun c84 => ?_)
                  · exfalso; omega
                  · refine lv_aload_n hx hb dX11_completes_87 rfl (lv_at hl 1 rfl) ?_
                    refine va_get (D := D) (ci := 10) (v := .int y19f_23) (C := RX11) (T := TX11) (N := 27) hx hb hts hi_X11_completes_X11 hown hK hP 0 rfl rfl 26 (by decide) (hts (.fieldLink RX11 154 "FallingWordsModel" "otherNormal" "I") (by decide +kernel)) (fun _ h9 => h9) rfl dX11_completes_88 ?_
                    refine xt (show y19f_23 = nI (oN2 T) from t12) ?_
                    refine lv_goto (tgt := 98) hx hb dX11_completes_91 (by decide) ?_
                    refine xt (show _ = nI (min (oN1 T) (oN2 T)) from congrArg nI (by omega)) ?_
                    refine cv_V (As := [.int (nI (max (oN1 T) (oN2 T))), .int (nI (min (oN1 T) (oN2 T)))]) (rest := []) h0 hK hN hP hD hS hA hl.1 (k_X11_adds lY D cA B T WA BG AS TX RWf_23 RRf_23 FD m1 m2 m3 m4 m5 m6 m7 y8f_23 y9f_23 y10f_23 y11f_23 m12 y13f_23 y14f_23 y15f_23 y16f_23 y17f_23 y18f_23 y19f_23 (max (oN1 T) (oN2 T)) (min (oN1 T) (oN2 T)) (by omega)) [0, 1, 2, 3, 4, 5, 6, 7, 8] rfl (by decide) (cwV 2 hts gX11_completes_X11_adds rfl rfl rfl (by decide +kernel) ⟨Nat.le_of_ble_eq_true rfl, Nat.le_of_ble_eq_true rfl⟩) (cl_recv (ci := 10) (q := (RX11, TX11, 27)) (q0 := 0) hP hK rfl rfl) rfl rfl (Nat.le_of_ble_eq_true rfl) dX11_completes_98 ⟨Nat.zero_le _, Nat.zero_le _⟩ (fun wY H locs hwY hJ hS => ?_)
                    have e2Y := hwY
                    have e3Y := e2Y.symm
                    clear e2Y
                    subst e3Y
                    obtain ⟨hP, hD⟩ := hJ rfl
                    have hP : va_P D vwCl (gMo cA B (fN (addS T (max (oN1 T) (oN2 T)) (min (oN1 T) (oN2 T)))) WA BG AS TX RWf_23 RRf_23 FD m1 m2 m3 m4 m5 m6 m7 y8f_23 y9f_23 y10f_23 y11f_23 m12 y13f_23 y14f_23 y15f_23 y16f_23 y17f_23 y18f_23 y19f_23) H := hP
                    have hD : va_D AY (gMo cA B (fN (addS T (max (oN1 T) (oN2 T)) (min (oN1 T) (oN2 T)))) WA BG AS TX RWf_23 RRf_23 FD m1 m2 m3 m4 m5 m6 m7 y8f_23 y9f_23 y10f_23 y11f_23 m12 y13f_23 y14f_23 y15f_23 y16f_23 y17f_23 y18f_23 y19f_23) := hD
                    refine lv_iinc (v := nI (c + 1)) (lv' := [(2, .int (nI (c + 1))), (3, .int (nI (max (oN1 T) (oN2 T)))), (0, .ref (B 0)), (1, .int (nI y))]) hx hb dX11_completes_101 hl (k := 3) rfl (show nI c + Int32.ofInt 1 = nI (c + 1) from nI_add c 1) (by decide) rfl (fun ls hl => ?_)
                    refine lv_goto (tgt := 15) hx hb dX11_completes_104 (by decide) ?_
                    exact ih15 (c + 1) (addS T (max (oN1 T) (oN2 T)) (min (oN1 T) (oN2 T))) (f - 1) y8f_23 y9f_23 y10f_23 y11f_23 y13f_23 y14f_23 y15f_23 y16f_23 y17f_23 y18f_23 y19f_23 RWf_23 RRf_23 (by omega) (by omega) (IV_add hTI (by omega) hM4 hm4 g3 g4) (by rw [← hrun, show f = (f - 1) + 1 by omega, cpF, if_pos ⟨by omega, hp4⟩, if_neg (by omega), show f - 1 + 1 - 1 = f - 1 by omega]) (by omega) _ _ _ hP hD hS (lv_sub hl [2, 3, 0] rfl)
                · refine lv_ldc (v := (-1000003)) hx hb hown (hts (.constant RX11 115 (-1000003)) (by decide +kernel)) dX11_completes_71 ?_
                  have hcp : cpl y S = (false, c, T) := by rw [← hrun, show f = (f - 1) + 1 by omega, cpF, if_pos ⟨by omega, hp4⟩, if_pos (Or.inr (by omega))]
                  have hR : cmZ S (nI y) = (-1000003) := by rw [hcz, hcp]; rfl
                  exact hret _ _ _ _ _ _ dX11_completes_73 ⟨_, y8f_23, y9f_23, y10f_23, y11f_23, y13f_23, y14f_23, y15f_23, y16f_23, y17f_23, y18f_23, y19f_23, RWf_23, RRf_23, (by rw [hR]), rfl, (fun h => by rw [hR] at h; omega)⟩ hP hD hS
    exact L15 _ 0 S (y + 1) m8 m9 m10 m11 m13 m14 m15 m16 m17 m18 m19 RW RR (by omega) (by omega) (hI) (by unfold cpl; rw [sl_eq]) (Nat.lt_succ_self _) _ _ _ hP hD hS (lv_sub hl [1, 2, 0] rfl)
  · refine lv_ldc (v := (-1000001)) hx hb hown (hts (.constant RX11 78 (-1000001)) (by decide +kernel)) dX11_completes_10 ?_
    have ci := inI_f c7
    have hR : cmZ S x = (-1000001) := if_neg (by omega)
    exact hret _ _ _ _ _ _ dX11_completes_12 ⟨_, m8, m9, m10, m11, m13, m14, m15, m16, m17, m18, m19, RW, RR, (by rw [hR]), rfl, (fun h => by rw [hR] at h; omega)⟩ hP hD hS

theorem hi_X11_complete_X11 : ∀ w ∈ u_ws RX11 TX11 27, w ∈ wsX11_complete := by decide +kernel
set_option maxHeartbeats 1000000 in
set_option maxRecDepth 100000 in
theorem k_X11_complete (lY : Launch) (D : va_G) (cA : Nat → ClassId) (B : Nat → Nat) (S : St) (WA BG AS TX RW RR FD : Nat → Int32) (m2 m3 m4 m5 m6 m7 m8 m9 m10 m11 m12 m13 m14 m15 m16 m17 m18 m19 : Int32) (h : Nat → St) (n : Nat) (x : Int32) (hn4 : n ≤ 4) (hwas : rWas h n WA) (hI : IV S) : MetI lY D cA yX11_complete wsX11_complete 7 166 [.ref (B 0), .int x] (gMo cA B (fN S) WA BG AS TX RW RR FD (nI n) m2 m3 m4 m5 m6 m7 m8 m9 m10 m11 m12 m13 m14 m15 m16 m17 m18 m19) (fun rY wY => ∃ (WA' : Nat → Int32) (BG' : Nat → Int32) (y8f : Int32) (y9f : Int32) (y10f : Int32) (y11f : Int32) (y13f : Int32) (y14f : Int32) (y15f : Int32) (y16f : Int32) (y17f : Int32) (y18f : Int32) (y19f : Int32) (RWf : Nat → Int32) (RRf : Nat → Int32), rY = (actZ S h n (cmR S x)).1 ∧ wY = gMo cA B (fN ((actZ S h n (cmR S x)).2.1)) WA' BG' AS TX RWf RRf FD (nI ((actZ S h n (cmR S x)).2.2.2)) m2 m3 m4 m5 m6 m7 y8f y9f y10f y11f m12 y13f y14f y15f y16f y17f y18f y19f ∧ (rWas (actZ S h n (cmR S x)).2.2.1 (actZ S h n (cmR S x)).2.2.2 WA')) := by
  refine MetI.of (cc := cX11_complete) (maxL := 4) (ret := (some .int)) (by decide) rfl (Nat.le_of_ble_eq_true rfl) (Or.inl rfl) ?_
  intro pY eY sY mY aY bY tY cY QY AY ls h0 hP hK hN hD hA hS hl hret
  obtain ⟨hx, hb, hml, hown, hts⟩ := id h0
  have hl : lv_has ls 4 [(0, .ref (B 0)), (1, .int x)] := hl
  have hP : va_P D vwCl (gMo cA B (fN S) WA BG AS TX RW RR FD (nI n) m2 m3 m4 m5 m6 m7 m8 m9 m10 m11 m12 m13 m14 m15 m16 m17 m18 m19) sY.heap := hP
  have hD : va_D AY (gMo cA B (fN S) WA BG AS TX RW RR FD (nI n) m2 m3 m4 m5 m6 m7 m8 m9 m10 m11 m12 m13 m14 m15 m16 m17 m18 m19) := hD
  refine lv_aload_n hx hb dX11_complete_0 rfl (lv_at hl 0 rfl) ?_
  refine cv_V (As := []) (rest := []) h0 hK hN hP hD hS hA hl.1 (k_X11_keeps lY D cA B S WA BG AS TX RW RR FD (nI n) m2 m3 m4 m5 m6 m7 m8 m9 m10 m11 m12 m13 m14 m15 m16 m17 m18 m19 ) [0, 1, 2, 3, 4, 5, 6, 7, 8] rfl (by decide) (cwV 0 hts gX11_complete_X11_keeps rfl rfl rfl (by decide +kernel) ⟨Nat.le_of_ble_eq_true rfl, Nat.le_of_ble_eq_true rfl⟩) (cl_recv (ci := 10) (q := (RX11, TX11, 27)) (q0 := 0) hP hK rfl rfl) rfl rfl (Nat.le_of_ble_eq_true rfl) dX11_complete_1 ⟨Nat.zero_le _, Nat.zero_le _⟩ (fun wY H locs hwY hJ hS => ?_)
  obtain ⟨BG'_1, e2Y, fb_1⟩ := hwY
  have e3Y := e2Y.symm
  clear e2Y
  subst e3Y
  obtain ⟨hP, hD⟩ := hJ rfl
  have hP : va_P D vwCl (gMo cA B (fN S) WA BG'_1 AS TX RW RR FD (nI n) m2 m3 m4 m5 m6 m7 m8 m9 m10 m11 m12 m13 m14 m15 m16 m17 m18 m19) H := hP
  have hD : va_D AY (gMo cA B (fN S) WA BG'_1 AS TX RW RR FD (nI n) m2 m3 m4 m5 m6 m7 m8 m9 m10 m11 m12 m13 m14 m15 m16 m17 m18 m19) := hD
  refine lv_aload_n hx hb dX11_complete_4 rfl (lv_at hl 0 rfl) ?_
  refine lv_iload_n hx hb dX11_complete_5 rfl (lv_at hl 1 rfl) ?_
  refine ci_V (As := [.int x]) (rest := []) h0 hK hN hP hD hS hA hl.1 (k_X11_completes lY D cA B S WA BG'_1 AS TX RW RR FD (nI n) m2 m3 m4 m5 m6 m7 m8 m9 m10 m11 m12 m13 m14 m15 m16 m17 m18 m19 x (hI)) [0, 1, 2, 3, 4, 5, 6, 7, 8] rfl (by decide) (cwV 1 hts gX11_complete_X11_completes rfl rfl rfl (by decide +kernel) ⟨Nat.le_of_ble_eq_true rfl, Nat.le_of_ble_eq_true rfl⟩) (cl_recv (ci := 10) (q := (RX11, TX11, 27)) (q0 := 0) hP hK rfl rfl) rfl rfl (Nat.le_of_ble_eq_true rfl) dX11_complete_6 ⟨Nat.zero_le _, Nat.zero_le _⟩ (fun rY wY H locs hwY hJ hS => ?_)
  obtain ⟨T'_6, y8f_6, y9f_6, y10f_6, y11f_6, y13f_6, y14f_6, y15f_6, y16f_6, y17f_6, y18f_6, y19f_6, RWf_6, RRf_6, e1Y, e2Y, ft_6⟩ := hwY
  have e3Y := e1Y.symm
  clear e1Y
  subst e3Y
  have e3Y := e2Y.symm
  clear e2Y
  subst e3Y
  obtain ⟨hP, hD⟩ := hJ rfl
  have hP : va_P D vwCl (gMo cA B (fN T'_6) WA BG'_1 AS TX RWf_6 RRf_6 FD (nI n) m2 m3 m4 m5 m6 m7 y8f_6 y9f_6 y10f_6 y11f_6 m12 y13f_6 y14f_6 y15f_6 y16f_6 y17f_6 y18f_6 y19f_6) H := hP
  have hD : va_D AY (gMo cA B (fN T'_6) WA BG'_1 AS TX RWf_6 RRf_6 FD (nI n) m2 m3 m4 m5 m6 m7 y8f_6 y9f_6 y10f_6 y11f_6 m12 y13f_6 y14f_6 y15f_6 y16f_6 y17f_6 y18f_6 y19f_6) := hD
  refine lv_istore_n (lv' := [(2, .int (cmZ S x)), (0, .ref (B 0)), (1, .int x)]) hx hb dX11_complete_9 rfl hl (by decide) rfl (fun ls hl => ?_)
  refine lv_iconst (v := nI 0) hx hb dX11_complete_10 (by decide +kernel) ?_
  refine lv_istore_n (lv' := [(3, .int (nI 0)), (2, .int (cmZ S x)), (0, .ref (B 0)), (1, .int x)]) hx hb dX11_complete_11 rfl hl (by decide) rfl (fun ls hl => ?_)
  have L12 : ∀ (nY : Nat), ∀ (k : Nat) (T2 : St), (k ≤ 52) → (0 < k → (cmZ S x).toInt < 0) → (∀ j, T2 j = if j < k then S j else T'_6 j) → (52 - k < nY) → ∀ (H : Heap) (locs : List Loc) (ls : Array Slot), va_P D vwCl (gMo cA B (fN T2) WA BG'_1 AS TX RWf_6 RRf_6 FD (nI n) m2 m3 m4 m5 m6 m7 y8f_6 y9f_6 y10f_6 y11f_6 m12 y13f_6 y14f_6 y15f_6 y16f_6 y17f_6 y18f_6 y19f_6) H → va_D AY (gMo cA B (fN T2) WA BG'_1 AS TX RWf_6 RRf_6 FD (nI n) m2 m3 m4 m5 m6 m7 y8f_6 y9f_6 y10f_6 y11f_6 m12 y13f_6 y14f_6 y15f_6 y16f_6 y17f_6 y18f_6 y19f_6) → va_S AY sY.heap H locs → lv_has ls 4 [(0, .ref (B 0)), (1, .int x), (2, .int (cmZ S x)), (3, .int (nI k))] → W pY lY eY { frames := 7, cells := 0, slots := 0, locals := 166 } sY mY aY bY tY cY H locs 0 0 QY (F0 mY 12 ls []) := by
    intro nY12
    induction nY12 with
    | zero => intro k T2 hk hk0 hT2 hm12; exact absurd hm12 (Nat.not_lt_zero _)
    | succ nY12 ih12 =>
      intro k T2 hk hk0 hT2 hm12 H locs ls hP hD hS hl
      refine lv_iload_n hx hb dX11_complete_12 rfl (lv_at hl 3 rfl) ?_
      refine lv_bipush (v := nI 52) hx hb dX11_complete_13 (by decide +kernel) ?_
      refine xc_ge (tgt := 40) hx hb dX11_complete_15 (by decide) (by omega) (by omega) (fun c15 => ?_) (fun c15 => ?_)
      · have hTS : ∀ j, j < 52 → fN T2 j = fN (cmR S x).2 j := fun j hj => congrArg nI (by show T2 j = cmS S x j; unfold cmS; have := hk0 (by omega); rw [hT2 j, if_pos (by omega), if_neg (by omega)])
        obtain ⟨hP, hD⟩ := pE (g := fN (cmR S x).2) hP hD 1 rfl hTS
        have hP : va_P D vwCl (gMo cA B (fN (cmR S x).2) WA BG'_1 AS TX RWf_6 RRf_6 FD (nI n) m2 m3 m4 m5 m6 m7 y8f_6 y9f_6 y10f_6 y11f_6 m12 y13f_6 y14f_6 y15f_6 y16f_6 y17f_6 y18f_6 y19f_6) H := hP
        have hD : va_D AY (gMo cA B (fN (cmR S x).2) WA BG'_1 AS TX RWf_6 RRf_6 FD (nI n) m2 m3 m4 m5 m6 m7 y8f_6 y9f_6 y10f_6 y11f_6 m12 y13f_6 y14f_6 y15f_6 y16f_6 y17f_6 y18f_6 y19f_6) := hD
        refine lv_aload_n hx hb dX11_complete_40 rfl (lv_at hl 0 rfl) ?_
        refine lv_iload_n hx hb dX11_complete_41 rfl (lv_at hl 2 rfl) ?_
        refine ci_V (As := [.int (cmZ S x)]) (rest := []) h0 hK hN hP hD hS hA hl.1 (k_X11_acted lY D cA B S WA BG'_1 AS TX RWf_6 RRf_6 FD m2 m3 m4 m5 m6 m7 y8f_6 y9f_6 y10f_6 y11f_6 m12 y13f_6 y14f_6 y15f_6 y16f_6 y17f_6 y18f_6 y19f_6 (cmR S x) h n (hn4) (hwas) (fb_1) (fun q => cmR_k q)) [0, 1, 2, 3, 4, 5, 6, 7, 8] rfl (by decide) (cwV 1 hts gX11_complete_X11_acted rfl rfl rfl (by decide +kernel) ⟨Nat.le_of_ble_eq_true rfl, Nat.le_of_ble_eq_true rfl⟩) (cl_recv (ci := 10) (q := (RX11, TX11, 27)) (q0 := 0) hP hK rfl rfl) rfl rfl (Nat.le_of_ble_eq_true rfl) dX11_complete_42 ⟨Nat.zero_le _, Nat.zero_le _⟩ (fun rY wY H locs hwY hJ hS => ?_)
        obtain ⟨WA'_42, e1Y, e2Y, fw_42⟩ := hwY
        have e3Y := e1Y.symm
        clear e1Y
        subst e3Y
        have e3Y := e2Y.symm
        clear e2Y
        subst e3Y
        obtain ⟨hP, hD⟩ := hJ rfl
        have hP : va_P D vwCl (gMo cA B (fN ((actZ S h n (cmR S x)).2.1)) WA'_42 BG'_1 AS TX RWf_6 RRf_6 FD (nI ((actZ S h n (cmR S x)).2.2.2)) m2 m3 m4 m5 m6 m7 y8f_6 y9f_6 y10f_6 y11f_6 m12 y13f_6 y14f_6 y15f_6 y16f_6 y17f_6 y18f_6 y19f_6) H := hP
        have hD : va_D AY (gMo cA B (fN ((actZ S h n (cmR S x)).2.1)) WA'_42 BG'_1 AS TX RWf_6 RRf_6 FD (nI ((actZ S h n (cmR S x)).2.2.2)) m2 m3 m4 m5 m6 m7 y8f_6 y9f_6 y10f_6 y11f_6 m12 y13f_6 y14f_6 y15f_6 y16f_6 y17f_6 y18f_6 y19f_6) := hD
        exact hret _ _ _ _ _ _ dX11_complete_45 ⟨WA'_42, BG'_1, y8f_6, y9f_6, y10f_6, y11f_6, y13f_6, y14f_6, y15f_6, y16f_6, y17f_6, y18f_6, y19f_6, RWf_6, RRf_6, rfl, rfl, (by first | assumption | omega)⟩ hP hD hS
      · refine lv_iload_n hx hb dX11_complete_18 rfl (lv_at hl 2 rfl) ?_
        refine xz_ge (tgt := 40) hx hb dX11_complete_19 (by decide) (fun c19 => ?_) (fun c19 => ?_)
        · have hTS : ∀ j, j < 52 → fN T2 j = fN (cmR S x).2 j := fun j hj => congrArg nI (by show T2 j = cmS S x j; unfold cmS; have hk1 : k = 0 := (by rcases Nat.eq_zero_or_pos k with q | q; (exact q); have := hk0 q; omega); rw [hT2 j, if_neg (by omega), if_pos c19, ft_6 c19])
          obtain ⟨hP, hD⟩ := pE (g := fN (cmR S x).2) hP hD 1 rfl hTS
          have hP : va_P D vwCl (gMo cA B (fN (cmR S x).2) WA BG'_1 AS TX RWf_6 RRf_6 FD (nI n) m2 m3 m4 m5 m6 m7 y8f_6 y9f_6 y10f_6 y11f_6 m12 y13f_6 y14f_6 y15f_6 y16f_6 y17f_6 y18f_6 y19f_6) H := hP
          have hD : va_D AY (gMo cA B (fN (cmR S x).2) WA BG'_1 AS TX RWf_6 RRf_6 FD (nI n) m2 m3 m4 m5 m6 m7 y8f_6 y9f_6 y10f_6 y11f_6 m12 y13f_6 y14f_6 y15f_6 y16f_6 y17f_6 y18f_6 y19f_6) := hD
          refine lv_aload_n hx hb dX11_complete_40 rfl (lv_at hl 0 rfl) ?_
          refine lv_iload_n hx hb dX11_complete_41 rfl (lv_at hl 2 rfl) ?_
          refine ci_V (As := [.int (cmZ S x)]) (rest := []) h0 hK hN hP hD hS hA hl.1 (k_X11_acted lY D cA B S WA BG'_1 AS TX RWf_6 RRf_6 FD m2 m3 m4 m5 m6 m7 y8f_6 y9f_6 y10f_6 y11f_6 m12 y13f_6 y14f_6 y15f_6 y16f_6 y17f_6 y18f_6 y19f_6 (cmR S x) h n (hn4) (hwas) (fb_1) (fun q => cmR_k q)) [0, 1, 2, 3, 4, 5, 6, 7, 8] rfl (by decide) (cwV 1 hts gX11_complete_X11_acted rfl rfl rfl (by decide +kernel) ⟨Nat.le_of_ble_eq_true rfl, Nat.le_of_ble_eq_true rfl⟩) (cl_recv (ci := 10) (q := (RX11, TX11, 27)) (q0 := 0) hP hK rfl rfl) rfl rfl (Nat.le_of_ble_eq_true rfl) dX11_complete_42 ⟨Nat.zero_le _, Nat.zero_le _⟩ (fun rY wY H locs hwY hJ hS => ?_)
          obtain ⟨WA'_42, e1Y, e2Y, fw_42⟩ := hwY
          have e3Y := e1Y.symm
          clear e1Y
          subst e3Y
          have e3Y := e2Y.symm
          clear e2Y
          subst e3Y
          obtain ⟨hP, hD⟩ := hJ rfl
          have hP : va_P D vwCl (gMo cA B (fN ((actZ S h n (cmR S x)).2.1)) WA'_42 BG'_1 AS TX RWf_6 RRf_6 FD (nI ((actZ S h n (cmR S x)).2.2.2)) m2 m3 m4 m5 m6 m7 y8f_6 y9f_6 y10f_6 y11f_6 m12 y13f_6 y14f_6 y15f_6 y16f_6 y17f_6 y18f_6 y19f_6) H := hP
          have hD : va_D AY (gMo cA B (fN ((actZ S h n (cmR S x)).2.1)) WA'_42 BG'_1 AS TX RWf_6 RRf_6 FD (nI ((actZ S h n (cmR S x)).2.2.2)) m2 m3 m4 m5 m6 m7 y8f_6 y9f_6 y10f_6 y11f_6 m12 y13f_6 y14f_6 y15f_6 y16f_6 y17f_6 y18f_6 y19f_6) := hD
          exact hret _ _ _ _ _ _ dX11_complete_45 ⟨WA'_42, BG'_1, y8f_6, y9f_6, y10f_6, y11f_6, y13f_6, y14f_6, y15f_6, y16f_6, y17f_6, y18f_6, y19f_6, RWf_6, RRf_6, rfl, rfl, (by first | assumption | omega)⟩ hP hD hS
        · refine lv_aload_n hx hb dX11_complete_22 rfl (lv_at hl 0 rfl) ?_
          refine va_get (D := D) (ci := 10) (v := .ref (B 1)) (C := RX11) (T := TX11) (N := 27) hx hb hts hi_X11_complete_X11 hown hK hP 0 rfl rfl 0 (by decide) (hts (.fieldLink RX11 7 "FallingWordsModel" "s" "[I") (by decide +kernel)) (fun _ h9 => h9) rfl dX11_complete_23 ?_
          refine lv_iload_n hx hb dX11_complete_26 rfl (lv_at hl 3 rfl) ?_
          refine lv_aload_n hx hb dX11_complete_27 rfl (lv_at hl 0 rfl) ?_
          refine va_get (D := D) (ci := 10) (v := .ref (B 3)) (C := RX11) (T := TX11) (N := 27) hx hb hts hi_X11_complete_X11 hown hK hP 0 rfl rfl 2 (by decide) (hts (.fieldLink RX11 16 "FallingWordsModel" "begun" "[I") (by decide +kernel)) (fun _ h9 => h9) rfl dX11_complete_28 ?_
          refine lv_iload_n hx hb dX11_complete_31 rfl (lv_at hl 3 rfl) ?_
          refine xa_ld (v := nI (S k)) hx hb hK hP 3 rfl (by omega) (by decide) (fb_1 k (by omega)) dX11_complete_32 ?_
          refine xa_st hx hb hK hP hD hS 1 rfl (by omega) (by decide) dX11_complete_33 (fun H locs hP hD hS => ?_)
          have hP : va_P D vwCl (gMo cA B (upd (fN T2) k (nI (S k))) WA BG'_1 AS TX RWf_6 RRf_6 FD (nI n) m2 m3 m4 m5 m6 m7 y8f_6 y9f_6 y10f_6 y11f_6 m12 y13f_6 y14f_6 y15f_6 y16f_6 y17f_6 y18f_6 y19f_6) H := hP
          have hD : va_D AY (gMo cA B (upd (fN T2) k (nI (S k))) WA BG'_1 AS TX RWf_6 RRf_6 FD (nI n) m2 m3 m4 m5 m6 m7 y8f_6 y9f_6 y10f_6 y11f_6 m12 y13f_6 y14f_6 y15f_6 y16f_6 y17f_6 y18f_6 y19f_6) := hD
          rw [show upd (fN T2) k (nI (S k)) = fN (upN T2 k (S k)) from fN_up] at hP hD
          refine lv_iinc (v := nI (k + 1)) (lv' := [(3, .int (nI (k + 1))), (0, .ref (B 0)), (1, .int x), (2, .int (cmZ S x))]) hx hb dX11_complete_34 hl (k := 3) rfl (show nI k + Int32.ofInt 1 = nI (k + 1) from nI_add k 1) (by decide) rfl (fun ls hl => ?_)
          refine lv_goto (tgt := 12) hx hb dX11_complete_37 (by decide) ?_
          exact ih12 (k + 1) (upN T2 k (S k)) (by omega) (by omega) (fun j => by rcases Nat.lt_trichotomy j k with q | q | q; (rw [upN_n (by omega), hT2 j, if_pos q, if_pos (by omega)]); (rw [q, upN_s, if_pos (by omega)]); rw [upN_n (by omega), hT2 j, if_neg (by omega), if_neg (by omega)]) (by omega) _ _ _ hP hD hS (lv_sub hl [1, 2, 3, 0] rfl)
  exact L12 _ 0 T'_6 (by omega) (by omega) (fun j => (if_neg (Nat.not_lt_zero j)).symm) (Nat.lt_succ_self _) _ _ _ hP hD hS (lv_sub hl [2, 3, 1, 0] rfl)

theorem hi_X11_count_X11 : ∀ w ∈ u_ws RX11 TX11 27, w ∈ wsX11_count := by decide +kernel
set_option maxHeartbeats 1000000 in
set_option maxRecDepth 100000 in
theorem k_X11_count (lY : Launch) (D : va_G) (cA : Nat → ClassId) (B : Nat → Nat) (S : St) (WA BG AS TX RW RR FD : Nat → Int32) (m3 m4 m5 m6 m7 m8 m9 m10 m11 m12 m13 m14 m15 m16 m17 m18 m19 : Int32) (x : Int32) (n m : Nat) (hI : IR S) (hw : vw 12 (S 0)) : MetI lY D cA yX11_count wsX11_count 6 143 [.ref (B 0), .int x] (gMo cA B (fN S) WA BG AS TX RW RR FD (nI n) (nI m) m3 m4 m5 m6 m7 m8 m9 m10 m11 m12 m13 m14 m15 m16 m17 m18 m19) (fun rY wY => ∃ (y8f : Int32) (y9f : Int32) (y10f : Int32) (y11f : Int32) (y13f : Int32) (y14f : Int32) (y15f : Int32) (y16f : Int32) (y17f : Int32) (y18f : Int32) (y19f : Int32) (RWf : Nat → Int32) (RRf : Nat → Int32), rY = couZ S n m x ∧ wY = gMo cA B (fN S) WA BG AS TX RWf RRf FD (nI n) (nI m) m3 m4 m5 m6 m7 y8f y9f y10f y11f m12 y13f y14f y15f y16f y17f y18f y19f) := by
  refine MetI.of (cc := cX11_count) (maxL := 2) (ret := (some .int)) (by decide) rfl (Nat.le_of_ble_eq_true rfl) (Or.inl rfl) ?_
  intro pY eY sY mY aY bY tY cY QY AY ls h0 hP hK hN hD hA hS hl hret
  obtain ⟨hx, hb, hml, hown, hts⟩ := id h0
  have hl : lv_has ls 2 [(0, .ref (B 0)), (1, .int x)] := hl
  have hP : va_P D vwCl (gMo cA B (fN S) WA BG AS TX RW RR FD (nI n) (nI m) m3 m4 m5 m6 m7 m8 m9 m10 m11 m12 m13 m14 m15 m16 m17 m18 m19) sY.heap := hP
  have hD : va_D AY (gMo cA B (fN S) WA BG AS TX RW RR FD (nI n) (nI m) m3 m4 m5 m6 m7 m8 m9 m10 m11 m12 m13 m14 m15 m16 m17 m18 m19) := hD
  refine lv_iload_n hx hb dX11_count_0 rfl (lv_at hl 1 rfl) ?_
  by_cases s1_0 : x.toInt = 0
  · have e1 : (x : Int32).toInt = 0 := s1_0
    refine lv_tableIn (off := 59) (tgt := 60) hx hb dX11_count_1 (by rw [e1]; decide) (by rw [e1]; decide) (by rw [e1]; rfl) (by decide) ?_
    refine lv_aload_n hx hb dX11_count_60 rfl (lv_at hl 0 rfl) ?_
    refine va_get (D := D) (ci := 10) (v := .ref (B 1)) (C := RX11) (T := TX11) (N := 27) hx hb hts hi_X11_count_X11 hown hK hP 0 rfl rfl 0 (by decide) (hts (.fieldLink RX11 7 "FallingWordsModel" "s" "[I") (by decide +kernel)) (fun _ h9 => h9) rfl dX11_count_61 ?_
    refine lv_iconst (v := nI 1) hx hb dX11_count_64 (by decide +kernel) ?_
    refine xa_ld (v := nI (S 1)) hx hb hK hP 1 rfl (by omega) (by decide) (rfl) dX11_count_65 ?_
    exact hret _ _ _ _ _ _ dX11_count_66 ⟨m8, m9, m10, m11, m13, m14, m15, m16, m17, m18, m19, RW, RR, (by unfold couZ; rw [if_pos (show x.toInt = 0 by omega)]), rfl⟩ hP hD hS
  by_cases s1_1 : x.toInt = 1
  · have e1 : (x : Int32).toInt = 1 := s1_1
    refine lv_tableIn (off := 66) (tgt := 67) hx hb dX11_count_1 (by rw [e1]; decide) (by rw [e1]; decide) (by rw [e1]; rfl) (by decide) ?_
    refine lv_aload_n hx hb dX11_count_67 rfl (lv_at hl 0 rfl) ?_
    refine va_get (D := D) (ci := 10) (v := .ref (B 1)) (C := RX11) (T := TX11) (N := 27) hx hb hts hi_X11_count_X11 hown hK hP 0 rfl rfl 0 (by decide) (hts (.fieldLink RX11 7 "FallingWordsModel" "s" "[I") (by decide +kernel)) (fun _ h9 => h9) rfl dX11_count_68 ?_
    refine lv_iconst (v := nI 0) hx hb dX11_count_71 (by decide +kernel) ?_
    refine xa_ld (v := nI (S 0)) hx hb hK hP 1 rfl (by omega) (by decide) (rfl) dX11_count_72 ?_
    refine ci_S (As := [.int (nI (S 0))]) (rest := []) h0 hK hN hP hD hS hA hl.1 (k_X11_length lY D cA (S 0) (hw.1) (by have := hw.2; omega)) [] rfl (by decide) (va_cwS 1 hts gX11_count_X11_length rfl rfl rfl (by decide +kernel) ⟨Nat.le_of_ble_eq_true rfl, Nat.le_of_ble_eq_true rfl⟩) rfl rfl (Nat.le_of_ble_eq_true rfl) dX11_count_73 ⟨Nat.zero_le _, Nat.zero_le _⟩ (fun rY wY H locs hwY hJ hS => ?_)
    obtain ⟨e1Y, e2Y⟩ := hwY
    have e3Y := e1Y.symm
    clear e1Y
    subst e3Y
    have e3Y := e2Y.symm
    clear e2Y
    subst e3Y
    obtain ⟨hP, hD⟩ := hJ rfl
    have hP : va_P D vwCl (gMo cA B (fN S) WA BG AS TX RW RR FD (nI n) (nI m) m3 m4 m5 m6 m7 m8 m9 m10 m11 m12 m13 m14 m15 m16 m17 m18 m19) H := hP
    have hD : va_D AY (gMo cA B (fN S) WA BG AS TX RW RR FD (nI n) (nI m) m3 m4 m5 m6 m7 m8 m9 m10 m11 m12 m13 m14 m15 m16 m17 m18 m19) := hD
    exact hret _ _ _ _ _ _ dX11_count_76 ⟨m8, m9, m10, m11, m13, m14, m15, m16, m17, m18, m19, RW, RR, (by unfold couZ; rw [if_neg (show ¬ x.toInt = 0 by omega), if_pos (show x.toInt = 1 by omega)]), rfl⟩ hP hD hS
  by_cases s1_2 : x.toInt = 2
  · have e1 : (x : Int32).toInt = 2 := s1_2
    refine lv_tableIn (off := 76) (tgt := 77) hx hb dX11_count_1 (by rw [e1]; decide) (by rw [e1]; decide) (by rw [e1]; rfl) (by decide) ?_
    refine lv_aload_n hx hb dX11_count_77 rfl (lv_at hl 0 rfl) ?_
    refine va_get (D := D) (ci := 10) (v := .ref (B 1)) (C := RX11) (T := TX11) (N := 27) hx hb hts hi_X11_count_X11 hown hK hP 0 rfl rfl 0 (by decide) (hts (.fieldLink RX11 7 "FallingWordsModel" "s" "[I") (by decide +kernel)) (fun _ h9 => h9) rfl dX11_count_78 ?_
    refine lv_iload_n hx hb dX11_count_81 rfl (lv_at hl 1 rfl) ?_
    refine xt (show x = nI 2 from i_eq (by omega) (by decide)) ?_
    refine xa_ld (v := nI (S 2)) hx hb hK hP 1 rfl (by omega) (by decide) (rfl) dX11_count_82 ?_
    exact hret _ _ _ _ _ _ dX11_count_83 ⟨m8, m9, m10, m11, m13, m14, m15, m16, m17, m18, m19, RW, RR, (by unfold couZ; rw [if_neg (show ¬ x.toInt = 0 by omega), if_neg (show ¬ x.toInt = 1 by omega), if_pos (show x.toInt = 2 by omega)]), rfl⟩ hP hD hS
  by_cases s1_3 : x.toInt = 3
  · have e1 : (x : Int32).toInt = 3 := s1_3
    refine lv_tableIn (off := 76) (tgt := 77) hx hb dX11_count_1 (by rw [e1]; decide) (by rw [e1]; decide) (by rw [e1]; rfl) (by decide) ?_
    refine lv_aload_n hx hb dX11_count_77 rfl (lv_at hl 0 rfl) ?_
    refine va_get (D := D) (ci := 10) (v := .ref (B 1)) (C := RX11) (T := TX11) (N := 27) hx hb hts hi_X11_count_X11 hown hK hP 0 rfl rfl 0 (by decide) (hts (.fieldLink RX11 7 "FallingWordsModel" "s" "[I") (by decide +kernel)) (fun _ h9 => h9) rfl dX11_count_78 ?_
    refine lv_iload_n hx hb dX11_count_81 rfl (lv_at hl 1 rfl) ?_
    refine xt (show x = nI 3 from i_eq (by omega) (by decide)) ?_
    refine xa_ld (v := nI (S 3)) hx hb hK hP 1 rfl (by omega) (by decide) (rfl) dX11_count_82 ?_
    exact hret _ _ _ _ _ _ dX11_count_83 ⟨m8, m9, m10, m11, m13, m14, m15, m16, m17, m18, m19, RW, RR, (by unfold couZ; rw [if_neg (show ¬ x.toInt = 0 by omega), if_neg (show ¬ x.toInt = 1 by omega), if_neg (show ¬ x.toInt = 2 by omega), if_pos (show x.toInt = 3 by omega)]), rfl⟩ hP hD hS
  by_cases s1_4 : x.toInt = 4
  · have e1 : (x : Int32).toInt = 4 := s1_4
    refine lv_tableIn (off := 76) (tgt := 77) hx hb dX11_count_1 (by rw [e1]; decide) (by rw [e1]; decide) (by rw [e1]; rfl) (by decide) ?_
    refine lv_aload_n hx hb dX11_count_77 rfl (lv_at hl 0 rfl) ?_
    refine va_get (D := D) (ci := 10) (v := .ref (B 1)) (C := RX11) (T := TX11) (N := 27) hx hb hts hi_X11_count_X11 hown hK hP 0 rfl rfl 0 (by decide) (hts (.fieldLink RX11 7 "FallingWordsModel" "s" "[I") (by decide +kernel)) (fun _ h9 => h9) rfl dX11_count_78 ?_
    refine lv_iload_n hx hb dX11_count_81 rfl (lv_at hl 1 rfl) ?_
    refine xt (show x = nI 4 from i_eq (by omega) (by decide)) ?_
    refine xa_ld (v := nI (S 4)) hx hb hK hP 1 rfl (by omega) (by decide) (rfl) dX11_count_82 ?_
    exact hret _ _ _ _ _ _ dX11_count_83 ⟨m8, m9, m10, m11, m13, m14, m15, m16, m17, m18, m19, RW, RR, (by unfold couZ; rw [if_neg (show ¬ x.toInt = 0 by omega), if_neg (show ¬ x.toInt = 1 by omega), if_neg (show ¬ x.toInt = 2 by omega), if_neg (show ¬ x.toInt = 3 by omega), if_pos (show x.toInt = 4 by omega)]), rfl⟩ hP hD hS
  by_cases s1_5 : x.toInt = 5
  · have e1 : (x : Int32).toInt = 5 := s1_5
    refine lv_tableIn (off := 76) (tgt := 77) hx hb dX11_count_1 (by rw [e1]; decide) (by rw [e1]; decide) (by rw [e1]; rfl) (by decide) ?_
    refine lv_aload_n hx hb dX11_count_77 rfl (lv_at hl 0 rfl) ?_
    refine va_get (D := D) (ci := 10) (v := .ref (B 1)) (C := RX11) (T := TX11) (N := 27) hx hb hts hi_X11_count_X11 hown hK hP 0 rfl rfl 0 (by decide) (hts (.fieldLink RX11 7 "FallingWordsModel" "s" "[I") (by decide +kernel)) (fun _ h9 => h9) rfl dX11_count_78 ?_
    refine lv_iload_n hx hb dX11_count_81 rfl (lv_at hl 1 rfl) ?_
    refine xt (show x = nI 5 from i_eq (by omega) (by decide)) ?_
    refine xa_ld (v := nI (S 5)) hx hb hK hP 1 rfl (by omega) (by decide) (rfl) dX11_count_82 ?_
    exact hret _ _ _ _ _ _ dX11_count_83 ⟨m8, m9, m10, m11, m13, m14, m15, m16, m17, m18, m19, RW, RR, (by unfold couZ; rw [if_neg (show ¬ x.toInt = 0 by omega), if_neg (show ¬ x.toInt = 1 by omega), if_neg (show ¬ x.toInt = 2 by omega), if_neg (show ¬ x.toInt = 3 by omega), if_neg (show ¬ x.toInt = 4 by omega), if_pos (show x.toInt = 5 by omega)]), rfl⟩ hP hD hS
  by_cases s1_6 : x.toInt = 6
  · have e1 : (x : Int32).toInt = 6 := s1_6
    refine lv_tableIn (off := 83) (tgt := 84) hx hb dX11_count_1 (by rw [e1]; decide) (by rw [e1]; decide) (by rw [e1]; rfl) (by decide) ?_
    refine lv_aload_n hx hb dX11_count_84 rfl (lv_at hl 0 rfl) ?_
    refine lv_sipush (v := nI 10000) hx hb dX11_count_85 (by decide +kernel) ?_
    refine lv_iconst (v := (-1)) hx hb dX11_count_88 (by decide +kernel) ?_
    refine ci_V (As := [.int (nI 10000), .int (-1)]) (rest := []) h0 hK hN hP hD hS hA hl.1 (k_X11_finds lY D cA B S WA BG AS TX RW RR FD (nI n) (nI m) m3 m4 m5 m6 m7 m8 m9 m10 m11 m12 m13 m14 m15 m16 m17 m18 m19 10000 (-1) (hI) (by decide)) [0, 1, 2, 3, 4, 5, 6, 7, 8] rfl (by decide) (cwV 2 hts gX11_count_X11_finds rfl rfl rfl (by decide +kernel) ⟨Nat.le_of_ble_eq_true rfl, Nat.le_of_ble_eq_true rfl⟩) (cl_recv (ci := 10) (q := (RX11, TX11, 27)) (q0 := 0) hP hK rfl rfl) rfl rfl (Nat.le_of_ble_eq_true rfl) dX11_count_89 ⟨Nat.zero_le _, Nat.zero_le _⟩ (fun rY wY H locs hwY hJ hS => ?_)
    obtain ⟨t_89, k_89, y8f_89, y9f_89, y10f_89, y11f_89, y13f_89, y14f_89, y15f_89, y16f_89, y17f_89, y18f_89, y19f_89, RWf_89, RRf_89, e1Y, e2Y, ff0_89, ff1_89, ff2_89⟩ := hwY
    have e3Y := e1Y.symm
    clear e1Y
    subst e3Y
    have e3Y := e2Y.symm
    clear e2Y
    subst e3Y
    obtain ⟨hP, hD⟩ := hJ rfl
    have hP : va_P D vwCl (gMo cA B (fN S) WA BG AS TX RWf_89 RRf_89 FD (nI n) (nI m) m3 m4 m5 m6 m7 y8f_89 y9f_89 y10f_89 y11f_89 m12 y13f_89 y14f_89 y15f_89 y16f_89 y17f_89 y18f_89 y19f_89) H := hP
    have hD : va_D AY (gMo cA B (fN S) WA BG AS TX RWf_89 RRf_89 FD (nI n) (nI m) m3 m4 m5 m6 m7 y8f_89 y9f_89 y10f_89 y11f_89 m12 y13f_89 y14f_89 y15f_89 y16f_89 y17f_89 y18f_89 y19f_89) := hD
    have hct : t_89 = cntO S := by rw [fdP_neg (S := S) (kd := (-1)) (by decide)] at ff1_89; rw [ff1_89 (by omega)]; unfold cntO; rw [sl_eq]
    exact hret _ _ _ _ _ _ dX11_count_92 ⟨y8f_89, y9f_89, y10f_89, y11f_89, y13f_89, y14f_89, y15f_89, y16f_89, y17f_89, y18f_89, y19f_89, RWf_89, RRf_89, (by unfold couZ; rw [if_neg (show ¬ x.toInt = 0 by omega), if_neg (show ¬ x.toInt = 1 by omega), if_neg (show ¬ x.toInt = 2 by omega), if_neg (show ¬ x.toInt = 3 by omega), if_neg (show ¬ x.toInt = 4 by omega), if_neg (show ¬ x.toInt = 5 by omega), if_pos (show x.toInt = 6 by omega), hct]), rfl⟩ hP hD hS
  by_cases s1_7 : x.toInt = 7
  · have e1 : (x : Int32).toInt = 7 := s1_7
    refine lv_tableIn (off := 92) (tgt := 93) hx hb dX11_count_1 (by rw [e1]; decide) (by rw [e1]; decide) (by rw [e1]; rfl) (by decide) ?_
    refine lv_aload_n hx hb dX11_count_93 rfl (lv_at hl 0 rfl) ?_
    refine lv_sipush (v := nI 10000) hx hb dX11_count_94 (by decide +kernel) ?_
    refine lv_iload_n hx hb dX11_count_97 rfl (lv_at hl 1 rfl) ?_
    refine lv_bipush (v := nI 6) hx hb dX11_count_98 (by decide +kernel) ?_
    refine lv_isub hx hb dX11_count_100 ?_
    refine xt (show x - nI 6 = nI 1 from by rw [i_eq (x := x) (k := 7) (by omega) (by decide)]; rfl) ?_
    refine ci_V (As := [.int (nI 10000), .int (nI 1)]) (rest := []) h0 hK hN hP hD hS hA hl.1 (k_X11_finds lY D cA B S WA BG AS TX RW RR FD (nI n) (nI m) m3 m4 m5 m6 m7 m8 m9 m10 m11 m12 m13 m14 m15 m16 m17 m18 m19 10000 (nI 1) (hI) (by decide)) [0, 1, 2, 3, 4, 5, 6, 7, 8] rfl (by decide) (cwV 2 hts gX11_count_X11_finds rfl rfl rfl (by decide +kernel) ⟨Nat.le_of_ble_eq_true rfl, Nat.le_of_ble_eq_true rfl⟩) (cl_recv (ci := 10) (q := (RX11, TX11, 27)) (q0 := 0) hP hK rfl rfl) rfl rfl (Nat.le_of_ble_eq_true rfl) dX11_count_101 ⟨Nat.zero_le _, Nat.zero_le _⟩ (fun rY wY H locs hwY hJ hS => ?_)
    obtain ⟨t_101, k_101, y8f_101, y9f_101, y10f_101, y11f_101, y13f_101, y14f_101, y15f_101, y16f_101, y17f_101, y18f_101, y19f_101, RWf_101, RRf_101, e1Y, e2Y, ff0_101, ff1_101, ff2_101⟩ := hwY
    have e3Y := e1Y.symm
    clear e1Y
    subst e3Y
    have e3Y := e2Y.symm
    clear e2Y
    subst e3Y
    obtain ⟨hP, hD⟩ := hJ rfl
    have hP : va_P D vwCl (gMo cA B (fN S) WA BG AS TX RWf_101 RRf_101 FD (nI n) (nI m) m3 m4 m5 m6 m7 y8f_101 y9f_101 y10f_101 y11f_101 m12 y13f_101 y14f_101 y15f_101 y16f_101 y17f_101 y18f_101 y19f_101) H := hP
    have hD : va_D AY (gMo cA B (fN S) WA BG AS TX RWf_101 RRf_101 FD (nI n) (nI m) m3 m4 m5 m6 m7 y8f_101 y9f_101 y10f_101 y11f_101 m12 y13f_101 y14f_101 y15f_101 y16f_101 y17f_101 y18f_101 y19f_101) := hD
    have hct : t_101 = cntV S 1 := by rw [fdP_v (S := S) (v := 1) (by decide)] at ff1_101; rw [ff1_101 (by omega)]; unfold cntV; rw [sl_eq]
    exact hret _ _ _ _ _ _ dX11_count_104 ⟨y8f_101, y9f_101, y10f_101, y11f_101, y13f_101, y14f_101, y15f_101, y16f_101, y17f_101, y18f_101, y19f_101, RWf_101, RRf_101, (by unfold couZ; rw [if_neg (show ¬ x.toInt = 0 by omega), if_neg (show ¬ x.toInt = 1 by omega), if_neg (show ¬ x.toInt = 2 by omega), if_neg (show ¬ x.toInt = 3 by omega), if_neg (show ¬ x.toInt = 4 by omega), if_neg (show ¬ x.toInt = 5 by omega), if_neg (show ¬ x.toInt = 6 by omega), if_pos (show x.toInt = 7 by omega), hct]), rfl⟩ hP hD hS
  by_cases s1_8 : x.toInt = 8
  · have e1 : (x : Int32).toInt = 8 := s1_8
    refine lv_tableIn (off := 92) (tgt := 93) hx hb dX11_count_1 (by rw [e1]; decide) (by rw [e1]; decide) (by rw [e1]; rfl) (by decide) ?_
    refine lv_aload_n hx hb dX11_count_93 rfl (lv_at hl 0 rfl) ?_
    refine lv_sipush (v := nI 10000) hx hb dX11_count_94 (by decide +kernel) ?_
    refine lv_iload_n hx hb dX11_count_97 rfl (lv_at hl 1 rfl) ?_
    refine lv_bipush (v := nI 6) hx hb dX11_count_98 (by decide +kernel) ?_
    refine lv_isub hx hb dX11_count_100 ?_
    refine xt (show x - nI 6 = nI 2 from by rw [i_eq (x := x) (k := 8) (by omega) (by decide)]; rfl) ?_
    refine ci_V (As := [.int (nI 10000), .int (nI 2)]) (rest := []) h0 hK hN hP hD hS hA hl.1 (k_X11_finds lY D cA B S WA BG AS TX RW RR FD (nI n) (nI m) m3 m4 m5 m6 m7 m8 m9 m10 m11 m12 m13 m14 m15 m16 m17 m18 m19 10000 (nI 2) (hI) (by decide)) [0, 1, 2, 3, 4, 5, 6, 7, 8] rfl (by decide) (cwV 2 hts gX11_count_X11_finds rfl rfl rfl (by decide +kernel) ⟨Nat.le_of_ble_eq_true rfl, Nat.le_of_ble_eq_true rfl⟩) (cl_recv (ci := 10) (q := (RX11, TX11, 27)) (q0 := 0) hP hK rfl rfl) rfl rfl (Nat.le_of_ble_eq_true rfl) dX11_count_101 ⟨Nat.zero_le _, Nat.zero_le _⟩ (fun rY wY H locs hwY hJ hS => ?_)
    obtain ⟨t_101, k_101, y8f_101, y9f_101, y10f_101, y11f_101, y13f_101, y14f_101, y15f_101, y16f_101, y17f_101, y18f_101, y19f_101, RWf_101, RRf_101, e1Y, e2Y, ff0_101, ff1_101, ff2_101⟩ := hwY
    have e3Y := e1Y.symm
    clear e1Y
    subst e3Y
    have e3Y := e2Y.symm
    clear e2Y
    subst e3Y
    obtain ⟨hP, hD⟩ := hJ rfl
    have hP : va_P D vwCl (gMo cA B (fN S) WA BG AS TX RWf_101 RRf_101 FD (nI n) (nI m) m3 m4 m5 m6 m7 y8f_101 y9f_101 y10f_101 y11f_101 m12 y13f_101 y14f_101 y15f_101 y16f_101 y17f_101 y18f_101 y19f_101) H := hP
    have hD : va_D AY (gMo cA B (fN S) WA BG AS TX RWf_101 RRf_101 FD (nI n) (nI m) m3 m4 m5 m6 m7 y8f_101 y9f_101 y10f_101 y11f_101 m12 y13f_101 y14f_101 y15f_101 y16f_101 y17f_101 y18f_101 y19f_101) := hD
    have hct : t_101 = cntV S 2 := by rw [fdP_v (S := S) (v := 2) (by decide)] at ff1_101; rw [ff1_101 (by omega)]; unfold cntV; rw [sl_eq]
    exact hret _ _ _ _ _ _ dX11_count_104 ⟨y8f_101, y9f_101, y10f_101, y11f_101, y13f_101, y14f_101, y15f_101, y16f_101, y17f_101, y18f_101, y19f_101, RWf_101, RRf_101, (by unfold couZ; rw [if_neg (show ¬ x.toInt = 0 by omega), if_neg (show ¬ x.toInt = 1 by omega), if_neg (show ¬ x.toInt = 2 by omega), if_neg (show ¬ x.toInt = 3 by omega), if_neg (show ¬ x.toInt = 4 by omega), if_neg (show ¬ x.toInt = 5 by omega), if_neg (show ¬ x.toInt = 6 by omega), if_neg (show ¬ x.toInt = 7 by omega), if_pos (show x.toInt = 8 by omega), hct]), rfl⟩ hP hD hS
  by_cases s1_9 : x.toInt = 9
  · have e1 : (x : Int32).toInt = 9 := s1_9
    refine lv_tableIn (off := 104) (tgt := 105) hx hb dX11_count_1 (by rw [e1]; decide) (by rw [e1]; decide) (by rw [e1]; rfl) (by decide) ?_
    refine lv_aload_n hx hb dX11_count_105 rfl (lv_at hl 0 rfl) ?_
    refine va_get (D := D) (ci := 10) (v := .int (nI n)) (C := RX11) (T := TX11) (N := 27) hx hb hts hi_X11_count_X11 hown hK hP 0 rfl rfl 4 (by decide) (hts (.fieldLink RX11 79 "FallingWordsModel" "states" "I") (by decide +kernel)) (fun _ h9 => h9) rfl dX11_count_106 ?_
    exact hret _ _ _ _ _ _ dX11_count_109 ⟨m8, m9, m10, m11, m13, m14, m15, m16, m17, m18, m19, RW, RR, (by unfold couZ; rw [if_neg (show ¬ x.toInt = 0 by omega), if_neg (show ¬ x.toInt = 1 by omega), if_neg (show ¬ x.toInt = 2 by omega), if_neg (show ¬ x.toInt = 3 by omega), if_neg (show ¬ x.toInt = 4 by omega), if_neg (show ¬ x.toInt = 5 by omega), if_neg (show ¬ x.toInt = 6 by omega), if_neg (show ¬ x.toInt = 7 by omega), if_neg (show ¬ x.toInt = 8 by omega), if_pos (show x.toInt = 9 by omega)]), rfl⟩ hP hD hS
  by_cases s1_10 : x.toInt = 10
  · have e1 : (x : Int32).toInt = 10 := s1_10
    refine lv_tableIn (off := 109) (tgt := 110) hx hb dX11_count_1 (by rw [e1]; decide) (by rw [e1]; decide) (by rw [e1]; rfl) (by decide) ?_
    refine lv_aload_n hx hb dX11_count_110 rfl (lv_at hl 0 rfl) ?_
    refine va_get (D := D) (ci := 10) (v := .int (nI m)) (C := RX11) (T := TX11) (N := 27) hx hb hts hi_X11_count_X11 hown hK hP 0 rfl rfl 6 (by decide) (hts (.fieldLink RX11 176 "FallingWordsModel" "typed" "I") (by decide +kernel)) (fun _ h9 => h9) rfl dX11_count_111 ?_
    exact hret _ _ _ _ _ _ dX11_count_114 ⟨m8, m9, m10, m11, m13, m14, m15, m16, m17, m18, m19, RW, RR, (by unfold couZ; rw [if_neg (show ¬ x.toInt = 0 by omega), if_neg (show ¬ x.toInt = 1 by omega), if_neg (show ¬ x.toInt = 2 by omega), if_neg (show ¬ x.toInt = 3 by omega), if_neg (show ¬ x.toInt = 4 by omega), if_neg (show ¬ x.toInt = 5 by omega), if_neg (show ¬ x.toInt = 6 by omega), if_neg (show ¬ x.toInt = 7 by omega), if_neg (show ¬ x.toInt = 8 by omega), if_neg (show ¬ x.toInt = 9 by omega), if_pos (show x.toInt = 10 by omega)]), rfl⟩ hP hD hS
  refine lv_tableOut (tgt := 115) hx hb dX11_count_1 (by omega) (by decide) ?_
  refine lv_ldc (v := (-1000001)) hx hb hown (hts (.constant RX11 78 (-1000001)) (by decide +kernel)) dX11_count_115 ?_
  exact hret _ _ _ _ _ _ dX11_count_117 ⟨m8, m9, m10, m11, m13, m14, m15, m16, m17, m18, m19, RW, RR, (by unfold couZ; rw [if_neg (show ¬ x.toInt = 0 by omega), if_neg (show ¬ x.toInt = 1 by omega), if_neg (show ¬ x.toInt = 2 by omega), if_neg (show ¬ x.toInt = 3 by omega), if_neg (show ¬ x.toInt = 4 by omega), if_neg (show ¬ x.toInt = 5 by omega), if_neg (show ¬ x.toInt = 6 by omega), if_neg (show ¬ x.toInt = 7 by omega), if_neg (show ¬ x.toInt = 8 by omega), if_neg (show ¬ x.toInt = 9 by omega), if_neg (show ¬ x.toInt = 10 by omega)]), rfl⟩ hP hD hS

theorem hi_X11_undo_X11 : ∀ w ∈ u_ws RX11 TX11 27, w ∈ wsX11_undo := by decide +kernel
set_option maxHeartbeats 1000000 in
set_option maxRecDepth 100000 in
theorem k_X11_undo (lY : Launch) (D : va_G) (cA : Nat → ClassId) (B : Nat → Nat) (S : St) (WA BG AS TX RW RR FD : Nat → Int32) (m2 m3 m4 m5 m6 m7 m8 m9 m10 m11 m12 m13 m14 m15 m16 m17 m18 m19 : Int32) (h : Nat → St) (n : Nat) (hn4 : n ≤ 4) (hwas : rWas h n WA) : MetI lY D cA yX11_undo wsX11_undo 0 0 [.ref (B 0)] (gMo cA B (fN S) WA BG AS TX RW RR FD (nI n) m2 m3 m4 m5 m6 m7 m8 m9 m10 m11 m12 m13 m14 m15 m16 m17 m18 m19) (fun rY wY => rY = (undZ S h n).1 ∧ wY = gMo cA B (fN ((undZ S h n).2.1)) WA BG AS TX RW RR FD (nI ((undZ S h n).2.2.2)) m2 m3 m4 m5 m6 m7 m8 m9 m10 m11 m12 m13 m14 m15 m16 m17 m18 m19) := by
  refine MetI.of (cc := cX11_undo) (maxL := 2) (ret := (some .int)) (by decide) rfl (Nat.le_of_ble_eq_true rfl) (Or.inl rfl) ?_
  intro pY eY sY mY aY bY tY cY QY AY ls h0 hP hK hN hD hA hS hl hret
  obtain ⟨hx, hb, hml, hown, hts⟩ := id h0
  have hl : lv_has ls 2 [(0, .ref (B 0))] := hl
  have hP : va_P D vwCl (gMo cA B (fN S) WA BG AS TX RW RR FD (nI n) m2 m3 m4 m5 m6 m7 m8 m9 m10 m11 m12 m13 m14 m15 m16 m17 m18 m19) sY.heap := hP
  have hD : va_D AY (gMo cA B (fN S) WA BG AS TX RW RR FD (nI n) m2 m3 m4 m5 m6 m7 m8 m9 m10 m11 m12 m13 m14 m15 m16 m17 m18 m19) := hD
  refine lv_aload_n hx hb dX11_undo_0 rfl (lv_at hl 0 rfl) ?_
  refine va_get (D := D) (ci := 10) (v := .int (nI n)) (C := RX11) (T := TX11) (N := 27) hx hb hts hi_X11_undo_X11 hown hK hP 0 rfl rfl 4 (by decide) (hts (.fieldLink RX11 79 "FallingWordsModel" "states" "I") (by decide +kernel)) (fun _ h9 => h9) rfl dX11_undo_1 ?_
  refine x0_ne (tgt := 10) hx hb dX11_undo_4 (by decide) (by omega) (fun c4 => ?_) (fun c4 => ?_)
  · refine lv_aload_n hx hb dX11_undo_10 rfl (lv_at hl 0 rfl) ?_
    refine lv_dup hx hb dX11_undo_11 rfl ?_
    refine va_get (D := D) (ci := 10) (v := .int (nI n)) (C := RX11) (T := TX11) (N := 27) hx hb hts hi_X11_undo_X11 hown hK hP 0 rfl rfl 4 (by decide) (hts (.fieldLink RX11 79 "FallingWordsModel" "states" "I") (by decide +kernel)) (fun _ h9 => h9) rfl dX11_undo_12 ?_
    refine lv_iconst (v := nI 1) hx hb dX11_undo_15 (by decide +kernel) ?_
    refine lv_isub hx hb dX11_undo_16 ?_
    refine xt (show (nI n) - (nI 1) = nI (n - 1) from pk_sub (by omega)) ?_
    refine va_put (D := D) (ci := 10) (v := .int (nI (n - 1))) (ty := .int) (C := RX11) (T := TX11) (N := 27) hx hb hts hi_X11_undo_X11 tyX11 tyX11_ok nmX11 hown hK hP hD hS 0 rfl rfl 4 (by decide) (hts (.fieldLink RX11 79 "FallingWordsModel" "states" "I") (by decide +kernel)) (fun _ h9 => h9) rfl (by decide +kernel) rfl rfl (Nat.le_of_ble_eq_true rfl) dX11_undo_17 (fun H locs hP hD hS => ?_)
    have hP : va_P D vwCl (gMo cA B (fN S) WA BG AS TX RW RR FD (nI (n - 1)) m2 m3 m4 m5 m6 m7 m8 m9 m10 m11 m12 m13 m14 m15 m16 m17 m18 m19) H := hP
    have hD : va_D AY (gMo cA B (fN S) WA BG AS TX RW RR FD (nI (n - 1)) m2 m3 m4 m5 m6 m7 m8 m9 m10 m11 m12 m13 m14 m15 m16 m17 m18 m19) := hD
    refine lv_iconst (v := nI 0) hx hb dX11_undo_20 (by decide +kernel) ?_
    refine lv_istore_n (lv' := [(1, .int (nI 0)), (0, .ref (B 0))]) hx hb dX11_undo_21 rfl hl (by decide) rfl (fun ls hl => ?_)
    have L22 : ∀ (nY : Nat), ∀ (k : Nat) (T2 : St), (k ≤ 52) → (∀ j, j < k → T2 j = h (n - 1) j) → (52 - k < nY) → ∀ (H : Heap) (locs : List Loc) (ls : Array Slot), va_P D vwCl (gMo cA B (fN T2) WA BG AS TX RW RR FD (nI (n - 1)) m2 m3 m4 m5 m6 m7 m8 m9 m10 m11 m12 m13 m14 m15 m16 m17 m18 m19) H → va_D AY (gMo cA B (fN T2) WA BG AS TX RW RR FD (nI (n - 1)) m2 m3 m4 m5 m6 m7 m8 m9 m10 m11 m12 m13 m14 m15 m16 m17 m18 m19) → va_S AY sY.heap H locs → lv_has ls 2 [(0, .ref (B 0)), (1, .int (nI k))] → W pY lY eY { frames := 0, cells := 0, slots := 0, locals := 0 } sY mY aY bY tY cY H locs 0 0 QY (F0 mY 22 ls []) := by
      intro nY22
      induction nY22 with
      | zero => intro k T2 hk hT2 hm22; exact absurd hm22 (Nat.not_lt_zero _)
      | succ nY22 ih22 =>
        intro k T2 hk hT2 hm22 H locs ls hP hD hS hl
        refine lv_iload_n hx hb dX11_undo_22 rfl (lv_at hl 1 rfl) ?_
        refine lv_bipush (v := nI 52) hx hb dX11_undo_23 (by decide +kernel) ?_
        refine xc_ge (tgt := 54) hx hb dX11_undo_25 (by decide) (by omega) (by omega) (fun c25 => ?_) (fun c25 => ?_)
        · obtain ⟨hP, hD⟩ := pE (g := fN (h (n - 1))) hP hD 1 rfl (fun j hj => congrArg nI (hT2 j (by omega)))
          have hP : va_P D vwCl (gMo cA B (fN (h (n - 1))) WA BG AS TX RW RR FD (nI (n - 1)) m2 m3 m4 m5 m6 m7 m8 m9 m10 m11 m12 m13 m14 m15 m16 m17 m18 m19) H := hP
          have hD : va_D AY (gMo cA B (fN (h (n - 1))) WA BG AS TX RW RR FD (nI (n - 1)) m2 m3 m4 m5 m6 m7 m8 m9 m10 m11 m12 m13 m14 m15 m16 m17 m18 m19) := hD
          refine lv_aload_n hx hb dX11_undo_54 rfl (lv_at hl 0 rfl) ?_
          refine va_get (D := D) (ci := 10) (v := .int (nI (n - 1))) (C := RX11) (T := TX11) (N := 27) hx hb hts hi_X11_undo_X11 hown hK hP 0 rfl rfl 4 (by decide) (hts (.fieldLink RX11 79 "FallingWordsModel" "states" "I") (by decide +kernel)) (fun _ h9 => h9) rfl dX11_undo_55 ?_
          have hR : undZ S h n = (nI (n - 1), (h (n - 1), h, n - 1)) := if_neg (by omega)
          exact hret _ _ _ _ _ _ dX11_undo_58 ⟨(by rw [hR]), (by rw [hR])⟩ hP hD hS
        · refine lv_aload_n hx hb dX11_undo_28 rfl (lv_at hl 0 rfl) ?_
          refine va_get (D := D) (ci := 10) (v := .ref (B 1)) (C := RX11) (T := TX11) (N := 27) hx hb hts hi_X11_undo_X11 hown hK hP 0 rfl rfl 0 (by decide) (hts (.fieldLink RX11 7 "FallingWordsModel" "s" "[I") (by decide +kernel)) (fun _ h9 => h9) rfl dX11_undo_29 ?_
          refine lv_iload_n hx hb dX11_undo_32 rfl (lv_at hl 1 rfl) ?_
          refine lv_aload_n hx hb dX11_undo_33 rfl (lv_at hl 0 rfl) ?_
          refine va_get (D := D) (ci := 10) (v := .ref (B 2)) (C := RX11) (T := TX11) (N := 27) hx hb hts hi_X11_undo_X11 hown hK hP 0 rfl rfl 1 (by decide) (hts (.fieldLink RX11 13 "FallingWordsModel" "was" "[I") (by decide +kernel)) (fun _ h9 => h9) rfl dX11_undo_34 ?_
          refine lv_bipush (v := nI 52) hx hb dX11_undo_37 (by decide +kernel) ?_
          refine lv_aload_n hx hb dX11_undo_39 rfl (lv_at hl 0 rfl) ?_
          refine va_get (D := D) (ci := 10) (v := .int (nI (n - 1))) (C := RX11) (T := TX11) (N := 27) hx hb hts hi_X11_undo_X11 hown hK hP 0 rfl rfl 4 (by decide) (hts (.fieldLink RX11 79 "FallingWordsModel" "states" "I") (by decide +kernel)) (fun _ h9 => h9) rfl dX11_undo_40 ?_
          refine lv_imul hx hb dX11_undo_43 ?_
          refine xt (show (nI 52) * (nI (n - 1)) = nI (52 * (n - 1)) from pk_mul _ _) ?_
          refine lv_iload_n hx hb dX11_undo_44 rfl (lv_at hl 1 rfl) ?_
          refine lv_iadd hx hb dX11_undo_45 ?_
          refine xt (show (nI (52 * (n - 1))) + (nI k) = nI (52 * (n - 1) + k) from nI_add _ _) ?_
          refine xa_ld (v := nI (h (n - 1) k)) hx hb hK hP 2 rfl (by omega) (by decide) (hwas (n - 1) (by omega) k (by omega)) dX11_undo_46 ?_
          refine xa_st hx hb hK hP hD hS 1 rfl (by omega) (by decide) dX11_undo_47 (fun H locs hP hD hS => ?_)
          have hP : va_P D vwCl (gMo cA B (upd (fN T2) k (nI (h (n - 1) k))) WA BG AS TX RW RR FD (nI (n - 1)) m2 m3 m4 m5 m6 m7 m8 m9 m10 m11 m12 m13 m14 m15 m16 m17 m18 m19) H := hP
          have hD : va_D AY (gMo cA B (upd (fN T2) k (nI (h (n - 1) k))) WA BG AS TX RW RR FD (nI (n - 1)) m2 m3 m4 m5 m6 m7 m8 m9 m10 m11 m12 m13 m14 m15 m16 m17 m18 m19) := hD
          rw [show upd (fN T2) k (nI (h (n - 1) k)) = fN (upN T2 k (h (n - 1) k)) from fN_up] at hP hD
          refine lv_iinc (v := nI (k + 1)) (lv' := [(1, .int (nI (k + 1))), (0, .ref (B 0))]) hx hb dX11_undo_48 hl (k := 1) rfl (show nI k + Int32.ofInt 1 = nI (k + 1) from nI_add k 1) (by decide) rfl (fun ls hl => ?_)
          refine lv_goto (tgt := 22) hx hb dX11_undo_51 (by decide) ?_
          exact ih22 (k + 1) (upN T2 k (h (n - 1) k)) (by omega) (fun j hj => by rcases Nat.lt_or_ge j k with q | q; (rw [upN_n (by omega)]; exact hT2 j q); rw [show j = k by omega, upN_s]) (by omega) _ _ _ hP hD hS (lv_sub hl [1, 0] rfl)
    exact L22 _ 0 S (by omega) (fun j hj => absurd hj (Nat.not_lt_zero j)) (Nat.lt_succ_self _) _ _ _ hP hD hS (lv_sub hl [1, 0] rfl)
  · refine lv_ldc (v := (-1000002)) hx hb hown (hts (.constant RX11 103 (-1000002)) (by decide +kernel)) dX11_undo_7 ?_
    have hR : undZ S h n = ((-1000002), (S, h, n)) := if_pos c4
    exact hret _ _ _ _ _ _ dX11_undo_9 ⟨(by rw [hR]), (by rw [hR])⟩ hP hD hS

theorem hi_X11_type_X11 : ∀ w ∈ u_ws RX11 TX11 27, w ∈ wsX11_type := by decide +kernel
set_option maxHeartbeats 1000000 in
set_option maxRecDepth 100000 in
theorem k_X11_type (lY : Launch) (D : va_G) (cA : Nat → ClassId) (B : Nat → Nat) (S : St) (WA BG AS TX RW RR FD : Nat → Int32) (m1 m3 m4 m5 m6 m7 m8 m9 m10 m11 m12 m13 m14 m15 m16 m17 m18 m19 : Int32) (txt : Nat → Nat) (m : Nat) (x : Int32) (htx : rTx txt m TX) : MetI lY D cA yX11_type wsX11_type 1 22 [.ref (B 0), .int x] (gMo cA B (fN S) WA BG AS TX RW RR FD m1 (nI m) m3 m4 m5 m6 m7 m8 m9 m10 m11 m12 m13 m14 m15 m16 m17 m18 m19) (fun rY wY => ∃ (TX' : Nat → Int32), rY = (typZ txt m x).1 ∧ wY = gMo cA B (fN S) WA BG AS TX' RW RR FD m1 (nI ((typZ txt m x).2.2)) m3 m4 m5 m6 m7 m8 m9 m10 m11 m12 m13 m14 m15 m16 m17 m18 m19 ∧ (rTx (typZ txt m x).2.1 (typZ txt m x).2.2 TX')) := by
  refine MetI.of (cc := cX11_type) (maxL := 2) (ret := (some .int)) (by decide) rfl (Nat.le_of_ble_eq_true rfl) (Or.inl rfl) ?_
  intro pY eY sY mY aY bY tY cY QY AY ls h0 hP hK hN hD hA hS hl hret
  obtain ⟨hx, hb, hml, hown, hts⟩ := id h0
  have hl : lv_has ls 2 [(0, .ref (B 0)), (1, .int x)] := hl
  have hP : va_P D vwCl (gMo cA B (fN S) WA BG AS TX RW RR FD m1 (nI m) m3 m4 m5 m6 m7 m8 m9 m10 m11 m12 m13 m14 m15 m16 m17 m18 m19) sY.heap := hP
  have hD : va_D AY (gMo cA B (fN S) WA BG AS TX RW RR FD m1 (nI m) m3 m4 m5 m6 m7 m8 m9 m10 m11 m12 m13 m14 m15 m16 m17 m18 m19) := hD
  have e32 : (nI 32).toInt = 32 := rfl
  have e126 : (nI 126).toInt = 126 := rfl
  have h80 := htx.1
  refine lv_iload_n hx hb dX11_type_0 rfl (lv_at hl 1 rfl) ?_
  refine lv_bipush (v := nI 32) hx hb dX11_type_1 (by decide +kernel) ?_
  refine lv_bipush (v := nI 126) hx hb dX11_type_3 (by decide +kernel) ?_
  refine ci_S (As := [.int x, .int (nI 32), .int (nI 126)]) (rest := []) h0 hK hN hP hD hS hA hl.1 (k_X11_in lY D cA x (nI 32) (nI 126) ) [] rfl (by decide) (va_cwS 3 hts gX11_type_X11_in rfl rfl rfl (by decide +kernel) ⟨Nat.le_of_ble_eq_true rfl, Nat.le_of_ble_eq_true rfl⟩) rfl rfl (Nat.le_of_ble_eq_true rfl) dX11_type_5 ⟨Nat.zero_le _, Nat.zero_le _⟩ (fun rY wY H locs hwY hJ hS => ?_)
  obtain ⟨e1Y, e2Y⟩ := hwY
  have e3Y := e1Y.symm
  clear e1Y
  subst e3Y
  have e3Y := e2Y.symm
  clear e2Y
  subst e3Y
  obtain ⟨hP, hD⟩ := hJ rfl
  have hP : va_P D vwCl (gMo cA B (fN S) WA BG AS TX RW RR FD m1 (nI m) m3 m4 m5 m6 m7 m8 m9 m10 m11 m12 m13 m14 m15 m16 m17 m18 m19) H := hP
  have hD : va_D AY (gMo cA B (fN S) WA BG AS TX RW RR FD m1 (nI m) m3 m4 m5 m6 m7 m8 m9 m10 m11 m12 m13 m14 m15 m16 m17 m18 m19) := hD
  refine xb_ne (tgt := 14) hx hb dX11_type_8 (by decide) (fun c8 => ?_) (fun c8 => ?_)
  · have ci := inI_t c8
    refine lv_aload_n hx hb dX11_type_14 rfl (lv_at hl 0 rfl) ?_
    refine va_get (D := D) (ci := 10) (v := .int (nI m)) (C := RX11) (T := TX11) (N := 27) hx hb hts hi_X11_type_X11 hown hK hP 0 rfl rfl 6 (by decide) (hts (.fieldLink RX11 176 "FallingWordsModel" "typed" "I") (by decide +kernel)) (fun _ h9 => h9) rfl dX11_type_15 ?_
    refine lv_bipush (v := nI 80) hx hb dX11_type_18 (by decide +kernel) ?_
    refine xc_ne (tgt := 26) hx hb dX11_type_20 (by decide) (by omega) (by omega) (fun c20 => ?_) (fun c20 => ?_)
    · obtain ⟨k, hk, rfl⟩ : ∃ k : Nat, k < 127 ∧ x = nI k := i32_of (by omega) (by omega)
      have ek : (nI k).toInt = (k : Int) := nI_toInt (by omega)
      refine lv_aload_n hx hb dX11_type_26 rfl (lv_at hl 0 rfl) ?_
      refine va_get (D := D) (ci := 10) (v := .ref (B 5)) (C := RX11) (T := TX11) (N := 27) hx hb hts hi_X11_type_X11 hown hK hP 0 rfl rfl 5 (by decide) (hts (.fieldLink RX11 22 "FallingWordsModel" "text" "[C") (by decide +kernel)) (fun _ h9 => h9) rfl dX11_type_27 ?_
      refine lv_aload_n hx hb dX11_type_30 rfl (lv_at hl 0 rfl) ?_
      refine va_get (D := D) (ci := 10) (v := .int (nI m)) (C := RX11) (T := TX11) (N := 27) hx hb hts hi_X11_type_X11 hown hK hP 0 rfl rfl 6 (by decide) (hts (.fieldLink RX11 176 "FallingWordsModel" "typed" "I") (by decide +kernel)) (fun _ h9 => h9) rfl dX11_type_31 ?_
      refine lv_iload_n hx hb dX11_type_34 rfl (lv_at hl 1 rfl) ?_
      refine lv_i2c (v := nI k) hx hb dX11_type_35 (c16 (by omega)) ?_
      refine xa_cst hx hb hK hP hD hS 5 rfl (by omega) (by decide) (by omega) dX11_type_36 (fun H locs hP hD hS => ?_)
      have hP : va_P D vwCl (gMo cA B (fN S) WA BG AS (upd TX m (nI k)) RW RR FD m1 (nI m) m3 m4 m5 m6 m7 m8 m9 m10 m11 m12 m13 m14 m15 m16 m17 m18 m19) H := hP
      have hD : va_D AY (gMo cA B (fN S) WA BG AS (upd TX m (nI k)) RW RR FD m1 (nI m) m3 m4 m5 m6 m7 m8 m9 m10 m11 m12 m13 m14 m15 m16 m17 m18 m19) := hD
      refine lv_aload_n hx hb dX11_type_37 rfl (lv_at hl 0 rfl) ?_
      refine lv_dup hx hb dX11_type_38 rfl ?_
      refine va_get (D := D) (ci := 10) (v := .int (nI m)) (C := RX11) (T := TX11) (N := 27) hx hb hts hi_X11_type_X11 hown hK hP 0 rfl rfl 6 (by decide) (hts (.fieldLink RX11 176 "FallingWordsModel" "typed" "I") (by decide +kernel)) (fun _ h9 => h9) rfl dX11_type_39 ?_
      refine lv_iconst (v := nI 1) hx hb dX11_type_42 (by decide +kernel) ?_
      refine lv_iadd hx hb dX11_type_43 ?_
      refine xt (show (nI m) + (nI 1) = nI (m + 1) from nI_add _ _) ?_
      refine va_put (D := D) (ci := 10) (v := .int (nI (m + 1))) (ty := .int) (C := RX11) (T := TX11) (N := 27) hx hb hts hi_X11_type_X11 tyX11 tyX11_ok nmX11 hown hK hP hD hS 0 rfl rfl 6 (by decide) (hts (.fieldLink RX11 176 "FallingWordsModel" "typed" "I") (by decide +kernel)) (fun _ h9 => h9) rfl (by decide +kernel) rfl rfl (Nat.le_of_ble_eq_true rfl) dX11_type_44 (fun H locs hP hD hS => ?_)
      have hP : va_P D vwCl (gMo cA B (fN S) WA BG AS (upd TX m (nI k)) RW RR FD m1 (nI (m + 1)) m3 m4 m5 m6 m7 m8 m9 m10 m11 m12 m13 m14 m15 m16 m17 m18 m19) H := hP
      have hD : va_D AY (gMo cA B (fN S) WA BG AS (upd TX m (nI k)) RW RR FD m1 (nI (m + 1)) m3 m4 m5 m6 m7 m8 m9 m10 m11 m12 m13 m14 m15 m16 m17 m18 m19) := hD
      refine lv_aload_n hx hb dX11_type_47 rfl (lv_at hl 0 rfl) ?_
      refine va_get (D := D) (ci := 10) (v := .int (nI (m + 1))) (C := RX11) (T := TX11) (N := 27) hx hb hts hi_X11_type_X11 hown hK hP 0 rfl rfl 6 (by decide) (hts (.fieldLink RX11 176 "FallingWordsModel" "typed" "I") (by decide +kernel)) (fun _ h9 => h9) rfl dX11_type_48 ?_
      have hR : typZ txt m (nI k) = (nI (m + 1), upN txt m k, m + 1) := by unfold typZ; rw [if_neg (by omega), if_neg (by omega), ek, Int.toNat_natCast]
      exact hret _ _ _ _ _ _ dX11_type_51 ⟨((upd TX m (nI k))), (by rw [hR]), (by rw [hR]), (by rw [hR]; exact rTx_up htx (by omega) hk)⟩ hP hD hS
    · refine lv_ldc (v := (-1000003)) hx hb hown (hts (.constant RX11 115 (-1000003)) (by decide +kernel)) dX11_type_23 ?_
      have hR : typZ txt m x = ((-1000003), txt, m) := by unfold typZ; rw [if_neg (by omega), if_pos (by omega)]
      exact hret _ _ _ _ _ _ dX11_type_25 ⟨TX, (by rw [hR]), (by rw [hR]), (by rw [hR]; exact htx)⟩ hP hD hS
  · refine lv_ldc (v := (-1000001)) hx hb hown (hts (.constant RX11 78 (-1000001)) (by decide +kernel)) dX11_type_11 ?_
    have ci := inI_f c8
    have hR : typZ txt m x = ((-1000001), txt, m) := if_pos (by omega)
    exact hret _ _ _ _ _ _ dX11_type_13 ⟨TX, (by rw [hR]), (by rw [hR]), (by rw [hR]; exact htx)⟩ hP hD hS

theorem hi_X11_clearText_X11 : ∀ w ∈ u_ws RX11 TX11 27, w ∈ wsX11_clearText := by decide +kernel
set_option maxHeartbeats 1000000 in
set_option maxRecDepth 100000 in
theorem k_X11_clearText (lY : Launch) (D : va_G) (cA : Nat → ClassId) (B : Nat → Nat) (S : St) (WA BG AS TX RW RR FD : Nat → Int32) (m1 m3 m4 m5 m6 m7 m8 m9 m10 m11 m12 m13 m14 m15 m16 m17 m18 m19 : Int32) (m : Nat)  : MetI lY D cA yX11_clearText wsX11_clearText 0 0 [.ref (B 0)] (gMo cA B (fN S) WA BG AS TX RW RR FD m1 (nI m) m3 m4 m5 m6 m7 m8 m9 m10 m11 m12 m13 m14 m15 m16 m17 m18 m19) (fun rY wY => rY = nI m ∧ wY = gMo cA B (fN S) WA BG AS TX RW RR FD m1 (nI 0) m3 m4 m5 m6 m7 m8 m9 m10 m11 m12 m13 m14 m15 m16 m17 m18 m19) := by
  refine MetI.of (cc := cX11_clearText) (maxL := 2) (ret := (some .int)) (by decide) rfl (Nat.le_of_ble_eq_true rfl) (Or.inl rfl) ?_
  intro pY eY sY mY aY bY tY cY QY AY ls h0 hP hK hN hD hA hS hl hret
  obtain ⟨hx, hb, hml, hown, hts⟩ := id h0
  have hl : lv_has ls 2 [(0, .ref (B 0))] := hl
  have hP : va_P D vwCl (gMo cA B (fN S) WA BG AS TX RW RR FD m1 (nI m) m3 m4 m5 m6 m7 m8 m9 m10 m11 m12 m13 m14 m15 m16 m17 m18 m19) sY.heap := hP
  have hD : va_D AY (gMo cA B (fN S) WA BG AS TX RW RR FD m1 (nI m) m3 m4 m5 m6 m7 m8 m9 m10 m11 m12 m13 m14 m15 m16 m17 m18 m19) := hD
  refine lv_aload_n hx hb dX11_clearText_0 rfl (lv_at hl 0 rfl) ?_
  refine va_get (D := D) (ci := 10) (v := .int (nI m)) (C := RX11) (T := TX11) (N := 27) hx hb hts hi_X11_clearText_X11 hown hK hP 0 rfl rfl 6 (by decide) (hts (.fieldLink RX11 176 "FallingWordsModel" "typed" "I") (by decide +kernel)) (fun _ h9 => h9) rfl dX11_clearText_1 ?_
  refine lv_istore_n (lv' := [(1, .int (nI m)), (0, .ref (B 0))]) hx hb dX11_clearText_4 rfl hl (by decide) rfl (fun ls hl => ?_)
  refine lv_aload_n hx hb dX11_clearText_5 rfl (lv_at hl 1 rfl) ?_
  refine lv_iconst (v := nI 0) hx hb dX11_clearText_6 (by decide +kernel) ?_
  refine va_put (D := D) (ci := 10) (v := .int (nI 0)) (ty := .int) (C := RX11) (T := TX11) (N := 27) hx hb hts hi_X11_clearText_X11 tyX11 tyX11_ok nmX11 hown hK hP hD hS 0 rfl rfl 6 (by decide) (hts (.fieldLink RX11 176 "FallingWordsModel" "typed" "I") (by decide +kernel)) (fun _ h9 => h9) rfl (by decide +kernel) rfl rfl (Nat.le_of_ble_eq_true rfl) dX11_clearText_7 (fun H locs hP hD hS => ?_)
  have hP : va_P D vwCl (gMo cA B (fN S) WA BG AS TX RW RR FD m1 (nI 0) m3 m4 m5 m6 m7 m8 m9 m10 m11 m12 m13 m14 m15 m16 m17 m18 m19) H := hP
  have hD : va_D AY (gMo cA B (fN S) WA BG AS TX RW RR FD m1 (nI 0) m3 m4 m5 m6 m7 m8 m9 m10 m11 m12 m13 m14 m15 m16 m17 m18 m19) := hD
  refine lv_iload_n hx hb dX11_clearText_10 rfl (lv_at hl 0 rfl) ?_
  exact hret _ _ _ _ _ _ dX11_clearText_11 ⟨rfl, rfl⟩ hP hD hS
