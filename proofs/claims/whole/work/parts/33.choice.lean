theorem hi_X4_choiceFor_X4 : ∀ w ∈ u_ws RX4 TX4 6, w ∈ wsX4_choiceFor := by decide +kernel
set_option maxHeartbeats 1000000 in
set_option maxRecDepth 100000 in
theorem k_X4_choiceFor (lY : Launch) (D : va_G) (cA : Nat → ClassId) (B : Nat → Nat) (S : St) (L R LL RL TM : Nat → Int32) (w : Nat) (hI : IR S) (hr : rRu S L R LL RL TM) (hw : vw 12 w) : MetI lY D cA yX4_choiceFor wsX4_choiceFor 1 27 [.ref (B 0), .int (nI w), .int (nI (S 2))] (gRu cA B L R LL RL TM (nI (S 1))) (fun rY wY => rY = chI S w ∧ wY = gRu cA B L R LL RL TM (nI (S 1))) := by
  refine MetI.of (cc := cX4_choiceFor) (maxL := 12) (ret := (some .int)) (by decide) rfl (Nat.le_of_ble_eq_true rfl) (Or.inl rfl) ?_
  intro pY eY sY mY aY bY tY cY QY AY ls h0 hP hK hN hD hA hS hl hret
  obtain ⟨hx, hb, hml, hown, hts⟩ := id h0
  have hl : lv_has ls 12 [(0, .ref (B 0)), (1, .int (nI w)), (2, .int (nI (S 2)))] := hl
  have hP : va_P D vwCl (gRu cA B L R LL RL TM (nI (S 1))) sY.heap := hP
  have hD : va_D AY (gRu cA B L R LL RL TM (nI (S 1))) := hD
  have h12 := hw.2
  have h10 := hI.1
  have hway := hI.2.1
  refine lv_iload_n hx hb dX4_choiceFor_0 rfl (lv_at hl 1 rfl) ?_
  refine ci_SN (As := [.int (nI w)]) (rest := []) h0 hK hN hP hD hS hA hl.1 (k_X9_lengthOf lY D cA w (hw.1) (by omega)) [] rfl (by decide) ⟨(va_cnB 1 hts gX4_choiceFor_X9_lengthOf_n41 rfl rfl rfl (hN (.methodLinkNest RX4 41 yX9_lengthOf "FallingWords") (by decide +kernel)) (hts (.initialized RX9) (by decide +kernel)) (by decide +kernel) ⟨Nat.le_of_ble_eq_true rfl, Nat.le_of_ble_eq_true rfl⟩), hts (.static yX9_lengthOf) (by decide +kernel), trivial⟩ rfl rfl (Nat.le_of_ble_eq_true rfl) dX4_choiceFor_1 ⟨Nat.zero_le _, Nat.zero_le _⟩ (fun rY wY H locs hwY hJ hS => ?_)
  obtain ⟨e1Y, e2Y⟩ := hwY
  have e3Y := e1Y.symm
  clear e1Y
  subst e3Y
  have e3Y := e2Y.symm
  clear e2Y
  subst e3Y
  obtain ⟨hP, hD⟩ := hJ rfl
  have hP : va_P D vwCl (gRu cA B L R LL RL TM (nI (S 1))) H := hP
  have hD : va_D AY (gRu cA B L R LL RL TM (nI (S 1))) := hD
  refine lv_istore_n (lv' := [(3, .int (nI (len w))), (0, .ref (B 0)), (1, .int (nI w)), (2, .int (nI (S 2)))]) hx hb dX4_choiceFor_4 rfl hl (by decide) rfl (fun ls hl => ?_)
  refine lv_iload_n hx hb dX4_choiceFor_5 rfl (lv_at hl 3 rfl) ?_
  refine lv_iconst (v := nI 2) hx hb dX4_choiceFor_6 (by decide +kernel) ?_
  refine xc_ne (tgt := 14) hx hb dX4_choiceFor_7 (by decide) (by omega) (by omega) (fun c7 => ?_) (fun c7 => ?_)
  · refine lv_iconst (v := nI 0) hx hb dX4_choiceFor_14 (by decide +kernel) ?_
    refine lv_istore (lv' := [(4, .int (nI 0)), (3, .int (nI (len w))), (0, .ref (B 0)), (1, .int (nI w)), (2, .int (nI (S 2)))]) hx hb dX4_choiceFor_15 hl (by decide) rfl (fun ls hl => ?_)
    refine lv_iload hx hb dX4_choiceFor_17 (lv_at hl 0 rfl) ?_
    refine lv_if_eq (tgt := 29) hx hb dX4_choiceFor_19 (by decide) (fun c19 => ?_) (fun c19 => ?_)
    rotate_left
    · exact absurd (by decide +kernel) c19
    refine lv_iload_n hx hb dX4_choiceFor_29 rfl (lv_at hl 1 rfl) ?_
    refine lv_istore (lv' := [(5, .int (nI (len w))), (4, .int (nI 0)), (3, .int (nI (len w))), (0, .ref (B 0)), (1, .int (nI w)), (2, .int (nI (S 2)))]) hx hb dX4_choiceFor_30 hl (by decide) rfl (fun ls hl => ?_)
    refine lv_iload hx hb dX4_choiceFor_32 (lv_at hl 1 rfl) ?_
    refine lv_if_eq (tgt := 41) hx hb dX4_choiceFor_34 (by decide) (fun c34 => ?_) (fun c34 => ?_)
    rotate_left
    · exact absurd (by decide +kernel) c34
    refine lv_aload_n hx hb dX4_choiceFor_41 rfl (lv_at hl 3 rfl) ?_
    refine va_get (D := D) (ci := 4) (v := .int (nI (S 1))) (C := RX4) (T := TX4) (N := 6) hx hb hts hi_X4_choiceFor_X4 hown hK hP 0 rfl rfl 5 (by decide) (hts (.fieldLink RX4 33 "FallingWords$Rules" "size" "I") (by decide +kernel)) (fun _ h9 => h9) rfl dX4_choiceFor_42 ?_
    refine lv_istore (lv' := [(6, .int (nI (S 1))), (5, .int (nI (len w))), (4, .int (nI 0)), (3, .int (nI (len w))), (0, .ref (B 0)), (1, .int (nI w)), (2, .int (nI (S 2)))]) hx hb dX4_choiceFor_45 hl (by decide) rfl (fun ls hl => ?_)
    refine lv_iconst (v := nI 0) hx hb dX4_choiceFor_47 (by decide +kernel) ?_
    refine lv_istore (lv' := [(7, .int (nI 0)), (6, .int (nI (S 1))), (5, .int (nI (len w))), (4, .int (nI 0)), (3, .int (nI (len w))), (0, .ref (B 0)), (1, .int (nI w)), (2, .int (nI (S 2)))]) hx hb dX4_choiceFor_48 hl (by decide) rfl (fun ls hl => ?_)
    have L50 : ∀ (nY : Nat), ∀ (i : Nat), (i ≤ 12) → (∀ r p, r < S 1 → p < len w → (S 2 = 2 ∧ r < i ∨ S 2 = 1 ∧ len w - 1 - p < i ∨ S 2 = 0 ∧ p < i) → stn (lf S r) w p = false) → (13 - i < nY) → ∀ (H : Heap) (locs : List Loc) (ls : Array Slot), va_P D vwCl (gRu cA B L R LL RL TM (nI (S 1))) H → va_D AY (gRu cA B L R LL RL TM (nI (S 1))) → va_S AY sY.heap H locs → lv_has ls 12 [(0, .ref (B 0)), (1, .int (nI w)), (2, .int (nI (S 2))), (3, .int (nI (len w))), (4, .int (nI 0)), (5, .int (nI (len w))), (6, .int (nI (S 1))), (7, .int (nI i))] → W pY lY eY { frames := 1, cells := 0, slots := 0, locals := 27 } sY mY aY bY tY cY H locs 0 0 QY (F0 mY 50 ls []) := by
      intro nY50
      induction nY50 with
      | zero => intro i hi hno hm50; exact absurd hm50 (Nat.not_lt_zero _)
      | succ nY50 ih50 =>
        intro i hi hno hm50 H locs ls hP hD hS hl
        refine lv_iload hx hb dX4_choiceFor_50 (lv_at hl 7 rfl) ?_
        refine lv_iload hx hb dX4_choiceFor_52 (lv_at hl 5 rfl) ?_
        refine xc_ge (tgt := 147) hx hb dX4_choiceFor_54 (by decide) (by omega) (by omega) (fun c54 => ?_) (fun c54 => ?_)
        · refine lv_iconst (v := (-1)) hx hb dX4_choiceFor_147 (by decide +kernel) ?_
          exact hret _ _ _ _ _ _ dX4_choiceFor_148 ⟨(chI_no (ch_no (fun r p h1 h2 => hno r p h1 h2 (by omega)))).symm, rfl⟩ hP hD hS
        · refine lv_iconst (v := nI 0) hx hb dX4_choiceFor_57 (by decide +kernel) ?_
          refine lv_istore (lv' := [(8, .int (nI 0)), (0, .ref (B 0)), (1, .int (nI w)), (2, .int (nI (S 2))), (3, .int (nI (len w))), (4, .int (nI 0)), (5, .int (nI (len w))), (6, .int (nI (S 1))), (7, .int (nI i))]) hx hb dX4_choiceFor_58 hl (by decide) rfl (fun ls hl => ?_)
          have L60 : ∀ (nY : Nat), ∀ (j : Nat), (j ≤ 12) → (∀ r p, r < S 1 → p < len w → (S 2 = 2 ∧ (r < i ∨ r = i ∧ p < j) ∨ S 2 = 1 ∧ (len w - 1 - p < i ∨ len w - 1 - p = i ∧ r < j) ∨ S 2 = 0 ∧ (p < i ∨ p = i ∧ r < j)) → stn (lf S r) w p = false) → (13 - j < nY) → ∀ (H : Heap) (locs : List Loc) (ls : Array Slot), va_P D vwCl (gRu cA B L R LL RL TM (nI (S 1))) H → va_D AY (gRu cA B L R LL RL TM (nI (S 1))) → va_S AY sY.heap H locs → lv_has ls 12 [(0, .ref (B 0)), (1, .int (nI w)), (2, .int (nI (S 2))), (3, .int (nI (len w))), (4, .int (nI 0)), (5, .int (nI (len w))), (6, .int (nI (S 1))), (7, .int (nI i)), (8, .int (nI j))] → W pY lY eY { frames := 1, cells := 0, slots := 0, locals := 27 } sY mY aY bY tY cY H locs 0 0 QY (F0 mY 60 ls []) := by
            intro nY60
            induction nY60 with
            | zero => intro j hj hno2 hm60; exact absurd hm60 (Nat.not_lt_zero _)
            | succ nY60 ih60 =>
              intro j hj hno2 hm60 H locs ls hP hD hS hl
              refine lv_iload hx hb dX4_choiceFor_60 (lv_at hl 8 rfl) ?_
              refine lv_iload hx hb dX4_choiceFor_62 (lv_at hl 6 rfl) ?_
              refine xc_ge (tgt := 141) hx hb dX4_choiceFor_64 (by decide) (by omega) (by omega) (fun c64 => ?_) (fun c64 => ?_)
              · refine lv_iinc (v := nI (i + 1)) (lv' := [(7, .int (nI (i + 1))), (0, .ref (B 0)), (1, .int (nI w)), (2, .int (nI (S 2))), (3, .int (nI (len w))), (4, .int (nI 0)), (5, .int (nI (len w))), (6, .int (nI (S 1))), (8, .int (nI j))]) hx hb dX4_choiceFor_141 hl (k := 7) rfl (show nI i + Int32.ofInt 1 = nI (i + 1) from nI_add i 1) (by decide) rfl (fun ls hl => ?_)
                refine lv_goto (tgt := 50) hx hb dX4_choiceFor_144 (by decide) ?_
                exact ih50 (i + 1) (by omega) (fun r p h1 h2 h3 => hno2 r p h1 h2 (by omega)) (by omega) _ _ _ hP hD hS (lv_sub hl [1, 2, 3, 4, 5, 6, 7, 0] rfl)
              · refine lv_iload hx hb dX4_choiceFor_67 (lv_at hl 4 rfl) ?_
                refine lv_if_eq (tgt := 77) hx hb dX4_choiceFor_69 (by decide) (fun c69 => ?_) (fun c69 => ?_)
                rotate_left
                · exact absurd (by decide +kernel) c69
                refine lv_iload hx hb dX4_choiceFor_77 (lv_at hl 8 rfl) ?_
                refine lv_istore (lv' := [(9, .int (nI j)), (0, .ref (B 0)), (1, .int (nI w)), (2, .int (nI (S 2))), (3, .int (nI (len w))), (4, .int (nI 0)), (5, .int (nI (len w))), (6, .int (nI (S 1))), (7, .int (nI i)), (8, .int (nI j))]) hx hb dX4_choiceFor_79 hl (by decide) rfl (fun ls hl => ?_)
                refine lv_iload hx hb dX4_choiceFor_81 (lv_at hl 5 rfl) ?_
                refine lv_if_eq (tgt := 91) hx hb dX4_choiceFor_83 (by decide) (fun c83 => ?_) (fun c83 => ?_)
                rotate_left
                · exact absurd (by decide +kernel) c83
                refine lv_iload hx hb dX4_choiceFor_91 (lv_at hl 8 rfl) ?_
                refine lv_istore (lv' := [(10, .int (nI i)), (9, .int (nI j)), (0, .ref (B 0)), (1, .int (nI w)), (2, .int (nI (S 2))), (3, .int (nI (len w))), (4, .int (nI 0)), (5, .int (nI (len w))), (6, .int (nI (S 1))), (7, .int (nI i)), (8, .int (nI j))]) hx hb dX4_choiceFor_93 hl (by decide) rfl (fun ls hl => ?_)
                have hway2 : S 2 = 0 ∨ S 2 = 1 ∨ S 2 = 2 := by omega
                refine lv_iload_n hx hb dX4_choiceFor_95 rfl (lv_at hl 4 rfl) ?_
                refine lv_iconst (v := nI 1) hx hb dX4_choiceFor_96 (by decide +kernel) ?_
                refine xc_ne (tgt := 109) hx hb dX4_choiceFor_97 (by decide) (by omega) (by omega) (fun c97 => ?_) (fun c97 => ?_)
                · refine lv_iload hx hb dX4_choiceFor_109 (lv_at hl 0 rfl) ?_
                  refine lv_istore (lv' := [(11, .int (nI i)), (10, .int (nI i)), (9, .int (nI j)), (0, .ref (B 0)), (1, .int (nI w)), (2, .int (nI (S 2))), (3, .int (nI (len w))), (4, .int (nI 0)), (5, .int (nI (len w))), (6, .int (nI (S 1))), (7, .int (nI i)), (8, .int (nI j))]) hx hb dX4_choiceFor_111 hl (by decide) rfl (fun ls hl => ?_)
                  refine lv_aload_n hx hb dX4_choiceFor_113 rfl (lv_at hl 3 rfl) ?_
                  refine lv_iload_n hx hb dX4_choiceFor_114 rfl (lv_at hl 4 rfl) ?_
                  refine lv_iload_n hx hb dX4_choiceFor_115 rfl (lv_at hl 6 rfl) ?_
                  refine lv_iload hx hb dX4_choiceFor_116 (lv_at hl 2 rfl) ?_
                  refine lv_iload hx hb dX4_choiceFor_118 (lv_at hl 0 rfl) ?_
                  refine ci_V (As := [.int (nI w), .int (nI (len w)), .int (nI j), .int (nI i)]) (rest := []) h0 hK hN hP hD hS hA hl.1 (k_X4_appliesAt lY D cA B S L R LL RL TM w j i (hI) (hr) (hw) (by omega) (by omega)) [0, 1, 2, 3, 4, 5] rfl (by decide) (cwV 4 hts gX4_choiceFor_X4_appliesAt rfl rfl rfl (by decide +kernel) ⟨Nat.le_of_ble_eq_true rfl, Nat.le_of_ble_eq_true rfl⟩) (cl_recv (ci := 4) (q := (RX4, TX4, 6)) (q0 := 0) hP hK rfl rfl) rfl rfl (Nat.le_of_ble_eq_true rfl) dX4_choiceFor_120 ⟨Nat.zero_le _, Nat.zero_le _⟩ (fun rY wY H locs hwY hJ hS => ?_)
                  obtain ⟨e1Y, e2Y⟩ := hwY
                  have e3Y := e1Y.symm
                  clear e1Y
                  subst e3Y
                  have e3Y := e2Y.symm
                  clear e2Y
                  subst e3Y
                  obtain ⟨hP, hD⟩ := hJ rfl
                  have hP : va_P D vwCl (gRu cA B L R LL RL TM (nI (S 1))) H := hP
                  have hD : va_D AY (gRu cA B L R LL RL TM (nI (S 1))) := hD
                  refine xb_eq (tgt := 135) hx hb dX4_choiceFor_123 (by decide) (fun c123 => ?_) (fun c123 => ?_)
                  · refine lv_iinc (v := nI (j + 1)) (lv' := [(8, .int (nI (j + 1))), (11, .int (nI i)), (10, .int (nI i)), (9, .int (nI j)), (0, .ref (B 0)), (1, .int (nI w)), (2, .int (nI (S 2))), (3, .int (nI (len w))), (4, .int (nI 0)), (5, .int (nI (len w))), (6, .int (nI (S 1))), (7, .int (nI i))]) hx hb dX4_choiceFor_135 hl (k := 11) rfl (show nI j + Int32.ofInt 1 = nI (j + 1) from nI_add j 1) (by decide) rfl (fun ls hl => ?_)
                    refine lv_goto (tgt := 60) hx hb dX4_choiceFor_138 (by decide) ?_
                    exact ih60 (j + 1) (by omega) (fun r p h1 h2 h3 => by rcases Decidable.em (r = j ∧ p = i) with q | q; (rw [q.1, q.2]; exact c123); exact hno2 r p h1 h2 (by omega)) (by omega) _ _ _ hP hD hS (lv_sub hl [4, 5, 6, 7, 8, 9, 10, 11, 0] rfl)
                  · refine lv_iload hx hb dX4_choiceFor_126 (lv_at hl 0 rfl) ?_
                    refine lv_bipush (v := nI 10) hx hb dX4_choiceFor_128 (by decide +kernel) ?_
                    refine lv_imul hx hb dX4_choiceFor_130 ?_
                    refine xt (show (nI i) * (nI 10) = nI (i * 10) from pk_mul _ _) ?_
                    refine lv_iload hx hb dX4_choiceFor_131 (lv_at hl 2 rfl) ?_
                    refine lv_iadd hx hb dX4_choiceFor_133 ?_
                    refine xt (show (nI (i * 10)) + (nI j) = nI (i * 10 + j) from nI_add _ _) ?_
                    obtain ⟨b1, b2, b3⟩ := ch_is hI hw (r := j) (p := i) (by omega) (by omega) c123 (fun r p h1 h2 h3 => Nat.not_lt.mp (fun q => by rw [hno2 r p h1 h2 (rnk_lt (by omega) (by omega) (by omega) (by omega) (by omega) (by omega) q (by omega))] at h3; cases h3))
                    exact hret _ _ _ _ _ _ dX4_choiceFor_134 ⟨by rw [chI_yes b3, b1, b2], rfl⟩ hP hD hS
                · refine lv_iload_n hx hb dX4_choiceFor_100 rfl (lv_at hl 5 rfl) ?_
                  refine lv_iconst (v := nI 1) hx hb dX4_choiceFor_101 (by decide +kernel) ?_
                  refine lv_isub hx hb dX4_choiceFor_102 ?_
                  refine xt (show (nI (len w)) - (nI 1) = nI ((len w) - 1) from pk_sub (by omega)) ?_
                  refine lv_iload hx hb dX4_choiceFor_103 (lv_at hl 0 rfl) ?_
                  refine lv_isub hx hb dX4_choiceFor_105 ?_
                  refine xt (show (nI ((len w) - 1)) - (nI i) = nI (((len w) - 1) - i) from pk_sub (by omega)) ?_
                  refine lv_goto (tgt := 111) hx hb dX4_choiceFor_106 (by decide) ?_
                  refine lv_istore (lv' := [(11, .int (nI (((len w) - 1) - i))), (10, .int (nI i)), (9, .int (nI j)), (0, .ref (B 0)), (1, .int (nI w)), (2, .int (nI (S 2))), (3, .int (nI (len w))), (4, .int (nI 0)), (5, .int (nI (len w))), (6, .int (nI (S 1))), (7, .int (nI i)), (8, .int (nI j))]) hx hb dX4_choiceFor_111 hl (by decide) rfl (fun ls hl => ?_)
                  refine lv_aload_n hx hb dX4_choiceFor_113 rfl (lv_at hl 3 rfl) ?_
                  refine lv_iload_n hx hb dX4_choiceFor_114 rfl (lv_at hl 4 rfl) ?_
                  refine lv_iload_n hx hb dX4_choiceFor_115 rfl (lv_at hl 6 rfl) ?_
                  refine lv_iload hx hb dX4_choiceFor_116 (lv_at hl 2 rfl) ?_
                  refine lv_iload hx hb dX4_choiceFor_118 (lv_at hl 0 rfl) ?_
                  refine ci_V (As := [.int (nI w), .int (nI (len w)), .int (nI j), .int (nI (((len w) - 1) - i))]) (rest := []) h0 hK hN hP hD hS hA hl.1 (k_X4_appliesAt lY D cA B S L R LL RL TM w j (((len w) - 1) - i) (hI) (hr) (hw) (by omega) (by omega)) [0, 1, 2, 3, 4, 5] rfl (by decide) (cwV 4 hts gX4_choiceFor_X4_appliesAt rfl rfl rfl (by decide +kernel) ⟨Nat.le_of_ble_eq_true rfl, Nat.le_of_ble_eq_true rfl⟩) (cl_recv (ci := 4) (q := (RX4, TX4, 6)) (q0 := 0) hP hK rfl rfl) rfl rfl (Nat.le_of_ble_eq_true rfl) dX4_choiceFor_120 ⟨Nat.zero_le _, Nat.zero_le _⟩ (fun rY wY H locs hwY hJ hS => ?_)
                  obtain ⟨e1Y, e2Y⟩ := hwY
                  have e3Y := e1Y.symm
                  clear e1Y
                  subst e3Y
                  have e3Y := e2Y.symm
                  clear e2Y
                  subst e3Y
                  obtain ⟨hP, hD⟩ := hJ rfl
                  have hP : va_P D vwCl (gRu cA B L R LL RL TM (nI (S 1))) H := hP
                  have hD : va_D AY (gRu cA B L R LL RL TM (nI (S 1))) := hD
                  refine xb_eq (tgt := 135) hx hb dX4_choiceFor_123 (by decide) (fun c123 => ?_) (fun c123 => ?_)
                  · refine lv_iinc (v := nI (j + 1)) (lv' := [(8, .int (nI (j + 1))), (11, .int (nI (((len w) - 1) - i))), (10, .int (nI i)), (9, .int (nI j)), (0, .ref (B 0)), (1, .int (nI w)), (2, .int (nI (S 2))), (3, .int (nI (len w))), (4, .int (nI 0)), (5, .int (nI (len w))), (6, .int (nI (S 1))), (7, .int (nI i))]) hx hb dX4_choiceFor_135 hl (k := 11) rfl (show nI j + Int32.ofInt 1 = nI (j + 1) from nI_add j 1) (by decide) rfl (fun ls hl => ?_)
                    refine lv_goto (tgt := 60) hx hb dX4_choiceFor_138 (by decide) ?_
                    exact ih60 (j + 1) (by omega) (fun r p h1 h2 h3 => by rcases Decidable.em (r = j ∧ p = len w - 1 - i) with q | q; (rw [q.1, q.2]; exact c123); exact hno2 r p h1 h2 (by omega)) (by omega) _ _ _ hP hD hS (lv_sub hl [4, 5, 6, 7, 8, 9, 10, 11, 0] rfl)
                  · refine lv_iload hx hb dX4_choiceFor_126 (lv_at hl 0 rfl) ?_
                    refine lv_bipush (v := nI 10) hx hb dX4_choiceFor_128 (by decide +kernel) ?_
                    refine lv_imul hx hb dX4_choiceFor_130 ?_
                    refine xt (show (nI (((len w) - 1) - i)) * (nI 10) = nI ((((len w) - 1) - i) * 10) from pk_mul _ _) ?_
                    refine lv_iload hx hb dX4_choiceFor_131 (lv_at hl 2 rfl) ?_
                    refine lv_iadd hx hb dX4_choiceFor_133 ?_
                    refine xt (show (nI ((((len w) - 1) - i) * 10)) + (nI j) = nI ((((len w) - 1) - i) * 10 + j) from nI_add _ _) ?_
                    obtain ⟨b1, b2, b3⟩ := ch_is hI hw (r := j) (p := len w - 1 - i) (by omega) (by omega) c123 (fun r p h1 h2 h3 => Nat.not_lt.mp (fun q => by rw [hno2 r p h1 h2 (rnk_lt (by omega) (by omega) (by omega) (by omega) (by omega) (by omega) q (by omega))] at h3; cases h3))
                    exact hret _ _ _ _ _ _ dX4_choiceFor_134 ⟨by rw [chI_yes b3, b1, b2], rfl⟩ hP hD hS
          exact L60 _ 0 (by omega) (fun r p h1 h2 h3 => hno r p h1 h2 (by omega)) (Nat.lt_succ_self _) _ _ _ hP hD hS (lv_sub hl [1, 2, 3, 4, 5, 6, 7, 8, 0] rfl)
    exact L50 _ 0 (by omega) (fun r p h1 h2 h3 => by omega) (Nat.lt_succ_self _) _ _ _ hP hD hS (lv_sub hl [5, 6, 7, 4, 3, 2, 1, 0] rfl)
  · refine lv_iconst (v := nI 1) hx hb dX4_choiceFor_10 (by decide +kernel) ?_
    refine lv_goto (tgt := 15) hx hb dX4_choiceFor_11 (by decide) ?_
    refine lv_istore (lv' := [(4, .int (nI 1)), (3, .int (nI (len w))), (0, .ref (B 0)), (1, .int (nI w)), (2, .int (nI (S 2)))]) hx hb dX4_choiceFor_15 hl (by decide) rfl (fun ls hl => ?_)
    refine lv_iload hx hb dX4_choiceFor_17 (lv_at hl 0 rfl) ?_
    refine lv_if_eq (tgt := 29) hx hb dX4_choiceFor_19 (by decide) (fun c19 => ?_) (fun c19 => ?_)
    · exact absurd c19 (by decide +kernel)
    refine lv_aload_n hx hb dX4_choiceFor_22 rfl (lv_at hl 2 rfl) ?_
    refine va_get (D := D) (ci := 4) (v := .int (nI (S 1))) (C := RX4) (T := TX4) (N := 6) hx hb hts hi_X4_choiceFor_X4 hown hK hP 0 rfl rfl 5 (by decide) (hts (.fieldLink RX4 33 "FallingWords$Rules" "size" "I") (by decide +kernel)) (fun _ h9 => h9) rfl dX4_choiceFor_23 ?_
    refine lv_goto (tgt := 30) hx hb dX4_choiceFor_26 (by decide) ?_
    refine lv_istore (lv' := [(5, .int (nI (S 1))), (4, .int (nI 1)), (3, .int (nI (len w))), (0, .ref (B 0)), (1, .int (nI w)), (2, .int (nI (S 2)))]) hx hb dX4_choiceFor_30 hl (by decide) rfl (fun ls hl => ?_)
    refine lv_iload hx hb dX4_choiceFor_32 (lv_at hl 1 rfl) ?_
    refine lv_if_eq (tgt := 41) hx hb dX4_choiceFor_34 (by decide) (fun c34 => ?_) (fun c34 => ?_)
    · exact absurd c34 (by decide +kernel)
    refine lv_iload_n hx hb dX4_choiceFor_37 rfl (lv_at hl 2 rfl) ?_
    refine lv_goto (tgt := 45) hx hb dX4_choiceFor_38 (by decide) ?_
    refine lv_istore (lv' := [(6, .int (nI (len w))), (5, .int (nI (S 1))), (4, .int (nI 1)), (3, .int (nI (len w))), (0, .ref (B 0)), (1, .int (nI w)), (2, .int (nI (S 2)))]) hx hb dX4_choiceFor_45 hl (by decide) rfl (fun ls hl => ?_)
    refine lv_iconst (v := nI 0) hx hb dX4_choiceFor_47 (by decide +kernel) ?_
    refine lv_istore (lv' := [(7, .int (nI 0)), (6, .int (nI (len w))), (5, .int (nI (S 1))), (4, .int (nI 1)), (3, .int (nI (len w))), (0, .ref (B 0)), (1, .int (nI w)), (2, .int (nI (S 2)))]) hx hb dX4_choiceFor_48 hl (by decide) rfl (fun ls hl => ?_)
    have L50 : ∀ (nY : Nat), ∀ (i : Nat), (i ≤ 12) → (∀ r p, r < S 1 → p < len w → (S 2 = 2 ∧ r < i ∨ S 2 = 1 ∧ len w - 1 - p < i ∨ S 2 = 0 ∧ p < i) → stn (lf S r) w p = false) → (13 - i < nY) → ∀ (H : Heap) (locs : List Loc) (ls : Array Slot), va_P D vwCl (gRu cA B L R LL RL TM (nI (S 1))) H → va_D AY (gRu cA B L R LL RL TM (nI (S 1))) → va_S AY sY.heap H locs → lv_has ls 12 [(0, .ref (B 0)), (1, .int (nI w)), (2, .int (nI (S 2))), (3, .int (nI (len w))), (4, .int (nI 1)), (5, .int (nI (S 1))), (6, .int (nI (len w))), (7, .int (nI i))] → W pY lY eY { frames := 1, cells := 0, slots := 0, locals := 27 } sY mY aY bY tY cY H locs 0 0 QY (F0 mY 50 ls []) := by
      intro nY50
      induction nY50 with
      | zero => intro i hi hno hm50; exact absurd hm50 (Nat.not_lt_zero _)
      | succ nY50 ih50 =>
        intro i hi hno hm50 H locs ls hP hD hS hl
        refine lv_iload hx hb dX4_choiceFor_50 (lv_at hl 7 rfl) ?_
        refine lv_iload hx hb dX4_choiceFor_52 (lv_at hl 5 rfl) ?_
        refine xc_ge (tgt := 147) hx hb dX4_choiceFor_54 (by decide) (by omega) (by omega) (fun c54 => ?_) (fun c54 => ?_)
        · refine lv_iconst (v := (-1)) hx hb dX4_choiceFor_147 (by decide +kernel) ?_
          exact hret _ _ _ _ _ _ dX4_choiceFor_148 ⟨(chI_no (ch_no (fun r p h1 h2 => hno r p h1 h2 (by omega)))).symm, rfl⟩ hP hD hS
        · refine lv_iconst (v := nI 0) hx hb dX4_choiceFor_57 (by decide +kernel) ?_
          refine lv_istore (lv' := [(8, .int (nI 0)), (0, .ref (B 0)), (1, .int (nI w)), (2, .int (nI (S 2))), (3, .int (nI (len w))), (4, .int (nI 1)), (5, .int (nI (S 1))), (6, .int (nI (len w))), (7, .int (nI i))]) hx hb dX4_choiceFor_58 hl (by decide) rfl (fun ls hl => ?_)
          have L60 : ∀ (nY : Nat), ∀ (j : Nat), (j ≤ 12) → (∀ r p, r < S 1 → p < len w → (S 2 = 2 ∧ (r < i ∨ r = i ∧ p < j) ∨ S 2 = 1 ∧ (len w - 1 - p < i ∨ len w - 1 - p = i ∧ r < j) ∨ S 2 = 0 ∧ (p < i ∨ p = i ∧ r < j)) → stn (lf S r) w p = false) → (13 - j < nY) → ∀ (H : Heap) (locs : List Loc) (ls : Array Slot), va_P D vwCl (gRu cA B L R LL RL TM (nI (S 1))) H → va_D AY (gRu cA B L R LL RL TM (nI (S 1))) → va_S AY sY.heap H locs → lv_has ls 12 [(0, .ref (B 0)), (1, .int (nI w)), (2, .int (nI (S 2))), (3, .int (nI (len w))), (4, .int (nI 1)), (5, .int (nI (S 1))), (6, .int (nI (len w))), (7, .int (nI i)), (8, .int (nI j))] → W pY lY eY { frames := 1, cells := 0, slots := 0, locals := 27 } sY mY aY bY tY cY H locs 0 0 QY (F0 mY 60 ls []) := by
            intro nY60
            induction nY60 with
            | zero => intro j hj hno2 hm60; exact absurd hm60 (Nat.not_lt_zero _)
            | succ nY60 ih60 =>
              intro j hj hno2 hm60 H locs ls hP hD hS hl
              refine lv_iload hx hb dX4_choiceFor_60 (lv_at hl 8 rfl) ?_
              refine lv_iload hx hb dX4_choiceFor_62 (lv_at hl 6 rfl) ?_
              refine xc_ge (tgt := 141) hx hb dX4_choiceFor_64 (by decide) (by omega) (by omega) (fun c64 => ?_) (fun c64 => ?_)
              · refine lv_iinc (v := nI (i + 1)) (lv' := [(7, .int (nI (i + 1))), (0, .ref (B 0)), (1, .int (nI w)), (2, .int (nI (S 2))), (3, .int (nI (len w))), (4, .int (nI 1)), (5, .int (nI (S 1))), (6, .int (nI (len w))), (8, .int (nI j))]) hx hb dX4_choiceFor_141 hl (k := 7) rfl (show nI i + Int32.ofInt 1 = nI (i + 1) from nI_add i 1) (by decide) rfl (fun ls hl => ?_)
                refine lv_goto (tgt := 50) hx hb dX4_choiceFor_144 (by decide) ?_
                exact ih50 (i + 1) (by omega) (fun r p h1 h2 h3 => hno2 r p h1 h2 (by omega)) (by omega) _ _ _ hP hD hS (lv_sub hl [1, 2, 3, 4, 5, 6, 7, 0] rfl)
              · refine lv_iload hx hb dX4_choiceFor_67 (lv_at hl 4 rfl) ?_
                refine lv_if_eq (tgt := 77) hx hb dX4_choiceFor_69 (by decide) (fun c69 => ?_) (fun c69 => ?_)
                · exact absurd c69 (by decide +kernel)
                refine lv_iload hx hb dX4_choiceFor_72 (lv_at hl 7 rfl) ?_
                refine lv_goto (tgt := 79) hx hb dX4_choiceFor_74 (by decide) ?_
                refine lv_istore (lv' := [(9, .int (nI i)), (0, .ref (B 0)), (1, .int (nI w)), (2, .int (nI (S 2))), (3, .int (nI (len w))), (4, .int (nI 1)), (5, .int (nI (S 1))), (6, .int (nI (len w))), (7, .int (nI i)), (8, .int (nI j))]) hx hb dX4_choiceFor_79 hl (by decide) rfl (fun ls hl => ?_)
                refine lv_iload hx hb dX4_choiceFor_81 (lv_at hl 5 rfl) ?_
                refine lv_if_eq (tgt := 91) hx hb dX4_choiceFor_83 (by decide) (fun c83 => ?_) (fun c83 => ?_)
                · exact absurd c83 (by decide +kernel)
                refine lv_iload hx hb dX4_choiceFor_86 (lv_at hl 9 rfl) ?_
                refine lv_goto (tgt := 93) hx hb dX4_choiceFor_88 (by decide) ?_
                refine lv_istore (lv' := [(10, .int (nI j)), (9, .int (nI i)), (0, .ref (B 0)), (1, .int (nI w)), (2, .int (nI (S 2))), (3, .int (nI (len w))), (4, .int (nI 1)), (5, .int (nI (S 1))), (6, .int (nI (len w))), (7, .int (nI i)), (8, .int (nI j))]) hx hb dX4_choiceFor_93 hl (by decide) rfl (fun ls hl => ?_)
                have hway2 : S 2 = 0 ∨ S 2 = 1 ∨ S 2 = 2 := by omega
                refine lv_iload_n hx hb dX4_choiceFor_95 rfl (lv_at hl 4 rfl) ?_
                refine lv_iconst (v := nI 1) hx hb dX4_choiceFor_96 (by decide +kernel) ?_
                refine xc_ne (tgt := 109) hx hb dX4_choiceFor_97 (by decide) (by omega) (by omega) (fun c97 => ?_) (fun c97 => ?_)
                · refine lv_iload hx hb dX4_choiceFor_109 (lv_at hl 0 rfl) ?_
                  refine lv_istore (lv' := [(11, .int (nI j)), (10, .int (nI j)), (9, .int (nI i)), (0, .ref (B 0)), (1, .int (nI w)), (2, .int (nI (S 2))), (3, .int (nI (len w))), (4, .int (nI 1)), (5, .int (nI (S 1))), (6, .int (nI (len w))), (7, .int (nI i)), (8, .int (nI j))]) hx hb dX4_choiceFor_111 hl (by decide) rfl (fun ls hl => ?_)
                  refine lv_aload_n hx hb dX4_choiceFor_113 rfl (lv_at hl 3 rfl) ?_
                  refine lv_iload_n hx hb dX4_choiceFor_114 rfl (lv_at hl 4 rfl) ?_
                  refine lv_iload_n hx hb dX4_choiceFor_115 rfl (lv_at hl 6 rfl) ?_
                  refine lv_iload hx hb dX4_choiceFor_116 (lv_at hl 2 rfl) ?_
                  refine lv_iload hx hb dX4_choiceFor_118 (lv_at hl 0 rfl) ?_
                  refine ci_V (As := [.int (nI w), .int (nI (len w)), .int (nI i), .int (nI j)]) (rest := []) h0 hK hN hP hD hS hA hl.1 (k_X4_appliesAt lY D cA B S L R LL RL TM w i j (hI) (hr) (hw) (by omega) (by omega)) [0, 1, 2, 3, 4, 5] rfl (by decide) (cwV 4 hts gX4_choiceFor_X4_appliesAt rfl rfl rfl (by decide +kernel) ⟨Nat.le_of_ble_eq_true rfl, Nat.le_of_ble_eq_true rfl⟩) (cl_recv (ci := 4) (q := (RX4, TX4, 6)) (q0 := 0) hP hK rfl rfl) rfl rfl (Nat.le_of_ble_eq_true rfl) dX4_choiceFor_120 ⟨Nat.zero_le _, Nat.zero_le _⟩ (fun rY wY H locs hwY hJ hS => ?_)
                  obtain ⟨e1Y, e2Y⟩ := hwY
                  have e3Y := e1Y.symm
                  clear e1Y
                  subst e3Y
                  have e3Y := e2Y.symm
                  clear e2Y
                  subst e3Y
                  obtain ⟨hP, hD⟩ := hJ rfl
                  have hP : va_P D vwCl (gRu cA B L R LL RL TM (nI (S 1))) H := hP
                  have hD : va_D AY (gRu cA B L R LL RL TM (nI (S 1))) := hD
                  refine xb_eq (tgt := 135) hx hb dX4_choiceFor_123 (by decide) (fun c123 => ?_) (fun c123 => ?_)
                  · refine lv_iinc (v := nI (j + 1)) (lv' := [(8, .int (nI (j + 1))), (11, .int (nI j)), (10, .int (nI j)), (9, .int (nI i)), (0, .ref (B 0)), (1, .int (nI w)), (2, .int (nI (S 2))), (3, .int (nI (len w))), (4, .int (nI 1)), (5, .int (nI (S 1))), (6, .int (nI (len w))), (7, .int (nI i))]) hx hb dX4_choiceFor_135 hl (k := 11) rfl (show nI j + Int32.ofInt 1 = nI (j + 1) from nI_add j 1) (by decide) rfl (fun ls hl => ?_)
                    refine lv_goto (tgt := 60) hx hb dX4_choiceFor_138 (by decide) ?_
                    exact ih60 (j + 1) (by omega) (fun r p h1 h2 h3 => by rcases Decidable.em (r = i ∧ p = j) with q | q; (rw [q.1, q.2]; exact c123); exact hno2 r p h1 h2 (by omega)) (by omega) _ _ _ hP hD hS (lv_sub hl [4, 5, 6, 7, 8, 9, 10, 11, 0] rfl)
                  · refine lv_iload hx hb dX4_choiceFor_126 (lv_at hl 0 rfl) ?_
                    refine lv_bipush (v := nI 10) hx hb dX4_choiceFor_128 (by decide +kernel) ?_
                    refine lv_imul hx hb dX4_choiceFor_130 ?_
                    refine xt (show (nI j) * (nI 10) = nI (j * 10) from pk_mul _ _) ?_
                    refine lv_iload hx hb dX4_choiceFor_131 (lv_at hl 2 rfl) ?_
                    refine lv_iadd hx hb dX4_choiceFor_133 ?_
                    refine xt (show (nI (j * 10)) + (nI i) = nI (j * 10 + i) from nI_add _ _) ?_
                    obtain ⟨b1, b2, b3⟩ := ch_is hI hw (r := i) (p := j) (by omega) (by omega) c123 (fun r p h1 h2 h3 => Nat.not_lt.mp (fun q => by rw [hno2 r p h1 h2 (rnk_lt (by omega) (by omega) (by omega) (by omega) (by omega) (by omega) q (by omega))] at h3; cases h3))
                    exact hret _ _ _ _ _ _ dX4_choiceFor_134 ⟨by rw [chI_yes b3, b1, b2], rfl⟩ hP hD hS
                · exact absurd c97 (by omega)
          exact L60 _ 0 (by omega) (fun r p h1 h2 h3 => hno r p h1 h2 (by omega)) (Nat.lt_succ_self _) _ _ _ hP hD hS (lv_sub hl [1, 2, 3, 4, 5, 6, 7, 8, 0] rfl)
    exact L50 _ 0 (by omega) (fun r p h1 h2 h3 => by omega) (Nat.lt_succ_self _) _ _ _ hP hD hS (lv_sub hl [5, 6, 7, 4, 3, 2, 1, 0] rfl)
