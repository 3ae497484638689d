theorem hi_X10_ruleOf_X10 : ∀ w ∈ u_ws RX10 TX10 8, w ∈ wsX10_ruleOf := by decide +kernel
theorem hi_X10_ruleOf_X4 : ∀ w ∈ u_ws RX4 TX4 6, w ∈ wsX10_ruleOf := by decide +kernel
theorem hi_X10_ruleOf_X6 : ∀ w ∈ u_ws RX6 TX6 6, w ∈ wsX10_ruleOf := by decide +kernel
set_option maxHeartbeats 1000000 in
set_option maxRecDepth 100000 in
theorem k_X10_ruleOf (lY : Launch) (D : va_G) (cA : Nat → ClassId) (Bf Bw Bq Bh Bd Br Bo Bt Bs : Nat → Nat) (S : St) (L R LL RL TM WW NN : Nat → Int32) (x y : Int32) (hI : IV S) (hr : rRu S L R LL RL TM) (ho : rSo S WW NN) : MetI lY D cA yX10_ruleOf wsX10_ruleOf 2 52 [.ref (Bf 0), .int x, .int y] (List.flatten [gFw cA Bf (Bw 0) (Bq 0) (Bh 0) (Bd 0) (Br 0) (Bo 0) (Bt 0) (Bs 0), gSa cA Bw (nI (S 0)) (nI (S 2)) (nI (S 4)) (nI (S 5)) L R LL RL TM (nI (S 1)) WW NN (nI (S 3))]) (fun rY wY => rY = ruleZ S x y ∧ wY = List.flatten [gFw cA Bf (Bw 0) (Bq 0) (Bh 0) (Bd 0) (Br 0) (Bo 0) (Bt 0) (Bs 0), gSa cA Bw (nI (S 0)) (nI (S 2)) (nI (S 4)) (nI (S 5)) L R LL RL TM (nI (S 1)) WW NN (nI (S 3))]) := by
  refine MetI.of (cc := cX10_ruleOf) (maxL := 4) (ret := (some .int)) (by decide) rfl (Nat.le_of_ble_eq_true rfl) (Or.inl rfl) ?_
  intro pY eY sY mY aY bY tY cY QY AY ls h0 hP hK hN hD hA hS hl hret
  obtain ⟨hx, hb, hml, hown, hts⟩ := id h0
  have hl : lv_has ls 4 [(0, .ref (Bf 0)), (1, .int x), (2, .int y)] := hl
  have hP : PB D [gFw cA Bf (Bw 0) (Bq 0) (Bh 0) (Bd 0) (Br 0) (Bo 0) (Bt 0) (Bs 0), gSa cA Bw (nI (S 0)) (nI (S 2)) (nI (S 4)) (nI (S 5)) L R LL RL TM (nI (S 1)) WW NN (nI (S 3))] sY.heap := PB.of hP
  have hD : DB AY [gFw cA Bf (Bw 0) (Bq 0) (Bh 0) (Bd 0) (Br 0) (Bo 0) (Bt 0) (Bs 0), gSa cA Bw (nI (S 0)) (nI (S 2)) (nI (S 4)) (nI (S 5)) L R LL RL TM (nI (S 1)) WW NN (nI (S 3))] := DB.of hD
  have hIR := hI.1
  have h10 := hIR.1
  refine lv_aload_n hx hb dX10_ruleOf_0 rfl (lv_at hl 0 rfl) ?_
  refine va_get (D := D) (ci := 9) (v := .ref (Bw 0)) (C := RX10) (T := TX10) (N := 8) hx hb hts hi_X10_ruleOf_X10 hown hK (hP.blk 0 rfl) 0 rfl rfl 0 (by decide) (hts (.fieldLink RX10 10 "FallingWords" "now" "LFallingWords$State;") (by decide +kernel)) (fun _ h9 => h9) rfl dX10_ruleOf_1 ?_
  refine va_getN (D := D) (ci := 6) (v := .ref (Bw 1)) (C := RX6) (T := TX6) (N := 6) hx hb hts hi_X10_ruleOf_X6 hown hK (hP.blk 1 rfl) 0 rfl rfl 0 (by decide) (hN.fl (w := .fieldLinkNest RX10 61 "FallingWords$State" "rules" "LFallingWords$Rules;" "FallingWords") (by decide +kernel)) (fun _ h9 => h9) rfl dX10_ruleOf_4 ?_
  refine lv_astore_n (lv' := [(3, .ref (Bw 1)), (0, .ref (Bf 0)), (1, .int x), (2, .int y)]) hx hb dX10_ruleOf_7 rfl hl (by decide) rfl (fun ls hl => ?_)
  refine lv_aload_n hx hb dX10_ruleOf_8 rfl (lv_at hl 0 rfl) ?_
  refine lv_iload_n hx hb dX10_ruleOf_9 rfl (lv_at hl 2 rfl) ?_
  refine bl_i (Ss := [gSa cA Bw (nI (S 0)) (nI (S 2)) (nI (S 4)) (nI (S 5)) L R LL RL TM (nI (S 1)) WW NN (nI (S 3))]) hP hD hS hA [1] rfl (by decide) [1, 2, 3, 4, 5, 6] rfl (va_runVN (As := [.int x]) (rest := []) h0 ((k_X4_contains lY D cA (fun i => Bw (i + 1)) S L R LL RL TM x (hI.1.1)) _) ⟨(va_cnB 1 hts gX10_ruleOf_X4_contains_n65 rfl rfl rfl (hN (.methodLinkNest RX10 65 yX4_contains "FallingWords") (by decide +kernel)) (hts (.initialized RX4) (by decide +kernel)) (by decide +kernel) ⟨Nat.le_of_ble_eq_true rfl, Nat.le_of_ble_eq_true rfl⟩), hts (.instanceMethod yX4_contains) (by decide +kernel), hts (.selects RX4 yX4_contains yX4_contains) (by decide +kernel)⟩ ⟨pw_blind, bl_recv (ci := 4) (q := (RX4, TX4, 6)) (i := 1) (q0 := 1) hP hK rfl rfl rfl, bl_pre (Ss := [gSa cA Bw (nI (S 0)) (nI (S 2)) (nI (S 4)) (nI (S 5)) L R LL RL TM (nI (S 1)) WW NN (nI (S 3))]) hP hD hK hN [1] rfl (by decide) [1, 2, 3, 4, 5, 6] rfl (by decide +kernel)⟩ rfl rfl hl.1 rfl (lv_room (Nat.le_of_ble_eq_true rfl)) dX10_ruleOf_10 ⟨Nat.zero_le _, Nat.zero_le _⟩) (fun rY wY H locs hwY hJ hS => ?_)
  obtain ⟨e1Y, e2Y⟩ := hwY
  have e3Y := e1Y.symm
  clear e1Y
  subst e3Y
  have e3Y := e2Y.symm
  clear e2Y
  subst e3Y
  obtain ⟨hP, hD⟩ := hJ [gSa cA Bw (nI (S 0)) (nI (S 2)) (nI (S 4)) (nI (S 5)) L R LL RL TM (nI (S 1)) WW NN (nI (S 3))] rfl rfl rfl
  have hP : PB D [gFw cA Bf (Bw 0) (Bq 0) (Bh 0) (Bd 0) (Br 0) (Bo 0) (Bt 0) (Bs 0), gSa cA Bw (nI (S 0)) (nI (S 2)) (nI (S 4)) (nI (S 5)) L R LL RL TM (nI (S 1)) WW NN (nI (S 3))] H := hP
  have hD : DB AY [gFw cA Bf (Bw 0) (Bq 0) (Bh 0) (Bd 0) (Br 0) (Bo 0) (Bt 0) (Bs 0), gSa cA Bw (nI (S 0)) (nI (S 2)) (nI (S 4)) (nI (S 5)) L R LL RL TM (nI (S 1)) WW NN (nI (S 3))] := hD
  refine xb_ne (tgt := 19) hx hb dX10_ruleOf_13 (by decide) (fun c13 => ?_) (fun c13 => ?_)
  · obtain ⟨g, hg, rfl⟩ := inR_of c13
    have eg : (nI g).toInt.toNat = g := by rw [nI_toInt (by omega), Int.toNat_natCast]
    obtain ⟨f1, f2, f3, f4, f5⟩ := hr g hg
    obtain ⟨v1, v2, v3, v4⟩ := hIR.2.2 g hg
    have l1 := v1.2
    have l2 := v2.2
    refine lv_iload_n hx hb dX10_ruleOf_19 rfl (lv_at hl 3 rfl) ?_
    refine lv_bipush (v := nI 10) hx hb dX10_ruleOf_20 (by decide +kernel) ?_
    refine lv_iconst (v := nI 4) hx hb dX10_ruleOf_22 (by decide +kernel) ?_
    refine bl_i (Ss := []) hP hD hS hA [] rfl (by decide) [] rfl (va_runS (As := [.int y, .int (nI 10), .int (nI 4)]) (rest := []) h0 ((k_X10_isLetterOf lY D cA y 10 4 (by omega) (by omega)) _) (va_cwS 3 hts gX10_ruleOf_X10_isLetterOf rfl rfl rfl (by decide +kernel) ⟨Nat.le_of_ble_eq_true rfl, Nat.le_of_ble_eq_true rfl⟩) ⟨pw_blind, bl_pre (Ss := []) hP hD hK hN [] rfl (by decide) [] rfl (by decide +kernel)⟩ rfl rfl hl.1 rfl (lv_room (Nat.le_of_ble_eq_true rfl)) dX10_ruleOf_23 ⟨Nat.zero_le _, Nat.zero_le _⟩) (fun rY wY H locs hwY hJ hS => ?_)
    obtain ⟨e1Y, e2Y⟩ := hwY
    have e3Y := e1Y.symm
    clear e1Y
    subst e3Y
    have e3Y := e2Y.symm
    clear e2Y
    subst e3Y
    obtain ⟨hP, hD⟩ := hJ [] rfl rfl rfl
    have hP : PB D [gFw cA Bf (Bw 0) (Bq 0) (Bh 0) (Bd 0) (Br 0) (Bo 0) (Bt 0) (Bs 0), gSa cA Bw (nI (S 0)) (nI (S 2)) (nI (S 4)) (nI (S 5)) L R LL RL TM (nI (S 1)) WW NN (nI (S 3))] H := hP
    have hD : DB AY [gFw cA Bf (Bw 0) (Bq 0) (Bh 0) (Bd 0) (Br 0) (Bo 0) (Bt 0) (Bs 0), gSa cA Bw (nI (S 0)) (nI (S 2)) (nI (S 4)) (nI (S 5)) L R LL RL TM (nI (S 1)) WW NN (nI (S 3))] := hD
    refine xb_eq (tgt := 43) hx hb dX10_ruleOf_26 (by decide) (fun c26 => ?_) (fun c26 => ?_)
    · refine lv_iload_n hx hb dX10_ruleOf_43 rfl (lv_at hl 3 rfl) ?_
      refine lv_bipush (v := nI 20) hx hb dX10_ruleOf_44 (by decide +kernel) ?_
      refine lv_iconst (v := nI 4) hx hb dX10_ruleOf_46 (by decide +kernel) ?_
      refine bl_i (Ss := []) hP hD hS hA [] rfl (by decide) [] rfl (va_runS (As := [.int y, .int (nI 20), .int (nI 4)]) (rest := []) h0 ((k_X10_isLetterOf lY D cA y 20 4 (by omega) (by omega)) _) (va_cwS 3 hts gX10_ruleOf_X10_isLetterOf rfl rfl rfl (by decide +kernel) ⟨Nat.le_of_ble_eq_true rfl, Nat.le_of_ble_eq_true rfl⟩) ⟨pw_blind, bl_pre (Ss := []) hP hD hK hN [] rfl (by decide) [] rfl (by decide +kernel)⟩ rfl rfl hl.1 rfl (lv_room (Nat.le_of_ble_eq_true rfl)) dX10_ruleOf_47 ⟨Nat.zero_le _, Nat.zero_le _⟩) (fun rY wY H locs hwY hJ hS => ?_)
      obtain ⟨e1Y, e2Y⟩ := hwY
      have e3Y := e1Y.symm
      clear e1Y
      subst e3Y
      have e3Y := e2Y.symm
      clear e2Y
      subst e3Y
      obtain ⟨hP, hD⟩ := hJ [] rfl rfl rfl
      have hP : PB D [gFw cA Bf (Bw 0) (Bq 0) (Bh 0) (Bd 0) (Br 0) (Bo 0) (Bt 0) (Bs 0), gSa cA Bw (nI (S 0)) (nI (S 2)) (nI (S 4)) (nI (S 5)) L R LL RL TM (nI (S 1)) WW NN (nI (S 3))] H := hP
      have hD : DB AY [gFw cA Bf (Bw 0) (Bq 0) (Bh 0) (Bd 0) (Br 0) (Bo 0) (Bt 0) (Bs 0), gSa cA Bw (nI (S 0)) (nI (S 2)) (nI (S 4)) (nI (S 5)) L R LL RL TM (nI (S 1)) WW NN (nI (S 3))] := hD
      refine xb_eq (tgt := 67) hx hb dX10_ruleOf_50 (by decide) (fun c50 => ?_) (fun c50 => ?_)
      · refine lv_iload_n hx hb dX10_ruleOf_67 rfl (lv_at hl 3 rfl) ?_
        by_cases s68_0 : y.toInt = 0
        · have e68 : (y : Int32).toInt = 0 := s68_0
          refine lv_tableIn (off := 36) (tgt := 104) hx hb dX10_ruleOf_68 (by rw [e68]; decide) (by rw [e68]; decide) (by rw [e68]; rfl) (by decide) ?_
          refine lv_aload_n hx hb dX10_ruleOf_104 rfl (lv_at hl 0 rfl) ?_
          refine va_getN (D := D) (ci := 4) (v := .ref (Bw 4)) (C := RX4) (T := TX4) (N := 6) hx hb hts hi_X10_ruleOf_X4 hown hK (hP.blk 1 rfl) 1 rfl rfl 2 (by decide) (hN.fl (w := .fieldLinkNest RX10 109 "FallingWords$Rules" "leftLength" "[I" "FallingWords") (by decide +kernel)) (fun _ h9 => h9) rfl dX10_ruleOf_105 ?_
          refine lv_iload_n hx hb dX10_ruleOf_108 rfl (lv_at hl 2 rfl) ?_
          refine xa_ld (v := nI (len (lf S g))) hx hb hK (hP.blk 1 rfl) 4 rfl (by omega) (by decide) (f3) dX10_ruleOf_109 ?_
          exact hret _ _ _ _ _ _ dX10_ruleOf_110 ⟨(by unfold ruleZ; rw [if_pos c13, c26, c50, eg, if_neg (by decide), if_neg (by decide), if_pos (by omega)]), rfl⟩ hP.to hD.to hS
        by_cases s68_1 : y.toInt = 1
        · have e68 : (y : Int32).toInt = 1 := s68_1
          refine lv_tableIn (off := 43) (tgt := 111) hx hb dX10_ruleOf_68 (by rw [e68]; decide) (by rw [e68]; decide) (by rw [e68]; rfl) (by decide) ?_
          refine lv_aload_n hx hb dX10_ruleOf_111 rfl (lv_at hl 0 rfl) ?_
          refine va_getN (D := D) (ci := 4) (v := .ref (Bw 5)) (C := RX4) (T := TX4) (N := 6) hx hb hts hi_X10_ruleOf_X4 hown hK (hP.blk 1 rfl) 1 rfl rfl 3 (by decide) (hN.fl (w := .fieldLinkNest RX10 112 "FallingWords$Rules" "rightLength" "[I" "FallingWords") (by decide +kernel)) (fun _ h9 => h9) rfl dX10_ruleOf_112 ?_
          refine lv_iload_n hx hb dX10_ruleOf_115 rfl (lv_at hl 2 rfl) ?_
          refine xa_ld (v := nI (len (rt S g))) hx hb hK (hP.blk 1 rfl) 5 rfl (by omega) (by decide) (f4) dX10_ruleOf_116 ?_
          exact hret _ _ _ _ _ _ dX10_ruleOf_117 ⟨(by unfold ruleZ; rw [if_pos c13, c26, c50, eg, if_neg (by decide), if_neg (by decide), if_neg (by omega), if_pos (by omega)]), rfl⟩ hP.to hD.to hS
        by_cases s68_2 : y.toInt = 2
        · have e68 : (y : Int32).toInt = 2 := s68_2
          refine lv_tableIn (off := 50) (tgt := 118) hx hb dX10_ruleOf_68 (by rw [e68]; decide) (by rw [e68]; decide) (by rw [e68]; rfl) (by decide) ?_
          refine lv_aload_n hx hb dX10_ruleOf_118 rfl (lv_at hl 0 rfl) ?_
          refine va_getN (D := D) (ci := 4) (v := .ref (Bw 5)) (C := RX4) (T := TX4) (N := 6) hx hb hts hi_X10_ruleOf_X4 hown hK (hP.blk 1 rfl) 1 rfl rfl 3 (by decide) (hN.fl (w := .fieldLinkNest RX10 112 "FallingWords$Rules" "rightLength" "[I" "FallingWords") (by decide +kernel)) (fun _ h9 => h9) rfl dX10_ruleOf_119 ?_
          refine lv_iload_n hx hb dX10_ruleOf_122 rfl (lv_at hl 2 rfl) ?_
          refine xa_ld (v := nI (len (rt S g))) hx hb hK (hP.blk 1 rfl) 5 rfl (by omega) (by decide) (f4) dX10_ruleOf_123 ?_
          refine lv_aload_n hx hb dX10_ruleOf_124 rfl (lv_at hl 0 rfl) ?_
          refine va_getN (D := D) (ci := 4) (v := .ref (Bw 4)) (C := RX4) (T := TX4) (N := 6) hx hb hts hi_X10_ruleOf_X4 hown hK (hP.blk 1 rfl) 1 rfl rfl 2 (by decide) (hN.fl (w := .fieldLinkNest RX10 109 "FallingWords$Rules" "leftLength" "[I" "FallingWords") (by decide +kernel)) (fun _ h9 => h9) rfl dX10_ruleOf_125 ?_
          refine lv_iload_n hx hb dX10_ruleOf_128 rfl (lv_at hl 2 rfl) ?_
          refine xa_ld (v := nI (len (lf S g))) hx hb hK (hP.blk 1 rfl) 4 rfl (by omega) (by decide) (f3) dX10_ruleOf_129 ?_
          refine xc_ge (tgt := 137) hx hb dX10_ruleOf_130 (by decide) (by omega) (by omega) (fun c130 => ?_) (fun c130 => ?_)
          · refine lv_iconst (v := nI 0) hx hb dX10_ruleOf_137 (by decide +kernel) ?_
            exact hret _ _ _ _ _ _ dX10_ruleOf_138 ⟨(by unfold ruleZ; rw [if_pos c13, c26, c50, eg, if_neg (by decide), if_neg (by decide), if_neg (by omega), if_neg (by omega), if_pos (by omega), decide_eq_false (by omega)]; rfl), rfl⟩ hP.to hD.to hS
          · refine lv_iconst (v := nI 1) hx hb dX10_ruleOf_133 (by decide +kernel) ?_
            refine lv_goto (tgt := 138) hx hb dX10_ruleOf_134 (by decide) ?_
            exact hret _ _ _ _ _ _ dX10_ruleOf_138 ⟨(by unfold ruleZ; rw [if_pos c13, c26, c50, eg, if_neg (by decide), if_neg (by decide), if_neg (by omega), if_neg (by omega), if_pos (by omega), decide_eq_true (by omega)]; rfl), rfl⟩ hP.to hD.to hS
        by_cases s68_3 : y.toInt = 3
        · have e68 : (y : Int32).toInt = 3 := s68_3
          refine lv_tableIn (off := 71) (tgt := 139) hx hb dX10_ruleOf_68 (by rw [e68]; decide) (by rw [e68]; decide) (by rw [e68]; rfl) (by decide) ?_
          refine lv_aload_n hx hb dX10_ruleOf_139 rfl (lv_at hl 0 rfl) ?_
          refine lv_aload_n hx hb dX10_ruleOf_140 rfl (lv_at hl 1 rfl) ?_
          refine va_get (D := D) (ci := 9) (v := .ref (Bw 0)) (C := RX10) (T := TX10) (N := 8) hx hb hts hi_X10_ruleOf_X10 hown hK (hP.blk 0 rfl) 0 rfl rfl 0 (by decide) (hts (.fieldLink RX10 10 "FallingWords" "now" "LFallingWords$State;") (by decide +kernel)) (fun _ h9 => h9) rfl dX10_ruleOf_141 ?_
          refine va_getN (D := D) (ci := 6) (v := .int (nI (S 0))) (C := RX6) (T := TX6) (N := 6) hx hb hts hi_X10_ruleOf_X6 hown hK (hP.blk 1 rfl) 0 rfl rfl 2 (by decide) (hN.fl (w := .fieldLinkNest RX10 115 "FallingWords$State" "word" "I" "FallingWords") (by decide +kernel)) (fun _ h9 => h9) rfl dX10_ruleOf_144 ?_
          refine lv_iload_n hx hb dX10_ruleOf_147 rfl (lv_at hl 2 rfl) ?_
          refine bl_i (Ss := [gSa cA Bw (nI (S 0)) (nI (S 2)) (nI (S 4)) (nI (S 5)) L R LL RL TM (nI (S 1)) WW NN (nI (S 3))]) hP hD hS hA [1] rfl (by decide) [1, 2, 3, 4, 5, 6] rfl (va_runVN (As := [.int (nI (S 0)), .int (nI g)]) (rest := []) h0 ((k_X4_placesIn lY D cA (fun i => Bw (i + 1)) S L R LL RL TM (S 0) g (hIR) (hr) (hI.2.2.1) (hg)) _) ⟨(va_cnB 2 hts gX10_ruleOf_X4_placesIn_n118 rfl rfl rfl (hN (.methodLinkNest RX10 118 yX4_placesIn "FallingWords") (by decide +kernel)) (hts (.initialized RX4) (by decide +kernel)) (by decide +kernel) ⟨Nat.le_of_ble_eq_true rfl, Nat.le_of_ble_eq_true rfl⟩), hts (.instanceMethod yX4_placesIn) (by decide +kernel), hts (.selects RX4 yX4_placesIn yX4_placesIn) (by decide +kernel)⟩ ⟨pw_blind, bl_recv (ci := 4) (q := (RX4, TX4, 6)) (i := 1) (q0 := 1) hP hK rfl rfl rfl, bl_pre (Ss := [gSa cA Bw (nI (S 0)) (nI (S 2)) (nI (S 4)) (nI (S 5)) L R LL RL TM (nI (S 1)) WW NN (nI (S 3))]) hP hD hK hN [1] rfl (by decide) [1, 2, 3, 4, 5, 6] rfl (by decide +kernel)⟩ rfl rfl hl.1 rfl (lv_room (Nat.le_of_ble_eq_true rfl)) dX10_ruleOf_148 ⟨Nat.zero_le _, Nat.zero_le _⟩) (fun rY wY H locs hwY hJ hS => ?_)
          obtain ⟨e1Y, e2Y⟩ := hwY
          have e3Y := e1Y.symm
          clear e1Y
          subst e3Y
          have e3Y := e2Y.symm
          clear e2Y
          subst e3Y
          obtain ⟨hP, hD⟩ := hJ [gSa cA Bw (nI (S 0)) (nI (S 2)) (nI (S 4)) (nI (S 5)) L R LL RL TM (nI (S 1)) WW NN (nI (S 3))] rfl rfl rfl
          have hP : PB D [gFw cA Bf (Bw 0) (Bq 0) (Bh 0) (Bd 0) (Br 0) (Bo 0) (Bt 0) (Bs 0), gSa cA Bw (nI (S 0)) (nI (S 2)) (nI (S 4)) (nI (S 5)) L R LL RL TM (nI (S 1)) WW NN (nI (S 3))] H := hP
          have hD : DB AY [gFw cA Bf (Bw 0) (Bq 0) (Bh 0) (Bd 0) (Br 0) (Bo 0) (Bt 0) (Bs 0), gSa cA Bw (nI (S 0)) (nI (S 2)) (nI (S 4)) (nI (S 5)) L R LL RL TM (nI (S 1)) WW NN (nI (S 3))] := hD
          exact hret _ _ _ _ _ _ dX10_ruleOf_151 ⟨(by unfold ruleZ; rw [if_pos c13, c26, c50, eg, if_neg (by decide), if_neg (by decide), if_neg (by omega), if_neg (by omega), if_neg (by omega), if_pos (by omega)]), rfl⟩ hP.to hD.to hS
        by_cases s68_4 : y.toInt = 4
        · have e68 : (y : Int32).toInt = 4 := s68_4
          refine lv_tableIn (off := 84) (tgt := 152) hx hb dX10_ruleOf_68 (by rw [e68]; decide) (by rw [e68]; decide) (by rw [e68]; rfl) (by decide) ?_
          refine lv_aload_n hx hb dX10_ruleOf_152 rfl (lv_at hl 0 rfl) ?_
          refine va_getN (D := D) (ci := 4) (v := .ref (Bw 6)) (C := RX4) (T := TX4) (N := 6) hx hb hts hi_X10_ruleOf_X4 hown hK (hP.blk 1 rfl) 1 rfl rfl 4 (by decide) (hN.fl (w := .fieldLinkNest RX10 121 "FallingWords$Rules" "times" "[I" "FallingWords") (by decide +kernel)) (fun _ h9 => h9) rfl dX10_ruleOf_153 ?_
          refine lv_iload_n hx hb dX10_ruleOf_156 rfl (lv_at hl 2 rfl) ?_
          refine xa_ld (v := nI (tms S g)) hx hb hK (hP.blk 1 rfl) 6 rfl (by omega) (by decide) (f5) dX10_ruleOf_157 ?_
          exact hret _ _ _ _ _ _ dX10_ruleOf_158 ⟨(by unfold ruleZ; rw [if_pos c13, c26, c50, eg, if_neg (by decide), if_neg (by decide), if_neg (by omega), if_neg (by omega), if_neg (by omega), if_neg (by omega), if_pos (by omega)]), rfl⟩ hP.to hD.to hS
        refine lv_tableOut (tgt := 159) hx hb dX10_ruleOf_68 (by omega) (by decide) ?_
        refine lv_ldc (v := (-1000001)) hx hb hown (hts (.constant RX10 71 (-1000001)) (by decide +kernel)) dX10_ruleOf_159 ?_
        exact hret _ _ _ _ _ _ dX10_ruleOf_161 ⟨(by unfold ruleZ; rw [if_pos c13, c26, c50, eg, if_neg (by decide), if_neg (by decide), if_neg (by omega), if_neg (by omega), if_neg (by omega), if_neg (by omega), if_neg (by omega)]), rfl⟩ hP.to hD.to hS
      · refine lv_aload_n hx hb dX10_ruleOf_53 rfl (lv_at hl 0 rfl) ?_
        refine va_getN (D := D) (ci := 4) (v := .ref (Bw 3)) (C := RX4) (T := TX4) (N := 6) hx hb hts hi_X10_ruleOf_X4 hown hK (hP.blk 1 rfl) 1 rfl rfl 1 (by decide) (hN.fl (w := .fieldLinkNest RX10 106 "FallingWords$Rules" "right" "[I" "FallingWords") (by decide +kernel)) (fun _ h9 => h9) rfl dX10_ruleOf_54 ?_
        refine lv_iload_n hx hb dX10_ruleOf_57 rfl (lv_at hl 2 rfl) ?_
        refine xa_ld (v := nI (rt S g)) hx hb hK (hP.blk 1 rfl) 3 rfl (by omega) (by decide) (f2) dX10_ruleOf_58 ?_
        refine lv_iload_n hx hb dX10_ruleOf_59 rfl (lv_at hl 3 rfl) ?_
        refine lv_bipush (v := nI 20) hx hb dX10_ruleOf_60 (by decide +kernel) ?_
        refine lv_isub hx hb dX10_ruleOf_62 ?_
        refine bl_i (Ss := []) hP hD hS hA [] rfl (by decide) [] rfl (va_runSN (As := [.int (nI (rt S g)), .int (y - (nI 20))]) (rest := []) h0 ((k_X9_letterOf lY D cA (rt S g) (y - (nI 20)) (vw_up v2 (by decide))) _) ⟨(va_cnB 2 hts gX10_ruleOf_X9_letterOf_n100 rfl rfl rfl (hN (.methodLinkNest RX10 100 yX9_letterOf "FallingWords") (by decide +kernel)) (hts (.initialized RX9) (by decide +kernel)) (by decide +kernel) ⟨Nat.le_of_ble_eq_true rfl, Nat.le_of_ble_eq_true rfl⟩), hts (.static yX9_letterOf) (by decide +kernel), trivial⟩ ⟨pw_blind, bl_pre (Ss := []) hP hD hK hN [] rfl (by decide) [] rfl (by decide +kernel)⟩ rfl rfl hl.1 rfl (lv_room (Nat.le_of_ble_eq_true rfl)) dX10_ruleOf_63 ⟨Nat.zero_le _, Nat.zero_le _⟩) (fun rY wY H locs hwY hJ hS => ?_)
        obtain ⟨e1Y, e2Y⟩ := hwY
        have e3Y := e1Y.symm
        clear e1Y
        subst e3Y
        have e3Y := e2Y.symm
        clear e2Y
        subst e3Y
        obtain ⟨hP, hD⟩ := hJ [] rfl rfl rfl
        have hP : PB D [gFw cA Bf (Bw 0) (Bq 0) (Bh 0) (Bd 0) (Br 0) (Bo 0) (Bt 0) (Bs 0), gSa cA Bw (nI (S 0)) (nI (S 2)) (nI (S 4)) (nI (S 5)) L R LL RL TM (nI (S 1)) WW NN (nI (S 3))] H := hP
        have hD : DB AY [gFw cA Bf (Bw 0) (Bq 0) (Bh 0) (Bd 0) (Br 0) (Bo 0) (Bt 0) (Bs 0), gSa cA Bw (nI (S 0)) (nI (S 2)) (nI (S 4)) (nI (S 5)) L R LL RL TM (nI (S 1)) WW NN (nI (S 3))] := hD
        exact hret _ _ _ _ _ _ dX10_ruleOf_66 ⟨(by unfold ruleZ; rw [if_pos c13, c26, if_neg (by decide), if_pos c50, eg]), rfl⟩ hP.to hD.to hS
    · refine lv_aload_n hx hb dX10_ruleOf_29 rfl (lv_at hl 0 rfl) ?_
      refine va_getN (D := D) (ci := 4) (v := .ref (Bw 2)) (C := RX4) (T := TX4) (N := 6) hx hb hts hi_X10_ruleOf_X4 hown hK (hP.blk 1 rfl) 1 rfl rfl 0 (by decide) (hN.fl (w := .fieldLinkNest RX10 96 "FallingWords$Rules" "left" "[I" "FallingWords") (by decide +kernel)) (fun _ h9 => h9) rfl dX10_ruleOf_30 ?_
      refine lv_iload_n hx hb dX10_ruleOf_33 rfl (lv_at hl 2 rfl) ?_
      refine xa_ld (v := nI (lf S g)) hx hb hK (hP.blk 1 rfl) 2 rfl (by omega) (by decide) (f1) dX10_ruleOf_34 ?_
      refine lv_iload_n hx hb dX10_ruleOf_35 rfl (lv_at hl 3 rfl) ?_
      refine lv_bipush (v := nI 10) hx hb dX10_ruleOf_36 (by decide +kernel) ?_
      refine lv_isub hx hb dX10_ruleOf_38 ?_
      refine bl_i (Ss := []) hP hD hS hA [] rfl (by decide) [] rfl (va_runSN (As := [.int (nI (lf S g)), .int (y - (nI 10))]) (rest := []) h0 ((k_X9_letterOf lY D cA (lf S g) (y - (nI 10)) (vw_up v1 (by decide))) _) ⟨(va_cnB 2 hts gX10_ruleOf_X9_letterOf_n100 rfl rfl rfl (hN (.methodLinkNest RX10 100 yX9_letterOf "FallingWords") (by decide +kernel)) (hts (.initialized RX9) (by decide +kernel)) (by decide +kernel) ⟨Nat.le_of_ble_eq_true rfl, Nat.le_of_ble_eq_true rfl⟩), hts (.static yX9_letterOf) (by decide +kernel), trivial⟩ ⟨pw_blind, bl_pre (Ss := []) hP hD hK hN [] rfl (by decide) [] rfl (by decide +kernel)⟩ rfl rfl hl.1 rfl (lv_room (Nat.le_of_ble_eq_true rfl)) dX10_ruleOf_39 ⟨Nat.zero_le _, Nat.zero_le _⟩) (fun rY wY H locs hwY hJ hS => ?_)
      obtain ⟨e1Y, e2Y⟩ := hwY
      have e3Y := e1Y.symm
      clear e1Y
      subst e3Y
      have e3Y := e2Y.symm
      clear e2Y
      subst e3Y
      obtain ⟨hP, hD⟩ := hJ [] rfl rfl rfl
      have hP : PB D [gFw cA Bf (Bw 0) (Bq 0) (Bh 0) (Bd 0) (Br 0) (Bo 0) (Bt 0) (Bs 0), gSa cA Bw (nI (S 0)) (nI (S 2)) (nI (S 4)) (nI (S 5)) L R LL RL TM (nI (S 1)) WW NN (nI (S 3))] H := hP
      have hD : DB AY [gFw cA Bf (Bw 0) (Bq 0) (Bh 0) (Bd 0) (Br 0) (Bo 0) (Bt 0) (Bs 0), gSa cA Bw (nI (S 0)) (nI (S 2)) (nI (S 4)) (nI (S 5)) L R LL RL TM (nI (S 1)) WW NN (nI (S 3))] := hD
      exact hret _ _ _ _ _ _ dX10_ruleOf_42 ⟨(by unfold ruleZ; rw [if_pos c13, if_pos c26, eg]), rfl⟩ hP.to hD.to hS
  · refine lv_ldc (v := (-1000001)) hx hb hown (hts (.constant RX10 71 (-1000001)) (by decide +kernel)) dX10_ruleOf_16 ?_
    exact hret _ _ _ _ _ _ dX10_ruleOf_18 ⟨(by unfold ruleZ; rw [c13]; rfl), rfl⟩ hP.to hD.to hS

theorem hi_X10_letterAt_X10 : ∀ w ∈ u_ws RX10 TX10 8, w ∈ wsX10_letterAt := by decide +kernel
theorem hi_X10_letterAt_X6 : ∀ w ∈ u_ws RX6 TX6 6, w ∈ wsX10_letterAt := by decide +kernel
set_option maxHeartbeats 1000000 in
set_option maxRecDepth 100000 in
theorem k_X10_letterAt (lY : Launch) (D : va_G) (cA : Nat → ClassId) (Bf Bw Bq Bh Bd Br Bo Bt Bs : Nat → Nat) (S : St) (L R LL RL TM WW NN : Nat → Int32) (x : Int32) (hI : IV S) (hr : rRu S L R LL RL TM) (ho : rSo S WW NN) : MetI lY D cA yX10_letterAt wsX10_letterAt 2 44 [.ref (Bf 0), .int x] (List.flatten [gFw cA Bf (Bw 0) (Bq 0) (Bh 0) (Bd 0) (Br 0) (Bo 0) (Bt 0) (Bs 0), gSa cA Bw (nI (S 0)) (nI (S 2)) (nI (S 4)) (nI (S 5)) L R LL RL TM (nI (S 1)) WW NN (nI (S 3))]) (fun rY wY => rY = ltrZ S x ∧ wY = List.flatten [gFw cA Bf (Bw 0) (Bq 0) (Bh 0) (Bd 0) (Br 0) (Bo 0) (Bt 0) (Bs 0), gSa cA Bw (nI (S 0)) (nI (S 2)) (nI (S 4)) (nI (S 5)) L R LL RL TM (nI (S 1)) WW NN (nI (S 3))]) := by
  refine MetI.of (cc := cX10_letterAt) (maxL := 2) (ret := (some .int)) (by decide) rfl (Nat.le_of_ble_eq_true rfl) (Or.inl rfl) ?_
  intro pY eY sY mY aY bY tY cY QY AY ls h0 hP hK hN hD hA hS hl hret
  obtain ⟨hx, hb, hml, hown, hts⟩ := id h0
  have hl : lv_has ls 2 [(0, .ref (Bf 0)), (1, .int x)] := hl
  have hP : PB D [gFw cA Bf (Bw 0) (Bq 0) (Bh 0) (Bd 0) (Br 0) (Bo 0) (Bt 0) (Bs 0), gSa cA Bw (nI (S 0)) (nI (S 2)) (nI (S 4)) (nI (S 5)) L R LL RL TM (nI (S 1)) WW NN (nI (S 3))] sY.heap := PB.of hP
  have hD : DB AY [gFw cA Bf (Bw 0) (Bq 0) (Bh 0) (Bd 0) (Br 0) (Bo 0) (Bt 0) (Bs 0), gSa cA Bw (nI (S 0)) (nI (S 2)) (nI (S 4)) (nI (S 5)) L R LL RL TM (nI (S 1)) WW NN (nI (S 3))] := DB.of hD
  refine lv_iload_n hx hb dX10_letterAt_0 rfl (lv_at hl 1 rfl) ?_
  refine xz_ge (tgt := 7) hx hb dX10_letterAt_1 (by decide) (fun c1 => ?_) (fun c1 => ?_)
  · refine lv_aload_n hx hb dX10_letterAt_7 rfl (lv_at hl 0 rfl) ?_
    refine va_get (D := D) (ci := 9) (v := .ref (Bw 0)) (C := RX10) (T := TX10) (N := 8) hx hb hts hi_X10_letterAt_X10 hown hK (hP.blk 0 rfl) 0 rfl rfl 0 (by decide) (hts (.fieldLink RX10 10 "FallingWords" "now" "LFallingWords$State;") (by decide +kernel)) (fun _ h9 => h9) rfl dX10_letterAt_8 ?_
    refine va_getN (D := D) (ci := 6) (v := .int (nI (S 0))) (C := RX6) (T := TX6) (N := 6) hx hb hts hi_X10_letterAt_X6 hown hK (hP.blk 1 rfl) 0 rfl rfl 2 (by decide) (hN.fl (w := .fieldLinkNest RX10 115 "FallingWords$State" "word" "I" "FallingWords") (by decide +kernel)) (fun _ h9 => h9) rfl dX10_letterAt_11 ?_
    refine lv_iload_n hx hb dX10_letterAt_14 rfl (lv_at hl 1 rfl) ?_
    refine bl_i (Ss := []) hP hD hS hA [] rfl (by decide) [] rfl (va_runSN (As := [.int (nI (S 0)), .int x]) (rest := []) h0 ((k_X9_letterOf lY D cA (S 0) x (hI.2.2.1)) _) ⟨(va_cnB 2 hts gX10_letterAt_X9_letterOf_n100 rfl rfl rfl (hN (.methodLinkNest RX10 100 yX9_letterOf "FallingWords") (by decide +kernel)) (hts (.initialized RX9) (by decide +kernel)) (by decide +kernel) ⟨Nat.le_of_ble_eq_true rfl, Nat.le_of_ble_eq_true rfl⟩), hts (.static yX9_letterOf) (by decide +kernel), trivial⟩ ⟨pw_blind, bl_pre (Ss := []) hP hD hK hN [] rfl (by decide) [] rfl (by decide +kernel)⟩ rfl rfl hl.1 rfl (lv_room (Nat.le_of_ble_eq_true rfl)) dX10_letterAt_15 ⟨Nat.zero_le _, Nat.zero_le _⟩) (fun rY wY H locs hwY hJ hS => ?_)
    obtain ⟨e1Y, e2Y⟩ := hwY
    have e3Y := e1Y.symm
    clear e1Y
    subst e3Y
    have e3Y := e2Y.symm
    clear e2Y
    subst e3Y
    obtain ⟨hP, hD⟩ := hJ [] rfl rfl rfl
    have hP : PB D [gFw cA Bf (Bw 0) (Bq 0) (Bh 0) (Bd 0) (Br 0) (Bo 0) (Bt 0) (Bs 0), gSa cA Bw (nI (S 0)) (nI (S 2)) (nI (S 4)) (nI (S 5)) L R LL RL TM (nI (S 1)) WW NN (nI (S 3))] H := hP
    have hD : DB AY [gFw cA Bf (Bw 0) (Bq 0) (Bh 0) (Bd 0) (Br 0) (Bo 0) (Bt 0) (Bs 0), gSa cA Bw (nI (S 0)) (nI (S 2)) (nI (S 4)) (nI (S 5)) L R LL RL TM (nI (S 1)) WW NN (nI (S 3))] := hD
    exact hret _ _ _ _ _ _ dX10_letterAt_18 ⟨((if_neg (by omega)).symm), rfl⟩ hP.to hD.to hS
  · refine lv_ldc (v := (-1000001)) hx hb hown (hts (.constant RX10 71 (-1000001)) (by decide +kernel)) dX10_letterAt_4 ?_
    exact hret _ _ _ _ _ _ dX10_letterAt_6 ⟨((if_pos (by omega)).symm), rfl⟩ hP.to hD.to hS

theorem hi_X10_next_X10 : ∀ w ∈ u_ws RX10 TX10 8, w ∈ wsX10_next := by decide +kernel
theorem hi_X10_next_X6 : ∀ w ∈ u_ws RX6 TX6 6, w ∈ wsX10_next := by decide +kernel
set_option maxHeartbeats 1000000 in
set_option maxRecDepth 100000 in
theorem k_X10_next (lY : Launch) (D : va_G) (cA : Nat → ClassId) (Bf Bw Bq Bh Bd Br Bo Bt Bs : Nat → Nat) (S : St) (L R LL RL TM WW NN : Nat → Int32) (x : Int32) (hI : IV S) (hr : rRu S L R LL RL TM) (ho : rSo S WW NN) : MetI lY D cA yX10_next wsX10_next 2 58 [.ref (Bf 0), .int x] (List.flatten [gFw cA Bf (Bw 0) (Bq 0) (Bh 0) (Bd 0) (Br 0) (Bo 0) (Bt 0) (Bs 0), gSa cA Bw (nI (S 0)) (nI (S 2)) (nI (S 4)) (nI (S 5)) L R LL RL TM (nI (S 1)) WW NN (nI (S 3))]) (fun rY wY => rY = nextZ S x ∧ wY = List.flatten [gFw cA Bf (Bw 0) (Bq 0) (Bh 0) (Bd 0) (Br 0) (Bo 0) (Bt 0) (Bs 0), gSa cA Bw (nI (S 0)) (nI (S 2)) (nI (S 4)) (nI (S 5)) L R LL RL TM (nI (S 1)) WW NN (nI (S 3))]) := by
  refine MetI.of (cc := cX10_next) (maxL := 3) (ret := (some .int)) (by decide) rfl (Nat.le_of_ble_eq_true rfl) (Or.inl rfl) ?_
  intro pY eY sY mY aY bY tY cY QY AY ls h0 hP hK hN hD hA hS hl hret
  obtain ⟨hx, hb, hml, hown, hts⟩ := id h0
  have hl : lv_has ls 3 [(0, .ref (Bf 0)), (1, .int x)] := hl
  have hP : PB D [gFw cA Bf (Bw 0) (Bq 0) (Bh 0) (Bd 0) (Br 0) (Bo 0) (Bt 0) (Bs 0), gSa cA Bw (nI (S 0)) (nI (S 2)) (nI (S 4)) (nI (S 5)) L R LL RL TM (nI (S 1)) WW NN (nI (S 3))] sY.heap := PB.of hP
  have hD : DB AY [gFw cA Bf (Bw 0) (Bq 0) (Bh 0) (Bd 0) (Br 0) (Bo 0) (Bt 0) (Bs 0), gSa cA Bw (nI (S 0)) (nI (S 2)) (nI (S 4)) (nI (S 5)) L R LL RL TM (nI (S 1)) WW NN (nI (S 3))] := DB.of hD
  have e2 : (nI 1).toInt = 1 := rfl
  refine lv_iload_n hx hb dX10_next_0 rfl (lv_at hl 1 rfl) ?_
  refine xz_lt (tgt := 9) hx hb dX10_next_1 (by decide) (fun c1 => ?_) (fun c1 => ?_)
  · refine lv_ldc (v := (-1000001)) hx hb hown (hts (.constant RX10 71 (-1000001)) (by decide +kernel)) dX10_next_9 ?_
    exact hret _ _ _ _ _ _ dX10_next_11 ⟨((if_neg (by omega)).symm), rfl⟩ hP.to hD.to hS
  · refine lv_iload_n hx hb dX10_next_4 rfl (lv_at hl 1 rfl) ?_
    refine lv_iconst (v := nI 1) hx hb dX10_next_5 (by decide +kernel) ?_
    refine xr_le (tgt := 12) hx hb dX10_next_6 (by decide) (fun c6 => ?_) (fun c6 => ?_)
    · refine lv_aload_n hx hb dX10_next_12 rfl (lv_at hl 0 rfl) ?_
      refine va_get (D := D) (ci := 9) (v := .ref (Bw 0)) (C := RX10) (T := TX10) (N := 8) hx hb hts hi_X10_next_X10 hown hK (hP.blk 0 rfl) 0 rfl rfl 0 (by decide) (hts (.fieldLink RX10 10 "FallingWords" "now" "LFallingWords$State;") (by decide +kernel)) (fun _ h9 => h9) rfl dX10_next_13 ?_
      refine va_getN (D := D) (ci := 6) (v := .ref (Bw 1)) (C := RX6) (T := TX6) (N := 6) hx hb hts hi_X10_next_X6 hown hK (hP.blk 1 rfl) 0 rfl rfl 0 (by decide) (hN.fl (w := .fieldLinkNest RX10 61 "FallingWords$State" "rules" "LFallingWords$Rules;" "FallingWords") (by decide +kernel)) (fun _ h9 => h9) rfl dX10_next_16 ?_
      refine lv_aload_n hx hb dX10_next_19 rfl (lv_at hl 0 rfl) ?_
      refine va_get (D := D) (ci := 9) (v := .ref (Bw 0)) (C := RX10) (T := TX10) (N := 8) hx hb hts hi_X10_next_X10 hown hK (hP.blk 0 rfl) 0 rfl rfl 0 (by decide) (hts (.fieldLink RX10 10 "FallingWords" "now" "LFallingWords$State;") (by decide +kernel)) (fun _ h9 => h9) rfl dX10_next_20 ?_
      refine va_getN (D := D) (ci := 6) (v := .int (nI (S 0))) (C := RX6) (T := TX6) (N := 6) hx hb hts hi_X10_next_X6 hown hK (hP.blk 1 rfl) 0 rfl rfl 2 (by decide) (hN.fl (w := .fieldLinkNest RX10 115 "FallingWords$State" "word" "I" "FallingWords") (by decide +kernel)) (fun _ h9 => h9) rfl dX10_next_23 ?_
      refine lv_aload_n hx hb dX10_next_26 rfl (lv_at hl 0 rfl) ?_
      refine va_get (D := D) (ci := 9) (v := .ref (Bw 0)) (C := RX10) (T := TX10) (N := 8) hx hb hts hi_X10_next_X10 hown hK (hP.blk 0 rfl) 0 rfl rfl 0 (by decide) (hts (.fieldLink RX10 10 "FallingWords" "now" "LFallingWords$State;") (by decide +kernel)) (fun _ h9 => h9) rfl dX10_next_27 ?_
      refine va_getN (D := D) (ci := 6) (v := .int (nI (S 2))) (C := RX6) (T := TX6) (N := 6) hx hb hts hi_X10_next_X6 hown hK (hP.blk 1 rfl) 0 rfl rfl 3 (by decide) (hN.fl (w := .fieldLinkNest RX10 86 "FallingWords$State" "choosing" "I" "FallingWords") (by decide +kernel)) (fun _ h9 => h9) rfl dX10_next_30 ?_
      refine bl_i (Ss := [gSa cA Bw (nI (S 0)) (nI (S 2)) (nI (S 4)) (nI (S 5)) L R LL RL TM (nI (S 1)) WW NN (nI (S 3))]) hP hD hS hA [1] rfl (by decide) [1, 2, 3, 4, 5, 6] rfl (va_runVN (As := [.int (nI (S 0)), .int (nI (S 2))]) (rest := []) h0 ((k_X4_choiceFor lY D cA (fun i => Bw (i + 1)) S L R LL RL TM (S 0) (hI.1) (hr) (hI.2.2.1)) _) ⟨(va_cnB 2 hts gX10_next_X4_choiceFor_n132 rfl rfl rfl (hN (.methodLinkNest RX10 132 yX4_choiceFor "FallingWords") (by decide +kernel)) (hts (.initialized RX4) (by decide +kernel)) (by decide +kernel) ⟨Nat.le_of_ble_eq_true rfl, Nat.le_of_ble_eq_true rfl⟩), hts (.instanceMethod yX4_choiceFor) (by decide +kernel), hts (.selects RX4 yX4_choiceFor yX4_choiceFor) (by decide +kernel)⟩ ⟨pw_blind, bl_recv (ci := 4) (q := (RX4, TX4, 6)) (i := 1) (q0 := 1) hP hK rfl rfl rfl, bl_pre (Ss := [gSa cA Bw (nI (S 0)) (nI (S 2)) (nI (S 4)) (nI (S 5)) L R LL RL TM (nI (S 1)) WW NN (nI (S 3))]) hP hD hK hN [1] rfl (by decide) [1, 2, 3, 4, 5, 6] rfl (by decide +kernel)⟩ rfl rfl hl.1 rfl (lv_room (Nat.le_of_ble_eq_true rfl)) dX10_next_33 ⟨Nat.zero_le _, Nat.zero_le _⟩) (fun rY wY H locs hwY hJ hS => ?_)
      obtain ⟨e1Y, e2Y⟩ := hwY
      have e3Y := e1Y.symm
      clear e1Y
      subst e3Y
      have e3Y := e2Y.symm
      clear e2Y
      subst e3Y
      obtain ⟨hP, hD⟩ := hJ [gSa cA Bw (nI (S 0)) (nI (S 2)) (nI (S 4)) (nI (S 5)) L R LL RL TM (nI (S 1)) WW NN (nI (S 3))] rfl rfl rfl
      have hP : PB D [gFw cA Bf (Bw 0) (Bq 0) (Bh 0) (Bd 0) (Br 0) (Bo 0) (Bt 0) (Bs 0), gSa cA Bw (nI (S 0)) (nI (S 2)) (nI (S 4)) (nI (S 5)) L R LL RL TM (nI (S 1)) WW NN (nI (S 3))] H := hP
      have hD : DB AY [gFw cA Bf (Bw 0) (Bq 0) (Bh 0) (Bd 0) (Br 0) (Bo 0) (Bt 0) (Bs 0), gSa cA Bw (nI (S 0)) (nI (S 2)) (nI (S 4)) (nI (S 5)) L R LL RL TM (nI (S 1)) WW NN (nI (S 3))] := hD
      refine lv_istore_n (lv' := [(2, .int (chI S (S 0))), (0, .ref (Bf 0)), (1, .int x)]) hx hb dX10_next_36 rfl hl (by decide) rfl (fun ls hl => ?_)
      refine lv_iload_n hx hb dX10_next_37 rfl (lv_at hl 0 rfl) ?_
      refine xz_ge (tgt := 44) hx hb dX10_next_38 (by decide) (fun c38 => ?_) (fun c38 => ?_)
      · have hn := chI_ge (S := S) (w := S 0) (by omega)
        obtain ⟨g1, g2, g3, g4, g5⟩ := ch_lt hI.1 hI.2.2.1 hn
        have h12 := hI.2.2.1.2
        have hl : lv_has ls 3 [(2, .int (nI (chp S (S 0) * 10 + chr S (S 0)))), (0, .ref (Bf 0)), (1, .int x)] := Eq.mp (congrArg (fun zY : Int32 => lv_has ls 3 [(2, .int zY), (0, .ref (Bf 0)), (1, .int x)]) (show chI S (S 0) = nI (chp S (S 0) * 10 + chr S (S 0)) from chI_yes hn)) hl
        refine lv_iload_n hx hb dX10_next_44 rfl (lv_at hl 2 rfl) ?_
        refine xz_ne (tgt := 55) hx hb dX10_next_45 (by decide) (fun c45 => ?_) (fun c45 => ?_)
        · refine lv_iload_n hx hb dX10_next_55 rfl (lv_at hl 0 rfl) ?_
          refine bl_i (Ss := []) hP hD hS hA [] rfl (by decide) [] rfl (va_runSN (As := [.int (nI (chp S (S 0) * 10 + chr S (S 0)))]) (rest := []) h0 ((k_X4_placeIn lY D cA (chp S (S 0) * 10 + chr S (S 0)) (by omega)) _) ⟨(va_cnB 1 hts gX10_next_X4_placeIn_n140 rfl rfl rfl (hN (.methodLinkNest RX10 140 yX4_placeIn "FallingWords") (by decide +kernel)) (hts (.initialized RX4) (by decide +kernel)) (by decide +kernel) ⟨Nat.le_of_ble_eq_true rfl, Nat.le_of_ble_eq_true rfl⟩), hts (.static yX4_placeIn) (by decide +kernel), trivial⟩ ⟨pw_blind, bl_pre (Ss := []) hP hD hK hN [] rfl (by decide) [] rfl (by decide +kernel)⟩ rfl rfl hl.1 rfl (lv_room (Nat.le_of_ble_eq_true rfl)) dX10_next_56 ⟨Nat.zero_le _, Nat.zero_le _⟩) (fun rY wY H locs hwY hJ hS => ?_)
          obtain ⟨e1Y, e2Y⟩ := hwY
          have e3Y := e1Y.symm
          clear e1Y
          subst e3Y
          have e3Y := e2Y.symm
          clear e2Y
          subst e3Y
          obtain ⟨hP, hD⟩ := hJ [] rfl rfl rfl
          have hP : PB D [gFw cA Bf (Bw 0) (Bq 0) (Bh 0) (Bd 0) (Br 0) (Bo 0) (Bt 0) (Bs 0), gSa cA Bw (nI (S 0)) (nI (S 2)) (nI (S 4)) (nI (S 5)) L R LL RL TM (nI (S 1)) WW NN (nI (S 3))] H := hP
          have hD : DB AY [gFw cA Bf (Bw 0) (Bq 0) (Bh 0) (Bd 0) (Br 0) (Bo 0) (Bt 0) (Bs 0), gSa cA Bw (nI (S 0)) (nI (S 2)) (nI (S 4)) (nI (S 5)) L R LL RL TM (nI (S 1)) WW NN (nI (S 3))] := hD
          refine xt (show nI ((chp S (S 0) * 10 + chr S (S 0)) / 10) = nI (chp S (S 0)) from congrArg nI (by omega)) ?_
          exact hret _ _ _ _ _ _ dX10_next_59 ⟨(by unfold nextZ; rw [if_pos (by omega), hn, if_neg (by decide), if_neg (by omega)]), rfl⟩ hP.to hD.to hS
        · refine lv_iload_n hx hb dX10_next_48 rfl (lv_at hl 0 rfl) ?_
          refine bl_i (Ss := []) hP hD hS hA [] rfl (by decide) [] rfl (va_runSN (As := [.int (nI (chp S (S 0) * 10 + chr S (S 0)))]) (rest := []) h0 ((k_X4_ruleIn lY D cA (chp S (S 0) * 10 + chr S (S 0)) (by omega)) _) ⟨(va_cnB 1 hts gX10_next_X4_ruleIn_n136 rfl rfl rfl (hN (.methodLinkNest RX10 136 yX4_ruleIn "FallingWords") (by decide +kernel)) (hts (.initialized RX4) (by decide +kernel)) (by decide +kernel) ⟨Nat.le_of_ble_eq_true rfl, Nat.le_of_ble_eq_true rfl⟩), hts (.static yX4_ruleIn) (by decide +kernel), trivial⟩ ⟨pw_blind, bl_pre (Ss := []) hP hD hK hN [] rfl (by decide) [] rfl (by decide +kernel)⟩ rfl rfl hl.1 rfl (lv_room (Nat.le_of_ble_eq_true rfl)) dX10_next_49 ⟨Nat.zero_le _, Nat.zero_le _⟩) (fun rY wY H locs hwY hJ hS => ?_)
          obtain ⟨e1Y, e2Y⟩ := hwY
          have e3Y := e1Y.symm
          clear e1Y
          subst e3Y
          have e3Y := e2Y.symm
          clear e2Y
          subst e3Y
          obtain ⟨hP, hD⟩ := hJ [] rfl rfl rfl
          have hP : PB D [gFw cA Bf (Bw 0) (Bq 0) (Bh 0) (Bd 0) (Br 0) (Bo 0) (Bt 0) (Bs 0), gSa cA Bw (nI (S 0)) (nI (S 2)) (nI (S 4)) (nI (S 5)) L R LL RL TM (nI (S 1)) WW NN (nI (S 3))] H := hP
          have hD : DB AY [gFw cA Bf (Bw 0) (Bq 0) (Bh 0) (Bd 0) (Br 0) (Bo 0) (Bt 0) (Bs 0), gSa cA Bw (nI (S 0)) (nI (S 2)) (nI (S 4)) (nI (S 5)) L R LL RL TM (nI (S 1)) WW NN (nI (S 3))] := hD
          refine xt (show nI ((chp S (S 0) * 10 + chr S (S 0)) % 10) = nI (chr S (S 0)) from congrArg nI (by omega)) ?_
          refine lv_goto (tgt := 59) hx hb dX10_next_52 (by decide) ?_
          exact hret _ _ _ _ _ _ dX10_next_59 ⟨(by unfold nextZ; rw [if_pos (by omega), hn, if_neg (by decide), if_pos (by omega)]), rfl⟩ hP.to hD.to hS
      · refine lv_ldc (v := (-1000004)) hx hb hown (hts (.constant RX10 135 (-1000004)) (by decide +kernel)) dX10_next_41 ?_
        exact hret _ _ _ _ _ _ dX10_next_43 ⟨(by unfold nextZ; rw [if_pos (by omega), if_pos (chI_lt hI.1 hI.2.2.1 (by omega))]), rfl⟩ hP.to hD.to hS
    · refine lv_ldc (v := (-1000001)) hx hb hown (hts (.constant RX10 71 (-1000001)) (by decide +kernel)) dX10_next_9 ?_
      exact hret _ _ _ _ _ _ dX10_next_11 ⟨((if_neg (by omega)).symm), rfl⟩ hP.to hD.to hS
