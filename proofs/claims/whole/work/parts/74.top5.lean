theorem hi_X10_reached_X10 : ∀ w ∈ u_ws RX10 TX10 8, w ∈ wsX10_reached := by decide +kernel
theorem hi_X10_reached_X2 : ∀ w ∈ u_ws RX2 TX2 7, w ∈ wsX10_reached := by decide +kernel
theorem hi_X10_reached_X6 : ∀ w ∈ u_ws RX6 TX6 6, w ∈ wsX10_reached := by decide +kernel
set_option maxHeartbeats 1000000 in
set_option maxRecDepth 100000 in
theorem k_X10_reached (lY : Launch) (D : va_G) (cA : Nat → ClassId) (Bf Bw Bq Bh Bd Br Bo Bt Bs : Nat → Nat) (S : St) (L R LL RL TM WW NN : Nat → Int32) (x : Int32) (WR SE : Nat → Int32) (nz tm en fe le : Int32) (hI : IV S) (hr : rRu S L R LL RL TM) (ho : rSo S WW NN) : MetI lY D cA yX10_reached wsX10_reached 4 99 [.ref (Bf 0), .int x] (List.flatten [gFw cA Bf (Bw 0) (Bq 0) (Bh 0) (Bd 0) (Br 0) (Bo 0) (Bt 0) (Bs 0), gSa cA Bw (nI (S 0)) (nI (S 2)) (nI (S 4)) (nI (S 5)) L R LL RL TM (nI (S 1)) WW NN (nI (S 3)), gRe cA Br WR SE nz tm en fe le]) (fun rY wY => ∃ (WR' : Nat → Int32) (SE' : Nat → Int32) (nz' : Int32) (tm' : Int32) (en' : Int32) (fe' : Int32) (le' : Int32), rY = reaZ S x ∧ wY = List.flatten [gFw cA Bf (Bw 0) (Bq 0) (Bh 0) (Bd 0) (Br 0) (Bo 0) (Bt 0) (Bs 0), gSa cA Bw (nI (S 0)) (nI (S 2)) (nI (S 4)) (nI (S 5)) L R LL RL TM (nI (S 1)) WW NN (nI (S 3)), gRe cA Br WR' SE' nz' tm' en' fe' le']) := by
  refine MetI.of (cc := cX10_reached) (maxL := 4) (ret := (some .int)) (by decide) rfl (Nat.le_of_ble_eq_true rfl) (Or.inl rfl) ?_
  intro pY eY sY mY aY bY tY cY QY AY ls h0 hP hK hN hD hA hS hl hret
  obtain ⟨hx, hb, hml, hown, hts⟩ := id h0
  have hl : lv_has ls 4 [(0, .ref (Bf 0)), (1, .int x)] := hl
  have hP : PB D [gFw cA Bf (Bw 0) (Bq 0) (Bh 0) (Bd 0) (Br 0) (Bo 0) (Bt 0) (Bs 0), gSa cA Bw (nI (S 0)) (nI (S 2)) (nI (S 4)) (nI (S 5)) L R LL RL TM (nI (S 1)) WW NN (nI (S 3)), gRe cA Br WR SE nz tm en fe le] sY.heap := PB.of hP
  have hD : DB AY [gFw cA Bf (Bw 0) (Bq 0) (Bh 0) (Bd 0) (Br 0) (Bo 0) (Bt 0) (Bs 0), gSa cA Bw (nI (S 0)) (nI (S 2)) (nI (S 4)) (nI (S 5)) L R LL RL TM (nI (S 1)) WW NN (nI (S 3)), gRe cA Br WR SE nz tm en fe le] := DB.of hD
  have hIR := hI.1
  have hw := hI.2.2.1
  have e4 : (nI 4).toInt = 4 := rfl
  have e1 : (nI 1).toInt = 1 := rfl
  have e2 : (nI 2).toInt = 2 := rfl
  have e3 : (nI 3).toInt = 3 := rfl
  refine lv_iload_n hx hb dX10_reached_0 rfl (lv_at hl 1 rfl) ?_
  refine lv_bipush (v := nI 10) hx hb dX10_reached_1 (by decide +kernel) ?_
  refine lv_bipush (v := nI 12) hx hb dX10_reached_3 (by decide +kernel) ?_
  refine bl_i (Ss := []) hP hD hS hA [] rfl (by decide) [] rfl (va_runS (As := [.int x, .int (nI 10), .int (nI 12)]) (rest := []) h0 ((k_X10_isLetterOf lY D cA x 10 12 (by omega) (by omega)) _) (va_cwS 3 hts gX10_reached_X10_isLetterOf rfl rfl rfl (by decide +kernel) ⟨Nat.le_of_ble_eq_true rfl, Nat.le_of_ble_eq_true rfl⟩) ⟨pw_blind, bl_pre (Ss := []) hP hD hK hN [] rfl (by decide) [] rfl (by decide +kernel)⟩ rfl rfl hl.1 rfl (lv_room (Nat.le_of_ble_eq_true rfl)) dX10_reached_5 ⟨Nat.zero_le _, Nat.zero_le _⟩) (fun rY wY H locs hwY hJ hS => ?_)
  obtain ⟨e1Y, e2Y⟩ := hwY
  have e3Y := e1Y.symm
  clear e1Y
  subst e3Y
  have e3Y := e2Y.symm
  clear e2Y
  subst e3Y
  obtain ⟨hP, hD⟩ := hJ [] rfl rfl rfl
  have hP : PB D [gFw cA Bf (Bw 0) (Bq 0) (Bh 0) (Bd 0) (Br 0) (Bo 0) (Bt 0) (Bs 0), gSa cA Bw (nI (S 0)) (nI (S 2)) (nI (S 4)) (nI (S 5)) L R LL RL TM (nI (S 1)) WW NN (nI (S 3)), gRe cA Br WR SE nz tm en fe le] H := hP
  have hD : DB AY [gFw cA Bf (Bw 0) (Bq 0) (Bh 0) (Bd 0) (Br 0) (Bo 0) (Bt 0) (Bs 0), gSa cA Bw (nI (S 0)) (nI (S 2)) (nI (S 4)) (nI (S 5)) L R LL RL TM (nI (S 1)) WW NN (nI (S 3)), gRe cA Br WR SE nz tm en fe le] := hD
  refine lv_istore_n (lv' := [(2, .int (bI (isL x 10 12))), (0, .ref (Bf 0)), (1, .int x)]) hx hb dX10_reached_8 rfl hl (by decide) rfl (fun ls hl => ?_)
  refine lv_iload_n hx hb dX10_reached_9 rfl (lv_at hl 2 rfl) ?_
  refine lv_bipush (v := nI 30) hx hb dX10_reached_10 (by decide +kernel) ?_
  refine lv_bipush (v := nI 12) hx hb dX10_reached_12 (by decide +kernel) ?_
  refine bl_i (Ss := []) hP hD hS hA [] rfl (by decide) [] rfl (va_runS (As := [.int x, .int (nI 30), .int (nI 12)]) (rest := []) h0 ((k_X10_isLetterOf lY D cA x 30 12 (by omega) (by omega)) _) (va_cwS 3 hts gX10_reached_X10_isLetterOf rfl rfl rfl (by decide +kernel) ⟨Nat.le_of_ble_eq_true rfl, Nat.le_of_ble_eq_true rfl⟩) ⟨pw_blind, bl_pre (Ss := []) hP hD hK hN [] rfl (by decide) [] rfl (by decide +kernel)⟩ rfl rfl hl.1 rfl (lv_room (Nat.le_of_ble_eq_true rfl)) dX10_reached_14 ⟨Nat.zero_le _, Nat.zero_le _⟩) (fun rY wY H locs hwY hJ hS => ?_)
  obtain ⟨e1Y, e2Y⟩ := hwY
  have e3Y := e1Y.symm
  clear e1Y
  subst e3Y
  have e3Y := e2Y.symm
  clear e2Y
  subst e3Y
  obtain ⟨hP, hD⟩ := hJ [] rfl rfl rfl
  have hP : PB D [gFw cA Bf (Bw 0) (Bq 0) (Bh 0) (Bd 0) (Br 0) (Bo 0) (Bt 0) (Bs 0), gSa cA Bw (nI (S 0)) (nI (S 2)) (nI (S 4)) (nI (S 5)) L R LL RL TM (nI (S 1)) WW NN (nI (S 3)), gRe cA Br WR SE nz tm en fe le] H := hP
  have hD : DB AY [gFw cA Bf (Bw 0) (Bq 0) (Bh 0) (Bd 0) (Br 0) (Bo 0) (Bt 0) (Bs 0), gSa cA Bw (nI (S 0)) (nI (S 2)) (nI (S 4)) (nI (S 5)) L R LL RL TM (nI (S 1)) WW NN (nI (S 3)), gRe cA Br WR SE nz tm en fe le] := hD
  refine lv_istore_n (lv' := [(3, .int (bI (isL x 30 12))), (2, .int (bI (isL x 10 12))), (0, .ref (Bf 0)), (1, .int x)]) hx hb dX10_reached_17 rfl hl (by decide) rfl (fun ls hl => ?_)
  refine lv_iload_n hx hb dX10_reached_18 rfl (lv_at hl 1 rfl) ?_
  refine xb_ne (tgt := 38) hx hb dX10_reached_19 (by decide) (fun c19 => ?_) (fun c19 => ?_)
  · have L38 :  (¬ (isL x 10 12 = false ∧ isL x 30 12 = false ∧ ¬ (0 ≤ x.toInt ∧ x.toInt ≤ 3))) → ∀ (H : Heap) (locs : List Loc) (ls : Array Slot), PB D [gFw cA Bf (Bw 0) (Bq 0) (Bh 0) (Bd 0) (Br 0) (Bo 0) (Bt 0) (Bs 0), gSa cA Bw (nI (S 0)) (nI (S 2)) (nI (S 4)) (nI (S 5)) L R LL RL TM (nI (S 1)) WW NN (nI (S 3)), gRe cA Br WR SE nz tm en fe le] H → DB AY [gFw cA Bf (Bw 0) (Bq 0) (Bh 0) (Bd 0) (Br 0) (Bo 0) (Bt 0) (Bs 0), gSa cA Bw (nI (S 0)) (nI (S 2)) (nI (S 4)) (nI (S 5)) L R LL RL TM (nI (S 1)) WW NN (nI (S 3)), gRe cA Br WR SE nz tm en fe le] → va_S AY sY.heap H locs → lv_has ls 4 [(3, .int (bI (isL x 30 12))), (2, .int (bI (isL x 10 12))), (0, .ref (Bf 0)), (1, .int x)] → W pY lY eY { frames := 4, cells := 0, slots := 0, locals := 99 } sY mY aY bY tY cY H locs 0 0 QY (F0 mY 38 ls []) := by
      intro hv H locs ls hP hD hS hl
      refine lv_aload_n hx hb dX10_reached_38 rfl (lv_at hl 2 rfl) ?_
      refine va_get (D := D) (ci := 9) (v := .ref (Br 0)) (C := RX10) (T := TX10) (N := 8) hx hb hts hi_X10_reached_X10 hown hK (hP.blk 0 rfl) 0 rfl rfl 4 (by decide) (hts (.fieldLink RX10 36 "FallingWords" "reach" "LFallingWords$Reach;") (by decide +kernel)) (fun _ h9 => h9) rfl dX10_reached_39 ?_
      refine lv_aload_n hx hb dX10_reached_42 rfl (lv_at hl 2 rfl) ?_
      refine va_get (D := D) (ci := 9) (v := .ref (Bw 0)) (C := RX10) (T := TX10) (N := 8) hx hb hts hi_X10_reached_X10 hown hK (hP.blk 0 rfl) 0 rfl rfl 0 (by decide) (hts (.fieldLink RX10 10 "FallingWords" "now" "LFallingWords$State;") (by decide +kernel)) (fun _ h9 => h9) rfl dX10_reached_43 ?_
      refine va_getN (D := D) (ci := 6) (v := .ref (Bw 1)) (C := RX6) (T := TX6) (N := 6) hx hb hts hi_X10_reached_X6 hown hK (hP.blk 1 rfl) 0 rfl rfl 0 (by decide) (hN.fl (w := .fieldLinkNest RX10 61 "FallingWords$State" "rules" "LFallingWords$Rules;" "FallingWords") (by decide +kernel)) (fun _ h9 => h9) rfl dX10_reached_46 ?_
      refine lv_aload_n hx hb dX10_reached_49 rfl (lv_at hl 2 rfl) ?_
      refine va_get (D := D) (ci := 9) (v := .ref (Bw 0)) (C := RX10) (T := TX10) (N := 8) hx hb hts hi_X10_reached_X10 hown hK (hP.blk 0 rfl) 0 rfl rfl 0 (by decide) (hts (.fieldLink RX10 10 "FallingWords" "now" "LFallingWords$State;") (by decide +kernel)) (fun _ h9 => h9) rfl dX10_reached_50 ?_
      refine va_getN (D := D) (ci := 6) (v := .int (nI (S 0))) (C := RX6) (T := TX6) (N := 6) hx hb hts hi_X10_reached_X6 hown hK (hP.blk 1 rfl) 0 rfl rfl 2 (by decide) (hN.fl (w := .fieldLinkNest RX10 115 "FallingWords$State" "word" "I" "FallingWords") (by decide +kernel)) (fun _ h9 => h9) rfl dX10_reached_53 ?_
      refine bl_v (Ss := [gRe cA Br WR SE nz tm en fe le, gSa cA Bw (nI (S 0)) (nI (S 2)) (nI (S 4)) (nI (S 5)) L R LL RL TM (nI (S 1)) WW NN (nI (S 3))]) hP hD hS hA [2, 1] rfl (by decide) [0, 1, 2, 4, 5, 6, 7, 8, 9] rfl (va_runVN (As := [.ref (Bw 1), .int (nI (S 0))]) (rest := []) h0 ((k_X2_run lY D cA Br (fun i => Bw (i + 1)) WR SE nz tm en fe le S L R LL RL TM (S 0) (hIR) (hr) (hw)) _) ⟨(va_cnB 2 hts gX10_reached_X2_run_n165 rfl rfl rfl (hN (.methodLinkNest RX10 165 yX2_run "FallingWords") (by decide +kernel)) (hts (.initialized RX2) (by decide +kernel)) (by decide +kernel) ⟨Nat.le_of_ble_eq_true rfl, Nat.le_of_ble_eq_true rfl⟩), hts (.instanceMethod yX2_run) (by decide +kernel), hts (.selects RX2 yX2_run yX2_run) (by decide +kernel)⟩ ⟨pw_blind, bl_recv (ci := 2) (q := (RX2, TX2, 7)) (i := 2) (q0 := 0) hP hK rfl rfl rfl, bl_pre (Ss := [gRe cA Br WR SE nz tm en fe le, gSa cA Bw (nI (S 0)) (nI (S 2)) (nI (S 4)) (nI (S 5)) L R LL RL TM (nI (S 1)) WW NN (nI (S 3))]) hP hD hK hN [2, 1] rfl (by decide) [0, 1, 2, 4, 5, 6, 7, 8, 9] rfl (by decide +kernel)⟩ rfl rfl hl.1 rfl (lv_room (Nat.le_of_ble_eq_true rfl)) dX10_reached_56 ⟨Nat.zero_le _, Nat.zero_le _⟩) (fun wY H locs hwY hJ hS => ?_)
      obtain ⟨WR'_56, SE'_56, en'_56, fe'_56, le'_56, e2Y, fr_56, fe2_56⟩ := hwY
      have e3Y := e2Y.symm
      clear e2Y
      subst e3Y
      obtain ⟨hP, hD⟩ := hJ [gRe cA Br WR'_56 SE'_56 (nI (min (bfs S (S 0)).2 400)) (bI (decide ((bfs S (S 0)).2 = 401))) en'_56 fe'_56 le'_56, gSa cA Bw (nI (S 0)) (nI (S 2)) (nI (S 4)) (nI (S 5)) L R LL RL TM (nI (S 1)) WW NN (nI (S 3))] rfl rfl rfl
      have hP : PB D [gFw cA Bf (Bw 0) (Bq 0) (Bh 0) (Bd 0) (Br 0) (Bo 0) (Bt 0) (Bs 0), gSa cA Bw (nI (S 0)) (nI (S 2)) (nI (S 4)) (nI (S 5)) L R LL RL TM (nI (S 1)) WW NN (nI (S 3)), gRe cA Br WR'_56 SE'_56 (nI (min (bfs S (S 0)).2 400)) (bI (decide ((bfs S (S 0)).2 = 401))) en'_56 fe'_56 le'_56] H := hP
      have hD : DB AY [gFw cA Bf (Bw 0) (Bq 0) (Bh 0) (Bd 0) (Br 0) (Bo 0) (Bt 0) (Bs 0), gSa cA Bw (nI (S 0)) (nI (S 2)) (nI (S 4)) (nI (S 5)) L R LL RL TM (nI (S 1)) WW NN (nI (S 3)), gRe cA Br WR'_56 SE'_56 (nI (min (bfs S (S 0)).2 400)) (bI (decide ((bfs S (S 0)).2 = 401))) en'_56 fe'_56 le'_56] := hD
      refine lv_aload_n hx hb dX10_reached_59 rfl (lv_at hl 2 rfl) ?_
      refine va_get (D := D) (ci := 9) (v := .ref (Br 0)) (C := RX10) (T := TX10) (N := 8) hx hb hts hi_X10_reached_X10 hown hK (hP.blk 0 rfl) 0 rfl rfl 4 (by decide) (hts (.fieldLink RX10 36 "FallingWords" "reach" "LFallingWords$Reach;") (by decide +kernel)) (fun _ h9 => h9) rfl dX10_reached_60 ?_
      refine va_getN (D := D) (ci := 2) (v := .int (bI (decide ((bfs S (S 0)).2 = 401)))) (C := RX2) (T := TX2) (N := 7) hx hb hts hi_X10_reached_X2 hown hK (hP.blk 2 rfl) 0 rfl rfl 3 (by decide) (hN.fl (w := .fieldLinkNest RX10 168 "FallingWords$Reach" "tooMany" "Z" "FallingWords") (by decide +kernel)) (fun _ h9 => h9) rfl dX10_reached_63 ?_
      refine xb_eq (tgt := 72) hx hb dX10_reached_66 (by decide) (fun c66 => ?_) (fun c66 => ?_)
      · have hB4 := of_decide_eq_false c66
        have hB5 := fr_56.1
        have hB6 := enF_le (S := S) (f := (bfs S (S 0)).1) (bfs S (S 0)).2
        obtain ⟨en1, en2⟩ := fe2_56 (by omega)
        have env := enF_vw (S := S) (f := (bfs S (S 0)).1) (bfs S (S 0)).2 fr_56.2.2.1
        refine lv_iload_n hx hb dX10_reached_72 rfl (lv_at hl 3 rfl) ?_
        refine xz_ne (tgt := 84) hx hb dX10_reached_73 (by decide) (fun c73 => ?_) (fun c73 => ?_)
        · refine lv_iload_n hx hb dX10_reached_84 rfl (lv_at hl 3 rfl) ?_
          refine lv_iconst (v := nI 1) hx hb dX10_reached_85 (by decide +kernel) ?_
          refine xr_ne (tgt := 97) hx hb dX10_reached_86 (by decide) (fun c86 => ?_) (fun c86 => ?_)
          · refine lv_aload_n hx hb dX10_reached_97 rfl (lv_at hl 2 rfl) ?_
            refine va_get (D := D) (ci := 9) (v := .ref (Br 0)) (C := RX10) (T := TX10) (N := 8) hx hb hts hi_X10_reached_X10 hown hK (hP.blk 0 rfl) 0 rfl rfl 4 (by decide) (hts (.fieldLink RX10 36 "FallingWords" "reach" "LFallingWords$Reach;") (by decide +kernel)) (fun _ h9 => h9) rfl dX10_reached_98 ?_
            refine va_getN (D := D) (ci := 2) (v := .int en'_56) (C := RX2) (T := TX2) (N := 7) hx hb hts hi_X10_reached_X2 hown hK (hP.blk 2 rfl) 0 rfl rfl 4 (by decide) (hN.fl (w := .fieldLinkNest RX10 174 "FallingWords$Reach" "ends" "I" "FallingWords") (by decide +kernel)) (fun _ h9 => h9) rfl dX10_reached_101 ?_
            refine xt (show en'_56 = nI ((enF S (bfs S (S 0)).1 (bfs S (S 0)).2).1) from en1) ?_
            refine x0_ne (tgt := 110) hx hb dX10_reached_104 (by decide) (by omega) (fun c104 => ?_) (fun c104 => ?_)
            · have hpos : 0 < (enF S (bfs S (S 0)).1 (bfs S (S 0)).2).1 := by omega
              obtain ⟨fe1, le1, -, -⟩ := en2 hpos
              obtain ⟨fev, lev⟩ := env hpos
              refine lv_iload_n hx hb dX10_reached_110 rfl (lv_at hl 1 rfl) ?_
              refine xb_eq (tgt := 129) hx hb dX10_reached_111 (by decide) (fun c111 => ?_) (fun c111 => ?_)
              · refine lv_iload_n hx hb dX10_reached_129 rfl (lv_at hl 0 rfl) ?_
                refine xb_eq (tgt := 148) hx hb dX10_reached_130 (by decide) (fun c130 => ?_) (fun c130 => ?_)
                · refine lv_iload_n hx hb dX10_reached_148 rfl (lv_at hl 3 rfl) ?_
                  refine lv_iconst (v := nI 2) hx hb dX10_reached_149 (by decide +kernel) ?_
                  refine xr_ne (tgt := 163) hx hb dX10_reached_150 (by decide) (fun c150 => ?_) (fun c150 => ?_)
                  · refine lv_aload_n hx hb dX10_reached_163 rfl (lv_at hl 2 rfl) ?_
                    refine va_get (D := D) (ci := 9) (v := .ref (Br 0)) (C := RX10) (T := TX10) (N := 8) hx hb hts hi_X10_reached_X10 hown hK (hP.blk 0 rfl) 0 rfl rfl 4 (by decide) (hts (.fieldLink RX10 36 "FallingWords" "reach" "LFallingWords$Reach;") (by decide +kernel)) (fun _ h9 => h9) rfl dX10_reached_164 ?_
                    refine va_getN (D := D) (ci := 2) (v := .int le'_56) (C := RX2) (T := TX2) (N := 7) hx hb hts hi_X10_reached_X2 hown hK (hP.blk 2 rfl) 0 rfl rfl 6 (by decide) (hN.fl (w := .fieldLinkNest RX10 180 "FallingWords$Reach" "lastEnd" "I" "FallingWords") (by decide +kernel)) (fun _ h9 => h9) rfl dX10_reached_167 ?_
                    refine xt (show le'_56 = nI ((enF S (bfs S (S 0)).1 (bfs S (S 0)).2).2.2) from le1) ?_
                    refine bl_i (Ss := []) hP hD hS hA [] rfl (by decide) [] rfl (va_runSN (As := [.int (nI ((enF S (bfs S (S 0)).1 (bfs S (S 0)).2).2.2))]) (rest := []) h0 ((k_X9_lengthOf lY D cA ((enF S (bfs S (S 0)).1 (bfs S (S 0)).2).2.2) (lev.1) (by have := lev.2; omega)) _) ⟨(va_cnB 1 hts gX10_reached_X9_lengthOf_n159 rfl rfl rfl (hN (.methodLinkNest RX10 159 yX9_lengthOf "FallingWords") (by decide +kernel)) (hts (.initialized RX9) (by decide +kernel)) (by decide +kernel) ⟨Nat.le_of_ble_eq_true rfl, Nat.le_of_ble_eq_true rfl⟩), hts (.static yX9_lengthOf) (by decide +kernel), trivial⟩ ⟨pw_blind, bl_pre (Ss := []) hP hD hK hN [] rfl (by decide) [] rfl (by decide +kernel)⟩ rfl rfl hl.1 rfl (lv_room (Nat.le_of_ble_eq_true rfl)) dX10_reached_170 ⟨Nat.zero_le _, Nat.zero_le _⟩) (fun rY wY H locs hwY hJ hS => ?_)
                    obtain ⟨e1Y, e2Y⟩ := hwY
                    have e3Y := e1Y.symm
                    clear e1Y
                    subst e3Y
                    have e3Y := e2Y.symm
                    clear e2Y
                    subst e3Y
                    obtain ⟨hP, hD⟩ := hJ [] rfl rfl rfl
                    have hP : PB D [gFw cA Bf (Bw 0) (Bq 0) (Bh 0) (Bd 0) (Br 0) (Bo 0) (Bt 0) (Bs 0), gSa cA Bw (nI (S 0)) (nI (S 2)) (nI (S 4)) (nI (S 5)) L R LL RL TM (nI (S 1)) WW NN (nI (S 3)), gRe cA Br WR'_56 SE'_56 (nI (min (bfs S (S 0)).2 400)) (bI (decide ((bfs S (S 0)).2 = 401))) en'_56 fe'_56 le'_56] H := hP
                    have hD : DB AY [gFw cA Bf (Bw 0) (Bq 0) (Bh 0) (Bd 0) (Br 0) (Bo 0) (Bt 0) (Bs 0), gSa cA Bw (nI (S 0)) (nI (S 2)) (nI (S 4)) (nI (S 5)) L R LL RL TM (nI (S 1)) WW NN (nI (S 3)), gRe cA Br WR'_56 SE'_56 (nI (min (bfs S (S 0)).2 400)) (bI (decide ((bfs S (S 0)).2 = 401))) en'_56 fe'_56 le'_56] := hD
                    exact hret _ _ _ _ _ _ dX10_reached_173 ⟨WR'_56, SE'_56, ((nI (min (bfs S (S 0)).2 400))), ((bI (decide ((bfs S (S 0)).2 = 401)))), en'_56, fe'_56, le'_56, (by unfold reaZ; rw [if_neg hv, if_neg hB4, if_neg (by omega), if_neg (by omega), if_neg (by omega), c111, if_neg (by decide), c130, if_neg (by decide), if_neg (by omega)]), rfl⟩ hP.to hD.to hS
                  · refine lv_aload_n hx hb dX10_reached_153 rfl (lv_at hl 2 rfl) ?_
                    refine va_get (D := D) (ci := 9) (v := .ref (Br 0)) (C := RX10) (T := TX10) (N := 8) hx hb hts hi_X10_reached_X10 hown hK (hP.blk 0 rfl) 0 rfl rfl 4 (by decide) (hts (.fieldLink RX10 36 "FallingWords" "reach" "LFallingWords$Reach;") (by decide +kernel)) (fun _ h9 => h9) rfl dX10_reached_154 ?_
                    refine va_getN (D := D) (ci := 2) (v := .int fe'_56) (C := RX2) (T := TX2) (N := 7) hx hb hts hi_X10_reached_X2 hown hK (hP.blk 2 rfl) 0 rfl rfl 5 (by decide) (hN.fl (w := .fieldLinkNest RX10 177 "FallingWords$Reach" "firstEnd" "I" "FallingWords") (by decide +kernel)) (fun _ h9 => h9) rfl dX10_reached_157 ?_
                    refine xt (show fe'_56 = nI ((enF S (bfs S (S 0)).1 (bfs S (S 0)).2).2.1) from fe1) ?_
                    refine lv_goto (tgt := 170) hx hb dX10_reached_160 (by decide) ?_
                    refine bl_i (Ss := []) hP hD hS hA [] rfl (by decide) [] rfl (va_runSN (As := [.int (nI ((enF S (bfs S (S 0)).1 (bfs S (S 0)).2).2.1))]) (rest := []) h0 ((k_X9_lengthOf lY D cA ((enF S (bfs S (S 0)).1 (bfs S (S 0)).2).2.1) (fev.1) (by have := fev.2; omega)) _) ⟨(va_cnB 1 hts gX10_reached_X9_lengthOf_n159 rfl rfl rfl (hN (.methodLinkNest RX10 159 yX9_lengthOf "FallingWords") (by decide +kernel)) (hts (.initialized RX9) (by decide +kernel)) (by decide +kernel) ⟨Nat.le_of_ble_eq_true rfl, Nat.le_of_ble_eq_true rfl⟩), hts (.static yX9_lengthOf) (by decide +kernel), trivial⟩ ⟨pw_blind, bl_pre (Ss := []) hP hD hK hN [] rfl (by decide) [] rfl (by decide +kernel)⟩ rfl rfl hl.1 rfl (lv_room (Nat.le_of_ble_eq_true rfl)) dX10_reached_170 ⟨Nat.zero_le _, Nat.zero_le _⟩) (fun rY wY H locs hwY hJ hS => ?_)
                    obtain ⟨e1Y, e2Y⟩ := hwY
                    have e3Y := e1Y.symm
                    clear e1Y
                    subst e3Y
                    have e3Y := e2Y.symm
                    clear e2Y
                    subst e3Y
                    obtain ⟨hP, hD⟩ := hJ [] rfl rfl rfl
                    have hP : PB D [gFw cA Bf (Bw 0) (Bq 0) (Bh 0) (Bd 0) (Br 0) (Bo 0) (Bt 0) (Bs 0), gSa cA Bw (nI (S 0)) (nI (S 2)) (nI (S 4)) (nI (S 5)) L R LL RL TM (nI (S 1)) WW NN (nI (S 3)), gRe cA Br WR'_56 SE'_56 (nI (min (bfs S (S 0)).2 400)) (bI (decide ((bfs S (S 0)).2 = 401))) en'_56 fe'_56 le'_56] H := hP
                    have hD : DB AY [gFw cA Bf (Bw 0) (Bq 0) (Bh 0) (Bd 0) (Br 0) (Bo 0) (Bt 0) (Bs 0), gSa cA Bw (nI (S 0)) (nI (S 2)) (nI (S 4)) (nI (S 5)) L R LL RL TM (nI (S 1)) WW NN (nI (S 3)), gRe cA Br WR'_56 SE'_56 (nI (min (bfs S (S 0)).2 400)) (bI (decide ((bfs S (S 0)).2 = 401))) en'_56 fe'_56 le'_56] := hD
                    exact hret _ _ _ _ _ _ dX10_reached_173 ⟨WR'_56, SE'_56, ((nI (min (bfs S (S 0)).2 400))), ((bI (decide ((bfs S (S 0)).2 = 401)))), en'_56, fe'_56, le'_56, (by unfold reaZ; rw [if_neg hv, if_neg hB4, if_neg (by omega), if_neg (by omega), if_neg (by omega), c111, if_neg (by decide), c130, if_neg (by decide), if_pos (by omega)]), rfl⟩ hP.to hD.to hS
                · refine lv_aload_n hx hb dX10_reached_133 rfl (lv_at hl 2 rfl) ?_
                  refine va_get (D := D) (ci := 9) (v := .ref (Br 0)) (C := RX10) (T := TX10) (N := 8) hx hb hts hi_X10_reached_X10 hown hK (hP.blk 0 rfl) 0 rfl rfl 4 (by decide) (hts (.fieldLink RX10 36 "FallingWords" "reach" "LFallingWords$Reach;") (by decide +kernel)) (fun _ h9 => h9) rfl dX10_reached_134 ?_
                  refine va_getN (D := D) (ci := 2) (v := .int le'_56) (C := RX2) (T := TX2) (N := 7) hx hb hts hi_X10_reached_X2 hown hK (hP.blk 2 rfl) 0 rfl rfl 6 (by decide) (hN.fl (w := .fieldLinkNest RX10 180 "FallingWords$Reach" "lastEnd" "I" "FallingWords") (by decide +kernel)) (fun _ h9 => h9) rfl dX10_reached_137 ?_
                  refine xt (show le'_56 = nI ((enF S (bfs S (S 0)).1 (bfs S (S 0)).2).2.2) from le1) ?_
                  refine lv_iload_n hx hb dX10_reached_140 rfl (lv_at hl 3 rfl) ?_
                  refine lv_bipush (v := nI 30) hx hb dX10_reached_141 (by decide +kernel) ?_
                  refine lv_isub hx hb dX10_reached_143 ?_
                  refine bl_i (Ss := []) hP hD hS hA [] rfl (by decide) [] rfl (va_runSN (As := [.int (nI ((enF S (bfs S (S 0)).1 (bfs S (S 0)).2).2.2)), .int (x - (nI 30))]) (rest := []) h0 ((k_X9_letterOf lY D cA ((enF S (bfs S (S 0)).1 (bfs S (S 0)).2).2.2) (x - (nI 30)) (lev)) _) ⟨(va_cnB 2 hts gX10_reached_X9_letterOf_n100 rfl rfl rfl (hN (.methodLinkNest RX10 100 yX9_letterOf "FallingWords") (by decide +kernel)) (hts (.initialized RX9) (by decide +kernel)) (by decide +kernel) ⟨Nat.le_of_ble_eq_true rfl, Nat.le_of_ble_eq_true rfl⟩), hts (.static yX9_letterOf) (by decide +kernel), trivial⟩ ⟨pw_blind, bl_pre (Ss := []) hP hD hK hN [] rfl (by decide) [] rfl (by decide +kernel)⟩ rfl rfl hl.1 rfl (lv_room (Nat.le_of_ble_eq_true rfl)) dX10_reached_144 ⟨Nat.zero_le _, Nat.zero_le _⟩) (fun rY wY H locs hwY hJ hS => ?_)
                  obtain ⟨e1Y, e2Y⟩ := hwY
                  have e3Y := e1Y.symm
                  clear e1Y
                  subst e3Y
                  have e3Y := e2Y.symm
                  clear e2Y
                  subst e3Y
                  obtain ⟨hP, hD⟩ := hJ [] rfl rfl rfl
                  have hP : PB D [gFw cA Bf (Bw 0) (Bq 0) (Bh 0) (Bd 0) (Br 0) (Bo 0) (Bt 0) (Bs 0), gSa cA Bw (nI (S 0)) (nI (S 2)) (nI (S 4)) (nI (S 5)) L R LL RL TM (nI (S 1)) WW NN (nI (S 3)), gRe cA Br WR'_56 SE'_56 (nI (min (bfs S (S 0)).2 400)) (bI (decide ((bfs S (S 0)).2 = 401))) en'_56 fe'_56 le'_56] H := hP
                  have hD : DB AY [gFw cA Bf (Bw 0) (Bq 0) (Bh 0) (Bd 0) (Br 0) (Bo 0) (Bt 0) (Bs 0), gSa cA Bw (nI (S 0)) (nI (S 2)) (nI (S 4)) (nI (S 5)) L R LL RL TM (nI (S 1)) WW NN (nI (S 3)), gRe cA Br WR'_56 SE'_56 (nI (min (bfs S (S 0)).2 400)) (bI (decide ((bfs S (S 0)).2 = 401))) en'_56 fe'_56 le'_56] := hD
                  exact hret _ _ _ _ _ _ dX10_reached_147 ⟨WR'_56, SE'_56, ((nI (min (bfs S (S 0)).2 400))), ((bI (decide ((bfs S (S 0)).2 = 401)))), en'_56, fe'_56, le'_56, (by unfold reaZ; rw [if_neg hv, if_neg hB4, if_neg (by omega), if_neg (by omega), if_neg (by omega), c111, if_neg (by decide), if_pos c130]), rfl⟩ hP.to hD.to hS
              · refine lv_aload_n hx hb dX10_reached_114 rfl (lv_at hl 2 rfl) ?_
                refine va_get (D := D) (ci := 9) (v := .ref (Br 0)) (C := RX10) (T := TX10) (N := 8) hx hb hts hi_X10_reached_X10 hown hK (hP.blk 0 rfl) 0 rfl rfl 4 (by decide) (hts (.fieldLink RX10 36 "FallingWords" "reach" "LFallingWords$Reach;") (by decide +kernel)) (fun _ h9 => h9) rfl dX10_reached_115 ?_
                refine va_getN (D := D) (ci := 2) (v := .int fe'_56) (C := RX2) (T := TX2) (N := 7) hx hb hts hi_X10_reached_X2 hown hK (hP.blk 2 rfl) 0 rfl rfl 5 (by decide) (hN.fl (w := .fieldLinkNest RX10 177 "FallingWords$Reach" "firstEnd" "I" "FallingWords") (by decide +kernel)) (fun _ h9 => h9) rfl dX10_reached_118 ?_
                refine xt (show fe'_56 = nI ((enF S (bfs S (S 0)).1 (bfs S (S 0)).2).2.1) from fe1) ?_
                refine lv_iload_n hx hb dX10_reached_121 rfl (lv_at hl 3 rfl) ?_
                refine lv_bipush (v := nI 10) hx hb dX10_reached_122 (by decide +kernel) ?_
                refine lv_isub hx hb dX10_reached_124 ?_
                refine bl_i (Ss := []) hP hD hS hA [] rfl (by decide) [] rfl (va_runSN (As := [.int (nI ((enF S (bfs S (S 0)).1 (bfs S (S 0)).2).2.1)), .int (x - (nI 10))]) (rest := []) h0 ((k_X9_letterOf lY D cA ((enF S (bfs S (S 0)).1 (bfs S (S 0)).2).2.1) (x - (nI 10)) (fev)) _) ⟨(va_cnB 2 hts gX10_reached_X9_letterOf_n100 rfl rfl rfl (hN (.methodLinkNest RX10 100 yX9_letterOf "FallingWords") (by decide +kernel)) (hts (.initialized RX9) (by decide +kernel)) (by decide +kernel) ⟨Nat.le_of_ble_eq_true rfl, Nat.le_of_ble_eq_true rfl⟩), hts (.static yX9_letterOf) (by decide +kernel), trivial⟩ ⟨pw_blind, bl_pre (Ss := []) hP hD hK hN [] rfl (by decide) [] rfl (by decide +kernel)⟩ rfl rfl hl.1 rfl (lv_room (Nat.le_of_ble_eq_true rfl)) dX10_reached_125 ⟨Nat.zero_le _, Nat.zero_le _⟩) (fun rY wY H locs hwY hJ hS => ?_)
                obtain ⟨e1Y, e2Y⟩ := hwY
                have e3Y := e1Y.symm
                clear e1Y
                subst e3Y
                have e3Y := e2Y.symm
                clear e2Y
                subst e3Y
                obtain ⟨hP, hD⟩ := hJ [] rfl rfl rfl
                have hP : PB D [gFw cA Bf (Bw 0) (Bq 0) (Bh 0) (Bd 0) (Br 0) (Bo 0) (Bt 0) (Bs 0), gSa cA Bw (nI (S 0)) (nI (S 2)) (nI (S 4)) (nI (S 5)) L R LL RL TM (nI (S 1)) WW NN (nI (S 3)), gRe cA Br WR'_56 SE'_56 (nI (min (bfs S (S 0)).2 400)) (bI (decide ((bfs S (S 0)).2 = 401))) en'_56 fe'_56 le'_56] H := hP
                have hD : DB AY [gFw cA Bf (Bw 0) (Bq 0) (Bh 0) (Bd 0) (Br 0) (Bo 0) (Bt 0) (Bs 0), gSa cA Bw (nI (S 0)) (nI (S 2)) (nI (S 4)) (nI (S 5)) L R LL RL TM (nI (S 1)) WW NN (nI (S 3)), gRe cA Br WR'_56 SE'_56 (nI (min (bfs S (S 0)).2 400)) (bI (decide ((bfs S (S 0)).2 = 401))) en'_56 fe'_56 le'_56] := hD
                exact hret _ _ _ _ _ _ dX10_reached_128 ⟨WR'_56, SE'_56, ((nI (min (bfs S (S 0)).2 400))), ((bI (decide ((bfs S (S 0)).2 = 401)))), en'_56, fe'_56, le'_56, (by unfold reaZ; rw [if_neg hv, if_neg hB4, if_neg (by omega), if_neg (by omega), if_neg (by omega), if_pos c111]), rfl⟩ hP.to hD.to hS
            · refine lv_ldc (v := (-1000004)) hx hb hown (hts (.constant RX10 135 (-1000004)) (by decide +kernel)) dX10_reached_107 ?_
              exact hret _ _ _ _ _ _ dX10_reached_109 ⟨WR'_56, SE'_56, ((nI (min (bfs S (S 0)).2 400))), ((bI (decide ((bfs S (S 0)).2 = 401)))), en'_56, fe'_56, le'_56, (by unfold reaZ; rw [if_neg hv, if_neg hB4, if_neg (by omega), if_neg (by omega), if_pos (by omega)]), rfl⟩ hP.to hD.to hS
          · refine lv_aload_n hx hb dX10_reached_89 rfl (lv_at hl 2 rfl) ?_
            refine va_get (D := D) (ci := 9) (v := .ref (Br 0)) (C := RX10) (T := TX10) (N := 8) hx hb hts hi_X10_reached_X10 hown hK (hP.blk 0 rfl) 0 rfl rfl 4 (by decide) (hts (.fieldLink RX10 36 "FallingWords" "reach" "LFallingWords$Reach;") (by decide +kernel)) (fun _ h9 => h9) rfl dX10_reached_90 ?_
            refine va_getN (D := D) (ci := 2) (v := .int en'_56) (C := RX2) (T := TX2) (N := 7) hx hb hts hi_X10_reached_X2 hown hK (hP.blk 2 rfl) 0 rfl rfl 4 (by decide) (hN.fl (w := .fieldLinkNest RX10 174 "FallingWords$Reach" "ends" "I" "FallingWords") (by decide +kernel)) (fun _ h9 => h9) rfl dX10_reached_93 ?_
            refine xt (show en'_56 = nI ((enF S (bfs S (S 0)).1 (bfs S (S 0)).2).1) from en1) ?_
            exact hret _ _ _ _ _ _ dX10_reached_96 ⟨WR'_56, SE'_56, ((nI (min (bfs S (S 0)).2 400))), ((bI (decide ((bfs S (S 0)).2 = 401)))), en'_56, fe'_56, le'_56, (by unfold reaZ; rw [if_neg hv, if_neg hB4, if_neg (by omega), if_pos (by omega)]), rfl⟩ hP.to hD.to hS
        · refine lv_aload_n hx hb dX10_reached_76 rfl (lv_at hl 2 rfl) ?_
          refine va_get (D := D) (ci := 9) (v := .ref (Br 0)) (C := RX10) (T := TX10) (N := 8) hx hb hts hi_X10_reached_X10 hown hK (hP.blk 0 rfl) 0 rfl rfl 4 (by decide) (hts (.fieldLink RX10 36 "FallingWords" "reach" "LFallingWords$Reach;") (by decide +kernel)) (fun _ h9 => h9) rfl dX10_reached_77 ?_
          refine va_getN (D := D) (ci := 2) (v := .int (nI (min (bfs S (S 0)).2 400))) (C := RX2) (T := TX2) (N := 7) hx hb hts hi_X10_reached_X2 hown hK (hP.blk 2 rfl) 0 rfl rfl 2 (by decide) (hN.fl (w := .fieldLinkNest RX10 173 "FallingWords$Reach" "size" "I" "FallingWords") (by decide +kernel)) (fun _ h9 => h9) rfl dX10_reached_80 ?_
          refine xt (show nI (min (bfs S (S 0)).2 400) = nI ((bfs S (S 0)).2) from congrArg nI (by omega)) ?_
          exact hret _ _ _ _ _ _ dX10_reached_83 ⟨WR'_56, SE'_56, ((nI (min (bfs S (S 0)).2 400))), ((bI (decide ((bfs S (S 0)).2 = 401)))), en'_56, fe'_56, le'_56, (by unfold reaZ; rw [if_neg hv, if_neg hB4, if_pos (by omega)]), rfl⟩ hP.to hD.to hS
      · refine lv_ldc (v := (-1000003)) hx hb hown (hts (.constant RX10 172 (-1000003)) (by decide +kernel)) dX10_reached_69 ?_
        exact hret _ _ _ _ _ _ dX10_reached_71 ⟨WR'_56, SE'_56, ((nI (min (bfs S (S 0)).2 400))), ((bI (decide ((bfs S (S 0)).2 = 401)))), en'_56, fe'_56, le'_56, (by unfold reaZ; rw [if_neg hv, if_pos (of_decide_eq_true c66)]), rfl⟩ hP.to hD.to hS
    exact L38  (fun h => by rw [c19] at h; cases h.1) _ _ _ hP hD hS hl
  · refine lv_iload_n hx hb dX10_reached_22 rfl (lv_at hl 0 rfl) ?_
    refine xb_ne (tgt := 38) hx hb dX10_reached_23 (by decide) (fun c23 => ?_) (fun c23 => ?_)
    · have L38 :  (¬ (isL x 10 12 = false ∧ isL x 30 12 = false ∧ ¬ (0 ≤ x.toInt ∧ x.toInt ≤ 3))) → ∀ (H : Heap) (locs : List Loc) (ls : Array Slot), PB D [gFw cA Bf (Bw 0) (Bq 0) (Bh 0) (Bd 0) (Br 0) (Bo 0) (Bt 0) (Bs 0), gSa cA Bw (nI (S 0)) (nI (S 2)) (nI (S 4)) (nI (S 5)) L R LL RL TM (nI (S 1)) WW NN (nI (S 3)), gRe cA Br WR SE nz tm en fe le] H → DB AY [gFw cA Bf (Bw 0) (Bq 0) (Bh 0) (Bd 0) (Br 0) (Bo 0) (Bt 0) (Bs 0), gSa cA Bw (nI (S 0)) (nI (S 2)) (nI (S 4)) (nI (S 5)) L R LL RL TM (nI (S 1)) WW NN (nI (S 3)), gRe cA Br WR SE nz tm en fe le] → va_S AY sY.heap H locs → lv_has ls 4 [(3, .int (bI (isL x 30 12))), (2, .int (bI (isL x 10 12))), (0, .ref (Bf 0)), (1, .int x)] → W pY lY eY { frames := 4, cells := 0, slots := 0, locals := 99 } sY mY aY bY tY cY H locs 0 0 QY (F0 mY 38 ls []) := by
        intro hv H locs ls hP hD hS hl
        refine lv_aload_n hx hb dX10_reached_38 rfl (lv_at hl 2 rfl) ?_
        refine va_get (D := D) (ci := 9) (v := .ref (Br 0)) (C := RX10) (T := TX10) (N := 8) hx hb hts hi_X10_reached_X10 hown hK (hP.blk 0 rfl) 0 rfl rfl 4 (by decide) (hts (.fieldLink RX10 36 "FallingWords" "reach" "LFallingWords$Reach;") (by decide +kernel)) (fun _ h9 => h9) rfl dX10_reached_39 ?_
        refine lv_aload_n hx hb dX10_reached_42 rfl (lv_at hl 2 rfl) ?_
        refine va_get (D := D) (ci := 9) (v := .ref (Bw 0)) (C := RX10) (T := TX10) (N := 8) hx hb hts hi_X10_reached_X10 hown hK (hP.blk 0 rfl) 0 rfl rfl 0 (by decide) (hts (.fieldLink RX10 10 "FallingWords" "now" "LFallingWords$State;") (by decide +kernel)) (fun _ h9 => h9) rfl dX10_reached_43 ?_
        refine va_getN (D := D) (ci := 6) (v := .ref (Bw 1)) (C := RX6) (T := TX6) (N := 6) hx hb hts hi_X10_reached_X6 hown hK (hP.blk 1 rfl) 0 rfl rfl 0 (by decide) (hN.fl (w := .fieldLinkNest RX10 61 "FallingWords$State" "rules" "LFallingWords$Rules;" "FallingWords") (by decide +kernel)) (fun _ h9 => h9) rfl dX10_reached_46 ?_
        refine lv_aload_n hx hb dX10_reached_49 rfl (lv_at hl 2 rfl) ?_
        refine va_get (D := D) (ci := 9) (v := .ref (Bw 0)) (C := RX10) (T := TX10) (N := 8) hx hb hts hi_X10_reached_X10 hown hK (hP.blk 0 rfl) 0 rfl rfl 0 (by decide) (hts (.fieldLink RX10 10 "FallingWords" "now" "LFallingWords$State;") (by decide +kernel)) (fun _ h9 => h9) rfl dX10_reached_50 ?_
        refine va_getN (D := D) (ci := 6) (v := .int (nI (S 0))) (C := RX6) (T := TX6) (N := 6) hx hb hts hi_X10_reached_X6 hown hK (hP.blk 1 rfl) 0 rfl rfl 2 (by decide) (hN.fl (w := .fieldLinkNest RX10 115 "FallingWords$State" "word" "I" "FallingWords") (by decide +kernel)) (fun _ h9 => h9) rfl dX10_reached_53 ?_
        refine bl_v (Ss := [gRe cA Br WR SE nz tm en fe le, gSa cA Bw (nI (S 0)) (nI (S 2)) (nI (S 4)) (nI (S 5)) L R LL RL TM (nI (S 1)) WW NN (nI (S 3))]) hP hD hS hA [2, 1] rfl (by decide) [0, 1, 2, 4, 5, 6, 7, 8, 9] rfl (va_runVN (As := [.ref (Bw 1), .int (nI (S 0))]) (rest := []) h0 ((k_X2_run lY D cA Br (fun i => Bw (i + 1)) WR SE nz tm en fe le S L R LL RL TM (S 0) (hIR) (hr) (hw)) _) ⟨(va_cnB 2 hts gX10_reached_X2_run_n165 rfl rfl rfl (hN (.methodLinkNest RX10 165 yX2_run "FallingWords") (by decide +kernel)) (hts (.initialized RX2) (by decide +kernel)) (by decide +kernel) ⟨Nat.le_of_ble_eq_true rfl, Nat.le_of_ble_eq_true rfl⟩), hts (.instanceMethod yX2_run) (by decide +kernel), hts (.selects RX2 yX2_run yX2_run) (by decide +kernel)⟩ ⟨pw_blind, bl_recv (ci := 2) (q := (RX2, TX2, 7)) (i := 2) (q0 := 0) hP hK rfl rfl rfl, bl_pre (Ss := [gRe cA Br WR SE nz tm en fe le, gSa cA Bw (nI (S 0)) (nI (S 2)) (nI (S 4)) (nI (S 5)) L R LL RL TM (nI (S 1)) WW NN (nI (S 3))]) hP hD hK hN [2, 1] rfl (by decide) [0, 1, 2, 4, 5, 6, 7, 8, 9] rfl (by decide +kernel)⟩ rfl rfl hl.1 rfl (lv_room (Nat.le_of_ble_eq_true rfl)) dX10_reached_56 ⟨Nat.zero_le _, Nat.zero_le _⟩) (fun wY H locs hwY hJ hS => ?_)
        obtain ⟨WR'_56, SE'_56, en'_56, fe'_56, le'_56, e2Y, fr_56, fe2_56⟩ := hwY
        have e3Y := e2Y.symm
        clear e2Y
        subst e3Y
        obtain ⟨hP, hD⟩ := hJ [gRe cA Br WR'_56 SE'_56 (nI (min (bfs S (S 0)).2 400)) (bI (decide ((bfs S (S 0)).2 = 401))) en'_56 fe'_56 le'_56, gSa cA Bw (nI (S 0)) (nI (S 2)) (nI (S 4)) (nI (S 5)) L R LL RL TM (nI (S 1)) WW NN (nI (S 3))] rfl rfl rfl
        have hP : PB D [gFw cA Bf (Bw 0) (Bq 0) (Bh 0) (Bd 0) (Br 0) (Bo 0) (Bt 0) (Bs 0), gSa cA Bw (nI (S 0)) (nI (S 2)) (nI (S 4)) (nI (S 5)) L R LL RL TM (nI (S 1)) WW NN (nI (S 3)), gRe cA Br WR'_56 SE'_56 (nI (min (bfs S (S 0)).2 400)) (bI (decide ((bfs S (S 0)).2 = 401))) en'_56 fe'_56 le'_56] H := hP
        have hD : DB AY [gFw cA Bf (Bw 0) (Bq 0) (Bh 0) (Bd 0) (Br 0) (Bo 0) (Bt 0) (Bs 0), gSa cA Bw (nI (S 0)) (nI (S 2)) (nI (S 4)) (nI (S 5)) L R LL RL TM (nI (S 1)) WW NN (nI (S 3)), gRe cA Br WR'_56 SE'_56 (nI (min (bfs S (S 0)).2 400)) (bI (decide ((bfs S (S 0)).2 = 401))) en'_56 fe'_56 le'_56] := hD
        refine lv_aload_n hx hb dX10_reached_59 rfl (lv_at hl 2 rfl) ?_
        refine va_get (D := D) (ci := 9) (v := .ref (Br 0)) (C := RX10) (T := TX10) (N := 8) hx hb hts hi_X10_reached_X10 hown hK (hP.blk 0 rfl) 0 rfl rfl 4 (by decide) (hts (.fieldLink RX10 36 "FallingWords" "reach" "LFallingWords$Reach;") (by decide +kernel)) (fun _ h9 => h9) rfl dX10_reached_60 ?_
        refine va_getN (D := D) (ci := 2) (v := .int (bI (decide ((bfs S (S 0)).2 = 401)))) (C := RX2) (T := TX2) (N := 7) hx hb hts hi_X10_reached_X2 hown hK (hP.blk 2 rfl) 0 rfl rfl 3 (by decide) (hN.fl (w := .fieldLinkNest RX10 168 "FallingWords$Reach" "tooMany" "Z" "FallingWords") (by decide +kernel)) (fun _ h9 => h9) rfl dX10_reached_63 ?_
        refine xb_eq (tgt := 72) hx hb dX10_reached_66 (by decide) (fun c66 => ?_) (fun c66 => ?_)
        · have hB4 := of_decide_eq_false c66
          have hB5 := fr_56.1
          have hB6 := enF_le (S := S) (f := (bfs S (S 0)).1) (bfs S (S 0)).2
          obtain ⟨en1, en2⟩ := fe2_56 (by omega)
          have env := enF_vw (S := S) (f := (bfs S (S 0)).1) (bfs S (S 0)).2 fr_56.2.2.1
          refine lv_iload_n hx hb dX10_reached_72 rfl (lv_at hl 3 rfl) ?_
          refine xz_ne (tgt := 84) hx hb dX10_reached_73 (by decide) (fun c73 => ?_) (fun c73 => ?_)
          · refine lv_iload_n hx hb dX10_reached_84 rfl (lv_at hl 3 rfl) ?_
            refine lv_iconst (v := nI 1) hx hb dX10_reached_85 (by decide +kernel) ?_
            refine xr_ne (tgt := 97) hx hb dX10_reached_86 (by decide) (fun c86 => ?_) (fun c86 => ?_)
            · refine lv_aload_n hx hb dX10_reached_97 rfl (lv_at hl 2 rfl) ?_
              refine va_get (D := D) (ci := 9) (v := .ref (Br 0)) (C := RX10) (T := TX10) (N := 8) hx hb hts hi_X10_reached_X10 hown hK (hP.blk 0 rfl) 0 rfl rfl 4 (by decide) (hts (.fieldLink RX10 36 "FallingWords" "reach" "LFallingWords$Reach;") (by decide +kernel)) (fun _ h9 => h9) rfl dX10_reached_98 ?_
              refine va_getN (D := D) (ci := 2) (v := .int en'_56) (C := RX2) (T := TX2) (N := 7) hx hb hts hi_X10_reached_X2 hown hK (hP.blk 2 rfl) 0 rfl rfl 4 (by decide) (hN.fl (w := .fieldLinkNest RX10 174 "FallingWords$Reach" "ends" "I" "FallingWords") (by decide +kernel)) (fun _ h9 => h9) rfl dX10_reached_101 ?_
              refine xt (show en'_56 = nI ((enF S (bfs S (S 0)).1 (bfs S (S 0)).2).1) from en1) ?_
              refine x0_ne (tgt := 110) hx hb dX10_reached_104 (by decide) (by omega) (fun c104 => ?_) (fun c104 => ?_)
              · have hpos : 0 < (enF S (bfs S (S 0)).1 (bfs S (S 0)).2).1 := by omega
                obtain ⟨fe1, le1, -, -⟩ := en2 hpos
                obtain ⟨fev, lev⟩ := env hpos
                refine lv_iload_n hx hb dX10_reached_110 rfl (lv_at hl 1 rfl) ?_
                refine xb_eq (tgt := 129) hx hb dX10_reached_111 (by decide) (fun c111 => ?_) (fun c111 => ?_)
                · refine lv_iload_n hx hb dX10_reached_129 rfl (lv_at hl 0 rfl) ?_
                  refine xb_eq (tgt := 148) hx hb dX10_reached_130 (by decide) (fun c130 => ?_) (fun c130 => ?_)
                  · refine lv_iload_n hx hb dX10_reached_148 rfl (lv_at hl 3 rfl) ?_
                    refine lv_iconst (v := nI 2) hx hb dX10_reached_149 (by decide +kernel) ?_
                    refine xr_ne (tgt := 163) hx hb dX10_reached_150 (by decide) (fun c150 => ?_) (fun c150 => ?_)
                    · refine lv_aload_n hx hb dX10_reached_163 rfl (lv_at hl 2 rfl) ?_
                      refine va_get (D := D) (ci := 9) (v := .ref (Br 0)) (C := RX10) (T := TX10) (N := 8) hx hb hts hi_X10_reached_X10 hown hK (hP.blk 0 rfl) 0 rfl rfl 4 (by decide) (hts (.fieldLink RX10 36 "FallingWords" "reach" "LFallingWords$Reach;") (by decide +kernel)) (fun _ h9 => h9) rfl dX10_reached_164 ?_
                      refine va_getN (D := D) (ci := 2) (v := .int le'_56) (C := RX2) (T := TX2) (N := 7) hx hb hts hi_X10_reached_X2 hown hK (hP.blk 2 rfl) 0 rfl rfl 6 (by decide) (hN.fl (w := .fieldLinkNest RX10 180 "FallingWords$Reach" "lastEnd" "I" "FallingWords") (by decide +kernel)) (fun _ h9 => h9) rfl dX10_reached_167 ?_
                      refine xt (show le'_56 = nI ((enF S (bfs S (S 0)).1 (bfs S (S 0)).2).2.2) from le1) ?_
                      refine bl_i (Ss := []) hP hD hS hA [] rfl (by decide) [] rfl (va_runSN (As := [.int (nI ((enF S (bfs S (S 0)).1 (bfs S (S 0)).2).2.2))]) (rest := []) h0 ((k_X9_lengthOf lY D cA ((enF S (bfs S (S 0)).1 (bfs S (S 0)).2).2.2) (lev.1) (by have := lev.2; omega)) _) ⟨(va_cnB 1 hts gX10_reached_X9_lengthOf_n159 rfl rfl rfl (hN (.methodLinkNest RX10 159 yX9_lengthOf "FallingWords") (by decide +kernel)) (hts (.initialized RX9) (by decide +kernel)) (by decide +kernel) ⟨Nat.le_of_ble_eq_true rfl, Nat.le_of_ble_eq_true rfl⟩), hts (.static yX9_lengthOf) (by decide +kernel), trivial⟩ ⟨pw_blind, bl_pre (Ss := []) hP hD hK hN [] rfl (by decide) [] rfl (by decide +kernel)⟩ rfl rfl hl.1 rfl (lv_room (Nat.le_of_ble_eq_true rfl)) dX10_reached_170 ⟨Nat.zero_le _, Nat.zero_le _⟩) (fun rY wY H locs hwY hJ hS => ?_)
                      obtain ⟨e1Y, e2Y⟩ := hwY
                      have e3Y := e1Y.symm
                      clear e1Y
                      subst e3Y
                      have e3Y := e2Y.symm
                      clear e2Y
                      subst e3Y
                      obtain ⟨hP, hD⟩ := hJ [] rfl rfl rfl
                      have hP : PB D [gFw cA Bf (Bw 0) (Bq 0) (Bh 0) (Bd 0) (Br 0) (Bo 0) (Bt 0) (Bs 0), gSa cA Bw (nI (S 0)) (nI (S 2)) (nI (S 4)) (nI (S 5)) L R LL RL TM (nI (S 1)) WW NN (nI (S 3)), gRe cA Br WR'_56 SE'_56 (nI (min (bfs S (S 0)).2 400)) (bI (decide ((bfs S (S 0)).2 = 401))) en'_56 fe'_56 le'_56] H := hP
                      have hD : DB AY [gFw cA Bf (Bw 0) (Bq 0) (Bh 0) (Bd 0) (Br 0) (Bo 0) (Bt 0) (Bs 0), gSa cA Bw (nI (S 0)) (nI (S 2)) (nI (S 4)) (nI (S 5)) L R LL RL TM (nI (S 1)) WW NN (nI (S 3)), gRe cA Br WR'_56 SE'_56 (nI (min (bfs S (S 0)).2 400)) (bI (decide ((bfs S (S 0)).2 = 401))) en'_56 fe'_56 le'_56] := hD
                      exact hret _ _ _ _ _ _ dX10_reached_173 ⟨WR'_56, SE'_56, ((nI (min (bfs S (S 0)).2 400))), ((bI (decide ((bfs S (S 0)).2 = 401)))), en'_56, fe'_56, le'_56, (by unfold reaZ; rw [if_neg hv, if_neg hB4, if_neg (by omega), if_neg (by omega), if_neg (by omega), c111, if_neg (by decide), c130, if_neg (by decide), if_neg (by omega)]), rfl⟩ hP.to hD.to hS
                    · refine lv_aload_n hx hb dX10_reached_153 rfl (lv_at hl 2 rfl) ?_
                      refine va_get (D := D) (ci := 9) (v := .ref (Br 0)) (C := RX10) (T := TX10) (N := 8) hx hb hts hi_X10_reached_X10 hown hK (hP.blk 0 rfl) 0 rfl rfl 4 (by decide) (hts (.fieldLink RX10 36 "FallingWords" "reach" "LFallingWords$Reach;") (by decide +kernel)) (fun _ h9 => h9) rfl dX10_reached_154 ?_
                      refine va_getN (D := D) (ci := 2) (v := .int fe'_56) (C := RX2) (T := TX2) (N := 7) hx hb hts hi_X10_reached_X2 hown hK (hP.blk 2 rfl) 0 rfl rfl 5 (by decide) (hN.fl (w := .fieldLinkNest RX10 177 "FallingWords$Reach" "firstEnd" "I" "FallingWords") (by decide +kernel)) (fun _ h9 => h9) rfl dX10_reached_157 ?_
                      refine xt (show fe'_56 = nI ((enF S (bfs S (S 0)).1 (bfs S (S 0)).2).2.1) from fe1) ?_
                      refine lv_goto (tgt := 170) hx hb dX10_reached_160 (by decide) ?_
                      refine bl_i (Ss := []) hP hD hS hA [] rfl (by decide) [] rfl (va_runSN (As := [.int (nI ((enF S (bfs S (S 0)).1 (bfs S (S 0)).2).2.1))]) (rest := []) h0 ((k_X9_lengthOf lY D cA ((enF S (bfs S (S 0)).1 (bfs S (S 0)).2).2.1) (fev.1) (by have := fev.2; omega)) _) ⟨(va_cnB 1 hts gX10_reached_X9_lengthOf_n159 rfl rfl rfl (hN (.methodLinkNest RX10 159 yX9_lengthOf "FallingWords") (by decide +kernel)) (hts (.initialized RX9) (by decide +kernel)) (by decide +kernel) ⟨Nat.le_of_ble_eq_true rfl, Nat.le_of_ble_eq_true rfl⟩), hts (.static yX9_lengthOf) (by decide +kernel), trivial⟩ ⟨pw_blind, bl_pre (Ss := []) hP hD hK hN [] rfl (by decide) [] rfl (by decide +kernel)⟩ rfl rfl hl.1 rfl (lv_room (Nat.le_of_ble_eq_true rfl)) dX10_reached_170 ⟨Nat.zero_le _, Nat.zero_le _⟩) (fun rY wY H locs hwY hJ hS => ?_)
                      obtain ⟨e1Y, e2Y⟩ := hwY
                      have e3Y := e1Y.symm
                      clear e1Y
                      subst e3Y
                      have e3Y := e2Y.symm
                      clear e2Y
                      subst e3Y
                      obtain ⟨hP, hD⟩ := hJ [] rfl rfl rfl
                      have hP : PB D [gFw cA Bf (Bw 0) (Bq 0) (Bh 0) (Bd 0) (Br 0) (Bo 0) (Bt 0) (Bs 0), gSa cA Bw (nI (S 0)) (nI (S 2)) (nI (S 4)) (nI (S 5)) L R LL RL TM (nI (S 1)) WW NN (nI (S 3)), gRe cA Br WR'_56 SE'_56 (nI (min (bfs S (S 0)).2 400)) (bI (decide ((bfs S (S 0)).2 = 401))) en'_56 fe'_56 le'_56] H := hP
                      have hD : DB AY [gFw cA Bf (Bw 0) (Bq 0) (Bh 0) (Bd 0) (Br 0) (Bo 0) (Bt 0) (Bs 0), gSa cA Bw (nI (S 0)) (nI (S 2)) (nI (S 4)) (nI (S 5)) L R LL RL TM (nI (S 1)) WW NN (nI (S 3)), gRe cA Br WR'_56 SE'_56 (nI (min (bfs S (S 0)).2 400)) (bI (decide ((bfs S (S 0)).2 = 401))) en'_56 fe'_56 le'_56] := hD
                      exact hret _ _ _ _ _ _ dX10_reached_173 ⟨WR'_56, SE'_56, ((nI (min (bfs S (S 0)).2 400))), ((bI (decide ((bfs S (S 0)).2 = 401)))), en'_56, fe'_56, le'_56, (by unfold reaZ; rw [if_neg hv, if_neg hB4, if_neg (by omega), if_neg (by omega), if_neg (by omega), c111, if_neg (by decide), c130, if_neg (by decide), if_pos (by omega)]), rfl⟩ hP.to hD.to hS
                  · refine lv_aload_n hx hb dX10_reached_133 rfl (lv_at hl 2 rfl) ?_
                    refine va_get (D := D) (ci := 9) (v := .ref (Br 0)) (C := RX10) (T := TX10) (N := 8) hx hb hts hi_X10_reached_X10 hown hK (hP.blk 0 rfl) 0 rfl rfl 4 (by decide) (hts (.fieldLink RX10 36 "FallingWords" "reach" "LFallingWords$Reach;") (by decide +kernel)) (fun _ h9 => h9) rfl dX10_reached_134 ?_
                    refine va_getN (D := D) (ci := 2) (v := .int le'_56) (C := RX2) (T := TX2) (N := 7) hx hb hts hi_X10_reached_X2 hown hK (hP.blk 2 rfl) 0 rfl rfl 6 (by decide) (hN.fl (w := .fieldLinkNest RX10 180 "FallingWords$Reach" "lastEnd" "I" "FallingWords") (by decide +kernel)) (fun _ h9 => h9) rfl dX10_reached_137 ?_
                    refine xt (show le'_56 = nI ((enF S (bfs S (S 0)).1 (bfs S (S 0)).2).2.2) from le1) ?_
                    refine lv_iload_n hx hb dX10_reached_140 rfl (lv_at hl 3 rfl) ?_
                    refine lv_bipush (v := nI 30) hx hb dX10_reached_141 (by decide +kernel) ?_
                    refine lv_isub hx hb dX10_reached_143 ?_
                    refine bl_i (Ss := []) hP hD hS hA [] rfl (by decide) [] rfl (va_runSN (As := [.int (nI ((enF S (bfs S (S 0)).1 (bfs S (S 0)).2).2.2)), .int (x - (nI 30))]) (rest := []) h0 ((k_X9_letterOf lY D cA ((enF S (bfs S (S 0)).1 (bfs S (S 0)).2).2.2) (x - (nI 30)) (lev)) _) ⟨(va_cnB 2 hts gX10_reached_X9_letterOf_n100 rfl rfl rfl (hN (.methodLinkNest RX10 100 yX9_letterOf "FallingWords") (by decide +kernel)) (hts (.initialized RX9) (by decide +kernel)) (by decide +kernel) ⟨Nat.le_of_ble_eq_true rfl, Nat.le_of_ble_eq_true rfl⟩), hts (.static yX9_letterOf) (by decide +kernel), trivial⟩ ⟨pw_blind, bl_pre (Ss := []) hP hD hK hN [] rfl (by decide) [] rfl (by decide +kernel)⟩ rfl rfl hl.1 rfl (lv_room (Nat.le_of_ble_eq_true rfl)) dX10_reached_144 ⟨Nat.zero_le _, Nat.zero_le _⟩) (fun rY wY H locs hwY hJ hS => ?_)
                    obtain ⟨e1Y, e2Y⟩ := hwY
                    have e3Y := e1Y.symm
                    clear e1Y
                    subst e3Y
                    have e3Y := e2Y.symm
                    clear e2Y
                    subst e3Y
                    obtain ⟨hP, hD⟩ := hJ [] rfl rfl rfl
                    have hP : PB D [gFw cA Bf (Bw 0) (Bq 0) (Bh 0) (Bd 0) (Br 0) (Bo 0) (Bt 0) (Bs 0), gSa cA Bw (nI (S 0)) (nI (S 2)) (nI (S 4)) (nI (S 5)) L R LL RL TM (nI (S 1)) WW NN (nI (S 3)), gRe cA Br WR'_56 SE'_56 (nI (min (bfs S (S 0)).2 400)) (bI (decide ((bfs S (S 0)).2 = 401))) en'_56 fe'_56 le'_56] H := hP
                    have hD : DB AY [gFw cA Bf (Bw 0) (Bq 0) (Bh 0) (Bd 0) (Br 0) (Bo 0) (Bt 0) (Bs 0), gSa cA Bw (nI (S 0)) (nI (S 2)) (nI (S 4)) (nI (S 5)) L R LL RL TM (nI (S 1)) WW NN (nI (S 3)), gRe cA Br WR'_56 SE'_56 (nI (min (bfs S (S 0)).2 400)) (bI (decide ((bfs S (S 0)).2 = 401))) en'_56 fe'_56 le'_56] := hD
                    exact hret _ _ _ _ _ _ dX10_reached_147 ⟨WR'_56, SE'_56, ((nI (min (bfs S (S 0)).2 400))), ((bI (decide ((bfs S (S 0)).2 = 401)))), en'_56, fe'_56, le'_56, (by unfold reaZ; rw [if_neg hv, if_neg hB4, if_neg (by omega), if_neg (by omega), if_neg (by omega), c111, if_neg (by decide), if_pos c130]), rfl⟩ hP.to hD.to hS
                · refine lv_aload_n hx hb dX10_reached_114 rfl (lv_at hl 2 rfl) ?_
                  refine va_get (D := D) (ci := 9) (v := .ref (Br 0)) (C := RX10) (T := TX10) (N := 8) hx hb hts hi_X10_reached_X10 hown hK (hP.blk 0 rfl) 0 rfl rfl 4 (by decide) (hts (.fieldLink RX10 36 "FallingWords" "reach" "LFallingWords$Reach;") (by decide +kernel)) (fun _ h9 => h9) rfl dX10_reached_115 ?_
                  refine va_getN (D := D) (ci := 2) (v := .int fe'_56) (C := RX2) (T := TX2) (N := 7) hx hb hts hi_X10_reached_X2 hown hK (hP.blk 2 rfl) 0 rfl rfl 5 (by decide) (hN.fl (w := .fieldLinkNest RX10 177 "FallingWords$Reach" "firstEnd" "I" "FallingWords") (by decide +kernel)) (fun _ h9 => h9) rfl dX10_reached_118 ?_
                  refine xt (show fe'_56 = nI ((enF S (bfs S (S 0)).1 (bfs S (S 0)).2).2.1) from fe1) ?_
                  refine lv_iload_n hx hb dX10_reached_121 rfl (lv_at hl 3 rfl) ?_
                  refine lv_bipush (v := nI 10) hx hb dX10_reached_122 (by decide +kernel) ?_
                  refine lv_isub hx hb dX10_reached_124 ?_
                  refine bl_i (Ss := []) hP hD hS hA [] rfl (by decide) [] rfl (va_runSN (As := [.int (nI ((enF S (bfs S (S 0)).1 (bfs S (S 0)).2).2.1)), .int (x - (nI 10))]) (rest := []) h0 ((k_X9_letterOf lY D cA ((enF S (bfs S (S 0)).1 (bfs S (S 0)).2).2.1) (x - (nI 10)) (fev)) _) ⟨(va_cnB 2 hts gX10_reached_X9_letterOf_n100 rfl rfl rfl (hN (.methodLinkNest RX10 100 yX9_letterOf "FallingWords") (by decide +kernel)) (hts (.initialized RX9) (by decide +kernel)) (by decide +kernel) ⟨Nat.le_of_ble_eq_true rfl, Nat.le_of_ble_eq_true rfl⟩), hts (.static yX9_letterOf) (by decide +kernel), trivial⟩ ⟨pw_blind, bl_pre (Ss := []) hP hD hK hN [] rfl (by decide) [] rfl (by decide +kernel)⟩ rfl rfl hl.1 rfl (lv_room (Nat.le_of_ble_eq_true rfl)) dX10_reached_125 ⟨Nat.zero_le _, Nat.zero_le _⟩) (fun rY wY H locs hwY hJ hS => ?_)
                  obtain ⟨e1Y, e2Y⟩ := hwY
                  have e3Y := e1Y.symm
                  clear e1Y
                  subst e3Y
                  have e3Y := e2Y.symm
                  clear e2Y
                  subst e3Y
                  obtain ⟨hP, hD⟩ := hJ [] rfl rfl rfl
                  have hP : PB D [gFw cA Bf (Bw 0) (Bq 0) (Bh 0) (Bd 0) (Br 0) (Bo 0) (Bt 0) (Bs 0), gSa cA Bw (nI (S 0)) (nI (S 2)) (nI (S 4)) (nI (S 5)) L R LL RL TM (nI (S 1)) WW NN (nI (S 3)), gRe cA Br WR'_56 SE'_56 (nI (min (bfs S (S 0)).2 400)) (bI (decide ((bfs S (S 0)).2 = 401))) en'_56 fe'_56 le'_56] H := hP
                  have hD : DB AY [gFw cA Bf (Bw 0) (Bq 0) (Bh 0) (Bd 0) (Br 0) (Bo 0) (Bt 0) (Bs 0), gSa cA Bw (nI (S 0)) (nI (S 2)) (nI (S 4)) (nI (S 5)) L R LL RL TM (nI (S 1)) WW NN (nI (S 3)), gRe cA Br WR'_56 SE'_56 (nI (min (bfs S (S 0)).2 400)) (bI (decide ((bfs S (S 0)).2 = 401))) en'_56 fe'_56 le'_56] := hD
                  exact hret _ _ _ _ _ _ dX10_reached_128 ⟨WR'_56, SE'_56, ((nI (min (bfs S (S 0)).2 400))), ((bI (decide ((bfs S (S 0)).2 = 401)))), en'_56, fe'_56, le'_56, (by unfold reaZ; rw [if_neg hv, if_neg hB4, if_neg (by omega), if_neg (by omega), if_neg (by omega), if_pos c111]), rfl⟩ hP.to hD.to hS
              · refine lv_ldc (v := (-1000004)) hx hb hown (hts (.constant RX10 135 (-1000004)) (by decide +kernel)) dX10_reached_107 ?_
                exact hret _ _ _ _ _ _ dX10_reached_109 ⟨WR'_56, SE'_56, ((nI (min (bfs S (S 0)).2 400))), ((bI (decide ((bfs S (S 0)).2 = 401)))), en'_56, fe'_56, le'_56, (by unfold reaZ; rw [if_neg hv, if_neg hB4, if_neg (by omega), if_neg (by omega), if_pos (by omega)]), rfl⟩ hP.to hD.to hS
            · refine lv_aload_n hx hb dX10_reached_89 rfl (lv_at hl 2 rfl) ?_
              refine va_get (D := D) (ci := 9) (v := .ref (Br 0)) (C := RX10) (T := TX10) (N := 8) hx hb hts hi_X10_reached_X10 hown hK (hP.blk 0 rfl) 0 rfl rfl 4 (by decide) (hts (.fieldLink RX10 36 "FallingWords" "reach" "LFallingWords$Reach;") (by decide +kernel)) (fun _ h9 => h9) rfl dX10_reached_90 ?_
              refine va_getN (D := D) (ci := 2) (v := .int en'_56) (C := RX2) (T := TX2) (N := 7) hx hb hts hi_X10_reached_X2 hown hK (hP.blk 2 rfl) 0 rfl rfl 4 (by decide) (hN.fl (w := .fieldLinkNest RX10 174 "FallingWords$Reach" "ends" "I" "FallingWords") (by decide +kernel)) (fun _ h9 => h9) rfl dX10_reached_93 ?_
              refine xt (show en'_56 = nI ((enF S (bfs S (S 0)).1 (bfs S (S 0)).2).1) from en1) ?_
              exact hret _ _ _ _ _ _ dX10_reached_96 ⟨WR'_56, SE'_56, ((nI (min (bfs S (S 0)).2 400))), ((bI (decide ((bfs S (S 0)).2 = 401)))), en'_56, fe'_56, le'_56, (by unfold reaZ; rw [if_neg hv, if_neg hB4, if_neg (by omega), if_pos (by omega)]), rfl⟩ hP.to hD.to hS
          · refine lv_aload_n hx hb dX10_reached_76 rfl (lv_at hl 2 rfl) ?_
            refine va_get (D := D) (ci := 9) (v := .ref (Br 0)) (C := RX10) (T := TX10) (N := 8) hx hb hts hi_X10_reached_X10 hown hK (hP.blk 0 rfl) 0 rfl rfl 4 (by decide) (hts (.fieldLink RX10 36 "FallingWords" "reach" "LFallingWords$Reach;") (by decide +kernel)) (fun _ h9 => h9) rfl dX10_reached_77 ?_
            refine va_getN (D := D) (ci := 2) (v := .int (nI (min (bfs S (S 0)).2 400))) (C := RX2) (T := TX2) (N := 7) hx hb hts hi_X10_reached_X2 hown hK (hP.blk 2 rfl) 0 rfl rfl 2 (by decide) (hN.fl (w := .fieldLinkNest RX10 173 "FallingWords$Reach" "size" "I" "FallingWords") (by decide +kernel)) (fun _ h9 => h9) rfl dX10_reached_80 ?_
            refine xt (show nI (min (bfs S (S 0)).2 400) = nI ((bfs S (S 0)).2) from congrArg nI (by omega)) ?_
            exact hret _ _ _ _ _ _ dX10_reached_83 ⟨WR'_56, SE'_56, ((nI (min (bfs S (S 0)).2 400))), ((bI (decide ((bfs S (S 0)).2 = 401)))), en'_56, fe'_56, le'_56, (by unfold reaZ; rw [if_neg hv, if_neg hB4, if_pos (by omega)]), rfl⟩ hP.to hD.to hS
        · refine lv_ldc (v := (-1000003)) hx hb hown (hts (.constant RX10 172 (-1000003)) (by decide +kernel)) dX10_reached_69 ?_
          exact hret _ _ _ _ _ _ dX10_reached_71 ⟨WR'_56, SE'_56, ((nI (min (bfs S (S 0)).2 400))), ((bI (decide ((bfs S (S 0)).2 = 401)))), en'_56, fe'_56, le'_56, (by unfold reaZ; rw [if_neg hv, if_pos (of_decide_eq_true c66)]), rfl⟩ hP.to hD.to hS
      exact L38  (fun h => by rw [c23] at h; cases h.2.1) _ _ _ hP hD hS hl
    · refine lv_iload_n hx hb dX10_reached_26 rfl (lv_at hl 3 rfl) ?_
      refine xz_lt (tgt := 35) hx hb dX10_reached_27 (by decide) (fun c27 => ?_) (fun c27 => ?_)
      · refine lv_ldc (v := (-1000001)) hx hb hown (hts (.constant RX10 71 (-1000001)) (by decide +kernel)) dX10_reached_35 ?_
        exact hret _ _ _ _ _ _ dX10_reached_37 ⟨WR, SE, nz, tm, en, fe, le, (by unfold reaZ; rw [if_pos ⟨c19, c23, by omega⟩]), rfl⟩ hP.to hD.to hS
      · refine lv_iload_n hx hb dX10_reached_30 rfl (lv_at hl 3 rfl) ?_
        refine lv_iconst (v := nI 3) hx hb dX10_reached_31 (by decide +kernel) ?_
        refine xr_le (tgt := 38) hx hb dX10_reached_32 (by decide) (fun c32 => ?_) (fun c32 => ?_)
        · have L38 :  (¬ (isL x 10 12 = false ∧ isL x 30 12 = false ∧ ¬ (0 ≤ x.toInt ∧ x.toInt ≤ 3))) → ∀ (H : Heap) (locs : List Loc) (ls : Array Slot), PB D [gFw cA Bf (Bw 0) (Bq 0) (Bh 0) (Bd 0) (Br 0) (Bo 0) (Bt 0) (Bs 0), gSa cA Bw (nI (S 0)) (nI (S 2)) (nI (S 4)) (nI (S 5)) L R LL RL TM (nI (S 1)) WW NN (nI (S 3)), gRe cA Br WR SE nz tm en fe le] H → DB AY [gFw cA Bf (Bw 0) (Bq 0) (Bh 0) (Bd 0) (Br 0) (Bo 0) (Bt 0) (Bs 0), gSa cA Bw (nI (S 0)) (nI (S 2)) (nI (S 4)) (nI (S 5)) L R LL RL TM (nI (S 1)) WW NN (nI (S 3)), gRe cA Br WR SE nz tm en fe le] → va_S AY sY.heap H locs → lv_has ls 4 [(3, .int (bI (isL x 30 12))), (2, .int (bI (isL x 10 12))), (0, .ref (Bf 0)), (1, .int x)] → W pY lY eY { frames := 4, cells := 0, slots := 0, locals := 99 } sY mY aY bY tY cY H locs 0 0 QY (F0 mY 38 ls []) := by
            intro hv H locs ls hP hD hS hl
            refine lv_aload_n hx hb dX10_reached_38 rfl (lv_at hl 2 rfl) ?_
            refine va_get (D := D) (ci := 9) (v := .ref (Br 0)) (C := RX10) (T := TX10) (N := 8) hx hb hts hi_X10_reached_X10 hown hK (hP.blk 0 rfl) 0 rfl rfl 4 (by decide) (hts (.fieldLink RX10 36 "FallingWords" "reach" "LFallingWords$Reach;") (by decide +kernel)) (fun _ h9 => h9) rfl dX10_reached_39 ?_
            refine lv_aload_n hx hb dX10_reached_42 rfl (lv_at hl 2 rfl) ?_
            refine va_get (D := D) (ci := 9) (v := .ref (Bw 0)) (C := RX10) (T := TX10) (N := 8) hx hb hts hi_X10_reached_X10 hown hK (hP.blk 0 rfl) 0 rfl rfl 0 (by decide) (hts (.fieldLink RX10 10 "FallingWords" "now" "LFallingWords$State;") (by decide +kernel)) (fun _ h9 => h9) rfl dX10_reached_43 ?_
            refine va_getN (D := D) (ci := 6) (v := .ref (Bw 1)) (C := RX6) (T := TX6) (N := 6) hx hb hts hi_X10_reached_X6 hown hK (hP.blk 1 rfl) 0 rfl rfl 0 (by decide) (hN.fl (w := .fieldLinkNest RX10 61 "FallingWords$State" "rules" "LFallingWords$Rules;" "FallingWords") (by decide +kernel)) (fun _ h9 => h9) rfl dX10_reached_46 ?_
            refine lv_aload_n hx hb dX10_reached_49 rfl (lv_at hl 2 rfl) ?_
            refine va_get (D := D) (ci := 9) (v := .ref (Bw 0)) (C := RX10) (T := TX10) (N := 8) hx hb hts hi_X10_reached_X10 hown hK (hP.blk 0 rfl) 0 rfl rfl 0 (by decide) (hts (.fieldLink RX10 10 "FallingWords" "now" "LFallingWords$State;") (by decide +kernel)) (fun _ h9 => h9) rfl dX10_reached_50 ?_
            refine va_getN (D := D) (ci := 6) (v := .int (nI (S 0))) (C := RX6) (T := TX6) (N := 6) hx hb hts hi_X10_reached_X6 hown hK (hP.blk 1 rfl) 0 rfl rfl 2 (by decide) (hN.fl (w := .fieldLinkNest RX10 115 "FallingWords$State" "word" "I" "FallingWords") (by decide +kernel)) (fun _ h9 => h9) rfl dX10_reached_53 ?_
            refine bl_v (Ss := [gRe cA Br WR SE nz tm en fe le, gSa cA Bw (nI (S 0)) (nI (S 2)) (nI (S 4)) (nI (S 5)) L R LL RL TM (nI (S 1)) WW NN (nI (S 3))]) hP hD hS hA [2, 1] rfl (by decide) [0, 1, 2, 4, 5, 6, 7, 8, 9] rfl (va_runVN (As := [.ref (Bw 1), .int (nI (S 0))]) (rest := []) h0 ((k_X2_run lY D cA Br (fun i => Bw (i + 1)) WR SE nz tm en fe le S L R LL RL TM (S 0) (hIR) (hr) (hw)) _) ⟨(va_cnB 2 hts gX10_reached_X2_run_n165 rfl rfl rfl (hN (.methodLinkNest RX10 165 yX2_run "FallingWords") (by decide +kernel)) (hts (.initialized RX2) (by decide +kernel)) (by decide +kernel) ⟨Nat.le_of_ble_eq_true rfl, Nat.le_of_ble_eq_true rfl⟩), hts (.instanceMethod yX2_run) (by decide +kernel), hts (.selects RX2 yX2_run yX2_run) (by decide +kernel)⟩ ⟨pw_blind, bl_recv (ci := 2) (q := (RX2, TX2, 7)) (i := 2) (q0 := 0) hP hK rfl rfl rfl, bl_pre (Ss := [gRe cA Br WR SE nz tm en fe le, gSa cA Bw (nI (S 0)) (nI (S 2)) (nI (S 4)) (nI (S 5)) L R LL RL TM (nI (S 1)) WW NN (nI (S 3))]) hP hD hK hN [2, 1] rfl (by decide) [0, 1, 2, 4, 5, 6, 7, 8, 9] rfl (by decide +kernel)⟩ rfl rfl hl.1 rfl (lv_room (Nat.le_of_ble_eq_true rfl)) dX10_reached_56 ⟨Nat.zero_le _, Nat.zero_le _⟩) (fun wY H locs hwY hJ hS => ?_)
            obtain ⟨WR'_56, SE'_56, en'_56, fe'_56, le'_56, e2Y, fr_56, fe2_56⟩ := hwY
            have e3Y := e2Y.symm
            clear e2Y
            subst e3Y
            obtain ⟨hP, hD⟩ := hJ [gRe cA Br WR'_56 SE'_56 (nI (min (bfs S (S 0)).2 400)) (bI (decide ((bfs S (S 0)).2 = 401))) en'_56 fe'_56 le'_56, gSa cA Bw (nI (S 0)) (nI (S 2)) (nI (S 4)) (nI (S 5)) L R LL RL TM (nI (S 1)) WW NN (nI (S 3))] rfl rfl rfl
            have hP : PB D [gFw cA Bf (Bw 0) (Bq 0) (Bh 0) (Bd 0) (Br 0) (Bo 0) (Bt 0) (Bs 0), gSa cA Bw (nI (S 0)) (nI (S 2)) (nI (S 4)) (nI (S 5)) L R LL RL TM (nI (S 1)) WW NN (nI (S 3)), gRe cA Br WR'_56 SE'_56 (nI (min (bfs S (S 0)).2 400)) (bI (decide ((bfs S (S 0)).2 = 401))) en'_56 fe'_56 le'_56] H := hP
            have hD : DB AY [gFw cA Bf (Bw 0) (Bq 0) (Bh 0) (Bd 0) (Br 0) (Bo 0) (Bt 0) (Bs 0), gSa cA Bw (nI (S 0)) (nI (S 2)) (nI (S 4)) (nI (S 5)) L R LL RL TM (nI (S 1)) WW NN (nI (S 3)), gRe cA Br WR'_56 SE'_56 (nI (min (bfs S (S 0)).2 400)) (bI (decide ((bfs S (S 0)).2 = 401))) en'_56 fe'_56 le'_56] := hD
            refine lv_aload_n hx hb dX10_reached_59 rfl (lv_at hl 2 rfl) ?_
            refine va_get (D := D) (ci := 9) (v := .ref (Br 0)) (C := RX10) (T := TX10) (N := 8) hx hb hts hi_X10_reached_X10 hown hK (hP.blk 0 rfl) 0 rfl rfl 4 (by decide) (hts (.fieldLink RX10 36 "FallingWords" "reach" "LFallingWords$Reach;") (by decide +kernel)) (fun _ h9 => h9) rfl dX10_reached_60 ?_
            refine va_getN (D := D) (ci := 2) (v := .int (bI (decide ((bfs S (S 0)).2 = 401)))) (C := RX2) (T := TX2) (N := 7) hx hb hts hi_X10_reached_X2 hown hK (hP.blk 2 rfl) 0 rfl rfl 3 (by decide) (hN.fl (w := .fieldLinkNest RX10 168 "FallingWords$Reach" "tooMany" "Z" "FallingWords") (by decide +kernel)) (fun _ h9 => h9) rfl dX10_reached_63 ?_
            refine xb_eq (tgt := 72) hx hb dX10_reached_66 (by decide) (fun c66 => ?_) (fun c66 => ?_)
            · have hB4 := of_decide_eq_false c66
              have hB5 := fr_56.1
              have hB6 := enF_le (S := S) (f := (bfs S (S 0)).1) (bfs S (S 0)).2
              obtain ⟨en1, en2⟩ := fe2_56 (by omega)
              have env := enF_vw (S := S) (f := (bfs S (S 0)).1) (bfs S (S 0)).2 fr_56.2.2.1
              refine lv_iload_n hx hb dX10_reached_72 rfl (lv_at hl 3 rfl) ?_
              refine xz_ne (tgt := 84) hx hb dX10_reached_73 (by decide) (fun c73 => ?_) (fun c73 => ?_)
              · refine lv_iload_n hx hb dX10_reached_84 rfl (lv_at hl 3 rfl) ?_
                refine lv_iconst (v := nI 1) hx hb dX10_reached_85 (by decide +kernel) ?_
                refine xr_ne (tgt := 97) hx hb dX10_reached_86 (by decide) (fun c86 => ?_) (fun c86 => ?_)
                · refine lv_aload_n hx hb dX10_reached_97 rfl (lv_at hl 2 rfl) ?_
                  refine va_get (D := D) (ci := 9) (v := .ref (Br 0)) (C := RX10) (T := TX10) (N := 8) hx hb hts hi_X10_reached_X10 hown hK (hP.blk 0 rfl) 0 rfl rfl 4 (by decide) (hts (.fieldLink RX10 36 "FallingWords" "reach" "LFallingWords$Reach;") (by decide +kernel)) (fun _ h9 => h9) rfl dX10_reached_98 ?_
                  refine va_getN (D := D) (ci := 2) (v := .int en'_56) (C := RX2) (T := TX2) (N := 7) hx hb hts hi_X10_reached_X2 hown hK (hP.blk 2 rfl) 0 rfl rfl 4 (by decide) (hN.fl (w := .fieldLinkNest RX10 174 "FallingWords$Reach" "ends" "I" "FallingWords") (by decide +kernel)) (fun _ h9 => h9) rfl dX10_reached_101 ?_
                  refine xt (show en'_56 = nI ((enF S (bfs S (S 0)).1 (bfs S (S 0)).2).1) from en1) ?_
                  refine x0_ne (tgt := 110) hx hb dX10_reached_104 (by decide) (by omega) (fun c104 => ?_) (fun c104 => ?_)
                  · have hpos : 0 < (enF S (bfs S (S 0)).1 (bfs S (S 0)).2).1 := by omega
                    obtain ⟨fe1, le1, -, -⟩ := en2 hpos
                    obtain ⟨fev, lev⟩ := env hpos
                    refine lv_iload_n hx hb dX10_reached_110 rfl (lv_at hl 1 rfl) ?_
                    refine xb_eq (tgt := 129) hx hb dX10_reached_111 (by decide) (fun c111 => ?_) (fun c111 => ?_)
                    · refine lv_iload_n hx hb dX10_reached_129 rfl (lv_at hl 0 rfl) ?_
                      refine xb_eq (tgt := 148) hx hb dX10_reached_130 (by decide) (fun c130 => ?_) (fun c130 => ?_)
                      · refine lv_iload_n hx hb dX10_reached_148 rfl (lv_at hl 3 rfl) ?_
                        refine lv_iconst (v := nI 2) hx hb dX10_reached_149 (by decide +kernel) ?_
                        refine xr_ne (tgt := 163) hx hb dX10_reached_150 (by decide) (fun c150 => ?_) (fun c150 => ?_)
                        · refine lv_aload_n hx hb dX10_reached_163 rfl (lv_at hl 2 rfl) ?_
                          refine va_get (D := D) (ci := 9) (v := .ref (Br 0)) (C := RX10) (T := TX10) (N := 8) hx hb hts hi_X10_reached_X10 hown hK (hP.blk 0 rfl) 0 rfl rfl 4 (by decide) (hts (.fieldLink RX10 36 "FallingWords" "reach" "LFallingWords$Reach;") (by decide +kernel)) (fun _ h9 => h9) rfl dX10_reached_164 ?_
                          refine va_getN (D := D) (ci := 2) (v := .int le'_56) (C := RX2) (T := TX2) (N := 7) hx hb hts hi_X10_reached_X2 hown hK (hP.blk 2 rfl) 0 rfl rfl 6 (by decide) (hN.fl (w := .fieldLinkNest RX10 180 "FallingWords$Reach" "lastEnd" "I" "FallingWords") (by decide +kernel)) (fun _ h9 => h9) rfl dX10_reached_167 ?_
                          refine xt (show le'_56 = nI ((enF S (bfs S (S 0)).1 (bfs S (S 0)).2).2.2) from le1) ?_
                          refine bl_i (Ss := []) hP hD hS hA [] rfl (by decide) [] rfl (va_runSN (As := [.int (nI ((enF S (bfs S (S 0)).1 (bfs S (S 0)).2).2.2))]) (rest := []) h0 ((k_X9_lengthOf lY D cA ((enF S (bfs S (S 0)).1 (bfs S (S 0)).2).2.2) (lev.1) (by have := lev.2; omega)) _) ⟨(va_cnB 1 hts gX10_reached_X9_lengthOf_n159 rfl rfl rfl (hN (.methodLinkNest RX10 159 yX9_lengthOf "FallingWords") (by decide +kernel)) (hts (.initialized RX9) (by decide +kernel)) (by decide +kernel) ⟨Nat.le_of_ble_eq_true rfl, Nat.le_of_ble_eq_true rfl⟩), hts (.static yX9_lengthOf) (by decide +kernel), trivial⟩ ⟨pw_blind, bl_pre (Ss := []) hP hD hK hN [] rfl (by decide) [] rfl (by decide +kernel)⟩ rfl rfl hl.1 rfl (lv_room (Nat.le_of_ble_eq_true rfl)) dX10_reached_170 ⟨Nat.zero_le _, Nat.zero_le _⟩) (fun rY wY H locs hwY hJ hS => ?_)
                          obtain ⟨e1Y, e2Y⟩ := hwY
                          have e3Y := e1Y.symm
                          clear e1Y
                          subst e3Y
                          have e3Y := e2Y.symm
                          clear e2Y
                          subst e3Y
                          obtain ⟨hP, hD⟩ := hJ [] rfl rfl rfl
                          have hP : PB D [gFw cA Bf (Bw 0) (Bq 0) (Bh 0) (Bd 0) (Br 0) (Bo 0) (Bt 0) (Bs 0), gSa cA Bw (nI (S 0)) (nI (S 2)) (nI (S 4)) (nI (S 5)) L R LL RL TM (nI (S 1)) WW NN (nI (S 3)), gRe cA Br WR'_56 SE'_56 (nI (min (bfs S (S 0)).2 400)) (bI (decide ((bfs S (S 0)).2 = 401))) en'_56 fe'_56 le'_56] H := hP
                          have hD : DB AY [gFw cA Bf (Bw 0) (Bq 0) (Bh 0) (Bd 0) (Br 0) (Bo 0) (Bt 0) (Bs 0), gSa cA Bw (nI (S 0)) (nI (S 2)) (nI (S 4)) (nI (S 5)) L R LL RL TM (nI (S 1)) WW NN (nI (S 3)), gRe cA Br WR'_56 SE'_56 (nI (min (bfs S (S 0)).2 400)) (bI (decide ((bfs S (S 0)).2 = 401))) en'_56 fe'_56 le'_56] := hD
                          exact hret _ _ _ _ _ _ dX10_reached_173 ⟨WR'_56, SE'_56, ((nI (min (bfs S (S 0)).2 400))), ((bI (decide ((bfs S (S 0)).2 = 401)))), en'_56, fe'_56, le'_56, (by unfold reaZ; rw [if_neg hv, if_neg hB4, if_neg (by omega), if_neg (by omega), if_neg (by omega), c111, if_neg (by decide), c130, if_neg (by decide), if_neg (by omega)]), rfl⟩ hP.to hD.to hS
                        · refine lv_aload_n hx hb dX10_reached_153 rfl (lv_at hl 2 rfl) ?_
                          refine va_get (D := D) (ci := 9) (v := .ref (Br 0)) (C := RX10) (T := TX10) (N := 8) hx hb hts hi_X10_reached_X10 hown hK (hP.blk 0 rfl) 0 rfl rfl 4 (by decide) (hts (.fieldLink RX10 36 "FallingWords" "reach" "LFallingWords$Reach;") (by decide +kernel)) (fun _ h9 => h9) rfl dX10_reached_154 ?_
                          refine va_getN (D := D) (ci := 2) (v := .int fe'_56) (C := RX2) (T := TX2) (N := 7) hx hb hts hi_X10_reached_X2 hown hK (hP.blk 2 rfl) 0 rfl rfl 5 (by decide) (hN.fl (w := .fieldLinkNest RX10 177 "FallingWords$Reach" "firstEnd" "I" "FallingWords") (by decide +kernel)) (fun _ h9 => h9) rfl dX10_reached_157 ?_
                          refine xt (show fe'_56 = nI ((enF S (bfs S (S 0)).1 (bfs S (S 0)).2).2.1) from fe1) ?_
                          refine lv_goto (tgt := 170) hx hb dX10_reached_160 (by decide) ?_
                          refine bl_i (Ss := []) hP hD hS hA [] rfl (by decide) [] rfl (va_runSN (As := [.int (nI ((enF S (bfs S (S 0)).1 (bfs S (S 0)).2).2.1))]) (rest := []) h0 ((k_X9_lengthOf lY D cA ((enF S (bfs S (S 0)).1 (bfs S (S 0)).2).2.1) (fev.1) (by have := fev.2; omega)) _) ⟨(va_cnB 1 hts gX10_reached_X9_lengthOf_n159 rfl rfl rfl (hN (.methodLinkNest RX10 159 yX9_lengthOf "FallingWords") (by decide +kernel)) (hts (.initialized RX9) (by decide +kernel)) (by decide +kernel) ⟨Nat.le_of_ble_eq_true rfl, Nat.le_of_ble_eq_true rfl⟩), hts (.static yX9_lengthOf) (by decide +kernel), trivial⟩ ⟨pw_blind, bl_pre (Ss := []) hP hD hK hN [] rfl (by decide) [] rfl (by decide +kernel)⟩ rfl rfl hl.1 rfl (lv_room (Nat.le_of_ble_eq_true rfl)) dX10_reached_170 ⟨Nat.zero_le _, Nat.zero_le _⟩) (fun rY wY H locs hwY hJ hS => ?_)
                          obtain ⟨e1Y, e2Y⟩ := hwY
                          have e3Y := e1Y.symm
                          clear e1Y
                          subst e3Y
                          have e3Y := e2Y.symm
                          clear e2Y
                          subst e3Y
                          obtain ⟨hP, hD⟩ := hJ [] rfl rfl rfl
                          have hP : PB D [gFw cA Bf (Bw 0) (Bq 0) (Bh 0) (Bd 0) (Br 0) (Bo 0) (Bt 0) (Bs 0), gSa cA Bw (nI (S 0)) (nI (S 2)) (nI (S 4)) (nI (S 5)) L R LL RL TM (nI (S 1)) WW NN (nI (S 3)), gRe cA Br WR'_56 SE'_56 (nI (min (bfs S (S 0)).2 400)) (bI (decide ((bfs S (S 0)).2 = 401))) en'_56 fe'_56 le'_56] H := hP
                          have hD : DB AY [gFw cA Bf (Bw 0) (Bq 0) (Bh 0) (Bd 0) (Br 0) (Bo 0) (Bt 0) (Bs 0), gSa cA Bw (nI (S 0)) (nI (S 2)) (nI (S 4)) (nI (S 5)) L R LL RL TM (nI (S 1)) WW NN (nI (S 3)), gRe cA Br WR'_56 SE'_56 (nI (min (bfs S (S 0)).2 400)) (bI (decide ((bfs S (S 0)).2 = 401))) en'_56 fe'_56 le'_56] := hD
                          exact hret _ _ _ _ _ _ dX10_reached_173 ⟨WR'_56, SE'_56, ((nI (min (bfs S (S 0)).2 400))), ((bI (decide ((bfs S (S 0)).2 = 401)))), en'_56, fe'_56, le'_56, (by unfold reaZ; rw [if_neg hv, if_neg hB4, if_neg (by omega), if_neg (by omega), if_neg (by omega), c111, if_neg (by decide), c130, if_neg (by decide), if_pos (by omega)]), rfl⟩ hP.to hD.to hS
                      · refine lv_aload_n hx hb dX10_reached_133 rfl (lv_at hl 2 rfl) ?_
                        refine va_get (D := D) (ci := 9) (v := .ref (Br 0)) (C := RX10) (T := TX10) (N := 8) hx hb hts hi_X10_reached_X10 hown hK (hP.blk 0 rfl) 0 rfl rfl 4 (by decide) (hts (.fieldLink RX10 36 "FallingWords" "reach" "LFallingWords$Reach;") (by decide +kernel)) (fun _ h9 => h9) rfl dX10_reached_134 ?_
                        refine va_getN (D := D) (ci := 2) (v := .int le'_56) (C := RX2) (T := TX2) (N := 7) hx hb hts hi_X10_reached_X2 hown hK (hP.blk 2 rfl) 0 rfl rfl 6 (by decide) (hN.fl (w := .fieldLinkNest RX10 180 "FallingWords$Reach" "lastEnd" "I" "FallingWords") (by decide +kernel)) (fun _ h9 => h9) rfl dX10_reached_137 ?_
                        refine xt (show le'_56 = nI ((enF S (bfs S (S 0)).1 (bfs S (S 0)).2).2.2) from le1) ?_
                        refine lv_iload_n hx hb dX10_reached_140 rfl (lv_at hl 3 rfl) ?_
                        refine lv_bipush (v := nI 30) hx hb dX10_reached_141 (by decide +kernel) ?_
                        refine lv_isub hx hb dX10_reached_143 ?_
                        refine bl_i (Ss := []) hP hD hS hA [] rfl (by decide) [] rfl (va_runSN (As := [.int (nI ((enF S (bfs S (S 0)).1 (bfs S (S 0)).2).2.2)), .int (x - (nI 30))]) (rest := []) h0 ((k_X9_letterOf lY D cA ((enF S (bfs S (S 0)).1 (bfs S (S 0)).2).2.2) (x - (nI 30)) (lev)) _) ⟨(va_cnB 2 hts gX10_reached_X9_letterOf_n100 rfl rfl rfl (hN (.methodLinkNest RX10 100 yX9_letterOf "FallingWords") (by decide +kernel)) (hts (.initialized RX9) (by decide +kernel)) (by decide +kernel) ⟨Nat.le_of_ble_eq_true rfl, Nat.le_of_ble_eq_true rfl⟩), hts (.static yX9_letterOf) (by decide +kernel), trivial⟩ ⟨pw_blind, bl_pre (Ss := []) hP hD hK hN [] rfl (by decide) [] rfl (by decide +kernel)⟩ rfl rfl hl.1 rfl (lv_room (Nat.le_of_ble_eq_true rfl)) dX10_reached_144 ⟨Nat.zero_le _, Nat.zero_le _⟩) (fun rY wY H locs hwY hJ hS => ?_)
                        obtain ⟨e1Y, e2Y⟩ := hwY
                        have e3Y := e1Y.symm
                        clear e1Y
                        subst e3Y
                        have e3Y := e2Y.symm
                        clear e2Y
                        subst e3Y
                        obtain ⟨hP, hD⟩ := hJ [] rfl rfl rfl
                        have hP : PB D [gFw cA Bf (Bw 0) (Bq 0) (Bh 0) (Bd 0) (Br 0) (Bo 0) (Bt 0) (Bs 0), gSa cA Bw (nI (S 0)) (nI (S 2)) (nI (S 4)) (nI (S 5)) L R LL RL TM (nI (S 1)) WW NN (nI (S 3)), gRe cA Br WR'_56 SE'_56 (nI (min (bfs S (S 0)).2 400)) (bI (decide ((bfs S (S 0)).2 = 401))) en'_56 fe'_56 le'_56] H := hP
                        have hD : DB AY [gFw cA Bf (Bw 0) (Bq 0) (Bh 0) (Bd 0) (Br 0) (Bo 0) (Bt 0) (Bs 0), gSa cA Bw (nI (S 0)) (nI (S 2)) (nI (S 4)) (nI (S 5)) L R LL RL TM (nI (S 1)) WW NN (nI (S 3)), gRe cA Br WR'_56 SE'_56 (nI (min (bfs S (S 0)).2 400)) (bI (decide ((bfs S (S 0)).2 = 401))) en'_56 fe'_56 le'_56] := hD
                        exact hret _ _ _ _ _ _ dX10_reached_147 ⟨WR'_56, SE'_56, ((nI (min (bfs S (S 0)).2 400))), ((bI (decide ((bfs S (S 0)).2 = 401)))), en'_56, fe'_56, le'_56, (by unfold reaZ; rw [if_neg hv, if_neg hB4, if_neg (by omega), if_neg (by omega), if_neg (by omega), c111, if_neg (by decide), if_pos c130]), rfl⟩ hP.to hD.to hS
                    · refine lv_aload_n hx hb dX10_reached_114 rfl (lv_at hl 2 rfl) ?_
                      refine va_get (D := D) (ci := 9) (v := .ref (Br 0)) (C := RX10) (T := TX10) (N := 8) hx hb hts hi_X10_reached_X10 hown hK (hP.blk 0 rfl) 0 rfl rfl 4 (by decide) (hts (.fieldLink RX10 36 "FallingWords" "reach" "LFallingWords$Reach;") (by decide +kernel)) (fun _ h9 => h9) rfl dX10_reached_115 ?_
                      refine va_getN (D := D) (ci := 2) (v := .int fe'_56) (C := RX2) (T := TX2) (N := 7) hx hb hts hi_X10_reached_X2 hown hK (hP.blk 2 rfl) 0 rfl rfl 5 (by decide) (hN.fl (w := .fieldLinkNest RX10 177 "FallingWords$Reach" "firstEnd" "I" "FallingWords") (by decide +kernel)) (fun _ h9 => h9) rfl dX10_reached_118 ?_
                      refine xt (show fe'_56 = nI ((enF S (bfs S (S 0)).1 (bfs S (S 0)).2).2.1) from fe1) ?_
                      refine lv_iload_n hx hb dX10_reached_121 rfl (lv_at hl 3 rfl) ?_
                      refine lv_bipush (v := nI 10) hx hb dX10_reached_122 (by decide +kernel) ?_
                      refine lv_isub hx hb dX10_reached_124 ?_
                      refine bl_i (Ss := []) hP hD hS hA [] rfl (by decide) [] rfl (va_runSN (As := [.int (nI ((enF S (bfs S (S 0)).1 (bfs S (S 0)).2).2.1)), .int (x - (nI 10))]) (rest := []) h0 ((k_X9_letterOf lY D cA ((enF S (bfs S (S 0)).1 (bfs S (S 0)).2).2.1) (x - (nI 10)) (fev)) _) ⟨(va_cnB 2 hts gX10_reached_X9_letterOf_n100 rfl rfl rfl (hN (.methodLinkNest RX10 100 yX9_letterOf "FallingWords") (by decide +kernel)) (hts (.initialized RX9) (by decide +kernel)) (by decide +kernel) ⟨Nat.le_of_ble_eq_true rfl, Nat.le_of_ble_eq_true rfl⟩), hts (.static yX9_letterOf) (by decide +kernel), trivial⟩ ⟨pw_blind, bl_pre (Ss := []) hP hD hK hN [] rfl (by decide) [] rfl (by decide +kernel)⟩ rfl rfl hl.1 rfl (lv_room (Nat.le_of_ble_eq_true rfl)) dX10_reached_125 ⟨Nat.zero_le _, Nat.zero_le _⟩) (fun rY wY H locs hwY hJ hS => ?_)
                      obtain ⟨e1Y, e2Y⟩ := hwY
                      have e3Y := e1Y.symm
                      clear e1Y
                      subst e3Y
                      have e3Y := e2Y.symm
                      clear e2Y
                      subst e3Y
                      obtain ⟨hP, hD⟩ := hJ [] rfl rfl rfl
                      have hP : PB D [gFw cA Bf (Bw 0) (Bq 0) (Bh 0) (Bd 0) (Br 0) (Bo 0) (Bt 0) (Bs 0), gSa cA Bw (nI (S 0)) (nI (S 2)) (nI (S 4)) (nI (S 5)) L R LL RL TM (nI (S 1)) WW NN (nI (S 3)), gRe cA Br WR'_56 SE'_56 (nI (min (bfs S (S 0)).2 400)) (bI (decide ((bfs S (S 0)).2 = 401))) en'_56 fe'_56 le'_56] H := hP
                      have hD : DB AY [gFw cA Bf (Bw 0) (Bq 0) (Bh 0) (Bd 0) (Br 0) (Bo 0) (Bt 0) (Bs 0), gSa cA Bw (nI (S 0)) (nI (S 2)) (nI (S 4)) (nI (S 5)) L R LL RL TM (nI (S 1)) WW NN (nI (S 3)), gRe cA Br WR'_56 SE'_56 (nI (min (bfs S (S 0)).2 400)) (bI (decide ((bfs S (S 0)).2 = 401))) en'_56 fe'_56 le'_56] := hD
                      exact hret _ _ _ _ _ _ dX10_reached_128 ⟨WR'_56, SE'_56, ((nI (min (bfs S (S 0)).2 400))), ((bI (decide ((bfs S (S 0)).2 = 401)))), en'_56, fe'_56, le'_56, (by unfold reaZ; rw [if_neg hv, if_neg hB4, if_neg (by omega), if_neg (by omega), if_neg (by omega), if_pos c111]), rfl⟩ hP.to hD.to hS
                  · refine lv_ldc (v := (-1000004)) hx hb hown (hts (.constant RX10 135 (-1000004)) (by decide +kernel)) dX10_reached_107 ?_
                    exact hret _ _ _ _ _ _ dX10_reached_109 ⟨WR'_56, SE'_56, ((nI (min (bfs S (S 0)).2 400))), ((bI (decide ((bfs S (S 0)).2 = 401)))), en'_56, fe'_56, le'_56, (by unfold reaZ; rw [if_neg hv, if_neg hB4, if_neg (by omega), if_neg (by omega), if_pos (by omega)]), rfl⟩ hP.to hD.to hS
                · refine lv_aload_n hx hb dX10_reached_89 rfl (lv_at hl 2 rfl) ?_
                  refine va_get (D := D) (ci := 9) (v := .ref (Br 0)) (C := RX10) (T := TX10) (N := 8) hx hb hts hi_X10_reached_X10 hown hK (hP.blk 0 rfl) 0 rfl rfl 4 (by decide) (hts (.fieldLink RX10 36 "FallingWords" "reach" "LFallingWords$Reach;") (by decide +kernel)) (fun _ h9 => h9) rfl dX10_reached_90 ?_
                  refine va_getN (D := D) (ci := 2) (v := .int en'_56) (C := RX2) (T := TX2) (N := 7) hx hb hts hi_X10_reached_X2 hown hK (hP.blk 2 rfl) 0 rfl rfl 4 (by decide) (hN.fl (w := .fieldLinkNest RX10 174 "FallingWords$Reach" "ends" "I" "FallingWords") (by decide +kernel)) (fun _ h9 => h9) rfl dX10_reached_93 ?_
                  refine xt (show en'_56 = nI ((enF S (bfs S (S 0)).1 (bfs S (S 0)).2).1) from en1) ?_
                  exact hret _ _ _ _ _ _ dX10_reached_96 ⟨WR'_56, SE'_56, ((nI (min (bfs S (S 0)).2 400))), ((bI (decide ((bfs S (S 0)).2 = 401)))), en'_56, fe'_56, le'_56, (by unfold reaZ; rw [if_neg hv, if_neg hB4, if_neg (by omega), if_pos (by omega)]), rfl⟩ hP.to hD.to hS
              · refine lv_aload_n hx hb dX10_reached_76 rfl (lv_at hl 2 rfl) ?_
                refine va_get (D := D) (ci := 9) (v := .ref (Br 0)) (C := RX10) (T := TX10) (N := 8) hx hb hts hi_X10_reached_X10 hown hK (hP.blk 0 rfl) 0 rfl rfl 4 (by decide) (hts (.fieldLink RX10 36 "FallingWords" "reach" "LFallingWords$Reach;") (by decide +kernel)) (fun _ h9 => h9) rfl dX10_reached_77 ?_
                refine va_getN (D := D) (ci := 2) (v := .int (nI (min (bfs S (S 0)).2 400))) (C := RX2) (T := TX2) (N := 7) hx hb hts hi_X10_reached_X2 hown hK (hP.blk 2 rfl) 0 rfl rfl 2 (by decide) (hN.fl (w := .fieldLinkNest RX10 173 "FallingWords$Reach" "size" "I" "FallingWords") (by decide +kernel)) (fun _ h9 => h9) rfl dX10_reached_80 ?_
                refine xt (show nI (min (bfs S (S 0)).2 400) = nI ((bfs S (S 0)).2) from congrArg nI (by omega)) ?_
                exact hret _ _ _ _ _ _ dX10_reached_83 ⟨WR'_56, SE'_56, ((nI (min (bfs S (S 0)).2 400))), ((bI (decide ((bfs S (S 0)).2 = 401)))), en'_56, fe'_56, le'_56, (by unfold reaZ; rw [if_neg hv, if_neg hB4, if_pos (by omega)]), rfl⟩ hP.to hD.to hS
            · refine lv_ldc (v := (-1000003)) hx hb hown (hts (.constant RX10 172 (-1000003)) (by decide +kernel)) dX10_reached_69 ?_
              exact hret _ _ _ _ _ _ dX10_reached_71 ⟨WR'_56, SE'_56, ((nI (min (bfs S (S 0)).2 400))), ((bI (decide ((bfs S (S 0)).2 = 401)))), en'_56, fe'_56, le'_56, (by unfold reaZ; rw [if_neg hv, if_pos (of_decide_eq_true c66)]), rfl⟩ hP.to hD.to hS
          exact L38  (fun h => h.2.2 (by omega)) _ _ _ hP hD hS hl
        · refine lv_ldc (v := (-1000001)) hx hb hown (hts (.constant RX10 71 (-1000001)) (by decide +kernel)) dX10_reached_35 ?_
          exact hret _ _ _ _ _ _ dX10_reached_37 ⟨WR, SE, nz, tm, en, fe, le, (by unfold reaZ; rw [if_pos ⟨c19, c23, by omega⟩]), rfl⟩ hP.to hD.to hS

theorem hi_X10_storeOf_X10 : ∀ w ∈ u_ws RX10 TX10 8, w ∈ wsX10_storeOf := by decide +kernel
theorem hi_X10_storeOf_X6 : ∀ w ∈ u_ws RX6 TX6 6, w ∈ wsX10_storeOf := by decide +kernel
theorem hi_X10_storeOf_X7 : ∀ w ∈ u_ws RX7 TX7 3, w ∈ wsX10_storeOf := by decide +kernel
set_option maxHeartbeats 1000000 in
set_option maxRecDepth 100000 in
theorem k_X10_storeOf (lY : Launch) (D : va_G) (cA : Nat → ClassId) (Bf Bw Bq Bh Bd Br Bo Bt Bs : Nat → Nat) (S : St) (L R LL RL TM WW NN : Nat → Int32) (x y : Int32) (hI : IV S) (hr : rRu S L R LL RL TM) (ho : rSo S WW NN) : MetI lY D cA yX10_storeOf wsX10_storeOf 2 44 [.ref (Bf 0), .int x, .int y] (List.flatten [gFw cA Bf (Bw 0) (Bq 0) (Bh 0) (Bd 0) (Br 0) (Bo 0) (Bt 0) (Bs 0), gSa cA Bw (nI (S 0)) (nI (S 2)) (nI (S 4)) (nI (S 5)) L R LL RL TM (nI (S 1)) WW NN (nI (S 3))]) (fun rY wY => rY = stoZ S x y ∧ wY = List.flatten [gFw cA Bf (Bw 0) (Bq 0) (Bh 0) (Bd 0) (Br 0) (Bo 0) (Bt 0) (Bs 0), gSa cA Bw (nI (S 0)) (nI (S 2)) (nI (S 4)) (nI (S 5)) L R LL RL TM (nI (S 1)) WW NN (nI (S 3))]) := by
  refine MetI.of (cc := cX10_storeOf) (maxL := 5) (ret := (some .int)) (by decide) rfl (Nat.le_of_ble_eq_true rfl) (Or.inl rfl) ?_
  intro pY eY sY mY aY bY tY cY QY AY ls h0 hP hK hN hD hA hS hl hret
  obtain ⟨hx, hb, hml, hown, hts⟩ := id h0
  have hl : lv_has ls 5 [(0, .ref (Bf 0)), (1, .int x), (2, .int y)] := hl
  have hP : PB D [gFw cA Bf (Bw 0) (Bq 0) (Bh 0) (Bd 0) (Br 0) (Bo 0) (Bt 0) (Bs 0), gSa cA Bw (nI (S 0)) (nI (S 2)) (nI (S 4)) (nI (S 5)) L R LL RL TM (nI (S 1)) WW NN (nI (S 3))] sY.heap := PB.of hP
  have hD : DB AY [gFw cA Bf (Bw 0) (Bq 0) (Bh 0) (Bd 0) (Br 0) (Bo 0) (Bt 0) (Bs 0), gSa cA Bw (nI (S 0)) (nI (S 2)) (nI (S 4)) (nI (S 5)) L R LL RL TM (nI (S 1)) WW NN (nI (S 3))] := DB.of hD
  have h8 := hI.2.1
  have e1 : (nI 1).toInt = 1 := rfl
  have ez : (nI (S 3)).toInt = (S 3 : Int) := nI_toInt (by omega)
  refine lv_iload_n hx hb dX10_storeOf_0 rfl (lv_at hl 2 rfl) ?_
  refine lv_bipush (v := nI 10) hx hb dX10_storeOf_1 (by decide +kernel) ?_
  refine lv_bipush (v := nI 12) hx hb dX10_storeOf_3 (by decide +kernel) ?_
  refine bl_i (Ss := []) hP hD hS hA [] rfl (by decide) [] rfl (va_runS (As := [.int y, .int (nI 10), .int (nI 12)]) (rest := []) h0 ((k_X10_isLetterOf lY D cA y 10 12 (by omega) (by omega)) _) (va_cwS 3 hts gX10_storeOf_X10_isLetterOf rfl rfl rfl (by decide +kernel) ⟨Nat.le_of_ble_eq_true rfl, Nat.le_of_ble_eq_true rfl⟩) ⟨pw_blind, bl_pre (Ss := []) hP hD hK hN [] rfl (by decide) [] rfl (by decide +kernel)⟩ rfl rfl hl.1 rfl (lv_room (Nat.le_of_ble_eq_true rfl)) dX10_storeOf_5 ⟨Nat.zero_le _, Nat.zero_le _⟩) (fun rY wY H locs hwY hJ hS => ?_)
  obtain ⟨e1Y, e2Y⟩ := hwY
  have e3Y := e1Y.symm
  clear e1Y
  subst e3Y
  have e3Y := e2Y.symm
  clear e2Y
  subst e3Y
  obtain ⟨hP, hD⟩ := hJ [] rfl rfl rfl
  have hP : PB D [gFw cA Bf (Bw 0) (Bq 0) (Bh 0) (Bd 0) (Br 0) (Bo 0) (Bt 0) (Bs 0), gSa cA Bw (nI (S 0)) (nI (S 2)) (nI (S 4)) (nI (S 5)) L R LL RL TM (nI (S 1)) WW NN (nI (S 3))] H := hP
  have hD : DB AY [gFw cA Bf (Bw 0) (Bq 0) (Bh 0) (Bd 0) (Br 0) (Bo 0) (Bt 0) (Bs 0), gSa cA Bw (nI (S 0)) (nI (S 2)) (nI (S 4)) (nI (S 5)) L R LL RL TM (nI (S 1)) WW NN (nI (S 3))] := hD
  refine lv_istore_n (lv' := [(3, .int (bI (isL y 10 12))), (0, .ref (Bf 0)), (1, .int x), (2, .int y)]) hx hb dX10_storeOf_8 rfl hl (by decide) rfl (fun ls hl => ?_)
  refine lv_iload_n hx hb dX10_storeOf_9 rfl (lv_at hl 3 rfl) ?_
  refine lv_bipush (v := nI 30) hx hb dX10_storeOf_10 (by decide +kernel) ?_
  refine lv_bipush (v := nI 12) hx hb dX10_storeOf_12 (by decide +kernel) ?_
  refine bl_i (Ss := []) hP hD hS hA [] rfl (by decide) [] rfl (va_runS (As := [.int y, .int (nI 30), .int (nI 12)]) (rest := []) h0 ((k_X10_isLetterOf lY D cA y 30 12 (by omega) (by omega)) _) (va_cwS 3 hts gX10_storeOf_X10_isLetterOf rfl rfl rfl (by decide +kernel) ⟨Nat.le_of_ble_eq_true rfl, Nat.le_of_ble_eq_true rfl⟩) ⟨pw_blind, bl_pre (Ss := []) hP hD hK hN [] rfl (by decide) [] rfl (by decide +kernel)⟩ rfl rfl hl.1 rfl (lv_room (Nat.le_of_ble_eq_true rfl)) dX10_storeOf_14 ⟨Nat.zero_le _, Nat.zero_le _⟩) (fun rY wY H locs hwY hJ hS => ?_)
  obtain ⟨e1Y, e2Y⟩ := hwY
  have e3Y := e1Y.symm
  clear e1Y
  subst e3Y
  have e3Y := e2Y.symm
  clear e2Y
  subst e3Y
  obtain ⟨hP, hD⟩ := hJ [] rfl rfl rfl
  have hP : PB D [gFw cA Bf (Bw 0) (Bq 0) (Bh 0) (Bd 0) (Br 0) (Bo 0) (Bt 0) (Bs 0), gSa cA Bw (nI (S 0)) (nI (S 2)) (nI (S 4)) (nI (S 5)) L R LL RL TM (nI (S 1)) WW NN (nI (S 3))] H := hP
  have hD : DB AY [gFw cA Bf (Bw 0) (Bq 0) (Bh 0) (Bd 0) (Br 0) (Bo 0) (Bt 0) (Bs 0), gSa cA Bw (nI (S 0)) (nI (S 2)) (nI (S 4)) (nI (S 5)) L R LL RL TM (nI (S 1)) WW NN (nI (S 3))] := hD
  refine lv_istore (lv' := [(4, .int (bI (isL y 30 12))), (3, .int (bI (isL y 10 12))), (0, .ref (Bf 0)), (1, .int x), (2, .int y)]) hx hb dX10_storeOf_17 hl (by decide) rfl (fun ls hl => ?_)
  refine lv_iload_n hx hb dX10_storeOf_19 rfl (lv_at hl 3 rfl) ?_
  refine xz_lt (tgt := 41) hx hb dX10_storeOf_20 (by decide) (fun c20 => ?_) (fun c20 => ?_)
  · refine lv_ldc (v := (-1000001)) hx hb hown (hts (.constant RX10 71 (-1000001)) (by decide +kernel)) dX10_storeOf_41 ?_
    exact hret _ _ _ _ _ _ dX10_storeOf_43 ⟨(by unfold stoZ; rw [if_pos (Or.inl (by omega))]), rfl⟩ hP.to hD.to hS
  · have L44 :  (0 ≤ x.toInt) → (¬ (x.toInt < 0 ∨ (isL y 10 12 = false ∧ isL y 30 12 = false ∧ ¬ (y.toInt = 0 ∨ y.toInt = 1)))) → ∀ (H : Heap) (locs : List Loc) (ls : Array Slot), PB D [gFw cA Bf (Bw 0) (Bq 0) (Bh 0) (Bd 0) (Br 0) (Bo 0) (Bt 0) (Bs 0), gSa cA Bw (nI (S 0)) (nI (S 2)) (nI (S 4)) (nI (S 5)) L R LL RL TM (nI (S 1)) WW NN (nI (S 3))] H → DB AY [gFw cA Bf (Bw 0) (Bq 0) (Bh 0) (Bd 0) (Br 0) (Bo 0) (Bt 0) (Bs 0), gSa cA Bw (nI (S 0)) (nI (S 2)) (nI (S 4)) (nI (S 5)) L R LL RL TM (nI (S 1)) WW NN (nI (S 3))] → va_S AY sY.heap H locs → lv_has ls 5 [(4, .int (bI (isL y 30 12))), (3, .int (bI (isL y 10 12))), (0, .ref (Bf 0)), (1, .int x), (2, .int y)] → W pY lY eY { frames := 2, cells := 0, slots := 0, locals := 44 } sY mY aY bY tY cY H locs 0 0 QY (F0 mY 44 ls []) := by
      intro hx0 hv H locs ls hP hD hS hl
      refine lv_iload_n hx hb dX10_storeOf_44 rfl (lv_at hl 3 rfl) ?_
      refine lv_aload_n hx hb dX10_storeOf_45 rfl (lv_at hl 2 rfl) ?_
      refine va_get (D := D) (ci := 9) (v := .ref (Bw 0)) (C := RX10) (T := TX10) (N := 8) hx hb hts hi_X10_storeOf_X10 hown hK (hP.blk 0 rfl) 0 rfl rfl 0 (by decide) (hts (.fieldLink RX10 10 "FallingWords" "now" "LFallingWords$State;") (by decide +kernel)) (fun _ h9 => h9) rfl dX10_storeOf_46 ?_
      refine va_getN (D := D) (ci := 6) (v := .ref (Bw 7)) (C := RX6) (T := TX6) (N := 6) hx hb hts hi_X10_storeOf_X6 hown hK (hP.blk 1 rfl) 0 rfl rfl 1 (by decide) (hN.fl (w := .fieldLinkNest RX10 183 "FallingWords$State" "store" "LFallingWords$Store;" "FallingWords") (by decide +kernel)) (fun _ h9 => h9) rfl dX10_storeOf_49 ?_
      refine va_getN (D := D) (ci := 7) (v := .int (nI (S 3))) (C := RX7) (T := TX7) (N := 3) hx hb hts hi_X10_storeOf_X7 hown hK (hP.blk 1 rfl) 7 rfl rfl 2 (by decide) (hN.fl (w := .fieldLinkNest RX10 187 "FallingWords$Store" "size" "I" "FallingWords") (by decide +kernel)) (fun _ h9 => h9) rfl dX10_storeOf_52 ?_
      refine xr_lt (tgt := 61) hx hb dX10_storeOf_55 (by decide) (fun c55 => ?_) (fun c55 => ?_)
      · obtain ⟨k, hk, rfl⟩ : ∃ k : Nat, k < S 3 ∧ x = nI k := i32_of hx0 (by omega)
        have ek : (nI k).toInt.toNat = k := by rw [nI_toInt (by omega), Int.toNat_natCast]
        obtain ⟨o1, o2⟩ := ho k hk
        obtain ⟨p1, p2⟩ := hI.2.2.2 k hk
        refine lv_iload_n hx hb dX10_storeOf_61 rfl (lv_at hl 1 rfl) ?_
        refine xb_eq (tgt := 85) hx hb dX10_storeOf_62 (by decide) (fun c62 => ?_) (fun c62 => ?_)
        · refine lv_iload hx hb dX10_storeOf_85 (lv_at hl 0 rfl) ?_
          refine xb_eq (tgt := 110) hx hb dX10_storeOf_87 (by decide) (fun c87 => ?_) (fun c87 => ?_)
          · refine lv_iload_n hx hb dX10_storeOf_110 rfl (lv_at hl 4 rfl) ?_
            refine xz_ne (tgt := 129) hx hb dX10_storeOf_111 (by decide) (fun c111 => ?_) (fun c111 => ?_)
            · refine lv_aload_n hx hb dX10_storeOf_129 rfl (lv_at hl 2 rfl) ?_
              refine va_get (D := D) (ci := 9) (v := .ref (Bw 0)) (C := RX10) (T := TX10) (N := 8) hx hb hts hi_X10_storeOf_X10 hown hK (hP.blk 0 rfl) 0 rfl rfl 0 (by decide) (hts (.fieldLink RX10 10 "FallingWords" "now" "LFallingWords$State;") (by decide +kernel)) (fun _ h9 => h9) rfl dX10_storeOf_130 ?_
              refine va_getN (D := D) (ci := 6) (v := .ref (Bw 7)) (C := RX6) (T := TX6) (N := 6) hx hb hts hi_X10_storeOf_X6 hown hK (hP.blk 1 rfl) 0 rfl rfl 1 (by decide) (hN.fl (w := .fieldLinkNest RX10 183 "FallingWords$State" "store" "LFallingWords$Store;" "FallingWords") (by decide +kernel)) (fun _ h9 => h9) rfl dX10_storeOf_133 ?_
              refine va_getN (D := D) (ci := 7) (v := .ref (Bw 9)) (C := RX7) (T := TX7) (N := 3) hx hb hts hi_X10_storeOf_X7 hown hK (hP.blk 1 rfl) 7 rfl rfl 1 (by decide) (hN.fl (w := .fieldLinkNest RX10 193 "FallingWords$Store" "normals" "[I" "FallingWords") (by decide +kernel)) (fun _ h9 => h9) rfl dX10_storeOf_136 ?_
              refine lv_iload_n hx hb dX10_storeOf_139 rfl (lv_at hl 3 rfl) ?_
              refine xa_ld (v := nI (S (37 + 2 * k))) hx hb hK (hP.blk 1 rfl) 9 rfl (by omega) (by decide) (o2) dX10_storeOf_140 ?_
              refine bl_i (Ss := []) hP hD hS hA [] rfl (by decide) [] rfl (va_runSN (As := [.int (nI (S (37 + 2 * k)))]) (rest := []) h0 ((k_X9_lengthOf lY D cA (S (37 + 2 * k)) (p2.1) (by have := p2.2; omega)) _) ⟨(va_cnB 1 hts gX10_storeOf_X9_lengthOf_n159 rfl rfl rfl (hN (.methodLinkNest RX10 159 yX9_lengthOf "FallingWords") (by decide +kernel)) (hts (.initialized RX9) (by decide +kernel)) (by decide +kernel) ⟨Nat.le_of_ble_eq_true rfl, Nat.le_of_ble_eq_true rfl⟩), hts (.static yX9_lengthOf) (by decide +kernel), trivial⟩ ⟨pw_blind, bl_pre (Ss := []) hP hD hK hN [] rfl (by decide) [] rfl (by decide +kernel)⟩ rfl rfl hl.1 rfl (lv_room (Nat.le_of_ble_eq_true rfl)) dX10_storeOf_141 ⟨Nat.zero_le _, Nat.zero_le _⟩) (fun rY wY H locs hwY hJ hS => ?_)
              obtain ⟨e1Y, e2Y⟩ := hwY
              have e3Y := e1Y.symm
              clear e1Y
              subst e3Y
              have e3Y := e2Y.symm
              clear e2Y
              subst e3Y
              obtain ⟨hP, hD⟩ := hJ [] rfl rfl rfl
              have hP : PB D [gFw cA Bf (Bw 0) (Bq 0) (Bh 0) (Bd 0) (Br 0) (Bo 0) (Bt 0) (Bs 0), gSa cA Bw (nI (S 0)) (nI (S 2)) (nI (S 4)) (nI (S 5)) L R LL RL TM (nI (S 1)) WW NN (nI (S 3))] H := hP
              have hD : DB AY [gFw cA Bf (Bw 0) (Bq 0) (Bh 0) (Bd 0) (Br 0) (Bo 0) (Bt 0) (Bs 0), gSa cA Bw (nI (S 0)) (nI (S 2)) (nI (S 4)) (nI (S 5)) L R LL RL TM (nI (S 1)) WW NN (nI (S 3))] := hD
              exact hret _ _ _ _ _ _ dX10_storeOf_144 ⟨(by unfold stoZ; rw [if_neg hv, if_neg (by omega), ek, c62, if_neg (by decide), c87, if_neg (by decide), if_neg (by omega)]), rfl⟩ hP.to hD.to hS
            · refine lv_aload_n hx hb dX10_storeOf_114 rfl (lv_at hl 2 rfl) ?_
              refine va_get (D := D) (ci := 9) (v := .ref (Bw 0)) (C := RX10) (T := TX10) (N := 8) hx hb hts hi_X10_storeOf_X10 hown hK (hP.blk 0 rfl) 0 rfl rfl 0 (by decide) (hts (.fieldLink RX10 10 "FallingWords" "now" "LFallingWords$State;") (by decide +kernel)) (fun _ h9 => h9) rfl dX10_storeOf_115 ?_
              refine va_getN (D := D) (ci := 6) (v := .ref (Bw 7)) (C := RX6) (T := TX6) (N := 6) hx hb hts hi_X10_storeOf_X6 hown hK (hP.blk 1 rfl) 0 rfl rfl 1 (by decide) (hN.fl (w := .fieldLinkNest RX10 183 "FallingWords$State" "store" "LFallingWords$Store;" "FallingWords") (by decide +kernel)) (fun _ h9 => h9) rfl dX10_storeOf_118 ?_
              refine va_getN (D := D) (ci := 7) (v := .ref (Bw 8)) (C := RX7) (T := TX7) (N := 3) hx hb hts hi_X10_storeOf_X7 hown hK (hP.blk 1 rfl) 7 rfl rfl 0 (by decide) (hN.fl (w := .fieldLinkNest RX10 190 "FallingWords$Store" "words" "[I" "FallingWords") (by decide +kernel)) (fun _ h9 => h9) rfl dX10_storeOf_121 ?_
              refine lv_iload_n hx hb dX10_storeOf_124 rfl (lv_at hl 3 rfl) ?_
              refine xa_ld (v := nI (S (36 + 2 * k))) hx hb hK (hP.blk 1 rfl) 8 rfl (by omega) (by decide) (o1) dX10_storeOf_125 ?_
              refine lv_goto (tgt := 141) hx hb dX10_storeOf_126 (by decide) ?_
              refine bl_i (Ss := []) hP hD hS hA [] rfl (by decide) [] rfl (va_runSN (As := [.int (nI (S (36 + 2 * k)))]) (rest := []) h0 ((k_X9_lengthOf lY D cA (S (36 + 2 * k)) (p1.1) (by have := p1.2; omega)) _) ⟨(va_cnB 1 hts gX10_storeOf_X9_lengthOf_n159 rfl rfl rfl (hN (.methodLinkNest RX10 159 yX9_lengthOf "FallingWords") (by decide +kernel)) (hts (.initialized RX9) (by decide +kernel)) (by decide +kernel) ⟨Nat.le_of_ble_eq_true rfl, Nat.le_of_ble_eq_true rfl⟩), hts (.static yX9_lengthOf) (by decide +kernel), trivial⟩ ⟨pw_blind, bl_pre (Ss := []) hP hD hK hN [] rfl (by decide) [] rfl (by decide +kernel)⟩ rfl rfl hl.1 rfl (lv_room (Nat.le_of_ble_eq_true rfl)) dX10_storeOf_141 ⟨Nat.zero_le _, Nat.zero_le _⟩) (fun rY wY H locs hwY hJ hS => ?_)
              obtain ⟨e1Y, e2Y⟩ := hwY
              have e3Y := e1Y.symm
              clear e1Y
              subst e3Y
              have e3Y := e2Y.symm
              clear e2Y
              subst e3Y
              obtain ⟨hP, hD⟩ := hJ [] rfl rfl rfl
              have hP : PB D [gFw cA Bf (Bw 0) (Bq 0) (Bh 0) (Bd 0) (Br 0) (Bo 0) (Bt 0) (Bs 0), gSa cA Bw (nI (S 0)) (nI (S 2)) (nI (S 4)) (nI (S 5)) L R LL RL TM (nI (S 1)) WW NN (nI (S 3))] H := hP
              have hD : DB AY [gFw cA Bf (Bw 0) (Bq 0) (Bh 0) (Bd 0) (Br 0) (Bo 0) (Bt 0) (Bs 0), gSa cA Bw (nI (S 0)) (nI (S 2)) (nI (S 4)) (nI (S 5)) L R LL RL TM (nI (S 1)) WW NN (nI (S 3))] := hD
              exact hret _ _ _ _ _ _ dX10_storeOf_144 ⟨(by unfold stoZ; rw [if_neg hv, if_neg (by omega), ek, c62, if_neg (by decide), c87, if_neg (by decide), if_pos (by omega)]), rfl⟩ hP.to hD.to hS
          · refine lv_aload_n hx hb dX10_storeOf_90 rfl (lv_at hl 2 rfl) ?_
            refine va_get (D := D) (ci := 9) (v := .ref (Bw 0)) (C := RX10) (T := TX10) (N := 8) hx hb hts hi_X10_storeOf_X10 hown hK (hP.blk 0 rfl) 0 rfl rfl 0 (by decide) (hts (.fieldLink RX10 10 "FallingWords" "now" "LFallingWords$State;") (by decide +kernel)) (fun _ h9 => h9) rfl dX10_storeOf_91 ?_
            refine va_getN (D := D) (ci := 6) (v := .ref (Bw 7)) (C := RX6) (T := TX6) (N := 6) hx hb hts hi_X10_storeOf_X6 hown hK (hP.blk 1 rfl) 0 rfl rfl 1 (by decide) (hN.fl (w := .fieldLinkNest RX10 183 "FallingWords$State" "store" "LFallingWords$Store;" "FallingWords") (by decide +kernel)) (fun _ h9 => h9) rfl dX10_storeOf_94 ?_
            refine va_getN (D := D) (ci := 7) (v := .ref (Bw 9)) (C := RX7) (T := TX7) (N := 3) hx hb hts hi_X10_storeOf_X7 hown hK (hP.blk 1 rfl) 7 rfl rfl 1 (by decide) (hN.fl (w := .fieldLinkNest RX10 193 "FallingWords$Store" "normals" "[I" "FallingWords") (by decide +kernel)) (fun _ h9 => h9) rfl dX10_storeOf_97 ?_
            refine lv_iload_n hx hb dX10_storeOf_100 rfl (lv_at hl 3 rfl) ?_
            refine xa_ld (v := nI (S (37 + 2 * k))) hx hb hK (hP.blk 1 rfl) 9 rfl (by omega) (by decide) (o2) dX10_storeOf_101 ?_
            refine lv_iload_n hx hb dX10_storeOf_102 rfl (lv_at hl 4 rfl) ?_
            refine lv_bipush (v := nI 30) hx hb dX10_storeOf_103 (by decide +kernel) ?_
            refine lv_isub hx hb dX10_storeOf_105 ?_
            refine bl_i (Ss := []) hP hD hS hA [] rfl (by decide) [] rfl (va_runSN (As := [.int (nI (S (37 + 2 * k))), .int (y - (nI 30))]) (rest := []) h0 ((k_X9_letterOf lY D cA (S (37 + 2 * k)) (y - (nI 30)) (p2)) _) ⟨(va_cnB 2 hts gX10_storeOf_X9_letterOf_n100 rfl rfl rfl (hN (.methodLinkNest RX10 100 yX9_letterOf "FallingWords") (by decide +kernel)) (hts (.initialized RX9) (by decide +kernel)) (by decide +kernel) ⟨Nat.le_of_ble_eq_true rfl, Nat.le_of_ble_eq_true rfl⟩), hts (.static yX9_letterOf) (by decide +kernel), trivial⟩ ⟨pw_blind, bl_pre (Ss := []) hP hD hK hN [] rfl (by decide) [] rfl (by decide +kernel)⟩ rfl rfl hl.1 rfl (lv_room (Nat.le_of_ble_eq_true rfl)) dX10_storeOf_106 ⟨Nat.zero_le _, Nat.zero_le _⟩) (fun rY wY H locs hwY hJ hS => ?_)
            obtain ⟨e1Y, e2Y⟩ := hwY
            have e3Y := e1Y.symm
            clear e1Y
            subst e3Y
            have e3Y := e2Y.symm
            clear e2Y
            subst e3Y
            obtain ⟨hP, hD⟩ := hJ [] rfl rfl rfl
            have hP : PB D [gFw cA Bf (Bw 0) (Bq 0) (Bh 0) (Bd 0) (Br 0) (Bo 0) (Bt 0) (Bs 0), gSa cA Bw (nI (S 0)) (nI (S 2)) (nI (S 4)) (nI (S 5)) L R LL RL TM (nI (S 1)) WW NN (nI (S 3))] H := hP
            have hD : DB AY [gFw cA Bf (Bw 0) (Bq 0) (Bh 0) (Bd 0) (Br 0) (Bo 0) (Bt 0) (Bs 0), gSa cA Bw (nI (S 0)) (nI (S 2)) (nI (S 4)) (nI (S 5)) L R LL RL TM (nI (S 1)) WW NN (nI (S 3))] := hD
            exact hret _ _ _ _ _ _ dX10_storeOf_109 ⟨(by unfold stoZ; rw [if_neg hv, if_neg (by omega), ek, c62, if_neg (by decide), if_pos c87]), rfl⟩ hP.to hD.to hS
        · refine lv_aload_n hx hb dX10_storeOf_65 rfl (lv_at hl 2 rfl) ?_
          refine va_get (D := D) (ci := 9) (v := .ref (Bw 0)) (C := RX10) (T := TX10) (N := 8) hx hb hts hi_X10_storeOf_X10 hown hK (hP.blk 0 rfl) 0 rfl rfl 0 (by decide) (hts (.fieldLink RX10 10 "FallingWords" "now" "LFallingWords$State;") (by decide +kernel)) (fun _ h9 => h9) rfl dX10_storeOf_66 ?_
          refine va_getN (D := D) (ci := 6) (v := .ref (Bw 7)) (C := RX6) (T := TX6) (N := 6) hx hb hts hi_X10_storeOf_X6 hown hK (hP.blk 1 rfl) 0 rfl rfl 1 (by decide) (hN.fl (w := .fieldLinkNest RX10 183 "FallingWords$State" "store" "LFallingWords$Store;" "FallingWords") (by decide +kernel)) (fun _ h9 => h9) rfl dX10_storeOf_69 ?_
          refine va_getN (D := D) (ci := 7) (v := .ref (Bw 8)) (C := RX7) (T := TX7) (N := 3) hx hb hts hi_X10_storeOf_X7 hown hK (hP.blk 1 rfl) 7 rfl rfl 0 (by decide) (hN.fl (w := .fieldLinkNest RX10 190 "FallingWords$Store" "words" "[I" "FallingWords") (by decide +kernel)) (fun _ h9 => h9) rfl dX10_storeOf_72 ?_
          refine lv_iload_n hx hb dX10_storeOf_75 rfl (lv_at hl 3 rfl) ?_
          refine xa_ld (v := nI (S (36 + 2 * k))) hx hb hK (hP.blk 1 rfl) 8 rfl (by omega) (by decide) (o1) dX10_storeOf_76 ?_
          refine lv_iload_n hx hb dX10_storeOf_77 rfl (lv_at hl 4 rfl) ?_
          refine lv_bipush (v := nI 10) hx hb dX10_storeOf_78 (by decide +kernel) ?_
          refine lv_isub hx hb dX10_storeOf_80 ?_
          refine bl_i (Ss := []) hP hD hS hA [] rfl (by decide) [] rfl (va_runSN (As := [.int (nI (S (36 + 2 * k))), .int (y - (nI 10))]) (rest := []) h0 ((k_X9_letterOf lY D cA (S (36 + 2 * k)) (y - (nI 10)) (p1)) _) ⟨(va_cnB 2 hts gX10_storeOf_X9_letterOf_n100 rfl rfl rfl (hN (.methodLinkNest RX10 100 yX9_letterOf "FallingWords") (by decide +kernel)) (hts (.initialized RX9) (by decide +kernel)) (by decide +kernel) ⟨Nat.le_of_ble_eq_true rfl, Nat.le_of_ble_eq_true rfl⟩), hts (.static yX9_letterOf) (by decide +kernel), trivial⟩ ⟨pw_blind, bl_pre (Ss := []) hP hD hK hN [] rfl (by decide) [] rfl (by decide +kernel)⟩ rfl rfl hl.1 rfl (lv_room (Nat.le_of_ble_eq_true rfl)) dX10_storeOf_81 ⟨Nat.zero_le _, Nat.zero_le _⟩) (fun rY wY H locs hwY hJ hS => ?_)
          obtain ⟨e1Y, e2Y⟩ := hwY
          have e3Y := e1Y.symm
          clear e1Y
          subst e3Y
          have e3Y := e2Y.symm
          clear e2Y
          subst e3Y
          obtain ⟨hP, hD⟩ := hJ [] rfl rfl rfl
          have hP : PB D [gFw cA Bf (Bw 0) (Bq 0) (Bh 0) (Bd 0) (Br 0) (Bo 0) (Bt 0) (Bs 0), gSa cA Bw (nI (S 0)) (nI (S 2)) (nI (S 4)) (nI (S 5)) L R LL RL TM (nI (S 1)) WW NN (nI (S 3))] H := hP
          have hD : DB AY [gFw cA Bf (Bw 0) (Bq 0) (Bh 0) (Bd 0) (Br 0) (Bo 0) (Bt 0) (Bs 0), gSa cA Bw (nI (S 0)) (nI (S 2)) (nI (S 4)) (nI (S 5)) L R LL RL TM (nI (S 1)) WW NN (nI (S 3))] := hD
          exact hret _ _ _ _ _ _ dX10_storeOf_84 ⟨(by unfold stoZ; rw [if_neg hv, if_neg (by omega), ek, if_pos c62]), rfl⟩ hP.to hD.to hS
      · refine lv_ldc (v := (-1000004)) hx hb hown (hts (.constant RX10 135 (-1000004)) (by decide +kernel)) dX10_storeOf_58 ?_
        exact hret _ _ _ _ _ _ dX10_storeOf_60 ⟨(by unfold stoZ; rw [if_neg hv, if_pos (by omega)]), rfl⟩ hP.to hD.to hS
    refine lv_iload_n hx hb dX10_storeOf_23 rfl (lv_at hl 1 rfl) ?_
    refine xb_ne (tgt := 44) hx hb dX10_storeOf_24 (by decide) (fun c24 => ?_) (fun c24 => ?_)
    · exact L44  (by omega) (fun h => h.elim (fun h => by omega) (fun h => by rw [c24] at h; cases h.1)) _ _ _ hP hD hS hl
    · refine lv_iload hx hb dX10_storeOf_27 (lv_at hl 0 rfl) ?_
      refine xb_ne (tgt := 44) hx hb dX10_storeOf_29 (by decide) (fun c29 => ?_) (fun c29 => ?_)
      · exact L44  (by omega) (fun h => h.elim (fun h => by omega) (fun h => by rw [c29] at h; cases h.2.1)) _ _ _ hP hD hS hl
      · refine lv_iload_n hx hb dX10_storeOf_32 rfl (lv_at hl 4 rfl) ?_
        refine xz_eq (tgt := 44) hx hb dX10_storeOf_33 (by decide) (fun c33 => ?_) (fun c33 => ?_)
        · exact L44  (by omega) (fun h => h.elim (fun h => by omega) (fun h => h.2.2 (by omega))) _ _ _ hP hD hS hl
        · refine lv_iload_n hx hb dX10_storeOf_36 rfl (lv_at hl 4 rfl) ?_
          refine lv_iconst (v := nI 1) hx hb dX10_storeOf_37 (by decide +kernel) ?_
          refine xr_eq (tgt := 44) hx hb dX10_storeOf_38 (by decide) (fun c38 => ?_) (fun c38 => ?_)
          · exact L44  (by omega) (fun h => h.elim (fun h => by omega) (fun h => h.2.2 (by omega))) _ _ _ hP hD hS hl
          · refine lv_ldc (v := (-1000001)) hx hb hown (hts (.constant RX10 71 (-1000001)) (by decide +kernel)) dX10_storeOf_41 ?_
            exact hret _ _ _ _ _ _ dX10_storeOf_43 ⟨(by unfold stoZ; rw [if_pos (Or.inr ⟨c24, c29, by omega⟩)]), rfl⟩ hP.to hD.to hS
