/-! what the class answers of what it computes -/
noncomputable def redZ (S : St) (x : Int32) : Int32 :=
  if isL x 10 12 = false ∧ ¬ (0 ≤ x.toInt ∧ x.toInt ≤ 4) then (-1000001)
  else if x.toInt = 0 then nI (red S (S 0)).1
  else if x.toInt = 1 then nI (red S (S 0)).2.1
  else if x.toInt = 2 then (if (red S (S 0)).1 = 1 then nI ((red S (S 0)).2.1 - (red S (S 0)).2.2) else (-1000004))
  else if x.toInt = 3 then (if (red S (S 0)).1 = 1 then nI (red S (S 0)).2.2 else (-1000004))
  else if (red S (S 0)).1 = 0 then (if isL x 10 12 then ltI (nw S (S 0)) (x - nI 10) else nI (len (nw S (S 0))))
  else (-1000004)
noncomputable def reaZ (S : St) (x : Int32) : Int32 :=
  if isL x 10 12 = false ∧ isL x 30 12 = false ∧ ¬ (0 ≤ x.toInt ∧ x.toInt ≤ 3) then (-1000001)
  else if (bfs S (S 0)).2 = 401 then (-1000003)
  else if x.toInt = 0 then nI (bfs S (S 0)).2
  else if x.toInt = 1 then nI (enF S (bfs S (S 0)).1 (bfs S (S 0)).2).1
  else if (enF S (bfs S (S 0)).1 (bfs S (S 0)).2).1 = 0 then (-1000004)
  else if isL x 10 12 then ltI (enF S (bfs S (S 0)).1 (bfs S (S 0)).2).2.1 (x - nI 10)
  else if isL x 30 12 then ltI (enF S (bfs S (S 0)).1 (bfs S (S 0)).2).2.2 (x - nI 30)
  else if x.toInt = 2 then nI (len (enF S (bfs S (S 0)).1 (bfs S (S 0)).2).2.1)
  else nI (len (enF S (bfs S (S 0)).1 (bfs S (S 0)).2).2.2)
def stoZ (S : St) (x y : Int32) : Int32 :=
  if x.toInt < 0 ∨ (isL y 10 12 = false ∧ isL y 30 12 = false ∧ ¬ (y.toInt = 0 ∨ y.toInt = 1)) then (-1000001)
  else if (S 3 : Int) ≤ x.toInt then (-1000004)
  else if isL y 10 12 then ltI (S (36 + 2 * x.toInt.toNat)) (y - nI 10)
  else if isL y 30 12 then ltI (S (37 + 2 * x.toInt.toNat)) (y - nI 30)
  else if y.toInt = 0 then nI (len (S (36 + 2 * x.toInt.toNat)))
  else nI (len (S (37 + 2 * x.toInt.toNat)))
theorem isL_in {x : Int32} {b n : Nat} (h : isL x b n = true) : (b : Int) ≤ x.toInt ∧ x.toInt < (b : Int) + n := of_decide_eq_true h
theorem isL_out {x : Int32} {b n : Nat} (h : isL x b n = false) : ¬ ((b : Int) ≤ x.toInt ∧ x.toInt < (b : Int) + n) := of_decide_eq_false h
theorem enF_vw {S : St} {f : Nat → Nat} : ∀ k, (∀ j, j < k → vw 12 (f j)) → 0 < (enF S f k).1 → vw 12 (enF S f k).2.1 ∧ vw 12 (enF S f k).2.2
  | 0, _, h => absurd h (Nat.lt_irrefl 0)
  | k + 1, hv, h => by
    have ih := enF_vw (S := S) (f := f) k (fun j hj => hv j (by omega))
    have hk := hv k (Nat.lt_succ_self k)
    revert h
    show 0 < (if nrm S (f k) then _ else _ : Nat × Nat × Nat).1 → vw 12 (if nrm S (f k) then _ else _ : Nat × Nat × Nat).2.1 ∧ vw 12 (if nrm S (f k) then _ else _ : Nat × Nat × Nat).2.2
    by_cases hn : nrm S (f k) = true
    · rw [if_pos hn]
      intro _
      by_cases h0 : (enF S f k).1 = 0
      · show vw 12 (if (enF S f k).1 = 0 then _ else _) ∧ vw 12 (if (enF S f k).1 = 0 then _ else _)
        rw [if_pos h0, if_pos h0]
        exact ⟨hk, hk⟩
      · show vw 12 (if (enF S f k).1 = 0 then _ else _) ∧ vw 12 (if (enF S f k).1 = 0 then _ else _)
        rw [if_neg h0, if_neg h0]
        obtain ⟨a, b⟩ := ih (by omega)
        refine ⟨?_, ?_⟩
        · rcases Nat.le_total (enF S f k).2.1 (f k) with q | q
          · rw [Nat.min_eq_left q]; exact a
          · rw [Nat.min_eq_right q]; exact hk
        · rcases Nat.le_total (enF S f k).2.2 (f k) with q | q
          · rw [Nat.max_eq_right q]; exact hk
          · rw [Nat.max_eq_left q]; exact b
    · rw [if_neg hn]
      exact ih

theorem hi_X10_ringAnswer_X10 : ∀ w ∈ u_ws RX10 TX10 8, w ∈ wsX10_ringAnswer := by decide +kernel
theorem hi_X10_ringAnswer_X3 : ∀ w ∈ u_ws RX3 TX3 5, w ∈ wsX10_ringAnswer := by decide +kernel
set_option maxHeartbeats 1000000 in
set_option maxRecDepth 100000 in
theorem k_X10_ringAnswer (lY : Launch) (D : va_G) (cA : Nat → ClassId) (Bf Bw Bq Bh Bd Br Bo Bt Bs : Nat → Nat) (x : Int32) (o s r : Nat) (WD RD : Nat → Int32) (rs : Int32) (hx2 : x.toInt = 2 ∨ x.toInt = 3) (ho2 : o ≤ 2) (hs : s ≤ 100) (hrs : o = 1 → rs = nI r ∧ r < s) : MetI lY D cA yX10_ringAnswer wsX10_ringAnswer 0 0 [.ref (Bf 0), .int x] (List.flatten [gFw cA Bf (Bw 0) (Bq 0) (Bh 0) (Bd 0) (Br 0) (Bo 0) (Bt 0) (Bs 0), gRd cA Bd WD RD (nI o) (nI s) rs]) (fun rY wY => rY = (if o = 1 then (if x.toInt = 2 then nI (s - r) else nI r) else (-1000004)) ∧ wY = List.flatten [gFw cA Bf (Bw 0) (Bq 0) (Bh 0) (Bd 0) (Br 0) (Bo 0) (Bt 0) (Bs 0), gRd cA Bd WD RD (nI o) (nI s) rs]) := by
  refine MetI.of (cc := cX10_ringAnswer) (maxL := 2) (ret := (some .int)) (by decide) rfl (Nat.le_of_ble_eq_true rfl) (Or.inl rfl) ?_
  intro pY eY sY mY aY bY tY cY QY AY ls h0 hP hK hN hD hA hS hl hret
  obtain ⟨hx, hb, hml, hown, hts⟩ := id h0
  have hl : lv_has ls 2 [(0, .ref (Bf 0)), (1, .int x)] := hl
  have hP : PB D [gFw cA Bf (Bw 0) (Bq 0) (Bh 0) (Bd 0) (Br 0) (Bo 0) (Bt 0) (Bs 0), gRd cA Bd WD RD (nI o) (nI s) rs] sY.heap := PB.of hP
  have hD : DB AY [gFw cA Bf (Bw 0) (Bq 0) (Bh 0) (Bd 0) (Br 0) (Bo 0) (Bt 0) (Bs 0), gRd cA Bd WD RD (nI o) (nI s) rs] := DB.of hD
  have e2 : (nI 2).toInt = 2 := rfl
  refine lv_aload_n hx hb dX10_ringAnswer_0 rfl (lv_at hl 0 rfl) ?_
  refine va_get (D := D) (ci := 9) (v := .ref (Bd 0)) (C := RX10) (T := TX10) (N := 8) hx hb hts hi_X10_ringAnswer_X10 hown hK (hP.blk 0 rfl) 0 rfl rfl 3 (by decide) (hts (.fieldLink RX10 29 "FallingWords" "reduction" "LFallingWords$Reduction;") (by decide +kernel)) (fun _ h9 => h9) rfl dX10_ringAnswer_1 ?_
  refine va_getN (D := D) (ci := 3) (v := .int (nI o)) (C := RX3) (T := TX3) (N := 5) hx hb hts hi_X10_ringAnswer_X3 hown hK (hP.blk 1 rfl) 0 rfl rfl 2 (by decide) (hN.fl (w := .fieldLinkNest RX10 147 "FallingWords$Reduction" "outcome" "I" "FallingWords") (by decide +kernel)) (fun _ h9 => h9) rfl dX10_ringAnswer_4 ?_
  refine lv_iconst (v := nI 1) hx hb dX10_ringAnswer_7 (by decide +kernel) ?_
  refine xc_eq (tgt := 14) hx hb dX10_ringAnswer_8 (by decide) (by omega) (by omega) (fun c8 => ?_) (fun c8 => ?_)
  · obtain ⟨hr1, hr2⟩ := hrs c8
    have hxn : x = nI x.toInt.toNat := by rw [Int32.toInt_inj.symm, nI_toInt (by omega)]; omega
    refine lv_iload_n hx hb dX10_ringAnswer_14 rfl (lv_at hl 1 rfl) ?_
    refine lv_iconst (v := nI 2) hx hb dX10_ringAnswer_15 (by decide +kernel) ?_
    refine xr_ne (tgt := 37) hx hb dX10_ringAnswer_16 (by decide) (fun c16 => ?_) (fun c16 => ?_)
    · refine lv_aload_n hx hb dX10_ringAnswer_37 rfl (lv_at hl 0 rfl) ?_
      refine va_get (D := D) (ci := 9) (v := .ref (Bd 0)) (C := RX10) (T := TX10) (N := 8) hx hb hts hi_X10_ringAnswer_X10 hown hK (hP.blk 0 rfl) 0 rfl rfl 3 (by decide) (hts (.fieldLink RX10 29 "FallingWords" "reduction" "LFallingWords$Reduction;") (by decide +kernel)) (fun _ h9 => h9) rfl dX10_ringAnswer_38 ?_
      refine va_getN (D := D) (ci := 3) (v := .int rs) (C := RX3) (T := TX3) (N := 5) hx hb hts hi_X10_ringAnswer_X3 hown hK (hP.blk 1 rfl) 0 rfl rfl 4 (by decide) (hN.fl (w := .fieldLinkNest RX10 162 "FallingWords$Reduction" "ringStart" "I" "FallingWords") (by decide +kernel)) (fun _ h9 => h9) rfl dX10_ringAnswer_41 ?_
      refine xt (show rs = nI r from hr1) ?_
      exact hret _ _ _ _ _ _ dX10_ringAnswer_44 ⟨(by rw [if_pos c8, if_neg (by omega)]), rfl⟩ hP.to hD.to hS
    · refine lv_aload_n hx hb dX10_ringAnswer_19 rfl (lv_at hl 0 rfl) ?_
      refine va_get (D := D) (ci := 9) (v := .ref (Bd 0)) (C := RX10) (T := TX10) (N := 8) hx hb hts hi_X10_ringAnswer_X10 hown hK (hP.blk 0 rfl) 0 rfl rfl 3 (by decide) (hts (.fieldLink RX10 29 "FallingWords" "reduction" "LFallingWords$Reduction;") (by decide +kernel)) (fun _ h9 => h9) rfl dX10_ringAnswer_20 ?_
      refine va_getN (D := D) (ci := 3) (v := .int (nI s)) (C := RX3) (T := TX3) (N := 5) hx hb hts hi_X10_ringAnswer_X3 hown hK (hP.blk 1 rfl) 0 rfl rfl 3 (by decide) (hN.fl (w := .fieldLinkNest RX10 150 "FallingWords$Reduction" "steps" "I" "FallingWords") (by decide +kernel)) (fun _ h9 => h9) rfl dX10_ringAnswer_23 ?_
      refine lv_aload_n hx hb dX10_ringAnswer_26 rfl (lv_at hl 0 rfl) ?_
      refine va_get (D := D) (ci := 9) (v := .ref (Bd 0)) (C := RX10) (T := TX10) (N := 8) hx hb hts hi_X10_ringAnswer_X10 hown hK (hP.blk 0 rfl) 0 rfl rfl 3 (by decide) (hts (.fieldLink RX10 29 "FallingWords" "reduction" "LFallingWords$Reduction;") (by decide +kernel)) (fun _ h9 => h9) rfl dX10_ringAnswer_27 ?_
      refine va_getN (D := D) (ci := 3) (v := .int rs) (C := RX3) (T := TX3) (N := 5) hx hb hts hi_X10_ringAnswer_X3 hown hK (hP.blk 1 rfl) 0 rfl rfl 4 (by decide) (hN.fl (w := .fieldLinkNest RX10 162 "FallingWords$Reduction" "ringStart" "I" "FallingWords") (by decide +kernel)) (fun _ h9 => h9) rfl dX10_ringAnswer_30 ?_
      refine xt (show rs = nI r from hr1) ?_
      refine lv_isub hx hb dX10_ringAnswer_33 ?_
      refine xt (show (nI s) - (nI r) = nI (s - r) from pk_sub (by omega)) ?_
      refine lv_goto (tgt := 44) hx hb dX10_ringAnswer_34 (by decide) ?_
      exact hret _ _ _ _ _ _ dX10_ringAnswer_44 ⟨(by rw [if_pos c8, if_pos (by omega)]), rfl⟩ hP.to hD.to hS
  · refine lv_ldc (v := (-1000004)) hx hb hown (hts (.constant RX10 135 (-1000004)) (by decide +kernel)) dX10_ringAnswer_11 ?_
    exact hret _ _ _ _ _ _ dX10_ringAnswer_13 ⟨((if_neg c8).symm), rfl⟩ hP.to hD.to hS

theorem hi_X10_reduced_X10 : ∀ w ∈ u_ws RX10 TX10 8, w ∈ wsX10_reduced := by decide +kernel
theorem hi_X10_reduced_X3 : ∀ w ∈ u_ws RX3 TX3 5, w ∈ wsX10_reduced := by decide +kernel
theorem hi_X10_reduced_X6 : ∀ w ∈ u_ws RX6 TX6 6, w ∈ wsX10_reduced := by decide +kernel
set_option maxHeartbeats 1000000 in
set_option maxRecDepth 100000 in
theorem k_X10_reduced (lY : Launch) (D : va_G) (cA : Nat → ClassId) (Bf Bw Bq Bh Bd Br Bo Bt Bs : Nat → Nat) (S : St) (L R LL RL TM WW NN : Nat → Int32) (x : Int32) (WD RD : Nat → Int32) (oc ns rs : Int32) (hI : IV S) (hr : rRu S L R LL RL TM) (ho : rSo S WW NN) : MetI lY D cA yX10_reduced wsX10_reduced 3 82 [.ref (Bf 0), .int x] (List.flatten [gFw cA Bf (Bw 0) (Bq 0) (Bh 0) (Bd 0) (Br 0) (Bo 0) (Bt 0) (Bs 0), gSa cA Bw (nI (S 0)) (nI (S 2)) (nI (S 4)) (nI (S 5)) L R LL RL TM (nI (S 1)) WW NN (nI (S 3)), gRd cA Bd WD RD oc ns rs]) (fun rY wY => ∃ (WD' : Nat → Int32) (RD' : Nat → Int32) (oc' : Int32) (ns' : Int32) (rs' : Int32), rY = redZ S x ∧ wY = List.flatten [gFw cA Bf (Bw 0) (Bq 0) (Bh 0) (Bd 0) (Br 0) (Bo 0) (Bt 0) (Bs 0), gSa cA Bw (nI (S 0)) (nI (S 2)) (nI (S 4)) (nI (S 5)) L R LL RL TM (nI (S 1)) WW NN (nI (S 3)), gRd cA Bd WD' RD' oc' ns' rs']) := by
  refine MetI.of (cc := cX10_reduced) (maxL := 3) (ret := (some .int)) (by decide) rfl (Nat.le_of_ble_eq_true rfl) (Or.inl rfl) ?_
  intro pY eY sY mY aY bY tY cY QY AY ls h0 hP hK hN hD hA hS hl hret
  obtain ⟨hx, hb, hml, hown, hts⟩ := id h0
  have hl : lv_has ls 3 [(0, .ref (Bf 0)), (1, .int x)] := hl
  have hP : PB D [gFw cA Bf (Bw 0) (Bq 0) (Bh 0) (Bd 0) (Br 0) (Bo 0) (Bt 0) (Bs 0), gSa cA Bw (nI (S 0)) (nI (S 2)) (nI (S 4)) (nI (S 5)) L R LL RL TM (nI (S 1)) WW NN (nI (S 3)), gRd cA Bd WD RD oc ns rs] sY.heap := PB.of hP
  have hD : DB AY [gFw cA Bf (Bw 0) (Bq 0) (Bh 0) (Bd 0) (Br 0) (Bo 0) (Bt 0) (Bs 0), gSa cA Bw (nI (S 0)) (nI (S 2)) (nI (S 4)) (nI (S 5)) L R LL RL TM (nI (S 1)) WW NN (nI (S 3)), gRd cA Bd WD RD oc ns rs] := DB.of hD
  have hIR := hI.1
  have hw := hI.2.2.1
  obtain ⟨z1, z2, z3, z4, z5, z6⟩ := red_ok hIR hw
  have e4 : (nI 4).toInt = 4 := rfl
  have e1 : (nI 1).toInt = 1 := rfl
  have e2 : (nI 2).toInt = 2 := rfl
  have e3 : (nI 3).toInt = 3 := rfl
  refine lv_iload_n hx hb dX10_reduced_0 rfl (lv_at hl 1 rfl) ?_
  refine lv_bipush (v := nI 10) hx hb dX10_reduced_1 (by decide +kernel) ?_
  refine lv_bipush (v := nI 12) hx hb dX10_reduced_3 (by decide +kernel) ?_
  refine bl_i (Ss := []) hP hD hS hA [] rfl (by decide) [] rfl (va_runS (As := [.int x, .int (nI 10), .int (nI 12)]) (rest := []) h0 ((k_X10_isLetterOf lY D cA x 10 12 (by omega) (by omega)) _) (va_cwS 3 hts gX10_reduced_X10_isLetterOf rfl rfl rfl (by decide +kernel) ⟨Nat.le_of_ble_eq_true rfl, Nat.le_of_ble_eq_true rfl⟩) ⟨pw_blind, bl_pre (Ss := []) hP hD hK hN [] rfl (by decide) [] rfl (by decide +kernel)⟩ rfl rfl hl.1 rfl (lv_room (Nat.le_of_ble_eq_true rfl)) dX10_reduced_5 ⟨Nat.zero_le _, Nat.zero_le _⟩) (fun rY wY H locs hwY hJ hS => ?_)
  obtain ⟨e1Y, e2Y⟩ := hwY
  have e3Y := e1Y.symm
  clear e1Y
  subst e3Y
  have e3Y := e2Y.symm
  clear e2Y
  subst e3Y
  obtain ⟨hP, hD⟩ := hJ [] rfl rfl rfl
  have hP : PB D [gFw cA Bf (Bw 0) (Bq 0) (Bh 0) (Bd 0) (Br 0) (Bo 0) (Bt 0) (Bs 0), gSa cA Bw (nI (S 0)) (nI (S 2)) (nI (S 4)) (nI (S 5)) L R LL RL TM (nI (S 1)) WW NN (nI (S 3)), gRd cA Bd WD RD oc ns rs] H := hP
  have hD : DB AY [gFw cA Bf (Bw 0) (Bq 0) (Bh 0) (Bd 0) (Br 0) (Bo 0) (Bt 0) (Bs 0), gSa cA Bw (nI (S 0)) (nI (S 2)) (nI (S 4)) (nI (S 5)) L R LL RL TM (nI (S 1)) WW NN (nI (S 3)), gRd cA Bd WD RD oc ns rs] := hD
  refine lv_istore_n (lv' := [(2, .int (bI (isL x 10 12))), (0, .ref (Bf 0)), (1, .int x)]) hx hb dX10_reduced_8 rfl hl (by decide) rfl (fun ls hl => ?_)
  refine lv_iload_n hx hb dX10_reduced_9 rfl (lv_at hl 0 rfl) ?_
  refine xb_ne (tgt := 25) hx hb dX10_reduced_10 (by decide) (fun c10 => ?_) (fun c10 => ?_)
  · have L25 :  (¬ (isL x 10 12 = false ∧ ¬ (0 ≤ x.toInt ∧ x.toInt ≤ 4))) → ∀ (H : Heap) (locs : List Loc) (ls : Array Slot), PB D [gFw cA Bf (Bw 0) (Bq 0) (Bh 0) (Bd 0) (Br 0) (Bo 0) (Bt 0) (Bs 0), gSa cA Bw (nI (S 0)) (nI (S 2)) (nI (S 4)) (nI (S 5)) L R LL RL TM (nI (S 1)) WW NN (nI (S 3)), gRd cA Bd WD RD oc ns rs] H → DB AY [gFw cA Bf (Bw 0) (Bq 0) (Bh 0) (Bd 0) (Br 0) (Bo 0) (Bt 0) (Bs 0), gSa cA Bw (nI (S 0)) (nI (S 2)) (nI (S 4)) (nI (S 5)) L R LL RL TM (nI (S 1)) WW NN (nI (S 3)), gRd cA Bd WD RD oc ns rs] → va_S AY sY.heap H locs → lv_has ls 3 [(2, .int (bI (isL x 10 12))), (0, .ref (Bf 0)), (1, .int x)] → W pY lY eY { frames := 3, cells := 0, slots := 0, locals := 82 } sY mY aY bY tY cY H locs 0 0 QY (F0 mY 25 ls []) := by
      intro hv H locs ls hP hD hS hl
      refine lv_aload_n hx hb dX10_reduced_25 rfl (lv_at hl 1 rfl) ?_
      refine va_get (D := D) (ci := 9) (v := .ref (Bd 0)) (C := RX10) (T := TX10) (N := 8) hx hb hts hi_X10_reduced_X10 hown hK (hP.blk 0 rfl) 0 rfl rfl 3 (by decide) (hts (.fieldLink RX10 29 "FallingWords" "reduction" "LFallingWords$Reduction;") (by decide +kernel)) (fun _ h9 => h9) rfl dX10_reduced_26 ?_
      refine lv_aload_n hx hb dX10_reduced_29 rfl (lv_at hl 1 rfl) ?_
      refine va_get (D := D) (ci := 9) (v := .ref (Bw 0)) (C := RX10) (T := TX10) (N := 8) hx hb hts hi_X10_reduced_X10 hown hK (hP.blk 0 rfl) 0 rfl rfl 0 (by decide) (hts (.fieldLink RX10 10 "FallingWords" "now" "LFallingWords$State;") (by decide +kernel)) (fun _ h9 => h9) rfl dX10_reduced_30 ?_
      refine va_getN (D := D) (ci := 6) (v := .ref (Bw 1)) (C := RX6) (T := TX6) (N := 6) hx hb hts hi_X10_reduced_X6 hown hK (hP.blk 1 rfl) 0 rfl rfl 0 (by decide) (hN.fl (w := .fieldLinkNest RX10 61 "FallingWords$State" "rules" "LFallingWords$Rules;" "FallingWords") (by decide +kernel)) (fun _ h9 => h9) rfl dX10_reduced_33 ?_
      refine lv_aload_n hx hb dX10_reduced_36 rfl (lv_at hl 1 rfl) ?_
      refine va_get (D := D) (ci := 9) (v := .ref (Bw 0)) (C := RX10) (T := TX10) (N := 8) hx hb hts hi_X10_reduced_X10 hown hK (hP.blk 0 rfl) 0 rfl rfl 0 (by decide) (hts (.fieldLink RX10 10 "FallingWords" "now" "LFallingWords$State;") (by decide +kernel)) (fun _ h9 => h9) rfl dX10_reduced_37 ?_
      refine va_getN (D := D) (ci := 6) (v := .int (nI (S 2))) (C := RX6) (T := TX6) (N := 6) hx hb hts hi_X10_reduced_X6 hown hK (hP.blk 1 rfl) 0 rfl rfl 3 (by decide) (hN.fl (w := .fieldLinkNest RX10 86 "FallingWords$State" "choosing" "I" "FallingWords") (by decide +kernel)) (fun _ h9 => h9) rfl dX10_reduced_40 ?_
      refine lv_aload_n hx hb dX10_reduced_43 rfl (lv_at hl 1 rfl) ?_
      refine va_get (D := D) (ci := 9) (v := .ref (Bw 0)) (C := RX10) (T := TX10) (N := 8) hx hb hts hi_X10_reduced_X10 hown hK (hP.blk 0 rfl) 0 rfl rfl 0 (by decide) (hts (.fieldLink RX10 10 "FallingWords" "now" "LFallingWords$State;") (by decide +kernel)) (fun _ h9 => h9) rfl dX10_reduced_44 ?_
      refine va_getN (D := D) (ci := 6) (v := .int (nI (S 0))) (C := RX6) (T := TX6) (N := 6) hx hb hts hi_X10_reduced_X6 hown hK (hP.blk 1 rfl) 0 rfl rfl 2 (by decide) (hN.fl (w := .fieldLinkNest RX10 115 "FallingWords$State" "word" "I" "FallingWords") (by decide +kernel)) (fun _ h9 => h9) rfl dX10_reduced_47 ?_
      refine bl_v (Ss := [gRd cA Bd WD RD oc ns rs, gSa cA Bw (nI (S 0)) (nI (S 2)) (nI (S 4)) (nI (S 5)) L R LL RL TM (nI (S 1)) WW NN (nI (S 3))]) hP hD hS hA [2, 1] rfl (by decide) [0, 1, 2, 4, 5, 6, 7, 8, 9] rfl (va_runVN (As := [.ref (Bw 1), .int (nI (S 2)), .int (nI (S 0))]) (rest := []) h0 ((k_X3_run lY D cA Bd (fun i => Bw (i + 1)) WD RD oc ns rs S L R LL RL TM (S 0) (hIR) (hr) (hw)) _) ⟨(va_cnB 3 hts gX10_reduced_X3_run_n143 rfl rfl rfl (hN (.methodLinkNest RX10 143 yX3_run "FallingWords") (by decide +kernel)) (hts (.initialized RX3) (by decide +kernel)) (by decide +kernel) ⟨Nat.le_of_ble_eq_true rfl, Nat.le_of_ble_eq_true rfl⟩), hts (.instanceMethod yX3_run) (by decide +kernel), hts (.selects RX3 yX3_run yX3_run) (by decide +kernel)⟩ ⟨pw_blind, bl_recv (ci := 3) (q := (RX3, TX3, 5)) (i := 2) (q0 := 0) hP hK rfl rfl rfl, bl_pre (Ss := [gRd cA Bd WD RD oc ns rs, gSa cA Bw (nI (S 0)) (nI (S 2)) (nI (S 4)) (nI (S 5)) L R LL RL TM (nI (S 1)) WW NN (nI (S 3))]) hP hD hK hN [2, 1] rfl (by decide) [0, 1, 2, 4, 5, 6, 7, 8, 9] rfl (by decide +kernel)⟩ rfl rfl hl.1 rfl (lv_room (Nat.le_of_ble_eq_true rfl)) dX10_reduced_50 ⟨Nat.zero_le _, Nat.zero_le _⟩) (fun wY H locs hwY hJ hS => ?_)
      obtain ⟨WD'_50, RD'_50, rs'_50, e2Y, f1_50, f2_50, f3_50⟩ := hwY
      have e3Y := e2Y.symm
      clear e2Y
      subst e3Y
      obtain ⟨hP, hD⟩ := hJ [gRd cA Bd WD'_50 RD'_50 (nI ((red S (S 0)).1)) (nI ((red S (S 0)).2.1)) rs'_50, gSa cA Bw (nI (S 0)) (nI (S 2)) (nI (S 4)) (nI (S 5)) L R LL RL TM (nI (S 1)) WW NN (nI (S 3))] rfl rfl rfl
      have hP : PB D [gFw cA Bf (Bw 0) (Bq 0) (Bh 0) (Bd 0) (Br 0) (Bo 0) (Bt 0) (Bs 0), gSa cA Bw (nI (S 0)) (nI (S 2)) (nI (S 4)) (nI (S 5)) L R LL RL TM (nI (S 1)) WW NN (nI (S 3)), gRd cA Bd WD'_50 RD'_50 (nI ((red S (S 0)).1)) (nI ((red S (S 0)).2.1)) rs'_50] H := hP
      have hD : DB AY [gFw cA Bf (Bw 0) (Bq 0) (Bh 0) (Bd 0) (Br 0) (Bo 0) (Bt 0) (Bs 0), gSa cA Bw (nI (S 0)) (nI (S 2)) (nI (S 4)) (nI (S 5)) L R LL RL TM (nI (S 1)) WW NN (nI (S 3)), gRd cA Bd WD'_50 RD'_50 (nI ((red S (S 0)).1)) (nI ((red S (S 0)).2.1)) rs'_50] := hD
      refine lv_iload_n hx hb dX10_reduced_53 rfl (lv_at hl 2 rfl) ?_
      refine xz_ne (tgt := 65) hx hb dX10_reduced_54 (by decide) (fun c54 => ?_) (fun c54 => ?_)
      · refine lv_iload_n hx hb dX10_reduced_65 rfl (lv_at hl 2 rfl) ?_
        refine lv_iconst (v := nI 1) hx hb dX10_reduced_66 (by decide +kernel) ?_
        refine xr_ne (tgt := 78) hx hb dX10_reduced_67 (by decide) (fun c67 => ?_) (fun c67 => ?_)
        · refine lv_iload_n hx hb dX10_reduced_78 rfl (lv_at hl 2 rfl) ?_
          refine lv_iconst (v := nI 2) hx hb dX10_reduced_79 (by decide +kernel) ?_
          refine xr_eq (tgt := 88) hx hb dX10_reduced_80 (by decide) (fun c80 => ?_) (fun c80 => ?_)
          · refine lv_aload_n hx hb dX10_reduced_88 rfl (lv_at hl 1 rfl) ?_
            refine lv_iload_n hx hb dX10_reduced_89 rfl (lv_at hl 2 rfl) ?_
            refine bf_i (Ss := [gFw cA Bf (Bw 0) (Bq 0) (Bh 0) (Bd 0) (Br 0) (Bo 0) (Bt 0) (Bs 0), gRd cA Bd WD'_50 RD'_50 (nI ((red S (S 0)).1)) (nI ((red S (S 0)).2.1)) rs'_50]) hP hD hS hA [0, 2] rfl (by decide) (va_runV (As := [.int x]) (rest := []) h0 ((k_X10_ringAnswer lY D cA Bf Bw Bq Bh Bd Br Bo Bt Bs x ((red S (S 0)).1) ((red S (S 0)).2.1) ((red S (S 0)).2.2) WD'_50 RD'_50 rs'_50 (by omega) (z4) (z1) (fun h => ⟨f3_50 h, z6 h⟩)) _) (cwV 1 hts gX10_reduced_X10_ringAnswer rfl rfl rfl (by decide +kernel) ⟨Nat.le_of_ble_eq_true rfl, Nat.le_of_ble_eq_true rfl⟩) ⟨pw_blind, bl_recv (ci := 9) (q := (RX10, TX10, 8)) (i := 0) (q0 := 0) hP hK rfl rfl rfl, bf_pre (Ss := [gFw cA Bf (Bw 0) (Bq 0) (Bh 0) (Bd 0) (Br 0) (Bo 0) (Bt 0) (Bs 0), gRd cA Bd WD'_50 RD'_50 (nI ((red S (S 0)).1)) (nI ((red S (S 0)).2.1)) rs'_50]) hP hD hK hN [0, 2] rfl (by decide)⟩ rfl rfl hl.1 rfl (lv_room (Nat.le_of_ble_eq_true rfl)) dX10_reduced_90 ⟨Nat.zero_le _, Nat.zero_le _⟩) (fun rY wY H locs hwY hJ hS => ?_)
            obtain ⟨e1Y, e2Y⟩ := hwY
            have e3Y := e1Y.symm
            clear e1Y
            subst e3Y
            have e3Y := e2Y.symm
            clear e2Y
            subst e3Y
            obtain ⟨hP, hD⟩ := hJ [gFw cA Bf (Bw 0) (Bq 0) (Bh 0) (Bd 0) (Br 0) (Bo 0) (Bt 0) (Bs 0), gRd cA Bd WD'_50 RD'_50 (nI ((red S (S 0)).1)) (nI ((red S (S 0)).2.1)) rs'_50] rfl rfl
            have hP : PB D [gFw cA Bf (Bw 0) (Bq 0) (Bh 0) (Bd 0) (Br 0) (Bo 0) (Bt 0) (Bs 0), gSa cA Bw (nI (S 0)) (nI (S 2)) (nI (S 4)) (nI (S 5)) L R LL RL TM (nI (S 1)) WW NN (nI (S 3)), gRd cA Bd WD'_50 RD'_50 (nI ((red S (S 0)).1)) (nI ((red S (S 0)).2.1)) rs'_50] H := hP
            have hD : DB AY [gFw cA Bf (Bw 0) (Bq 0) (Bh 0) (Bd 0) (Br 0) (Bo 0) (Bt 0) (Bs 0), gSa cA Bw (nI (S 0)) (nI (S 2)) (nI (S 4)) (nI (S 5)) L R LL RL TM (nI (S 1)) WW NN (nI (S 3)), gRd cA Bd WD'_50 RD'_50 (nI ((red S (S 0)).1)) (nI ((red S (S 0)).2.1)) rs'_50] := hD
            exact hret _ _ _ _ _ _ dX10_reduced_93 ⟨WD'_50, RD'_50, ((nI ((red S (S 0)).1))), ((nI ((red S (S 0)).2.1))), rs'_50, (by unfold redZ; rw [if_neg hv, if_neg (show ¬ x.toInt = 0 by omega), if_neg (show ¬ x.toInt = 1 by omega), if_pos (show x.toInt = 2 by omega), if_pos (show x.toInt = 2 by omega)]), rfl⟩ hP.to hD.to hS
          · refine lv_iload_n hx hb dX10_reduced_83 rfl (lv_at hl 2 rfl) ?_
            refine lv_iconst (v := nI 3) hx hb dX10_reduced_84 (by decide +kernel) ?_
            refine xr_ne (tgt := 94) hx hb dX10_reduced_85 (by decide) (fun c85 => ?_) (fun c85 => ?_)
            · refine lv_aload_n hx hb dX10_reduced_94 rfl (lv_at hl 1 rfl) ?_
              refine va_get (D := D) (ci := 9) (v := .ref (Bd 0)) (C := RX10) (T := TX10) (N := 8) hx hb hts hi_X10_reduced_X10 hown hK (hP.blk 0 rfl) 0 rfl rfl 3 (by decide) (hts (.fieldLink RX10 29 "FallingWords" "reduction" "LFallingWords$Reduction;") (by decide +kernel)) (fun _ h9 => h9) rfl dX10_reduced_95 ?_
              refine va_getN (D := D) (ci := 3) (v := .int (nI ((red S (S 0)).1))) (C := RX3) (T := TX3) (N := 5) hx hb hts hi_X10_reduced_X3 hown hK (hP.blk 2 rfl) 0 rfl rfl 2 (by decide) (hN.fl (w := .fieldLinkNest RX10 147 "FallingWords$Reduction" "outcome" "I" "FallingWords") (by decide +kernel)) (fun _ h9 => h9) rfl dX10_reduced_98 ?_
              refine x0_eq (tgt := 107) hx hb dX10_reduced_101 (by decide) (by omega) (fun c101 => ?_) (fun c101 => ?_)
              · refine lv_iload_n hx hb dX10_reduced_107 rfl (lv_at hl 0 rfl) ?_
                refine xb_eq (tgt := 128) hx hb dX10_reduced_108 (by decide) (fun c108 => ?_) (fun c108 => ?_)
                · refine lv_aload_n hx hb dX10_reduced_128 rfl (lv_at hl 1 rfl) ?_
                  refine va_get (D := D) (ci := 9) (v := .ref (Bd 0)) (C := RX10) (T := TX10) (N := 8) hx hb hts hi_X10_reduced_X10 hown hK (hP.blk 0 rfl) 0 rfl rfl 3 (by decide) (hts (.fieldLink RX10 29 "FallingWords" "reduction" "LFallingWords$Reduction;") (by decide +kernel)) (fun _ h9 => h9) rfl dX10_reduced_129 ?_
                  refine bf_i (Ss := [gRd cA Bd WD'_50 RD'_50 (nI ((red S (S 0)).1)) (nI ((red S (S 0)).2.1)) rs'_50]) hP hD hS hA [2] rfl (by decide) (va_runVN (As := []) (rest := []) h0 ((MetI.cw (by simp only [List.flatten_cons, List.flatten_nil, List.append_nil, List.append_assoc]) (k_X3_last lY D cA Bd WD'_50 RD'_50 (nI ((red S (S 0)).1)) rs'_50 ((red S (S 0)).2.1) (nw S (S 0)) (z1) (f1_50 _ (Nat.le_refl _)))) _) ⟨(va_cnB 0 hts gX10_reduced_X3_last_n156 rfl rfl rfl (hN (.methodLinkNest RX10 156 yX3_last "FallingWords") (by decide +kernel)) (hts (.initialized RX3) (by decide +kernel)) (by decide +kernel) ⟨Nat.le_of_ble_eq_true rfl, Nat.le_of_ble_eq_true rfl⟩), hts (.instanceMethod yX3_last) (by decide +kernel), hts (.selects RX3 yX3_last yX3_last) (by decide +kernel)⟩ ⟨pw_blind, bl_recv (ci := 3) (q := (RX3, TX3, 5)) (i := 2) (q0 := 0) hP hK rfl rfl rfl, bf_pre (Ss := [gRd cA Bd WD'_50 RD'_50 (nI ((red S (S 0)).1)) (nI ((red S (S 0)).2.1)) rs'_50]) hP hD hK hN [2] rfl (by decide)⟩ rfl rfl hl.1 rfl (lv_room (Nat.le_of_ble_eq_true rfl)) dX10_reduced_132 ⟨Nat.zero_le _, Nat.zero_le _⟩) (fun rY wY H locs hwY hJ hS => ?_)
                  obtain ⟨e1Y, e2Y⟩ := hwY
                  have e3Y := e1Y.symm
                  clear e1Y
                  subst e3Y
                  have e3Y := e2Y.symm
                  clear e2Y
                  subst e3Y
                  obtain ⟨hP, hD⟩ := hJ [gRd cA Bd WD'_50 RD'_50 (nI ((red S (S 0)).1)) (nI ((red S (S 0)).2.1)) rs'_50] (by simp only [List.flatten_cons, List.flatten_nil, List.append_nil, List.append_assoc]) rfl
                  have hP : PB D [gFw cA Bf (Bw 0) (Bq 0) (Bh 0) (Bd 0) (Br 0) (Bo 0) (Bt 0) (Bs 0), gSa cA Bw (nI (S 0)) (nI (S 2)) (nI (S 4)) (nI (S 5)) L R LL RL TM (nI (S 1)) WW NN (nI (S 3)), gRd cA Bd WD'_50 RD'_50 (nI ((red S (S 0)).1)) (nI ((red S (S 0)).2.1)) rs'_50] H := hP
                  have hD : DB AY [gFw cA Bf (Bw 0) (Bq 0) (Bh 0) (Bd 0) (Br 0) (Bo 0) (Bt 0) (Bs 0), gSa cA Bw (nI (S 0)) (nI (S 2)) (nI (S 4)) (nI (S 5)) L R LL RL TM (nI (S 1)) WW NN (nI (S 3)), gRd cA Bd WD'_50 RD'_50 (nI ((red S (S 0)).1)) (nI ((red S (S 0)).2.1)) rs'_50] := hD
                  refine bl_i (Ss := []) hP hD hS hA [] rfl (by decide) [] rfl (va_runSN (As := [.int (nI (nw S (S 0)))]) (rest := []) h0 ((k_X9_lengthOf lY D cA (nw S (S 0)) (z3.1) (by have := z3.2; unfold nw; omega)) _) ⟨(va_cnB 1 hts gX10_reduced_X9_lengthOf_n159 rfl rfl rfl (hN (.methodLinkNest RX10 159 yX9_lengthOf "FallingWords") (by decide +kernel)) (hts (.initialized RX9) (by decide +kernel)) (by decide +kernel) ⟨Nat.le_of_ble_eq_true rfl, Nat.le_of_ble_eq_true rfl⟩), hts (.static yX9_lengthOf) (by decide +kernel), trivial⟩ ⟨pw_blind, bl_pre (Ss := []) hP hD hK hN [] rfl (by decide) [] rfl (by decide +kernel)⟩ rfl rfl hl.1 rfl (lv_room (Nat.le_of_ble_eq_true rfl)) dX10_reduced_135 ⟨Nat.zero_le _, Nat.zero_le _⟩) (fun rY wY H locs hwY hJ hS => ?_)
                  obtain ⟨e1Y, e2Y⟩ := hwY
                  have e3Y := e1Y.symm
                  clear e1Y
                  subst e3Y
                  have e3Y := e2Y.symm
                  clear e2Y
                  subst e3Y
                  obtain ⟨hP, hD⟩ := hJ [] rfl rfl rfl
                  have hP : PB D [gFw cA Bf (Bw 0) (Bq 0) (Bh 0) (Bd 0) (Br 0) (Bo 0) (Bt 0) (Bs 0), gSa cA Bw (nI (S 0)) (nI (S 2)) (nI (S 4)) (nI (S 5)) L R LL RL TM (nI (S 1)) WW NN (nI (S 3)), gRd cA Bd WD'_50 RD'_50 (nI ((red S (S 0)).1)) (nI ((red S (S 0)).2.1)) rs'_50] H := hP
                  have hD : DB AY [gFw cA Bf (Bw 0) (Bq 0) (Bh 0) (Bd 0) (Br 0) (Bo 0) (Bt 0) (Bs 0), gSa cA Bw (nI (S 0)) (nI (S 2)) (nI (S 4)) (nI (S 5)) L R LL RL TM (nI (S 1)) WW NN (nI (S 3)), gRd cA Bd WD'_50 RD'_50 (nI ((red S (S 0)).1)) (nI ((red S (S 0)).2.1)) rs'_50] := hD
                  exact hret _ _ _ _ _ _ dX10_reduced_138 ⟨WD'_50, RD'_50, ((nI ((red S (S 0)).1))), ((nI ((red S (S 0)).2.1))), rs'_50, (by unfold redZ; rw [if_neg hv, if_neg (by omega), if_neg (by omega), if_neg (by omega), if_neg (by omega), if_pos c101, c108]; rfl), rfl⟩ hP.to hD.to hS
                · refine lv_aload_n hx hb dX10_reduced_111 rfl (lv_at hl 1 rfl) ?_
                  refine va_get (D := D) (ci := 9) (v := .ref (Bd 0)) (C := RX10) (T := TX10) (N := 8) hx hb hts hi_X10_reduced_X10 hown hK (hP.blk 0 rfl) 0 rfl rfl 3 (by decide) (hts (.fieldLink RX10 29 "FallingWords" "reduction" "LFallingWords$Reduction;") (by decide +kernel)) (fun _ h9 => h9) rfl dX10_reduced_112 ?_
                  refine bf_i (Ss := [gRd cA Bd WD'_50 RD'_50 (nI ((red S (S 0)).1)) (nI ((red S (S 0)).2.1)) rs'_50]) hP hD hS hA [2] rfl (by decide) (va_runVN (As := []) (rest := []) h0 ((MetI.cw (by simp only [List.flatten_cons, List.flatten_nil, List.append_nil, List.append_assoc]) (k_X3_last lY D cA Bd WD'_50 RD'_50 (nI ((red S (S 0)).1)) rs'_50 ((red S (S 0)).2.1) (nw S (S 0)) (z1) (f1_50 _ (Nat.le_refl _)))) _) ⟨(va_cnB 0 hts gX10_reduced_X3_last_n156 rfl rfl rfl (hN (.methodLinkNest RX10 156 yX3_last "FallingWords") (by decide +kernel)) (hts (.initialized RX3) (by decide +kernel)) (by decide +kernel) ⟨Nat.le_of_ble_eq_true rfl, Nat.le_of_ble_eq_true rfl⟩), hts (.instanceMethod yX3_last) (by decide +kernel), hts (.selects RX3 yX3_last yX3_last) (by decide +kernel)⟩ ⟨pw_blind, bl_recv (ci := 3) (q := (RX3, TX3, 5)) (i := 2) (q0 := 0) hP hK rfl rfl rfl, bf_pre (Ss := [gRd cA Bd WD'_50 RD'_50 (nI ((red S (S 0)).1)) (nI ((red S (S 0)).2.1)) rs'_50]) hP hD hK hN [2] rfl (by decide)⟩ rfl rfl hl.1 rfl (lv_room (Nat.le_of_ble_eq_true rfl)) dX10_reduced_115 ⟨Nat.zero_le _, Nat.zero_le _⟩) (fun rY wY H locs hwY hJ hS => ?_)
                  obtain ⟨e1Y, e2Y⟩ := hwY
                  have e3Y := e1Y.symm
                  clear e1Y
                  subst e3Y
                  have e3Y := e2Y.symm
                  clear e2Y
                  subst e3Y
                  obtain ⟨hP, hD⟩ := hJ [gRd cA Bd WD'_50 RD'_50 (nI ((red S (S 0)).1)) (nI ((red S (S 0)).2.1)) rs'_50] (by simp only [List.flatten_cons, List.flatten_nil, List.append_nil, List.append_assoc]) rfl
                  have hP : PB D [gFw cA Bf (Bw 0) (Bq 0) (Bh 0) (Bd 0) (Br 0) (Bo 0) (Bt 0) (Bs 0), gSa cA Bw (nI (S 0)) (nI (S 2)) (nI (S 4)) (nI (S 5)) L R LL RL TM (nI (S 1)) WW NN (nI (S 3)), gRd cA Bd WD'_50 RD'_50 (nI ((red S (S 0)).1)) (nI ((red S (S 0)).2.1)) rs'_50] H := hP
                  have hD : DB AY [gFw cA Bf (Bw 0) (Bq 0) (Bh 0) (Bd 0) (Br 0) (Bo 0) (Bt 0) (Bs 0), gSa cA Bw (nI (S 0)) (nI (S 2)) (nI (S 4)) (nI (S 5)) L R LL RL TM (nI (S 1)) WW NN (nI (S 3)), gRd cA Bd WD'_50 RD'_50 (nI ((red S (S 0)).1)) (nI ((red S (S 0)).2.1)) rs'_50] := hD
                  refine lv_iload_n hx hb dX10_reduced_118 rfl (lv_at hl 2 rfl) ?_
                  refine lv_bipush (v := nI 10) hx hb dX10_reduced_119 (by decide +kernel) ?_
                  refine lv_isub hx hb dX10_reduced_121 ?_
                  refine bl_i (Ss := []) hP hD hS hA [] rfl (by decide) [] rfl (va_runSN (As := [.int (nI (nw S (S 0))), .int (x - (nI 10))]) (rest := []) h0 ((k_X9_letterOf lY D cA (nw S (S 0)) (x - (nI 10)) (z3)) _) ⟨(va_cnB 2 hts gX10_reduced_X9_letterOf_n100 rfl rfl rfl (hN (.methodLinkNest RX10 100 yX9_letterOf "FallingWords") (by decide +kernel)) (hts (.initialized RX9) (by decide +kernel)) (by decide +kernel) ⟨Nat.le_of_ble_eq_true rfl, Nat.le_of_ble_eq_true rfl⟩), hts (.static yX9_letterOf) (by decide +kernel), trivial⟩ ⟨pw_blind, bl_pre (Ss := []) hP hD hK hN [] rfl (by decide) [] rfl (by decide +kernel)⟩ rfl rfl hl.1 rfl (lv_room (Nat.le_of_ble_eq_true rfl)) dX10_reduced_122 ⟨Nat.zero_le _, Nat.zero_le _⟩) (fun rY wY H locs hwY hJ hS => ?_)
                  obtain ⟨e1Y, e2Y⟩ := hwY
                  have e3Y := e1Y.symm
                  clear e1Y
                  subst e3Y
                  have e3Y := e2Y.symm
                  clear e2Y
                  subst e3Y
                  obtain ⟨hP, hD⟩ := hJ [] rfl rfl rfl
                  have hP : PB D [gFw cA Bf (Bw 0) (Bq 0) (Bh 0) (Bd 0) (Br 0) (Bo 0) (Bt 0) (Bs 0), gSa cA Bw (nI (S 0)) (nI (S 2)) (nI (S 4)) (nI (S 5)) L R LL RL TM (nI (S 1)) WW NN (nI (S 3)), gRd cA Bd WD'_50 RD'_50 (nI ((red S (S 0)).1)) (nI ((red S (S 0)).2.1)) rs'_50] H := hP
                  have hD : DB AY [gFw cA Bf (Bw 0) (Bq 0) (Bh 0) (Bd 0) (Br 0) (Bo 0) (Bt 0) (Bs 0), gSa cA Bw (nI (S 0)) (nI (S 2)) (nI (S 4)) (nI (S 5)) L R LL RL TM (nI (S 1)) WW NN (nI (S 3)), gRd cA Bd WD'_50 RD'_50 (nI ((red S (S 0)).1)) (nI ((red S (S 0)).2.1)) rs'_50] := hD
                  refine lv_goto (tgt := 138) hx hb dX10_reduced_125 (by decide) ?_
                  exact hret _ _ _ _ _ _ dX10_reduced_138 ⟨WD'_50, RD'_50, ((nI ((red S (S 0)).1))), ((nI ((red S (S 0)).2.1))), rs'_50, (by unfold redZ; rw [if_neg hv, if_neg (by omega), if_neg (by omega), if_neg (by omega), if_neg (by omega), if_pos c101, if_pos c108]), rfl⟩ hP.to hD.to hS
              · refine lv_ldc (v := (-1000004)) hx hb hown (hts (.constant RX10 135 (-1000004)) (by decide +kernel)) dX10_reduced_104 ?_
                exact hret _ _ _ _ _ _ dX10_reduced_106 ⟨WD'_50, RD'_50, ((nI ((red S (S 0)).1))), ((nI ((red S (S 0)).2.1))), rs'_50, (by unfold redZ; rw [if_neg hv, if_neg (by omega), if_neg (by omega), if_neg (by omega), if_neg (by omega), if_neg c101]), rfl⟩ hP.to hD.to hS
            · refine lv_aload_n hx hb dX10_reduced_88 rfl (lv_at hl 1 rfl) ?_
              refine lv_iload_n hx hb dX10_reduced_89 rfl (lv_at hl 2 rfl) ?_
              refine bf_i (Ss := [gFw cA Bf (Bw 0) (Bq 0) (Bh 0) (Bd 0) (Br 0) (Bo 0) (Bt 0) (Bs 0), gRd cA Bd WD'_50 RD'_50 (nI ((red S (S 0)).1)) (nI ((red S (S 0)).2.1)) rs'_50]) hP hD hS hA [0, 2] rfl (by decide) (va_runV (As := [.int x]) (rest := []) h0 ((k_X10_ringAnswer lY D cA Bf Bw Bq Bh Bd Br Bo Bt Bs x ((red S (S 0)).1) ((red S (S 0)).2.1) ((red S (S 0)).2.2) WD'_50 RD'_50 rs'_50 (by omega) (z4) (z1) (fun h => ⟨f3_50 h, z6 h⟩)) _) (cwV 1 hts gX10_reduced_X10_ringAnswer rfl rfl rfl (by decide +kernel) ⟨Nat.le_of_ble_eq_true rfl, Nat.le_of_ble_eq_true rfl⟩) ⟨pw_blind, bl_recv (ci := 9) (q := (RX10, TX10, 8)) (i := 0) (q0 := 0) hP hK rfl rfl rfl, bf_pre (Ss := [gFw cA Bf (Bw 0) (Bq 0) (Bh 0) (Bd 0) (Br 0) (Bo 0) (Bt 0) (Bs 0), gRd cA Bd WD'_50 RD'_50 (nI ((red S (S 0)).1)) (nI ((red S (S 0)).2.1)) rs'_50]) hP hD hK hN [0, 2] rfl (by decide)⟩ rfl rfl hl.1 rfl (lv_room (Nat.le_of_ble_eq_true rfl)) dX10_reduced_90 ⟨Nat.zero_le _, Nat.zero_le _⟩) (fun rY wY H locs hwY hJ hS => ?_)
              obtain ⟨e1Y, e2Y⟩ := hwY
              have e3Y := e1Y.symm
              clear e1Y
              subst e3Y
              have e3Y := e2Y.symm
              clear e2Y
              subst e3Y
              obtain ⟨hP, hD⟩ := hJ [gFw cA Bf (Bw 0) (Bq 0) (Bh 0) (Bd 0) (Br 0) (Bo 0) (Bt 0) (Bs 0), gRd cA Bd WD'_50 RD'_50 (nI ((red S (S 0)).1)) (nI ((red S (S 0)).2.1)) rs'_50] rfl rfl
              have hP : PB D [gFw cA Bf (Bw 0) (Bq 0) (Bh 0) (Bd 0) (Br 0) (Bo 0) (Bt 0) (Bs 0), gSa cA Bw (nI (S 0)) (nI (S 2)) (nI (S 4)) (nI (S 5)) L R LL RL TM (nI (S 1)) WW NN (nI (S 3)), gRd cA Bd WD'_50 RD'_50 (nI ((red S (S 0)).1)) (nI ((red S (S 0)).2.1)) rs'_50] H := hP
              have hD : DB AY [gFw cA Bf (Bw 0) (Bq 0) (Bh 0) (Bd 0) (Br 0) (Bo 0) (Bt 0) (Bs 0), gSa cA Bw (nI (S 0)) (nI (S 2)) (nI (S 4)) (nI (S 5)) L R LL RL TM (nI (S 1)) WW NN (nI (S 3)), gRd cA Bd WD'_50 RD'_50 (nI ((red S (S 0)).1)) (nI ((red S (S 0)).2.1)) rs'_50] := hD
              exact hret _ _ _ _ _ _ dX10_reduced_93 ⟨WD'_50, RD'_50, ((nI ((red S (S 0)).1))), ((nI ((red S (S 0)).2.1))), rs'_50, (by unfold redZ; rw [if_neg hv, if_neg (show ¬ x.toInt = 0 by omega), if_neg (show ¬ x.toInt = 1 by omega), if_neg (show ¬ x.toInt = 2 by omega), if_pos (show x.toInt = 3 by omega), if_neg (show ¬ x.toInt = 2 by omega)]), rfl⟩ hP.to hD.to hS
        · refine lv_aload_n hx hb dX10_reduced_70 rfl (lv_at hl 1 rfl) ?_
          refine va_get (D := D) (ci := 9) (v := .ref (Bd 0)) (C := RX10) (T := TX10) (N := 8) hx hb hts hi_X10_reduced_X10 hown hK (hP.blk 0 rfl) 0 rfl rfl 3 (by decide) (hts (.fieldLink RX10 29 "FallingWords" "reduction" "LFallingWords$Reduction;") (by decide +kernel)) (fun _ h9 => h9) rfl dX10_reduced_71 ?_
          refine va_getN (D := D) (ci := 3) (v := .int (nI ((red S (S 0)).2.1))) (C := RX3) (T := TX3) (N := 5) hx hb hts hi_X10_reduced_X3 hown hK (hP.blk 2 rfl) 0 rfl rfl 3 (by decide) (hN.fl (w := .fieldLinkNest RX10 150 "FallingWords$Reduction" "steps" "I" "FallingWords") (by decide +kernel)) (fun _ h9 => h9) rfl dX10_reduced_74 ?_
          exact hret _ _ _ _ _ _ dX10_reduced_77 ⟨WD'_50, RD'_50, ((nI ((red S (S 0)).1))), ((nI ((red S (S 0)).2.1))), rs'_50, (by unfold redZ; rw [if_neg hv, if_neg (by omega), if_pos (by omega)]), rfl⟩ hP.to hD.to hS
      · refine lv_aload_n hx hb dX10_reduced_57 rfl (lv_at hl 1 rfl) ?_
        refine va_get (D := D) (ci := 9) (v := .ref (Bd 0)) (C := RX10) (T := TX10) (N := 8) hx hb hts hi_X10_reduced_X10 hown hK (hP.blk 0 rfl) 0 rfl rfl 3 (by decide) (hts (.fieldLink RX10 29 "FallingWords" "reduction" "LFallingWords$Reduction;") (by decide +kernel)) (fun _ h9 => h9) rfl dX10_reduced_58 ?_
        refine va_getN (D := D) (ci := 3) (v := .int (nI ((red S (S 0)).1))) (C := RX3) (T := TX3) (N := 5) hx hb hts hi_X10_reduced_X3 hown hK (hP.blk 2 rfl) 0 rfl rfl 2 (by decide) (hN.fl (w := .fieldLinkNest RX10 147 "FallingWords$Reduction" "outcome" "I" "FallingWords") (by decide +kernel)) (fun _ h9 => h9) rfl dX10_reduced_61 ?_
        exact hret _ _ _ _ _ _ dX10_reduced_64 ⟨WD'_50, RD'_50, ((nI ((red S (S 0)).1))), ((nI ((red S (S 0)).2.1))), rs'_50, (by unfold redZ; rw [if_neg hv, if_pos (by omega)]), rfl⟩ hP.to hD.to hS
    exact L25  (fun h => by rw [c10] at h; cases h.1) _ _ _ hP hD hS hl
  · refine lv_iload_n hx hb dX10_reduced_13 rfl (lv_at hl 2 rfl) ?_
    refine xz_lt (tgt := 22) hx hb dX10_reduced_14 (by decide) (fun c14 => ?_) (fun c14 => ?_)
    · refine lv_ldc (v := (-1000001)) hx hb hown (hts (.constant RX10 71 (-1000001)) (by decide +kernel)) dX10_reduced_22 ?_
      exact hret _ _ _ _ _ _ dX10_reduced_24 ⟨WD, RD, oc, ns, rs, (by unfold redZ; rw [if_pos ⟨c10, by omega⟩]), rfl⟩ hP.to hD.to hS
    · refine lv_iload_n hx hb dX10_reduced_17 rfl (lv_at hl 2 rfl) ?_
      refine lv_iconst (v := nI 4) hx hb dX10_reduced_18 (by decide +kernel) ?_
      refine xr_le (tgt := 25) hx hb dX10_reduced_19 (by decide) (fun c19 => ?_) (fun c19 => ?_)
      · have L25 :  (¬ (isL x 10 12 = false ∧ ¬ (0 ≤ x.toInt ∧ x.toInt ≤ 4))) → ∀ (H : Heap) (locs : List Loc) (ls : Array Slot), PB D [gFw cA Bf (Bw 0) (Bq 0) (Bh 0) (Bd 0) (Br 0) (Bo 0) (Bt 0) (Bs 0), gSa cA Bw (nI (S 0)) (nI (S 2)) (nI (S 4)) (nI (S 5)) L R LL RL TM (nI (S 1)) WW NN (nI (S 3)), gRd cA Bd WD RD oc ns rs] H → DB AY [gFw cA Bf (Bw 0) (Bq 0) (Bh 0) (Bd 0) (Br 0) (Bo 0) (Bt 0) (Bs 0), gSa cA Bw (nI (S 0)) (nI (S 2)) (nI (S 4)) (nI (S 5)) L R LL RL TM (nI (S 1)) WW NN (nI (S 3)), gRd cA Bd WD RD oc ns rs] → va_S AY sY.heap H locs → lv_has ls 3 [(2, .int (bI (isL x 10 12))), (0, .ref (Bf 0)), (1, .int x)] → W pY lY eY { frames := 3, cells := 0, slots := 0, locals := 82 } sY mY aY bY tY cY H locs 0 0 QY (F0 mY 25 ls []) := by
          intro hv H locs ls hP hD hS hl
          refine lv_aload_n hx hb dX10_reduced_25 rfl (lv_at hl 1 rfl) ?_
          refine va_get (D := D) (ci := 9) (v := .ref (Bd 0)) (C := RX10) (T := TX10) (N := 8) hx hb hts hi_X10_reduced_X10 hown hK (hP.blk 0 rfl) 0 rfl rfl 3 (by decide) (hts (.fieldLink RX10 29 "FallingWords" "reduction" "LFallingWords$Reduction;") (by decide +kernel)) (fun _ h9 => h9) rfl dX10_reduced_26 ?_
          refine lv_aload_n hx hb dX10_reduced_29 rfl (lv_at hl 1 rfl) ?_
          refine va_get (D := D) (ci := 9) (v := .ref (Bw 0)) (C := RX10) (T := TX10) (N := 8) hx hb hts hi_X10_reduced_X10 hown hK (hP.blk 0 rfl) 0 rfl rfl 0 (by decide) (hts (.fieldLink RX10 10 "FallingWords" "now" "LFallingWords$State;") (by decide +kernel)) (fun _ h9 => h9) rfl dX10_reduced_30 ?_
          refine va_getN (D := D) (ci := 6) (v := .ref (Bw 1)) (C := RX6) (T := TX6) (N := 6) hx hb hts hi_X10_reduced_X6 hown hK (hP.blk 1 rfl) 0 rfl rfl 0 (by decide) (hN.fl (w := .fieldLinkNest RX10 61 "FallingWords$State" "rules" "LFallingWords$Rules;" "FallingWords") (by decide +kernel)) (fun _ h9 => h9) rfl dX10_reduced_33 ?_
          refine lv_aload_n hx hb dX10_reduced_36 rfl (lv_at hl 1 rfl) ?_
          refine va_get (D := D) (ci := 9) (v := .ref (Bw 0)) (C := RX10) (T := TX10) (N := 8) hx hb hts hi_X10_reduced_X10 hown hK (hP.blk 0 rfl) 0 rfl rfl 0 (by decide) (hts (.fieldLink RX10 10 "FallingWords" "now" "LFallingWords$State;") (by decide +kernel)) (fun _ h9 => h9) rfl dX10_reduced_37 ?_
          refine va_getN (D := D) (ci := 6) (v := .int (nI (S 2))) (C := RX6) (T := TX6) (N := 6) hx hb hts hi_X10_reduced_X6 hown hK (hP.blk 1 rfl) 0 rfl rfl 3 (by decide) (hN.fl (w := .fieldLinkNest RX10 86 "FallingWords$State" "choosing" "I" "FallingWords") (by decide +kernel)) (fun _ h9 => h9) rfl dX10_reduced_40 ?_
          refine lv_aload_n hx hb dX10_reduced_43 rfl (lv_at hl 1 rfl) ?_
          refine va_get (D := D) (ci := 9) (v := .ref (Bw 0)) (C := RX10) (T := TX10) (N := 8) hx hb hts hi_X10_reduced_X10 hown hK (hP.blk 0 rfl) 0 rfl rfl 0 (by decide) (hts (.fieldLink RX10 10 "FallingWords" "now" "LFallingWords$State;") (by decide +kernel)) (fun _ h9 => h9) rfl dX10_reduced_44 ?_
          refine va_getN (D := D) (ci := 6) (v := .int (nI (S 0))) (C := RX6) (T := TX6) (N := 6) hx hb hts hi_X10_reduced_X6 hown hK (hP.blk 1 rfl) 0 rfl rfl 2 (by decide) (hN.fl (w := .fieldLinkNest RX10 115 "FallingWords$State" "word" "I" "FallingWords") (by decide +kernel)) (fun _ h9 => h9) rfl dX10_reduced_47 ?_
          refine bl_v (Ss := [gRd cA Bd WD RD oc ns rs, gSa cA Bw (nI (S 0)) (nI (S 2)) (nI (S 4)) (nI (S 5)) L R LL RL TM (nI (S 1)) WW NN (nI (S 3))]) hP hD hS hA [2, 1] rfl (by decide) [0, 1, 2, 4, 5, 6, 7, 8, 9] rfl (va_runVN (As := [.ref (Bw 1), .int (nI (S 2)), .int (nI (S 0))]) (rest := []) h0 ((k_X3_run lY D cA Bd (fun i => Bw (i + 1)) WD RD oc ns rs S L R LL RL TM (S 0) (hIR) (hr) (hw)) _) ⟨(va_cnB 3 hts gX10_reduced_X3_run_n143 rfl rfl rfl (hN (.methodLinkNest RX10 143 yX3_run "FallingWords") (by decide +kernel)) (hts (.initialized RX3) (by decide +kernel)) (by decide +kernel) ⟨Nat.le_of_ble_eq_true rfl, Nat.le_of_ble_eq_true rfl⟩), hts (.instanceMethod yX3_run) (by decide +kernel), hts (.selects RX3 yX3_run yX3_run) (by decide +kernel)⟩ ⟨pw_blind, bl_recv (ci := 3) (q := (RX3, TX3, 5)) (i := 2) (q0 := 0) hP hK rfl rfl rfl, bl_pre (Ss := [gRd cA Bd WD RD oc ns rs, gSa cA Bw (nI (S 0)) (nI (S 2)) (nI (S 4)) (nI (S 5)) L R LL RL TM (nI (S 1)) WW NN (nI (S 3))]) hP hD hK hN [2, 1] rfl (by decide) [0, 1, 2, 4, 5, 6, 7, 8, 9] rfl (by decide +kernel)⟩ rfl rfl hl.1 rfl (lv_room (Nat.le_of_ble_eq_true rfl)) dX10_reduced_50 ⟨Nat.zero_le _, Nat.zero_le _⟩) (fun wY H locs hwY hJ hS => ?_)
          obtain ⟨WD'_50, RD'_50, rs'_50, e2Y, f1_50, f2_50, f3_50⟩ := hwY
          have e3Y := e2Y.symm
          clear e2Y
          subst e3Y
          obtain ⟨hP, hD⟩ := hJ [gRd cA Bd WD'_50 RD'_50 (nI ((red S (S 0)).1)) (nI ((red S (S 0)).2.1)) rs'_50, gSa cA Bw (nI (S 0)) (nI (S 2)) (nI (S 4)) (nI (S 5)) L R LL RL TM (nI (S 1)) WW NN (nI (S 3))] rfl rfl rfl
          have hP : PB D [gFw cA Bf (Bw 0) (Bq 0) (Bh 0) (Bd 0) (Br 0) (Bo 0) (Bt 0) (Bs 0), gSa cA Bw (nI (S 0)) (nI (S 2)) (nI (S 4)) (nI (S 5)) L R LL RL TM (nI (S 1)) WW NN (nI (S 3)), gRd cA Bd WD'_50 RD'_50 (nI ((red S (S 0)).1)) (nI ((red S (S 0)).2.1)) rs'_50] H := hP
          have hD : DB AY [gFw cA Bf (Bw 0) (Bq 0) (Bh 0) (Bd 0) (Br 0) (Bo 0) (Bt 0) (Bs 0), gSa cA Bw (nI (S 0)) (nI (S 2)) (nI (S 4)) (nI (S 5)) L R LL RL TM (nI (S 1)) WW NN (nI (S 3)), gRd cA Bd WD'_50 RD'_50 (nI ((red S (S 0)).1)) (nI ((red S (S 0)).2.1)) rs'_50] := hD
          refine lv_iload_n hx hb dX10_reduced_53 rfl (lv_at hl 2 rfl) ?_
          refine xz_ne (tgt := 65) hx hb dX10_reduced_54 (by decide) (fun c54 => ?_) (fun c54 => ?_)
          · refine lv_iload_n hx hb dX10_reduced_65 rfl (lv_at hl 2 rfl) ?_
            refine lv_iconst (v := nI 1) hx hb dX10_reduced_66 (by decide +kernel) ?_
            refine xr_ne (tgt := 78) hx hb dX10_reduced_67 (by decide) (fun c67 => ?_) (fun c67 => ?_)
            · refine lv_iload_n hx hb dX10_reduced_78 rfl (lv_at hl 2 rfl) ?_
              refine lv_iconst (v := nI 2) hx hb dX10_reduced_79 (by decide +kernel) ?_
              refine xr_eq (tgt := 88) hx hb dX10_reduced_80 (by decide) (fun c80 => ?_) (fun c80 => ?_)
              · refine lv_aload_n hx hb dX10_reduced_88 rfl (lv_at hl 1 rfl) ?_
                refine lv_iload_n hx hb dX10_reduced_89 rfl (lv_at hl 2 rfl) ?_
                refine bf_i (Ss := [gFw cA Bf (Bw 0) (Bq 0) (Bh 0) (Bd 0) (Br 0) (Bo 0) (Bt 0) (Bs 0), gRd cA Bd WD'_50 RD'_50 (nI ((red S (S 0)).1)) (nI ((red S (S 0)).2.1)) rs'_50]) hP hD hS hA [0, 2] rfl (by decide) (va_runV (As := [.int x]) (rest := []) h0 ((k_X10_ringAnswer lY D cA Bf Bw Bq Bh Bd Br Bo Bt Bs x ((red S (S 0)).1) ((red S (S 0)).2.1) ((red S (S 0)).2.2) WD'_50 RD'_50 rs'_50 (by omega) (z4) (z1) (fun h => ⟨f3_50 h, z6 h⟩)) _) (cwV 1 hts gX10_reduced_X10_ringAnswer rfl rfl rfl (by decide +kernel) ⟨Nat.le_of_ble_eq_true rfl, Nat.le_of_ble_eq_true rfl⟩) ⟨pw_blind, bl_recv (ci := 9) (q := (RX10, TX10, 8)) (i := 0) (q0 := 0) hP hK rfl rfl rfl, bf_pre (Ss := [gFw cA Bf (Bw 0) (Bq 0) (Bh 0) (Bd 0) (Br 0) (Bo 0) (Bt 0) (Bs 0), gRd cA Bd WD'_50 RD'_50 (nI ((red S (S 0)).1)) (nI ((red S (S 0)).2.1)) rs'_50]) hP hD hK hN [0, 2] rfl (by decide)⟩ rfl rfl hl.1 rfl (lv_room (Nat.le_of_ble_eq_true rfl)) dX10_reduced_90 ⟨Nat.zero_le _, Nat.zero_le _⟩) (fun rY wY H locs hwY hJ hS => ?_)
                obtain ⟨e1Y, e2Y⟩ := hwY
                have e3Y := e1Y.symm
                clear e1Y
                subst e3Y
                have e3Y := e2Y.symm
                clear e2Y
                subst e3Y
                obtain ⟨hP, hD⟩ := hJ [gFw cA Bf (Bw 0) (Bq 0) (Bh 0) (Bd 0) (Br 0) (Bo 0) (Bt 0) (Bs 0), gRd cA Bd WD'_50 RD'_50 (nI ((red S (S 0)).1)) (nI ((red S (S 0)).2.1)) rs'_50] rfl rfl
                have hP : PB D [gFw cA Bf (Bw 0) (Bq 0) (Bh 0) (Bd 0) (Br 0) (Bo 0) (Bt 0) (Bs 0), gSa cA Bw (nI (S 0)) (nI (S 2)) (nI (S 4)) (nI (S 5)) L R LL RL TM (nI (S 1)) WW NN (nI (S 3)), gRd cA Bd WD'_50 RD'_50 (nI ((red S (S 0)).1)) (nI ((red S (S 0)).2.1)) rs'_50] H := hP
                have hD : DB AY [gFw cA Bf (Bw 0) (Bq 0) (Bh 0) (Bd 0) (Br 0) (Bo 0) (Bt 0) (Bs 0), gSa cA Bw (nI (S 0)) (nI (S 2)) (nI (S 4)) (nI (S 5)) L R LL RL TM (nI (S 1)) WW NN (nI (S 3)), gRd cA Bd WD'_50 RD'_50 (nI ((red S (S 0)).1)) (nI ((red S (S 0)).2.1)) rs'_50] := hD
                exact hret _ _ _ _ _ _ dX10_reduced_93 ⟨WD'_50, RD'_50, ((nI ((red S (S 0)).1))), ((nI ((red S (S 0)).2.1))), rs'_50, (by unfold redZ; rw [if_neg hv, if_neg (show ¬ x.toInt = 0 by omega), if_neg (show ¬ x.toInt = 1 by omega), if_pos (show x.toInt = 2 by omega), if_pos (show x.toInt = 2 by omega)]), rfl⟩ hP.to hD.to hS
              · refine lv_iload_n hx hb dX10_reduced_83 rfl (lv_at hl 2 rfl) ?_
                refine lv_iconst (v := nI 3) hx hb dX10_reduced_84 (by decide +kernel) ?_
                refine xr_ne (tgt := 94) hx hb dX10_reduced_85 (by decide) (fun c85 => ?_) (fun c85 => ?_)
                · refine lv_aload_n hx hb dX10_reduced_94 rfl (lv_at hl 1 rfl) ?_
                  refine va_get (D := D) (ci := 9) (v := .ref (Bd 0)) (C := RX10) (T := TX10) (N := 8) hx hb hts hi_X10_reduced_X10 hown hK (hP.blk 0 rfl) 0 rfl rfl 3 (by decide) (hts (.fieldLink RX10 29 "FallingWords" "reduction" "LFallingWords$Reduction;") (by decide +kernel)) (fun _ h9 => h9) rfl dX10_reduced_95 ?_
                  refine va_getN (D := D) (ci := 3) (v := .int (nI ((red S (S 0)).1))) (C := RX3) (T := TX3) (N := 5) hx hb hts hi_X10_reduced_X3 hown hK (hP.blk 2 rfl) 0 rfl rfl 2 (by decide) (hN.fl (w := .fieldLinkNest RX10 147 "FallingWords$Reduction" "outcome" "I" "FallingWords") (by decide +kernel)) (fun _ h9 => h9) rfl dX10_reduced_98 ?_
                  refine x0_eq (tgt := 107) hx hb dX10_reduced_101 (by decide) (by omega) (fun c101 => ?_) (fun c101 => ?_)
                  · refine lv_iload_n hx hb dX10_reduced_107 rfl (lv_at hl 0 rfl) ?_
                    refine xb_eq (tgt := 128) hx hb dX10_reduced_108 (by decide) (fun c108 => ?_) (fun c108 => ?_)
                    · refine lv_aload_n hx hb dX10_reduced_128 rfl (lv_at hl 1 rfl) ?_
                      refine va_get (D := D) (ci := 9) (v := .ref (Bd 0)) (C := RX10) (T := TX10) (N := 8) hx hb hts hi_X10_reduced_X10 hown hK (hP.blk 0 rfl) 0 rfl rfl 3 (by decide) (hts (.fieldLink RX10 29 "FallingWords" "reduction" "LFallingWords$Reduction;") (by decide +kernel)) (fun _ h9 => h9) rfl dX10_reduced_129 ?_
                      refine bf_i (Ss := [gRd cA Bd WD'_50 RD'_50 (nI ((red S (S 0)).1)) (nI ((red S (S 0)).2.1)) rs'_50]) hP hD hS hA [2] rfl (by decide) (va_runVN (As := []) (rest := []) h0 ((MetI.cw (by simp only [List.flatten_cons, List.flatten_nil, List.append_nil, List.append_assoc]) (k_X3_last lY D cA Bd WD'_50 RD'_50 (nI ((red S (S 0)).1)) rs'_50 ((red S (S 0)).2.1) (nw S (S 0)) (z1) (f1_50 _ (Nat.le_refl _)))) _) ⟨(va_cnB 0 hts gX10_reduced_X3_last_n156 rfl rfl rfl (hN (.methodLinkNest RX10 156 yX3_last "FallingWords") (by decide +kernel)) (hts (.initialized RX3) (by decide +kernel)) (by decide +kernel) ⟨Nat.le_of_ble_eq_true rfl, Nat.le_of_ble_eq_true rfl⟩), hts (.instanceMethod yX3_last) (by decide +kernel), hts (.selects RX3 yX3_last yX3_last) (by decide +kernel)⟩ ⟨pw_blind, bl_recv (ci := 3) (q := (RX3, TX3, 5)) (i := 2) (q0 := 0) hP hK rfl rfl rfl, bf_pre (Ss := [gRd cA Bd WD'_50 RD'_50 (nI ((red S (S 0)).1)) (nI ((red S (S 0)).2.1)) rs'_50]) hP hD hK hN [2] rfl (by decide)⟩ rfl rfl hl.1 rfl (lv_room (Nat.le_of_ble_eq_true rfl)) dX10_reduced_132 ⟨Nat.zero_le _, Nat.zero_le _⟩) (fun rY wY H locs hwY hJ hS => ?_)
                      obtain ⟨e1Y, e2Y⟩ := hwY
                      have e3Y := e1Y.symm
                      clear e1Y
                      subst e3Y
                      have e3Y := e2Y.symm
                      clear e2Y
                      subst e3Y
                      obtain ⟨hP, hD⟩ := hJ [gRd cA Bd WD'_50 RD'_50 (nI ((red S (S 0)).1)) (nI ((red S (S 0)).2.1)) rs'_50] (by simp only [List.flatten_cons, List.flatten_nil, List.append_nil, List.append_assoc]) rfl
                      have hP : PB D [gFw cA Bf (Bw 0) (Bq 0) (Bh 0) (Bd 0) (Br 0) (Bo 0) (Bt 0) (Bs 0), gSa cA Bw (nI (S 0)) (nI (S 2)) (nI (S 4)) (nI (S 5)) L R LL RL TM (nI (S 1)) WW NN (nI (S 3)), gRd cA Bd WD'_50 RD'_50 (nI ((red S (S 0)).1)) (nI ((red S (S 0)).2.1)) rs'_50] H := hP
                      have hD : DB AY [gFw cA Bf (Bw 0) (Bq 0) (Bh 0) (Bd 0) (Br 0) (Bo 0) (Bt 0) (Bs 0), gSa cA Bw (nI (S 0)) (nI (S 2)) (nI (S 4)) (nI (S 5)) L R LL RL TM (nI (S 1)) WW NN (nI (S 3)), gRd cA Bd WD'_50 RD'_50 (nI ((red S (S 0)).1)) (nI ((red S (S 0)).2.1)) rs'_50] := hD
                      refine bl_i (Ss := []) hP hD hS hA [] rfl (by decide) [] rfl (va_runSN (As := [.int (nI (nw S (S 0)))]) (rest := []) h0 ((k_X9_lengthOf lY D cA (nw S (S 0)) (z3.1) (by have := z3.2; unfold nw; omega)) _) ⟨(va_cnB 1 hts gX10_reduced_X9_lengthOf_n159 rfl rfl rfl (hN (.methodLinkNest RX10 159 yX9_lengthOf "FallingWords") (by decide +kernel)) (hts (.initialized RX9) (by decide +kernel)) (by decide +kernel) ⟨Nat.le_of_ble_eq_true rfl, Nat.le_of_ble_eq_true rfl⟩), hts (.static yX9_lengthOf) (by decide +kernel), trivial⟩ ⟨pw_blind, bl_pre (Ss := []) hP hD hK hN [] rfl (by decide) [] rfl (by decide +kernel)⟩ rfl rfl hl.1 rfl (lv_room (Nat.le_of_ble_eq_true rfl)) dX10_reduced_135 ⟨Nat.zero_le _, Nat.zero_le _⟩) (fun rY wY H locs hwY hJ hS => ?_)
                      obtain ⟨e1Y, e2Y⟩ := hwY
                      have e3Y := e1Y.symm
                      clear e1Y
                      subst e3Y
                      have e3Y := e2Y.symm
                      clear e2Y
                      subst e3Y
                      obtain ⟨hP, hD⟩ := hJ [] rfl rfl rfl
                      have hP : PB D [gFw cA Bf (Bw 0) (Bq 0) (Bh 0) (Bd 0) (Br 0) (Bo 0) (Bt 0) (Bs 0), gSa cA Bw (nI (S 0)) (nI (S 2)) (nI (S 4)) (nI (S 5)) L R LL RL TM (nI (S 1)) WW NN (nI (S 3)), gRd cA Bd WD'_50 RD'_50 (nI ((red S (S 0)).1)) (nI ((red S (S 0)).2.1)) rs'_50] H := hP
                      have hD : DB AY [gFw cA Bf (Bw 0) (Bq 0) (Bh 0) (Bd 0) (Br 0) (Bo 0) (Bt 0) (Bs 0), gSa cA Bw (nI (S 0)) (nI (S 2)) (nI (S 4)) (nI (S 5)) L R LL RL TM (nI (S 1)) WW NN (nI (S 3)), gRd cA Bd WD'_50 RD'_50 (nI ((red S (S 0)).1)) (nI ((red S (S 0)).2.1)) rs'_50] := hD
                      exact hret _ _ _ _ _ _ dX10_reduced_138 ⟨WD'_50, RD'_50, ((nI ((red S (S 0)).1))), ((nI ((red S (S 0)).2.1))), rs'_50, (by unfold redZ; rw [if_neg hv, if_neg (by omega), if_neg (by omega), if_neg (by omega), if_neg (by omega), if_pos c101, c108]; rfl), rfl⟩ hP.to hD.to hS
                    · refine lv_aload_n hx hb dX10_reduced_111 rfl (lv_at hl 1 rfl) ?_
                      refine va_get (D := D) (ci := 9) (v := .ref (Bd 0)) (C := RX10) (T := TX10) (N := 8) hx hb hts hi_X10_reduced_X10 hown hK (hP.blk 0 rfl) 0 rfl rfl 3 (by decide) (hts (.fieldLink RX10 29 "FallingWords" "reduction" "LFallingWords$Reduction;") (by decide +kernel)) (fun _ h9 => h9) rfl dX10_reduced_112 ?_
                      refine bf_i (Ss := [gRd cA Bd WD'_50 RD'_50 (nI ((red S (S 0)).1)) (nI ((red S (S 0)).2.1)) rs'_50]) hP hD hS hA [2] rfl (by decide) (va_runVN (As := []) (rest := []) h0 ((MetI.cw (by simp only [List.flatten_cons, List.flatten_nil, List.append_nil, List.append_assoc]) (k_X3_last lY D cA Bd WD'_50 RD'_50 (nI ((red S (S 0)).1)) rs'_50 ((red S (S 0)).2.1) (nw S (S 0)) (z1) (f1_50 _ (Nat.le_refl _)))) _) ⟨(va_cnB 0 hts gX10_reduced_X3_last_n156 rfl rfl rfl (hN (.methodLinkNest RX10 156 yX3_last "FallingWords") (by decide +kernel)) (hts (.initialized RX3) (by decide +kernel)) (by decide +kernel) ⟨Nat.le_of_ble_eq_true rfl, Nat.le_of_ble_eq_true rfl⟩), hts (.instanceMethod yX3_last) (by decide +kernel), hts (.selects RX3 yX3_last yX3_last) (by decide +kernel)⟩ ⟨pw_blind, bl_recv (ci := 3) (q := (RX3, TX3, 5)) (i := 2) (q0 := 0) hP hK rfl rfl rfl, bf_pre (Ss := [gRd cA Bd WD'_50 RD'_50 (nI ((red S (S 0)).1)) (nI ((red S (S 0)).2.1)) rs'_50]) hP hD hK hN [2] rfl (by decide)⟩ rfl rfl hl.1 rfl (lv_room (Nat.le_of_ble_eq_true rfl)) dX10_reduced_115 ⟨Nat.zero_le _, Nat.zero_le _⟩) (fun rY wY H locs hwY hJ hS => ?_)
                      obtain ⟨e1Y, e2Y⟩ := hwY
                      have e3Y := e1Y.symm
                      clear e1Y
                      subst e3Y
                      have e3Y := e2Y.symm
                      clear e2Y
                      subst e3Y
                      obtain ⟨hP, hD⟩ := hJ [gRd cA Bd WD'_50 RD'_50 (nI ((red S (S 0)).1)) (nI ((red S (S 0)).2.1)) rs'_50] (by simp only [List.flatten_cons, List.flatten_nil, List.append_nil, List.append_assoc]) rfl
                      have hP : PB D [gFw cA Bf (Bw 0) (Bq 0) (Bh 0) (Bd 0) (Br 0) (Bo 0) (Bt 0) (Bs 0), gSa cA Bw (nI (S 0)) (nI (S 2)) (nI (S 4)) (nI (S 5)) L R LL RL TM (nI (S 1)) WW NN (nI (S 3)), gRd cA Bd WD'_50 RD'_50 (nI ((red S (S 0)).1)) (nI ((red S (S 0)).2.1)) rs'_50] H := hP
                      have hD : DB AY [gFw cA Bf (Bw 0) (Bq 0) (Bh 0) (Bd 0) (Br 0) (Bo 0) (Bt 0) (Bs 0), gSa cA Bw (nI (S 0)) (nI (S 2)) (nI (S 4)) (nI (S 5)) L R LL RL TM (nI (S 1)) WW NN (nI (S 3)), gRd cA Bd WD'_50 RD'_50 (nI ((red S (S 0)).1)) (nI ((red S (S 0)).2.1)) rs'_50] := hD
                      refine lv_iload_n hx hb dX10_reduced_118 rfl (lv_at hl 2 rfl) ?_
                      refine lv_bipush (v := nI 10) hx hb dX10_reduced_119 (by decide +kernel) ?_
                      refine lv_isub hx hb dX10_reduced_121 ?_
                      refine bl_i (Ss := []) hP hD hS hA [] rfl (by decide) [] rfl (va_runSN (As := [.int (nI (nw S (S 0))), .int (x - (nI 10))]) (rest := []) h0 ((k_X9_letterOf lY D cA (nw S (S 0)) (x - (nI 10)) (z3)) _) ⟨(va_cnB 2 hts gX10_reduced_X9_letterOf_n100 rfl rfl rfl (hN (.methodLinkNest RX10 100 yX9_letterOf "FallingWords") (by decide +kernel)) (hts (.initialized RX9) (by decide +kernel)) (by decide +kernel) ⟨Nat.le_of_ble_eq_true rfl, Nat.le_of_ble_eq_true rfl⟩), hts (.static yX9_letterOf) (by decide +kernel), trivial⟩ ⟨pw_blind, bl_pre (Ss := []) hP hD hK hN [] rfl (by decide) [] rfl (by decide +kernel)⟩ rfl rfl hl.1 rfl (lv_room (Nat.le_of_ble_eq_true rfl)) dX10_reduced_122 ⟨Nat.zero_le _, Nat.zero_le _⟩) (fun rY wY H locs hwY hJ hS => ?_)
                      obtain ⟨e1Y, e2Y⟩ := hwY
                      have e3Y := e1Y.symm
                      clear e1Y
                      subst e3Y
                      have e3Y := e2Y.symm
                      clear e2Y
                      subst e3Y
                      obtain ⟨hP, hD⟩ := hJ [] rfl rfl rfl
                      have hP : PB D [gFw cA Bf (Bw 0) (Bq 0) (Bh 0) (Bd 0) (Br 0) (Bo 0) (Bt 0) (Bs 0), gSa cA Bw (nI (S 0)) (nI (S 2)) (nI (S 4)) (nI (S 5)) L R LL RL TM (nI (S 1)) WW NN (nI (S 3)), gRd cA Bd WD'_50 RD'_50 (nI ((red S (S 0)).1)) (nI ((red S (S 0)).2.1)) rs'_50] H := hP
                      have hD : DB AY [gFw cA Bf (Bw 0) (Bq 0) (Bh 0) (Bd 0) (Br 0) (Bo 0) (Bt 0) (Bs 0), gSa cA Bw (nI (S 0)) (nI (S 2)) (nI (S 4)) (nI (S 5)) L R LL RL TM (nI (S 1)) WW NN (nI (S 3)), gRd cA Bd WD'_50 RD'_50 (nI ((red S (S 0)).1)) (nI ((red S (S 0)).2.1)) rs'_50] := hD
                      refine lv_goto (tgt := 138) hx hb dX10_reduced_125 (by decide) ?_
                      exact hret _ _ _ _ _ _ dX10_reduced_138 ⟨WD'_50, RD'_50, ((nI ((red S (S 0)).1))), ((nI ((red S (S 0)).2.1))), rs'_50, (by unfold redZ; rw [if_neg hv, if_neg (by omega), if_neg (by omega), if_neg (by omega), if_neg (by omega), if_pos c101, if_pos c108]), rfl⟩ hP.to hD.to hS
                  · refine lv_ldc (v := (-1000004)) hx hb hown (hts (.constant RX10 135 (-1000004)) (by decide +kernel)) dX10_reduced_104 ?_
                    exact hret _ _ _ _ _ _ dX10_reduced_106 ⟨WD'_50, RD'_50, ((nI ((red S (S 0)).1))), ((nI ((red S (S 0)).2.1))), rs'_50, (by unfold redZ; rw [if_neg hv, if_neg (by omega), if_neg (by omega), if_neg (by omega), if_neg (by omega), if_neg c101]), rfl⟩ hP.to hD.to hS
                · refine lv_aload_n hx hb dX10_reduced_88 rfl (lv_at hl 1 rfl) ?_
                  refine lv_iload_n hx hb dX10_reduced_89 rfl (lv_at hl 2 rfl) ?_
                  refine bf_i (Ss := [gFw cA Bf (Bw 0) (Bq 0) (Bh 0) (Bd 0) (Br 0) (Bo 0) (Bt 0) (Bs 0), gRd cA Bd WD'_50 RD'_50 (nI ((red S (S 0)).1)) (nI ((red S (S 0)).2.1)) rs'_50]) hP hD hS hA [0, 2] rfl (by decide) (va_runV (As := [.int x]) (rest := []) h0 ((k_X10_ringAnswer lY D cA Bf Bw Bq Bh Bd Br Bo Bt Bs x ((red S (S 0)).1) ((red S (S 0)).2.1) ((red S (S 0)).2.2) WD'_50 RD'_50 rs'_50 (by omega) (z4) (z1) (fun h => ⟨f3_50 h, z6 h⟩)) _) (cwV 1 hts gX10_reduced_X10_ringAnswer rfl rfl rfl (by decide +kernel) ⟨Nat.le_of_ble_eq_true rfl, Nat.le_of_ble_eq_true rfl⟩) ⟨pw_blind, bl_recv (ci := 9) (q := (RX10, TX10, 8)) (i := 0) (q0 := 0) hP hK rfl rfl rfl, bf_pre (Ss := [gFw cA Bf (Bw 0) (Bq 0) (Bh 0) (Bd 0) (Br 0) (Bo 0) (Bt 0) (Bs 0), gRd cA Bd WD'_50 RD'_50 (nI ((red S (S 0)).1)) (nI ((red S (S 0)).2.1)) rs'_50]) hP hD hK hN [0, 2] rfl (by decide)⟩ rfl rfl hl.1 rfl (lv_room (Nat.le_of_ble_eq_true rfl)) dX10_reduced_90 ⟨Nat.zero_le _, Nat.zero_le _⟩) (fun rY wY H locs hwY hJ hS => ?_)
                  obtain ⟨e1Y, e2Y⟩ := hwY
                  have e3Y := e1Y.symm
                  clear e1Y
                  subst e3Y
                  have e3Y := e2Y.symm
                  clear e2Y
                  subst e3Y
                  obtain ⟨hP, hD⟩ := hJ [gFw cA Bf (Bw 0) (Bq 0) (Bh 0) (Bd 0) (Br 0) (Bo 0) (Bt 0) (Bs 0), gRd cA Bd WD'_50 RD'_50 (nI ((red S (S 0)).1)) (nI ((red S (S 0)).2.1)) rs'_50] rfl rfl
                  have hP : PB D [gFw cA Bf (Bw 0) (Bq 0) (Bh 0) (Bd 0) (Br 0) (Bo 0) (Bt 0) (Bs 0), gSa cA Bw (nI (S 0)) (nI (S 2)) (nI (S 4)) (nI (S 5)) L R LL RL TM (nI (S 1)) WW NN (nI (S 3)), gRd cA Bd WD'_50 RD'_50 (nI ((red S (S 0)).1)) (nI ((red S (S 0)).2.1)) rs'_50] H := hP
                  have hD : DB AY [gFw cA Bf (Bw 0) (Bq 0) (Bh 0) (Bd 0) (Br 0) (Bo 0) (Bt 0) (Bs 0), gSa cA Bw (nI (S 0)) (nI (S 2)) (nI (S 4)) (nI (S 5)) L R LL RL TM (nI (S 1)) WW NN (nI (S 3)), gRd cA Bd WD'_50 RD'_50 (nI ((red S (S 0)).1)) (nI ((red S (S 0)).2.1)) rs'_50] := hD
                  exact hret _ _ _ _ _ _ dX10_reduced_93 ⟨WD'_50, RD'_50, ((nI ((red S (S 0)).1))), ((nI ((red S (S 0)).2.1))), rs'_50, (by unfold redZ; rw [if_neg hv, if_neg (show ¬ x.toInt = 0 by omega), if_neg (show ¬ x.toInt = 1 by omega), if_neg (show ¬ x.toInt = 2 by omega), if_pos (show x.toInt = 3 by omega), if_neg (show ¬ x.toInt = 2 by omega)]), rfl⟩ hP.to hD.to hS
            · refine lv_aload_n hx hb dX10_reduced_70 rfl (lv_at hl 1 rfl) ?_
              refine va_get (D := D) (ci := 9) (v := .ref (Bd 0)) (C := RX10) (T := TX10) (N := 8) hx hb hts hi_X10_reduced_X10 hown hK (hP.blk 0 rfl) 0 rfl rfl 3 (by decide) (hts (.fieldLink RX10 29 "FallingWords" "reduction" "LFallingWords$Reduction;") (by decide +kernel)) (fun _ h9 => h9) rfl dX10_reduced_71 ?_
              refine va_getN (D := D) (ci := 3) (v := .int (nI ((red S (S 0)).2.1))) (C := RX3) (T := TX3) (N := 5) hx hb hts hi_X10_reduced_X3 hown hK (hP.blk 2 rfl) 0 rfl rfl 3 (by decide) (hN.fl (w := .fieldLinkNest RX10 150 "FallingWords$Reduction" "steps" "I" "FallingWords") (by decide +kernel)) (fun _ h9 => h9) rfl dX10_reduced_74 ?_
              exact hret _ _ _ _ _ _ dX10_reduced_77 ⟨WD'_50, RD'_50, ((nI ((red S (S 0)).1))), ((nI ((red S (S 0)).2.1))), rs'_50, (by unfold redZ; rw [if_neg hv, if_neg (by omega), if_pos (by omega)]), rfl⟩ hP.to hD.to hS
          · refine lv_aload_n hx hb dX10_reduced_57 rfl (lv_at hl 1 rfl) ?_
            refine va_get (D := D) (ci := 9) (v := .ref (Bd 0)) (C := RX10) (T := TX10) (N := 8) hx hb hts hi_X10_reduced_X10 hown hK (hP.blk 0 rfl) 0 rfl rfl 3 (by decide) (hts (.fieldLink RX10 29 "FallingWords" "reduction" "LFallingWords$Reduction;") (by decide +kernel)) (fun _ h9 => h9) rfl dX10_reduced_58 ?_
            refine va_getN (D := D) (ci := 3) (v := .int (nI ((red S (S 0)).1))) (C := RX3) (T := TX3) (N := 5) hx hb hts hi_X10_reduced_X3 hown hK (hP.blk 2 rfl) 0 rfl rfl 2 (by decide) (hN.fl (w := .fieldLinkNest RX10 147 "FallingWords$Reduction" "outcome" "I" "FallingWords") (by decide +kernel)) (fun _ h9 => h9) rfl dX10_reduced_61 ?_
            exact hret _ _ _ _ _ _ dX10_reduced_64 ⟨WD'_50, RD'_50, ((nI ((red S (S 0)).1))), ((nI ((red S (S 0)).2.1))), rs'_50, (by unfold redZ; rw [if_neg hv, if_pos (by omega)]), rfl⟩ hP.to hD.to hS
        exact L25  (fun h => h.2 (by omega)) _ _ _ hP hD hS hl
      · refine lv_ldc (v := (-1000001)) hx hb hown (hts (.constant RX10 71 (-1000001)) (by decide +kernel)) dX10_reduced_22 ?_
        exact hret _ _ _ _ _ _ dX10_reduced_24 ⟨WD, RD, oc, ns, rs, (by unfold redZ; rw [if_pos ⟨c10, by omega⟩]), rfl⟩ hP.to hD.to hS
