/-! overlaps, counts, texts -/
noncomputable def ovZ (S : St) (x y : Int32) : Int32 :=
  if y.toInt < 0 ∨ 6 < y.toInt ∨ fndB S x = false then (-1000001)
  else if y.toInt = 0 then nI (kA (kth S x.toInt.toNat))
  else if y.toInt = 1 then nI (kB (kth S x.toInt.toNat))
  else if y.toInt = 2 then nI (kQ (kth S x.toInt.toNat))
  else if y.toInt = 3 then nI (len (ovw S (kA (kth S x.toInt.toNat)) (kB (kth S x.toInt.toNat)) (kQ (kth S x.toInt.toNat))))
  else if y.toInt = 4 then nI (prk S (kth S x.toInt.toNat))
  else if y.toInt = 5 then nI (len (ow1 S (kA (kth S x.toInt.toNat)) (kB (kth S x.toInt.toNat)) (kQ (kth S x.toInt.toNat))))
  else nI (len (ow2 S (kA (kth S x.toInt.toNat)) (kB (kth S x.toInt.toNat)) (kQ (kth S x.toInt.toNat))))
noncomputable def couZ (S : St) (n m : Nat) (x : Int32) : Int32 :=
  if x.toInt = 0 then nI (S 1)
  else if x.toInt = 1 then nI (len (S 0))
  else if x.toInt = 2 then nI (S 2)
  else if x.toInt = 3 then nI (S 3)
  else if x.toInt = 4 then nI (S 4)
  else if x.toInt = 5 then nI (S 5)
  else if x.toInt = 6 then nI (cntO S)
  else if x.toInt = 7 then nI (cntV S 1)
  else if x.toInt = 8 then nI (cntV S 2)
  else if x.toInt = 9 then nI n
  else if x.toInt = 10 then nI m
  else (-1000001)
def undZ (S : St) (h : Nat → St) (n : Nat) : Int32 × K3 := if n = 0 then ((-1000002), (S, h, n)) else (nI (n - 1), (h (n - 1), h, n - 1))
def typZ (txt : Nat → Nat) (m : Nat) (x : Int32) : Int32 × (Nat → Nat) × Nat := if x.toInt < 32 ∨ 126 < x.toInt then ((-1000001), txt, m) else if 80 ≤ m then ((-1000003), txt, m) else (nI (m + 1), upN txt m x.toInt.toNat, m + 1)
noncomputable def fauZ (txt : Nat → Nat) (m : Nat) (S : St) (x : Int32) : Int32 :=
  if ¬ (0 ≤ x.toInt ∧ x.toInt ≤ 2) then (-1000001)
  else if (runT txt m S).1 = 0 then (-1000004)
  else if x.toInt = 0 then nI (runT txt m S).2.2.1
  else if x.toInt = 1 then nI (runT txt m S).1
  else if (runT txt m S).1 = 2 then (-1000004)
  else nI (runT txt m S).2.1
noncomputable def plaZ (S : St) (h : Nat → St) (n : Nat) (txt : Nat → Nat) (m : Nat) : Int32 × K3 := if (runT txt m S).1 = 0 then (nI (runT txt m S).2.2.2.1, kp S h n (runT txt m S).2.2.2.2) else ((-1000002), (S, h, n))
theorem doC_le {txt : Nat → Nat} {n a : Nat} {S : St} : (doC txt n a S).1 ≤ 3 := by
  by_cases h : (okP txt n a).1 = true
  · rw [doC_t h]; exact prf_lt
  · rw [doC_f (Bool.eq_false_iff.mpr h)]; show 1 ≤ 3; decide
theorem runF_le {txt : Nat → Nat} {n : Nat} : ∀ (f a : Nat) (S : St) (c : Nat), (runF txt n f a S c).1 ≤ 3
  | 0, _, _, _ => Nat.zero_le _
  | f + 1, a, S, c => by
    show (if a < n then (if (doC txt n a S).1 = 0 then runF txt n f (okP txt n a).2 (doC txt n a S).2.2 (c + 1) else ((doC txt n a S).1, (doC txt n a S).2.1, a, c, (doC txt n a S).2.2)) else (0, 0, a, c, S)).1 ≤ 3
    by_cases h : a < n
    · rw [if_pos h]
      by_cases h2 : (doC txt n a S).1 = 0
      · rw [if_pos h2]; exact runF_le f _ _ _
      · rw [if_neg h2]; exact doC_le
    · rw [if_neg h]; exact Nat.zero_le _
theorem runT_le {txt : Nat → Nat} {n : Nat} {S : St} : (runT txt n S).1 ≤ 3 := by unfold runT; rw [sl_eq]; exact runF_le _ _ _ _
theorem rTx_up {txt : Nat → Nat} {m k : Nat} {CH : Nat → Int32} (h : rTx txt m CH) (hm : m < 80) (hk : k < 127) : rTx (upN txt m k) (m + 1) (upd CH m (nI k)) := by
  refine ⟨by omega, fun i hi => ?_⟩
  by_cases e : i = m
  · subst e; rw [pk_us, upN_s]; exact ⟨rfl, hk⟩
  · rw [pk_un e, upN_n e]; exact h.2 i (by omega)
theorem rTx_0 {txt : Nat → Nat} {CH : Nat → Int32} : rTx txt 0 CH := ⟨by omega, fun i hi => absurd hi (Nat.not_lt_zero i)⟩

theorem hi_X10_overlapOf_X1 : ∀ w ∈ u_ws RX1 TX1 6, w ∈ wsX10_overlapOf := by decide +kernel
theorem hi_X10_overlapOf_X10 : ∀ w ∈ u_ws RX10 TX10 8, w ∈ wsX10_overlapOf := by decide +kernel
theorem hi_X10_overlapOf_X6 : ∀ w ∈ u_ws RX6 TX6 6, w ∈ wsX10_overlapOf := by decide +kernel
set_option maxHeartbeats 1000000 in
set_option maxRecDepth 100000 in
theorem k_X10_overlapOf (lY : Launch) (D : va_G) (cA : Nat → ClassId) (Bf Bw Bq Bh Bd Br Bo Bt Bs : Nat → Nat) (S : St) (L R LL RL TM WW NN : Nat → Int32) (x y : Int32) (fi se pl wd1 fn sn : Int32) (WD RD : Nat → Int32) (oc ns rs : Int32) (hI : IV S) (hr : rRu S L R LL RL TM) (ho : rSo S WW NN) : MetI lY D cA yX10_overlapOf wsX10_overlapOf 4 104 [.ref (Bf 0), .int x, .int y] (List.flatten [gFw cA Bf (Bw 0) (Bq 0) (Bh 0) (Bd 0) (Br 0) (Bo 0) (Bt 0) (Bs 0), gSa cA Bw (nI (S 0)) (nI (S 2)) (nI (S 4)) (nI (S 5)) L R LL RL TM (nI (S 1)) WW NN (nI (S 3)), gOv cA Bo fi se pl wd1 fn sn, gRd cA Bd WD RD oc ns rs]) (fun rY wY => ∃ (fi2 : Int32) (se2 : Int32) (pl2 : Int32) (wd2 : Int32) (fn2 : Int32) (sn2 : Int32) (WD' : Nat → Int32) (RD' : Nat → Int32) (oc' : Int32) (ns' : Int32) (rs' : Int32), rY = ovZ S x y ∧ wY = List.flatten [gFw cA Bf (Bw 0) (Bq 0) (Bh 0) (Bd 0) (Br 0) (Bo 0) (Bt 0) (Bs 0), gSa cA Bw (nI (S 0)) (nI (S 2)) (nI (S 4)) (nI (S 5)) L R LL RL TM (nI (S 1)) WW NN (nI (S 3)), gOv cA Bo fi2 se2 pl2 wd2 fn2 sn2, gRd cA Bd WD' RD' oc' ns' rs']) := by
  refine MetI.of (cc := cX10_overlapOf) (maxL := 3) (ret := (some .int)) (by decide) rfl (Nat.le_of_ble_eq_true rfl) (Or.inl rfl) ?_
  intro pY eY sY mY aY bY tY cY QY AY ls h0 hP hK hN hD hA hS hl hret
  obtain ⟨hx, hb, hml, hown, hts⟩ := id h0
  have hl : lv_has ls 3 [(0, .ref (Bf 0)), (1, .int x), (2, .int y)] := hl
  have hP : PB D [gFw cA Bf (Bw 0) (Bq 0) (Bh 0) (Bd 0) (Br 0) (Bo 0) (Bt 0) (Bs 0), gSa cA Bw (nI (S 0)) (nI (S 2)) (nI (S 4)) (nI (S 5)) L R LL RL TM (nI (S 1)) WW NN (nI (S 3)), gOv cA Bo fi se pl wd1 fn sn, gRd cA Bd WD RD oc ns rs] sY.heap := PB.of hP
  have hD : DB AY [gFw cA Bf (Bw 0) (Bq 0) (Bh 0) (Bd 0) (Br 0) (Bo 0) (Bt 0) (Bs 0), gSa cA Bw (nI (S 0)) (nI (S 2)) (nI (S 4)) (nI (S 5)) L R LL RL TM (nI (S 1)) WW NN (nI (S 3)), gOv cA Bo fi se pl wd1 fn sn, gRd cA Bd WD RD oc ns rs] := DB.of hD
  have hIR := hI.1
  have e6 : (nI 6).toInt = 6 := rfl
  refine lv_iload_n hx hb dX10_overlapOf_0 rfl (lv_at hl 2 rfl) ?_
  refine xz_lt (tgt := 28) hx hb dX10_overlapOf_1 (by decide) (fun c1 => ?_) (fun c1 => ?_)
  · refine lv_ldc (v := (-1000001)) hx hb hown (hts (.constant RX10 71 (-1000001)) (by decide +kernel)) dX10_overlapOf_28 ?_
    exact hret _ _ _ _ _ _ dX10_overlapOf_30 ⟨fi, se, pl, wd1, fn, sn, WD, RD, oc, ns, rs, ((if_pos (by omega)).symm), rfl⟩ hP.to hD.to hS
  · refine lv_iload_n hx hb dX10_overlapOf_4 rfl (lv_at hl 2 rfl) ?_
    refine lv_bipush (v := nI 6) hx hb dX10_overlapOf_5 (by decide +kernel) ?_
    refine xr_gt (tgt := 28) hx hb dX10_overlapOf_7 (by decide) (fun c7 => ?_) (fun c7 => ?_)
    · refine lv_ldc (v := (-1000001)) hx hb hown (hts (.constant RX10 71 (-1000001)) (by decide +kernel)) dX10_overlapOf_28 ?_
      exact hret _ _ _ _ _ _ dX10_overlapOf_30 ⟨fi, se, pl, wd1, fn, sn, WD, RD, oc, ns, rs, ((if_pos (by omega)).symm), rfl⟩ hP.to hD.to hS
    · refine lv_aload_n hx hb dX10_overlapOf_10 rfl (lv_at hl 0 rfl) ?_
      refine va_get (D := D) (ci := 9) (v := .ref (Bo 0)) (C := RX10) (T := TX10) (N := 8) hx hb hts hi_X10_overlapOf_X10 hown hK (hP.blk 0 rfl) 0 rfl rfl 5 (by decide) (hts (.fieldLink RX10 43 "FallingWords" "overlaps" "LFallingWords$Overlaps;") (by decide +kernel)) (fun _ h9 => h9) rfl dX10_overlapOf_11 ?_
      refine lv_aload_n hx hb dX10_overlapOf_14 rfl (lv_at hl 0 rfl) ?_
      refine va_get (D := D) (ci := 9) (v := .ref (Bw 0)) (C := RX10) (T := TX10) (N := 8) hx hb hts hi_X10_overlapOf_X10 hown hK (hP.blk 0 rfl) 0 rfl rfl 0 (by decide) (hts (.fieldLink RX10 10 "FallingWords" "now" "LFallingWords$State;") (by decide +kernel)) (fun _ h9 => h9) rfl dX10_overlapOf_15 ?_
      refine va_getN (D := D) (ci := 6) (v := .ref (Bw 1)) (C := RX6) (T := TX6) (N := 6) hx hb hts hi_X10_overlapOf_X6 hown hK (hP.blk 1 rfl) 0 rfl rfl 0 (by decide) (hN.fl (w := .fieldLinkNest RX10 61 "FallingWords$State" "rules" "LFallingWords$Rules;" "FallingWords") (by decide +kernel)) (fun _ h9 => h9) rfl dX10_overlapOf_18 ?_
      refine lv_iload_n hx hb dX10_overlapOf_21 rfl (lv_at hl 1 rfl) ?_
      refine bl_i (Ss := [gOv cA Bo fi se pl wd1 fn sn, gSa cA Bw (nI (S 0)) (nI (S 2)) (nI (S 4)) (nI (S 5)) L R LL RL TM (nI (S 1)) WW NN (nI (S 3))]) hP hD hS hA [2, 1] rfl (by decide) [0, 2, 3, 4, 5, 6, 7] rfl (va_runVN (As := [.ref (Bw 1), .int x]) (rest := []) h0 ((k_X1_find lY D cA Bo (fun i => Bw (i + 1)) fi se pl wd1 fn sn S L R LL RL TM x (hIR) (hr)) _) ⟨(va_cnB 2 hts gX10_overlapOf_X1_find_n196 rfl rfl rfl (hN (.methodLinkNest RX10 196 yX1_find "FallingWords") (by decide +kernel)) (hts (.initialized RX1) (by decide +kernel)) (by decide +kernel) ⟨Nat.le_of_ble_eq_true rfl, Nat.le_of_ble_eq_true rfl⟩), hts (.instanceMethod yX1_find) (by decide +kernel), hts (.selects RX1 yX1_find yX1_find) (by decide +kernel)⟩ ⟨pw_blind, bl_recv (ci := 1) (q := (RX1, TX1, 6)) (i := 2) (q0 := 0) hP hK rfl rfl rfl, bl_pre (Ss := [gOv cA Bo fi se pl wd1 fn sn, gSa cA Bw (nI (S 0)) (nI (S 2)) (nI (S 4)) (nI (S 5)) L R LL RL TM (nI (S 1)) WW NN (nI (S 3))]) hP hD hK hN [2, 1] rfl (by decide) [0, 2, 3, 4, 5, 6, 7] rfl (by decide +kernel)⟩ rfl rfl hl.1 rfl (lv_room (Nat.le_of_ble_eq_true rfl)) dX10_overlapOf_22 ⟨Nat.zero_le _, Nat.zero_le _⟩) (fun rY wY H locs hwY hJ hS => ?_)
      obtain ⟨fi2_22, se2_22, pl2_22, wd2_22, e1Y, e2Y, fw_22⟩ := hwY
      have e3Y := e1Y.symm
      clear e1Y
      subst e3Y
      have e3Y := e2Y.symm
      clear e2Y
      subst e3Y
      obtain ⟨hP, hD⟩ := hJ [gOv cA Bo fi2_22 se2_22 pl2_22 wd2_22 fn sn, gSa cA Bw (nI (S 0)) (nI (S 2)) (nI (S 4)) (nI (S 5)) L R LL RL TM (nI (S 1)) WW NN (nI (S 3))] rfl rfl rfl
      have hP : PB D [gFw cA Bf (Bw 0) (Bq 0) (Bh 0) (Bd 0) (Br 0) (Bo 0) (Bt 0) (Bs 0), gSa cA Bw (nI (S 0)) (nI (S 2)) (nI (S 4)) (nI (S 5)) L R LL RL TM (nI (S 1)) WW NN (nI (S 3)), gOv cA Bo fi2_22 se2_22 pl2_22 wd2_22 fn sn, gRd cA Bd WD RD oc ns rs] H := hP
      have hD : DB AY [gFw cA Bf (Bw 0) (Bq 0) (Bh 0) (Bd 0) (Br 0) (Bo 0) (Bt 0) (Bs 0), gSa cA Bw (nI (S 0)) (nI (S 2)) (nI (S 4)) (nI (S 5)) L R LL RL TM (nI (S 1)) WW NN (nI (S 3)), gOv cA Bo fi2_22 se2_22 pl2_22 wd2_22 fn sn, gRd cA Bd WD RD oc ns rs] := hD
      refine xb_ne (tgt := 31) hx hb dX10_overlapOf_25 (by decide) (fun c25 => ?_) (fun c25 => ?_)
      · obtain ⟨k1, k2, k3, k4, k5, k6⟩ := fw_22 c25
        obtain ⟨b1, b2, b3⟩ := kb (kth S x.toInt.toNat) (by omega)
        obtain ⟨hAB, hO1⟩ := Bool.and_eq_true _ _ |>.mp k2
        obtain ⟨hA0, hB0⟩ := Bool.and_eq_true _ _ |>.mp hAB
        have hA1 := of_decide_eq_true hA0
        have hB1 := of_decide_eq_true hB0
        obtain ⟨e1, e2, e3, e4, e5⟩ := ov_w hIR hA1 hB1 b3 hO1
        have hnv : ¬ (y.toInt < 0 ∨ 6 < y.toInt ∨ fndB S x = false) := fun h => h.elim (fun h => by omega) (fun h => h.elim (fun h => by omega) (fun h => by rw [c25] at h; cases h))
        rw [k3, k4, k5, k6] at hP hD
        have hP : PB D [gFw cA Bf (Bw 0) (Bq 0) (Bh 0) (Bd 0) (Br 0) (Bo 0) (Bt 0) (Bs 0), gSa cA Bw (nI (S 0)) (nI (S 2)) (nI (S 4)) (nI (S 5)) L R LL RL TM (nI (S 1)) WW NN (nI (S 3)), gOv cA Bo (nI (kA (kth S x.toInt.toNat))) (nI (kB (kth S x.toInt.toNat))) (nI (kQ (kth S x.toInt.toNat))) (nI (ovw S (kA (kth S x.toInt.toNat)) (kB (kth S x.toInt.toNat)) (kQ (kth S x.toInt.toNat)))) fn sn, gRd cA Bd WD RD oc ns rs] H := hP
        have hD : DB AY [gFw cA Bf (Bw 0) (Bq 0) (Bh 0) (Bd 0) (Br 0) (Bo 0) (Bt 0) (Bs 0), gSa cA Bw (nI (S 0)) (nI (S 2)) (nI (S 4)) (nI (S 5)) L R LL RL TM (nI (S 1)) WW NN (nI (S 3)), gOv cA Bo (nI (kA (kth S x.toInt.toNat))) (nI (kB (kth S x.toInt.toNat))) (nI (kQ (kth S x.toInt.toNat))) (nI (ovw S (kA (kth S x.toInt.toNat)) (kB (kth S x.toInt.toNat)) (kQ (kth S x.toInt.toNat)))) fn sn, gRd cA Bd WD RD oc ns rs] := hD
        refine lv_iload_n hx hb dX10_overlapOf_31 rfl (lv_at hl 2 rfl) ?_
        by_cases s32_0 : y.toInt = 0
        · have e32 : (y : Int32).toInt = 0 := s32_0
          refine lv_tableIn (off := 40) (tgt := 72) hx hb dX10_overlapOf_32 (by rw [e32]; decide) (by rw [e32]; decide) (by rw [e32]; rfl) (by decide) ?_
          refine lv_aload_n hx hb dX10_overlapOf_72 rfl (lv_at hl 0 rfl) ?_
          refine va_get (D := D) (ci := 9) (v := .ref (Bo 0)) (C := RX10) (T := TX10) (N := 8) hx hb hts hi_X10_overlapOf_X10 hown hK (hP.blk 0 rfl) 0 rfl rfl 5 (by decide) (hts (.fieldLink RX10 43 "FallingWords" "overlaps" "LFallingWords$Overlaps;") (by decide +kernel)) (fun _ h9 => h9) rfl dX10_overlapOf_73 ?_
          refine va_getN (D := D) (ci := 1) (v := .int (nI (kA (kth S x.toInt.toNat)))) (C := RX1) (T := TX1) (N := 6) hx hb hts hi_X10_overlapOf_X1 hown hK (hP.blk 2 rfl) 0 rfl rfl 0 (by decide) (hN.fl (w := .fieldLinkNest RX10 200 "FallingWords$Overlaps" "first" "I" "FallingWords") (by decide +kernel)) (fun _ h9 => h9) rfl dX10_overlapOf_76 ?_
          exact hret _ _ _ _ _ _ dX10_overlapOf_79 ⟨((nI (kA (kth S x.toInt.toNat)))), ((nI (kB (kth S x.toInt.toNat)))), ((nI (kQ (kth S x.toInt.toNat)))), ((nI (ovw S (kA (kth S x.toInt.toNat)) (kB (kth S x.toInt.toNat)) (kQ (kth S x.toInt.toNat))))), fn, sn, WD, RD, oc, ns, rs, (by unfold ovZ; rw [if_neg hnv, if_pos (show y.toInt = 0 by omega)]), rfl⟩ hP.to hD.to hS
        by_cases s32_1 : y.toInt = 1
        · have e32 : (y : Int32).toInt = 1 := s32_1
          refine lv_tableIn (off := 48) (tgt := 80) hx hb dX10_overlapOf_32 (by rw [e32]; decide) (by rw [e32]; decide) (by rw [e32]; rfl) (by decide) ?_
          refine lv_aload_n hx hb dX10_overlapOf_80 rfl (lv_at hl 0 rfl) ?_
          refine va_get (D := D) (ci := 9) (v := .ref (Bo 0)) (C := RX10) (T := TX10) (N := 8) hx hb hts hi_X10_overlapOf_X10 hown hK (hP.blk 0 rfl) 0 rfl rfl 5 (by decide) (hts (.fieldLink RX10 43 "FallingWords" "overlaps" "LFallingWords$Overlaps;") (by decide +kernel)) (fun _ h9 => h9) rfl dX10_overlapOf_81 ?_
          refine va_getN (D := D) (ci := 1) (v := .int (nI (kB (kth S x.toInt.toNat)))) (C := RX1) (T := TX1) (N := 6) hx hb hts hi_X10_overlapOf_X1 hown hK (hP.blk 2 rfl) 0 rfl rfl 1 (by decide) (hN.fl (w := .fieldLinkNest RX10 203 "FallingWords$Overlaps" "second" "I" "FallingWords") (by decide +kernel)) (fun _ h9 => h9) rfl dX10_overlapOf_84 ?_
          exact hret _ _ _ _ _ _ dX10_overlapOf_87 ⟨((nI (kA (kth S x.toInt.toNat)))), ((nI (kB (kth S x.toInt.toNat)))), ((nI (kQ (kth S x.toInt.toNat)))), ((nI (ovw S (kA (kth S x.toInt.toNat)) (kB (kth S x.toInt.toNat)) (kQ (kth S x.toInt.toNat))))), fn, sn, WD, RD, oc, ns, rs, (by unfold ovZ; rw [if_neg hnv, if_neg (show ¬ y.toInt = 0 by omega), if_pos (show y.toInt = 1 by omega)]), rfl⟩ hP.to hD.to hS
        by_cases s32_2 : y.toInt = 2
        · have e32 : (y : Int32).toInt = 2 := s32_2
          refine lv_tableIn (off := 56) (tgt := 88) hx hb dX10_overlapOf_32 (by rw [e32]; decide) (by rw [e32]; decide) (by rw [e32]; rfl) (by decide) ?_
          refine lv_aload_n hx hb dX10_overlapOf_88 rfl (lv_at hl 0 rfl) ?_
          refine va_get (D := D) (ci := 9) (v := .ref (Bo 0)) (C := RX10) (T := TX10) (N := 8) hx hb hts hi_X10_overlapOf_X10 hown hK (hP.blk 0 rfl) 0 rfl rfl 5 (by decide) (hts (.fieldLink RX10 43 "FallingWords" "overlaps" "LFallingWords$Overlaps;") (by decide +kernel)) (fun _ h9 => h9) rfl dX10_overlapOf_89 ?_
          refine va_getN (D := D) (ci := 1) (v := .int (nI (kQ (kth S x.toInt.toNat)))) (C := RX1) (T := TX1) (N := 6) hx hb hts hi_X10_overlapOf_X1 hown hK (hP.blk 2 rfl) 0 rfl rfl 2 (by decide) (hN.fl (w := .fieldLinkNest RX10 206 "FallingWords$Overlaps" "place" "I" "FallingWords") (by decide +kernel)) (fun _ h9 => h9) rfl dX10_overlapOf_92 ?_
          exact hret _ _ _ _ _ _ dX10_overlapOf_95 ⟨((nI (kA (kth S x.toInt.toNat)))), ((nI (kB (kth S x.toInt.toNat)))), ((nI (kQ (kth S x.toInt.toNat)))), ((nI (ovw S (kA (kth S x.toInt.toNat)) (kB (kth S x.toInt.toNat)) (kQ (kth S x.toInt.toNat))))), fn, sn, WD, RD, oc, ns, rs, (by unfold ovZ; rw [if_neg hnv, if_neg (show ¬ y.toInt = 0 by omega), if_neg (show ¬ y.toInt = 1 by omega), if_pos (show y.toInt = 2 by omega)]), rfl⟩ hP.to hD.to hS
        by_cases s32_3 : y.toInt = 3
        · have e32 : (y : Int32).toInt = 3 := s32_3
          refine lv_tableIn (off := 64) (tgt := 96) hx hb dX10_overlapOf_32 (by rw [e32]; decide) (by rw [e32]; decide) (by rw [e32]; rfl) (by decide) ?_
          refine lv_aload_n hx hb dX10_overlapOf_96 rfl (lv_at hl 0 rfl) ?_
          refine va_get (D := D) (ci := 9) (v := .ref (Bo 0)) (C := RX10) (T := TX10) (N := 8) hx hb hts hi_X10_overlapOf_X10 hown hK (hP.blk 0 rfl) 0 rfl rfl 5 (by decide) (hts (.fieldLink RX10 43 "FallingWords" "overlaps" "LFallingWords$Overlaps;") (by decide +kernel)) (fun _ h9 => h9) rfl dX10_overlapOf_97 ?_
          refine va_getN (D := D) (ci := 1) (v := .int (nI (ovw S (kA (kth S x.toInt.toNat)) (kB (kth S x.toInt.toNat)) (kQ (kth S x.toInt.toNat))))) (C := RX1) (T := TX1) (N := 6) hx hb hts hi_X10_overlapOf_X1 hown hK (hP.blk 2 rfl) 0 rfl rfl 3 (by decide) (hN.fl (w := .fieldLinkNest RX10 209 "FallingWords$Overlaps" "word" "I" "FallingWords") (by decide +kernel)) (fun _ h9 => h9) rfl dX10_overlapOf_100 ?_
          refine bl_i (Ss := []) hP hD hS hA [] rfl (by decide) [] rfl (va_runSN (As := [.int (nI (ovw S (kA (kth S x.toInt.toNat)) (kB (kth S x.toInt.toNat)) (kQ (kth S x.toInt.toNat))))]) (rest := []) h0 ((k_X9_lengthOf lY D cA (ovw S (kA (kth S x.toInt.toNat)) (kB (kth S x.toInt.toNat)) (kQ (kth S x.toInt.toNat))) (e1.1) (by have := e1.2; omega)) _) ⟨(va_cnB 1 hts gX10_overlapOf_X9_lengthOf_n159 rfl rfl rfl (hN (.methodLinkNest RX10 159 yX9_lengthOf "FallingWords") (by decide +kernel)) (hts (.initialized RX9) (by decide +kernel)) (by decide +kernel) ⟨Nat.le_of_ble_eq_true rfl, Nat.le_of_ble_eq_true rfl⟩), hts (.static yX9_lengthOf) (by decide +kernel), trivial⟩ ⟨pw_blind, bl_pre (Ss := []) hP hD hK hN [] rfl (by decide) [] rfl (by decide +kernel)⟩ rfl rfl hl.1 rfl (lv_room (Nat.le_of_ble_eq_true rfl)) dX10_overlapOf_103 ⟨Nat.zero_le _, Nat.zero_le _⟩) (fun rY wY H locs hwY hJ hS => ?_)
          obtain ⟨e1Y, e2Y⟩ := hwY
          have e3Y := e1Y.symm
          clear e1Y
          subst e3Y
          have e3Y := e2Y.symm
          clear e2Y
          subst e3Y
          obtain ⟨hP, hD⟩ := hJ [] rfl rfl rfl
          have hP : PB D [gFw cA Bf (Bw 0) (Bq 0) (Bh 0) (Bd 0) (Br 0) (Bo 0) (Bt 0) (Bs 0), gSa cA Bw (nI (S 0)) (nI (S 2)) (nI (S 4)) (nI (S 5)) L R LL RL TM (nI (S 1)) WW NN (nI (S 3)), gOv cA Bo (nI (kA (kth S x.toInt.toNat))) (nI (kB (kth S x.toInt.toNat))) (nI (kQ (kth S x.toInt.toNat))) (nI (ovw S (kA (kth S x.toInt.toNat)) (kB (kth S x.toInt.toNat)) (kQ (kth S x.toInt.toNat)))) fn sn, gRd cA Bd WD RD oc ns rs] H := hP
          have hD : DB AY [gFw cA Bf (Bw 0) (Bq 0) (Bh 0) (Bd 0) (Br 0) (Bo 0) (Bt 0) (Bs 0), gSa cA Bw (nI (S 0)) (nI (S 2)) (nI (S 4)) (nI (S 5)) L R LL RL TM (nI (S 1)) WW NN (nI (S 3)), gOv cA Bo (nI (kA (kth S x.toInt.toNat))) (nI (kB (kth S x.toInt.toNat))) (nI (kQ (kth S x.toInt.toNat))) (nI (ovw S (kA (kth S x.toInt.toNat)) (kB (kth S x.toInt.toNat)) (kQ (kth S x.toInt.toNat)))) fn sn, gRd cA Bd WD RD oc ns rs] := hD
          exact hret _ _ _ _ _ _ dX10_overlapOf_106 ⟨((nI (kA (kth S x.toInt.toNat)))), ((nI (kB (kth S x.toInt.toNat)))), ((nI (kQ (kth S x.toInt.toNat)))), ((nI (ovw S (kA (kth S x.toInt.toNat)) (kB (kth S x.toInt.toNat)) (kQ (kth S x.toInt.toNat))))), fn, sn, WD, RD, oc, ns, rs, (by unfold ovZ; rw [if_neg hnv, if_neg (show ¬ y.toInt = 0 by omega), if_neg (show ¬ y.toInt = 1 by omega), if_neg (show ¬ y.toInt = 2 by omega), if_pos (show y.toInt = 3 by omega)]), rfl⟩ hP.to hD.to hS
        by_cases s32_4 : y.toInt = 4
        · have e32 : (y : Int32).toInt = 4 := s32_4
          refine lv_tableIn (off := 75) (tgt := 107) hx hb dX10_overlapOf_32 (by rw [e32]; decide) (by rw [e32]; decide) (by rw [e32]; rfl) (by decide) ?_
          refine lv_aload_n hx hb dX10_overlapOf_107 rfl (lv_at hl 0 rfl) ?_
          refine va_get (D := D) (ci := 9) (v := .ref (Bo 0)) (C := RX10) (T := TX10) (N := 8) hx hb hts hi_X10_overlapOf_X10 hown hK (hP.blk 0 rfl) 0 rfl rfl 5 (by decide) (hts (.fieldLink RX10 43 "FallingWords" "overlaps" "LFallingWords$Overlaps;") (by decide +kernel)) (fun _ h9 => h9) rfl dX10_overlapOf_108 ?_
          refine lv_aload_n hx hb dX10_overlapOf_111 rfl (lv_at hl 0 rfl) ?_
          refine va_get (D := D) (ci := 9) (v := .ref (Bw 0)) (C := RX10) (T := TX10) (N := 8) hx hb hts hi_X10_overlapOf_X10 hown hK (hP.blk 0 rfl) 0 rfl rfl 0 (by decide) (hts (.fieldLink RX10 10 "FallingWords" "now" "LFallingWords$State;") (by decide +kernel)) (fun _ h9 => h9) rfl dX10_overlapOf_112 ?_
          refine lv_aload_n hx hb dX10_overlapOf_115 rfl (lv_at hl 0 rfl) ?_
          refine va_get (D := D) (ci := 9) (v := .ref (Bd 0)) (C := RX10) (T := TX10) (N := 8) hx hb hts hi_X10_overlapOf_X10 hown hK (hP.blk 0 rfl) 0 rfl rfl 3 (by decide) (hts (.fieldLink RX10 29 "FallingWords" "reduction" "LFallingWords$Reduction;") (by decide +kernel)) (fun _ h9 => h9) rfl dX10_overlapOf_116 ?_
          refine bf_i (Ss := [gOv cA Bo (nI (kA (kth S x.toInt.toNat))) (nI (kB (kth S x.toInt.toNat))) (nI (kQ (kth S x.toInt.toNat))) (nI (ovw S (kA (kth S x.toInt.toNat)) (kB (kth S x.toInt.toNat)) (kQ (kth S x.toInt.toNat)))) fn sn, gSa cA Bw (nI (S 0)) (nI (S 2)) (nI (S 4)) (nI (S 5)) L R LL RL TM (nI (S 1)) WW NN (nI (S 3)), gRd cA Bd WD RD oc ns rs]) hP hD hS hA [2, 1, 3] rfl (by decide) (va_runVN (As := [.ref (Bw 0), .ref (Bd 0)]) (rest := []) h0 ((MetI.cw (by simp only [List.flatten_cons, List.flatten_nil, List.append_nil, List.append_assoc]) (k_X1_verdict lY D cA Bo Bw Bd fn sn S L R LL RL TM WW NN WD RD oc ns rs (kA (kth S x.toInt.toNat)) (kB (kth S x.toInt.toNat)) (kQ (kth S x.toInt.toNat)) (hIR) (hr) (hA1) (hB1) (b3) (hO1))) _) ⟨(va_cnB 2 hts gX10_overlapOf_X1_verdict_n210 rfl rfl rfl (hN (.methodLinkNest RX10 210 yX1_verdict "FallingWords") (by decide +kernel)) (hts (.initialized RX1) (by decide +kernel)) (by decide +kernel) ⟨Nat.le_of_ble_eq_true rfl, Nat.le_of_ble_eq_true rfl⟩), hts (.instanceMethod yX1_verdict) (by decide +kernel), hts (.selects RX1 yX1_verdict yX1_verdict) (by decide +kernel)⟩ ⟨pw_blind, bl_recv (ci := 1) (q := (RX1, TX1, 6)) (i := 2) (q0 := 0) hP hK rfl rfl rfl, bf_pre (Ss := [gOv cA Bo (nI (kA (kth S x.toInt.toNat))) (nI (kB (kth S x.toInt.toNat))) (nI (kQ (kth S x.toInt.toNat))) (nI (ovw S (kA (kth S x.toInt.toNat)) (kB (kth S x.toInt.toNat)) (kQ (kth S x.toInt.toNat)))) fn sn, gSa cA Bw (nI (S 0)) (nI (S 2)) (nI (S 4)) (nI (S 5)) L R LL RL TM (nI (S 1)) WW NN (nI (S 3)), gRd cA Bd WD RD oc ns rs]) hP hD hK hN [2, 1, 3] rfl (by decide)⟩ rfl rfl hl.1 rfl (lv_room (Nat.le_of_ble_eq_true rfl)) dX10_overlapOf_119 ⟨Nat.zero_le _, Nat.zero_le _⟩) (fun rY wY H locs hwY hJ hS => ?_)
          obtain ⟨fn2_119, sn2_119, WD'_119, RD'_119, oc'_119, ns'_119, rs'_119, e1Y, e2Y, ff2_119⟩ := hwY
          have e3Y := e1Y.symm
          clear e1Y
          subst e3Y
          have e3Y := e2Y.symm
          clear e2Y
          subst e3Y
          obtain ⟨hP, hD⟩ := hJ [gOv cA Bo (nI (kA (kth S x.toInt.toNat))) (nI (kB (kth S x.toInt.toNat))) (nI (kQ (kth S x.toInt.toNat))) (nI (ovw S (kA (kth S x.toInt.toNat)) (kB (kth S x.toInt.toNat)) (kQ (kth S x.toInt.toNat)))) fn2_119 sn2_119, gSa cA Bw (nI (S 0)) (nI (S 2)) (nI (S 4)) (nI (S 5)) L R LL RL TM (nI (S 1)) WW NN (nI (S 3)), gRd cA Bd WD'_119 RD'_119 oc'_119 ns'_119 rs'_119] (by simp only [List.flatten_cons, List.flatten_nil, List.append_nil, List.append_assoc]) rfl
          have hP : PB D [gFw cA Bf (Bw 0) (Bq 0) (Bh 0) (Bd 0) (Br 0) (Bo 0) (Bt 0) (Bs 0), gSa cA Bw (nI (S 0)) (nI (S 2)) (nI (S 4)) (nI (S 5)) L R LL RL TM (nI (S 1)) WW NN (nI (S 3)), gOv cA Bo (nI (kA (kth S x.toInt.toNat))) (nI (kB (kth S x.toInt.toNat))) (nI (kQ (kth S x.toInt.toNat))) (nI (ovw S (kA (kth S x.toInt.toNat)) (kB (kth S x.toInt.toNat)) (kQ (kth S x.toInt.toNat)))) fn2_119 sn2_119, gRd cA Bd WD'_119 RD'_119 oc'_119 ns'_119 rs'_119] H := hP
          have hD : DB AY [gFw cA Bf (Bw 0) (Bq 0) (Bh 0) (Bd 0) (Br 0) (Bo 0) (Bt 0) (Bs 0), gSa cA Bw (nI (S 0)) (nI (S 2)) (nI (S 4)) (nI (S 5)) L R LL RL TM (nI (S 1)) WW NN (nI (S 3)), gOv cA Bo (nI (kA (kth S x.toInt.toNat))) (nI (kB (kth S x.toInt.toNat))) (nI (kQ (kth S x.toInt.toNat))) (nI (ovw S (kA (kth S x.toInt.toNat)) (kB (kth S x.toInt.toNat)) (kQ (kth S x.toInt.toNat)))) fn2_119 sn2_119, gRd cA Bd WD'_119 RD'_119 oc'_119 ns'_119 rs'_119] := hD
          exact hret _ _ _ _ _ _ dX10_overlapOf_122 ⟨((nI (kA (kth S x.toInt.toNat)))), ((nI (kB (kth S x.toInt.toNat)))), ((nI (kQ (kth S x.toInt.toNat)))), ((nI (ovw S (kA (kth S x.toInt.toNat)) (kB (kth S x.toInt.toNat)) (kQ (kth S x.toInt.toNat))))), fn2_119, sn2_119, WD'_119, RD'_119, oc'_119, ns'_119, rs'_119, (by unfold ovZ; rw [if_neg hnv, if_neg (show ¬ y.toInt = 0 by omega), if_neg (show ¬ y.toInt = 1 by omega), if_neg (show ¬ y.toInt = 2 by omega), if_neg (show ¬ y.toInt = 3 by omega), if_pos (show y.toInt = 4 by omega)]; rfl), rfl⟩ hP.to hD.to hS
        by_cases s32_5 : y.toInt = 5
        · have e32 : (y : Int32).toInt = 5 := s32_5
          refine lv_tableIn (off := 91) (tgt := 123) hx hb dX10_overlapOf_32 (by rw [e32]; decide) (by rw [e32]; decide) (by rw [e32]; rfl) (by decide) ?_
          refine lv_aload_n hx hb dX10_overlapOf_123 rfl (lv_at hl 0 rfl) ?_
          refine va_get (D := D) (ci := 9) (v := .ref (Bo 0)) (C := RX10) (T := TX10) (N := 8) hx hb hts hi_X10_overlapOf_X10 hown hK (hP.blk 0 rfl) 0 rfl rfl 5 (by decide) (hts (.fieldLink RX10 43 "FallingWords" "overlaps" "LFallingWords$Overlaps;") (by decide +kernel)) (fun _ h9 => h9) rfl dX10_overlapOf_124 ?_
          refine lv_aload_n hx hb dX10_overlapOf_127 rfl (lv_at hl 0 rfl) ?_
          refine va_get (D := D) (ci := 9) (v := .ref (Bw 0)) (C := RX10) (T := TX10) (N := 8) hx hb hts hi_X10_overlapOf_X10 hown hK (hP.blk 0 rfl) 0 rfl rfl 0 (by decide) (hts (.fieldLink RX10 10 "FallingWords" "now" "LFallingWords$State;") (by decide +kernel)) (fun _ h9 => h9) rfl dX10_overlapOf_128 ?_
          refine va_getN (D := D) (ci := 6) (v := .ref (Bw 1)) (C := RX6) (T := TX6) (N := 6) hx hb hts hi_X10_overlapOf_X6 hown hK (hP.blk 1 rfl) 0 rfl rfl 0 (by decide) (hN.fl (w := .fieldLinkNest RX10 61 "FallingWords$State" "rules" "LFallingWords$Rules;" "FallingWords") (by decide +kernel)) (fun _ h9 => h9) rfl dX10_overlapOf_131 ?_
          refine bl_i (Ss := [gOv cA Bo (nI (kA (kth S x.toInt.toNat))) (nI (kB (kth S x.toInt.toNat))) (nI (kQ (kth S x.toInt.toNat))) (nI (ovw S (kA (kth S x.toInt.toNat)) (kB (kth S x.toInt.toNat)) (kQ (kth S x.toInt.toNat)))) fn sn, gSa cA Bw (nI (S 0)) (nI (S 2)) (nI (S 4)) (nI (S 5)) L R LL RL TM (nI (S 1)) WW NN (nI (S 3))]) hP hD hS hA [2, 1] rfl (by decide) [0, 2, 3, 4, 5, 6, 7] rfl (va_runVN (As := [.ref (Bw 1)]) (rest := []) h0 ((k_X1_firstWord lY D cA Bo (fun i => Bw (i + 1)) fn sn S L R LL RL TM (kA (kth S x.toInt.toNat)) (kB (kth S x.toInt.toNat)) (kQ (kth S x.toInt.toNat)) (hIR) (hr) (hA1) (hB1) (b3) (hO1)) _) ⟨(va_cnB 1 hts gX10_overlapOf_X1_firstWord_n214 rfl rfl rfl (hN (.methodLinkNest RX10 214 yX1_firstWord "FallingWords") (by decide +kernel)) (hts (.initialized RX1) (by decide +kernel)) (by decide +kernel) ⟨Nat.le_of_ble_eq_true rfl, Nat.le_of_ble_eq_true rfl⟩), hts (.instanceMethod yX1_firstWord) (by decide +kernel), hts (.selects RX1 yX1_firstWord yX1_firstWord) (by decide +kernel)⟩ ⟨pw_blind, bl_recv (ci := 1) (q := (RX1, TX1, 6)) (i := 2) (q0 := 0) hP hK rfl rfl rfl, bl_pre (Ss := [gOv cA Bo (nI (kA (kth S x.toInt.toNat))) (nI (kB (kth S x.toInt.toNat))) (nI (kQ (kth S x.toInt.toNat))) (nI (ovw S (kA (kth S x.toInt.toNat)) (kB (kth S x.toInt.toNat)) (kQ (kth S x.toInt.toNat)))) fn sn, gSa cA Bw (nI (S 0)) (nI (S 2)) (nI (S 4)) (nI (S 5)) L R LL RL TM (nI (S 1)) WW NN (nI (S 3))]) hP hD hK hN [2, 1] rfl (by decide) [0, 2, 3, 4, 5, 6, 7] rfl (by decide +kernel)⟩ rfl rfl hl.1 rfl (lv_room (Nat.le_of_ble_eq_true rfl)) dX10_overlapOf_134 ⟨Nat.zero_le _, Nat.zero_le _⟩) (fun rY wY H locs hwY hJ hS => ?_)
          obtain ⟨e1Y, e2Y⟩ := hwY
          have e3Y := e1Y.symm
          clear e1Y
          subst e3Y
          have e3Y := e2Y.symm
          clear e2Y
          subst e3Y
          obtain ⟨hP, hD⟩ := hJ [gOv cA Bo (nI (kA (kth S x.toInt.toNat))) (nI (kB (kth S x.toInt.toNat))) (nI (kQ (kth S x.toInt.toNat))) (nI (ovw S (kA (kth S x.toInt.toNat)) (kB (kth S x.toInt.toNat)) (kQ (kth S x.toInt.toNat)))) fn sn, gSa cA Bw (nI (S 0)) (nI (S 2)) (nI (S 4)) (nI (S 5)) L R LL RL TM (nI (S 1)) WW NN (nI (S 3))] rfl rfl rfl
          have hP : PB D [gFw cA Bf (Bw 0) (Bq 0) (Bh 0) (Bd 0) (Br 0) (Bo 0) (Bt 0) (Bs 0), gSa cA Bw (nI (S 0)) (nI (S 2)) (nI (S 4)) (nI (S 5)) L R LL RL TM (nI (S 1)) WW NN (nI (S 3)), gOv cA Bo (nI (kA (kth S x.toInt.toNat))) (nI (kB (kth S x.toInt.toNat))) (nI (kQ (kth S x.toInt.toNat))) (nI (ovw S (kA (kth S x.toInt.toNat)) (kB (kth S x.toInt.toNat)) (kQ (kth S x.toInt.toNat)))) fn sn, gRd cA Bd WD RD oc ns rs] H := hP
          have hD : DB AY [gFw cA Bf (Bw 0) (Bq 0) (Bh 0) (Bd 0) (Br 0) (Bo 0) (Bt 0) (Bs 0), gSa cA Bw (nI (S 0)) (nI (S 2)) (nI (S 4)) (nI (S 5)) L R LL RL TM (nI (S 1)) WW NN (nI (S 3)), gOv cA Bo (nI (kA (kth S x.toInt.toNat))) (nI (kB (kth S x.toInt.toNat))) (nI (kQ (kth S x.toInt.toNat))) (nI (ovw S (kA (kth S x.toInt.toNat)) (kB (kth S x.toInt.toNat)) (kQ (kth S x.toInt.toNat)))) fn sn, gRd cA Bd WD RD oc ns rs] := hD
          refine bl_i (Ss := []) hP hD hS hA [] rfl (by decide) [] rfl (va_runSN (As := [.int (nI (ow1 S (kA (kth S x.toInt.toNat)) (kB (kth S x.toInt.toNat)) (kQ (kth S x.toInt.toNat))))]) (rest := []) h0 ((k_X9_lengthOf lY D cA (ow1 S (kA (kth S x.toInt.toNat)) (kB (kth S x.toInt.toNat)) (kQ (kth S x.toInt.toNat))) (e4.1) (by have := e4.2; omega)) _) ⟨(va_cnB 1 hts gX10_overlapOf_X9_lengthOf_n159 rfl rfl rfl (hN (.methodLinkNest RX10 159 yX9_lengthOf "FallingWords") (by decide +kernel)) (hts (.initialized RX9) (by decide +kernel)) (by decide +kernel) ⟨Nat.le_of_ble_eq_true rfl, Nat.le_of_ble_eq_true rfl⟩), hts (.static yX9_lengthOf) (by decide +kernel), trivial⟩ ⟨pw_blind, bl_pre (Ss := []) hP hD hK hN [] rfl (by decide) [] rfl (by decide +kernel)⟩ rfl rfl hl.1 rfl (lv_room (Nat.le_of_ble_eq_true rfl)) dX10_overlapOf_137 ⟨Nat.zero_le _, Nat.zero_le _⟩) (fun rY wY H locs hwY hJ hS => ?_)
          obtain ⟨e1Y, e2Y⟩ := hwY
          have e3Y := e1Y.symm
          clear e1Y
          subst e3Y
          have e3Y := e2Y.symm
          clear e2Y
          subst e3Y
          obtain ⟨hP, hD⟩ := hJ [] rfl rfl rfl
          have hP : PB D [gFw cA Bf (Bw 0) (Bq 0) (Bh 0) (Bd 0) (Br 0) (Bo 0) (Bt 0) (Bs 0), gSa cA Bw (nI (S 0)) (nI (S 2)) (nI (S 4)) (nI (S 5)) L R LL RL TM (nI (S 1)) WW NN (nI (S 3)), gOv cA Bo (nI (kA (kth S x.toInt.toNat))) (nI (kB (kth S x.toInt.toNat))) (nI (kQ (kth S x.toInt.toNat))) (nI (ovw S (kA (kth S x.toInt.toNat)) (kB (kth S x.toInt.toNat)) (kQ (kth S x.toInt.toNat)))) fn sn, gRd cA Bd WD RD oc ns rs] H := hP
          have hD : DB AY [gFw cA Bf (Bw 0) (Bq 0) (Bh 0) (Bd 0) (Br 0) (Bo 0) (Bt 0) (Bs 0), gSa cA Bw (nI (S 0)) (nI (S 2)) (nI (S 4)) (nI (S 5)) L R LL RL TM (nI (S 1)) WW NN (nI (S 3)), gOv cA Bo (nI (kA (kth S x.toInt.toNat))) (nI (kB (kth S x.toInt.toNat))) (nI (kQ (kth S x.toInt.toNat))) (nI (ovw S (kA (kth S x.toInt.toNat)) (kB (kth S x.toInt.toNat)) (kQ (kth S x.toInt.toNat)))) fn sn, gRd cA Bd WD RD oc ns rs] := hD
          exact hret _ _ _ _ _ _ dX10_overlapOf_140 ⟨((nI (kA (kth S x.toInt.toNat)))), ((nI (kB (kth S x.toInt.toNat)))), ((nI (kQ (kth S x.toInt.toNat)))), ((nI (ovw S (kA (kth S x.toInt.toNat)) (kB (kth S x.toInt.toNat)) (kQ (kth S x.toInt.toNat))))), fn, sn, WD, RD, oc, ns, rs, (by unfold ovZ; rw [if_neg hnv, if_neg (show ¬ y.toInt = 0 by omega), if_neg (show ¬ y.toInt = 1 by omega), if_neg (show ¬ y.toInt = 2 by omega), if_neg (show ¬ y.toInt = 3 by omega), if_neg (show ¬ y.toInt = 4 by omega), if_pos (show y.toInt = 5 by omega)]), rfl⟩ hP.to hD.to hS
        refine lv_tableOut (tgt := 141) hx hb dX10_overlapOf_32 (by omega) (by decide) ?_
        refine lv_aload_n hx hb dX10_overlapOf_141 rfl (lv_at hl 0 rfl) ?_
        refine va_get (D := D) (ci := 9) (v := .ref (Bo 0)) (C := RX10) (T := TX10) (N := 8) hx hb hts hi_X10_overlapOf_X10 hown hK (hP.blk 0 rfl) 0 rfl rfl 5 (by decide) (hts (.fieldLink RX10 43 "FallingWords" "overlaps" "LFallingWords$Overlaps;") (by decide +kernel)) (fun _ h9 => h9) rfl dX10_overlapOf_142 ?_
        refine lv_aload_n hx hb dX10_overlapOf_145 rfl (lv_at hl 0 rfl) ?_
        refine va_get (D := D) (ci := 9) (v := .ref (Bw 0)) (C := RX10) (T := TX10) (N := 8) hx hb hts hi_X10_overlapOf_X10 hown hK (hP.blk 0 rfl) 0 rfl rfl 0 (by decide) (hts (.fieldLink RX10 10 "FallingWords" "now" "LFallingWords$State;") (by decide +kernel)) (fun _ h9 => h9) rfl dX10_overlapOf_146 ?_
        refine va_getN (D := D) (ci := 6) (v := .ref (Bw 1)) (C := RX6) (T := TX6) (N := 6) hx hb hts hi_X10_overlapOf_X6 hown hK (hP.blk 1 rfl) 0 rfl rfl 0 (by decide) (hN.fl (w := .fieldLinkNest RX10 61 "FallingWords$State" "rules" "LFallingWords$Rules;" "FallingWords") (by decide +kernel)) (fun _ h9 => h9) rfl dX10_overlapOf_149 ?_
        refine bl_i (Ss := [gOv cA Bo (nI (kA (kth S x.toInt.toNat))) (nI (kB (kth S x.toInt.toNat))) (nI (kQ (kth S x.toInt.toNat))) (nI (ovw S (kA (kth S x.toInt.toNat)) (kB (kth S x.toInt.toNat)) (kQ (kth S x.toInt.toNat)))) fn sn, gSa cA Bw (nI (S 0)) (nI (S 2)) (nI (S 4)) (nI (S 5)) L R LL RL TM (nI (S 1)) WW NN (nI (S 3))]) hP hD hS hA [2, 1] rfl (by decide) [0, 2, 3, 4, 5, 6, 7] rfl (va_runVN (As := [.ref (Bw 1)]) (rest := []) h0 ((k_X1_secondWord lY D cA Bo (fun i => Bw (i + 1)) fn sn S L R LL RL TM (kA (kth S x.toInt.toNat)) (kB (kth S x.toInt.toNat)) (kQ (kth S x.toInt.toNat)) (hIR) (hr) (hA1) (hB1) (b3) (hO1)) _) ⟨(va_cnB 1 hts gX10_overlapOf_X1_secondWord_n218 rfl rfl rfl (hN (.methodLinkNest RX10 218 yX1_secondWord "FallingWords") (by decide +kernel)) (hts (.initialized RX1) (by decide +kernel)) (by decide +kernel) ⟨Nat.le_of_ble_eq_true rfl, Nat.le_of_ble_eq_true rfl⟩), hts (.instanceMethod yX1_secondWord) (by decide +kernel), hts (.selects RX1 yX1_secondWord yX1_secondWord) (by decide +kernel)⟩ ⟨pw_blind, bl_recv (ci := 1) (q := (RX1, TX1, 6)) (i := 2) (q0 := 0) hP hK rfl rfl rfl, bl_pre (Ss := [gOv cA Bo (nI (kA (kth S x.toInt.toNat))) (nI (kB (kth S x.toInt.toNat))) (nI (kQ (kth S x.toInt.toNat))) (nI (ovw S (kA (kth S x.toInt.toNat)) (kB (kth S x.toInt.toNat)) (kQ (kth S x.toInt.toNat)))) fn sn, gSa cA Bw (nI (S 0)) (nI (S 2)) (nI (S 4)) (nI (S 5)) L R LL RL TM (nI (S 1)) WW NN (nI (S 3))]) hP hD hK hN [2, 1] rfl (by decide) [0, 2, 3, 4, 5, 6, 7] rfl (by decide +kernel)⟩ rfl rfl hl.1 rfl (lv_room (Nat.le_of_ble_eq_true rfl)) dX10_overlapOf_152 ⟨Nat.zero_le _, Nat.zero_le _⟩) (fun rY wY H locs hwY hJ hS => ?_)
        obtain ⟨e1Y, e2Y⟩ := hwY
        have e3Y := e1Y.symm
        clear e1Y
        subst e3Y
        have e3Y := e2Y.symm
        clear e2Y
        subst e3Y
        obtain ⟨hP, hD⟩ := hJ [gOv cA Bo (nI (kA (kth S x.toInt.toNat))) (nI (kB (kth S x.toInt.toNat))) (nI (kQ (kth S x.toInt.toNat))) (nI (ovw S (kA (kth S x.toInt.toNat)) (kB (kth S x.toInt.toNat)) (kQ (kth S x.toInt.toNat)))) fn sn, gSa cA Bw (nI (S 0)) (nI (S 2)) (nI (S 4)) (nI (S 5)) L R LL RL TM (nI (S 1)) WW NN (nI (S 3))] rfl rfl rfl
        have hP : PB D [gFw cA Bf (Bw 0) (Bq 0) (Bh 0) (Bd 0) (Br 0) (Bo 0) (Bt 0) (Bs 0), gSa cA Bw (nI (S 0)) (nI (S 2)) (nI (S 4)) (nI (S 5)) L R LL RL TM (nI (S 1)) WW NN (nI (S 3)), gOv cA Bo (nI (kA (kth S x.toInt.toNat))) (nI (kB (kth S x.toInt.toNat))) (nI (kQ (kth S x.toInt.toNat))) (nI (ovw S (kA (kth S x.toInt.toNat)) (kB (kth S x.toInt.toNat)) (kQ (kth S x.toInt.toNat)))) fn sn, gRd cA Bd WD RD oc ns rs] H := hP
        have hD : DB AY [gFw cA Bf (Bw 0) (Bq 0) (Bh 0) (Bd 0) (Br 0) (Bo 0) (Bt 0) (Bs 0), gSa cA Bw (nI (S 0)) (nI (S 2)) (nI (S 4)) (nI (S 5)) L R LL RL TM (nI (S 1)) WW NN (nI (S 3)), gOv cA Bo (nI (kA (kth S x.toInt.toNat))) (nI (kB (kth S x.toInt.toNat))) (nI (kQ (kth S x.toInt.toNat))) (nI (ovw S (kA (kth S x.toInt.toNat)) (kB (kth S x.toInt.toNat)) (kQ (kth S x.toInt.toNat)))) fn sn, gRd cA Bd WD RD oc ns rs] := hD
        refine bl_i (Ss := []) hP hD hS hA [] rfl (by decide) [] rfl (va_runSN (As := [.int (nI (ow2 S (kA (kth S x.toInt.toNat)) (kB (kth S x.toInt.toNat)) (kQ (kth S x.toInt.toNat))))]) (rest := []) h0 ((k_X9_lengthOf lY D cA (ow2 S (kA (kth S x.toInt.toNat)) (kB (kth S x.toInt.toNat)) (kQ (kth S x.toInt.toNat))) (e5.1) (by have := e5.2; omega)) _) ⟨(va_cnB 1 hts gX10_overlapOf_X9_lengthOf_n159 rfl rfl rfl (hN (.methodLinkNest RX10 159 yX9_lengthOf "FallingWords") (by decide +kernel)) (hts (.initialized RX9) (by decide +kernel)) (by decide +kernel) ⟨Nat.le_of_ble_eq_true rfl, Nat.le_of_ble_eq_true rfl⟩), hts (.static yX9_lengthOf) (by decide +kernel), trivial⟩ ⟨pw_blind, bl_pre (Ss := []) hP hD hK hN [] rfl (by decide) [] rfl (by decide +kernel)⟩ rfl rfl hl.1 rfl (lv_room (Nat.le_of_ble_eq_true rfl)) dX10_overlapOf_155 ⟨Nat.zero_le _, Nat.zero_le _⟩) (fun rY wY H locs hwY hJ hS => ?_)
        obtain ⟨e1Y, e2Y⟩ := hwY
        have e3Y := e1Y.symm
        clear e1Y
        subst e3Y
        have e3Y := e2Y.symm
        clear e2Y
        subst e3Y
        obtain ⟨hP, hD⟩ := hJ [] rfl rfl rfl
        have hP : PB D [gFw cA Bf (Bw 0) (Bq 0) (Bh 0) (Bd 0) (Br 0) (Bo 0) (Bt 0) (Bs 0), gSa cA Bw (nI (S 0)) (nI (S 2)) (nI (S 4)) (nI (S 5)) L R LL RL TM (nI (S 1)) WW NN (nI (S 3)), gOv cA Bo (nI (kA (kth S x.toInt.toNat))) (nI (kB (kth S x.toInt.toNat))) (nI (kQ (kth S x.toInt.toNat))) (nI (ovw S (kA (kth S x.toInt.toNat)) (kB (kth S x.toInt.toNat)) (kQ (kth S x.toInt.toNat)))) fn sn, gRd cA Bd WD RD oc ns rs] H := hP
        have hD : DB AY [gFw cA Bf (Bw 0) (Bq 0) (Bh 0) (Bd 0) (Br 0) (Bo 0) (Bt 0) (Bs 0), gSa cA Bw (nI (S 0)) (nI (S 2)) (nI (S 4)) (nI (S 5)) L R LL RL TM (nI (S 1)) WW NN (nI (S 3)), gOv cA Bo (nI (kA (kth S x.toInt.toNat))) (nI (kB (kth S x.toInt.toNat))) (nI (kQ (kth S x.toInt.toNat))) (nI (ovw S (kA (kth S x.toInt.toNat)) (kB (kth S x.toInt.toNat)) (kQ (kth S x.toInt.toNat)))) fn sn, gRd cA Bd WD RD oc ns rs] := hD
        exact hret _ _ _ _ _ _ dX10_overlapOf_158 ⟨((nI (kA (kth S x.toInt.toNat)))), ((nI (kB (kth S x.toInt.toNat)))), ((nI (kQ (kth S x.toInt.toNat)))), ((nI (ovw S (kA (kth S x.toInt.toNat)) (kB (kth S x.toInt.toNat)) (kQ (kth S x.toInt.toNat))))), fn, sn, WD, RD, oc, ns, rs, (by unfold ovZ; rw [if_neg hnv, if_neg (show ¬ y.toInt = 0 by omega), if_neg (show ¬ y.toInt = 1 by omega), if_neg (show ¬ y.toInt = 2 by omega), if_neg (show ¬ y.toInt = 3 by omega), if_neg (show ¬ y.toInt = 4 by omega), if_neg (show ¬ y.toInt = 5 by omega)]), rfl⟩ hP.to hD.to hS
      · refine lv_ldc (v := (-1000001)) hx hb hown (hts (.constant RX10 71 (-1000001)) (by decide +kernel)) dX10_overlapOf_28 ?_
        exact hret _ _ _ _ _ _ dX10_overlapOf_30 ⟨fi2_22, se2_22, pl2_22, wd2_22, fn, sn, WD, RD, oc, ns, rs, ((if_pos (Or.inr (Or.inr c25))).symm), rfl⟩ hP.to hD.to hS

theorem hi_X10_count_X0 : ∀ w ∈ u_ws RX0 TX0 2, w ∈ wsX10_count := by decide +kernel
theorem hi_X10_count_X10 : ∀ w ∈ u_ws RX10 TX10 8, w ∈ wsX10_count := by decide +kernel
theorem hi_X10_count_X4 : ∀ w ∈ u_ws RX4 TX4 6, w ∈ wsX10_count := by decide +kernel
theorem hi_X10_count_X6 : ∀ w ∈ u_ws RX6 TX6 6, w ∈ wsX10_count := by decide +kernel
theorem hi_X10_count_X7 : ∀ w ∈ u_ws RX7 TX7 3, w ∈ wsX10_count := by decide +kernel
theorem hi_X10_count_X8 : ∀ w ∈ u_ws RX8 TX8 7, w ∈ wsX10_count := by decide +kernel
set_option maxHeartbeats 1000000 in
set_option maxRecDepth 100000 in
theorem k_X10_count (lY : Launch) (D : va_G) (cA : Nat → ClassId) (Bf Bw Bq Bh Bd Br Bo Bt Bs : Nat → Nat) (S : St) (L R LL RL TM WW NN : Nat → Int32) (x : Int32) (n m : Nat) (E0 E1 E2 E3 : Nat → Nat) (CH : Nat → Int32) (at1 kd fw sw dg : Int32) (fi se pl wd1 fn sn : Int32) (WD RD : Nat → Int32) (oc ns rs : Int32) (hI : IV S) (hr : rRu S L R LL RL TM) (ho : rSo S WW NN) : MetI lY D cA yX10_count wsX10_count 5 129 [.ref (Bf 0), .int x] (List.flatten [gFw cA Bf (Bw 0) (Bq 0) (Bh 0) (Bd 0) (Br 0) (Bo 0) (Bt 0) (Bs 0), gSa cA Bw (nI (S 0)) (nI (S 2)) (nI (S 4)) (nI (S 5)) L R LL RL TM (nI (S 1)) WW NN (nI (S 3)), gHi cA Bh (E0 0) (E1 0) (E2 0) (E3 0) (nI n), gTx cA Bt CH (nI m) at1 kd fw sw dg, gOv cA Bo fi se pl wd1 fn sn, gRd cA Bd WD RD oc ns rs]) (fun rY wY => ∃ (fi2 : Int32) (se2 : Int32) (pl2 : Int32) (wd2 : Int32) (fn2 : Int32) (sn2 : Int32) (WD' : Nat → Int32) (RD' : Nat → Int32) (oc' : Int32) (ns' : Int32) (rs' : Int32), rY = couZ S n m x ∧ wY = List.flatten [gFw cA Bf (Bw 0) (Bq 0) (Bh 0) (Bd 0) (Br 0) (Bo 0) (Bt 0) (Bs 0), gSa cA Bw (nI (S 0)) (nI (S 2)) (nI (S 4)) (nI (S 5)) L R LL RL TM (nI (S 1)) WW NN (nI (S 3)), gHi cA Bh (E0 0) (E1 0) (E2 0) (E3 0) (nI n), gTx cA Bt CH (nI m) at1 kd fw sw dg, gOv cA Bo fi2 se2 pl2 wd2 fn2 sn2, gRd cA Bd WD' RD' oc' ns' rs']) := by
  refine MetI.of (cc := cX10_count) (maxL := 2) (ret := (some .int)) (by decide) rfl (Nat.le_of_ble_eq_true rfl) (Or.inl rfl) ?_
  intro pY eY sY mY aY bY tY cY QY AY ls h0 hP hK hN hD hA hS hl hret
  obtain ⟨hx, hb, hml, hown, hts⟩ := id h0
  have hl : lv_has ls 2 [(0, .ref (Bf 0)), (1, .int x)] := hl
  have hP : PB D [gFw cA Bf (Bw 0) (Bq 0) (Bh 0) (Bd 0) (Br 0) (Bo 0) (Bt 0) (Bs 0), gSa cA Bw (nI (S 0)) (nI (S 2)) (nI (S 4)) (nI (S 5)) L R LL RL TM (nI (S 1)) WW NN (nI (S 3)), gHi cA Bh (E0 0) (E1 0) (E2 0) (E3 0) (nI n), gTx cA Bt CH (nI m) at1 kd fw sw dg, gOv cA Bo fi se pl wd1 fn sn, gRd cA Bd WD RD oc ns rs] sY.heap := PB.of hP
  have hD : DB AY [gFw cA Bf (Bw 0) (Bq 0) (Bh 0) (Bd 0) (Br 0) (Bo 0) (Bt 0) (Bs 0), gSa cA Bw (nI (S 0)) (nI (S 2)) (nI (S 4)) (nI (S 5)) L R LL RL TM (nI (S 1)) WW NN (nI (S 3)), gHi cA Bh (E0 0) (E1 0) (E2 0) (E3 0) (nI n), gTx cA Bt CH (nI m) at1 kd fw sw dg, gOv cA Bo fi se pl wd1 fn sn, gRd cA Bd WD RD oc ns rs] := DB.of hD
  have hIR := hI.1
  have hw := hI.2.2.1
  refine lv_iload_n hx hb dX10_count_0 rfl (lv_at hl 1 rfl) ?_
  by_cases s1_0 : x.toInt = 0
  · have e1 : (x : Int32).toInt = 0 := s1_0
    refine lv_tableIn (off := 59) (tgt := 60) hx hb dX10_count_1 (by rw [e1]; decide) (by rw [e1]; decide) (by rw [e1]; rfl) (by decide) ?_
    refine lv_aload_n hx hb dX10_count_60 rfl (lv_at hl 0 rfl) ?_
    refine va_get (D := D) (ci := 9) (v := .ref (Bw 0)) (C := RX10) (T := TX10) (N := 8) hx hb hts hi_X10_count_X10 hown hK (hP.blk 0 rfl) 0 rfl rfl 0 (by decide) (hts (.fieldLink RX10 10 "FallingWords" "now" "LFallingWords$State;") (by decide +kernel)) (fun _ h9 => h9) rfl dX10_count_61 ?_
    refine va_getN (D := D) (ci := 6) (v := .ref (Bw 1)) (C := RX6) (T := TX6) (N := 6) hx hb hts hi_X10_count_X6 hown hK (hP.blk 1 rfl) 0 rfl rfl 0 (by decide) (hN.fl (w := .fieldLinkNest RX10 61 "FallingWords$State" "rules" "LFallingWords$Rules;" "FallingWords") (by decide +kernel)) (fun _ h9 => h9) rfl dX10_count_64 ?_
    refine va_getN (D := D) (ci := 4) (v := .int (nI (S 1))) (C := RX4) (T := TX4) (N := 6) hx hb hts hi_X10_count_X4 hown hK (hP.blk 1 rfl) 1 rfl rfl 5 (by decide) (hN.fl (w := .fieldLinkNest RX10 82 "FallingWords$Rules" "size" "I" "FallingWords") (by decide +kernel)) (fun _ h9 => h9) rfl dX10_count_67 ?_
    exact hret _ _ _ _ _ _ dX10_count_70 ⟨fi, se, pl, wd1, fn, sn, WD, RD, oc, ns, rs, (by unfold couZ; rw [if_pos (show x.toInt = 0 by omega)]), rfl⟩ hP.to hD.to hS
  by_cases s1_1 : x.toInt = 1
  · have e1 : (x : Int32).toInt = 1 := s1_1
    refine lv_tableIn (off := 70) (tgt := 71) hx hb dX10_count_1 (by rw [e1]; decide) (by rw [e1]; decide) (by rw [e1]; rfl) (by decide) ?_
    refine lv_aload_n hx hb dX10_count_71 rfl (lv_at hl 0 rfl) ?_
    refine va_get (D := D) (ci := 9) (v := .ref (Bw 0)) (C := RX10) (T := TX10) (N := 8) hx hb hts hi_X10_count_X10 hown hK (hP.blk 0 rfl) 0 rfl rfl 0 (by decide) (hts (.fieldLink RX10 10 "FallingWords" "now" "LFallingWords$State;") (by decide +kernel)) (fun _ h9 => h9) rfl dX10_count_72 ?_
    refine va_getN (D := D) (ci := 6) (v := .int (nI (S 0))) (C := RX6) (T := TX6) (N := 6) hx hb hts hi_X10_count_X6 hown hK (hP.blk 1 rfl) 0 rfl rfl 2 (by decide) (hN.fl (w := .fieldLinkNest RX10 115 "FallingWords$State" "word" "I" "FallingWords") (by decide +kernel)) (fun _ h9 => h9) rfl dX10_count_75 ?_
    refine bl_i (Ss := []) hP hD hS hA [] rfl (by decide) [] rfl (va_runSN (As := [.int (nI (S 0))]) (rest := []) h0 ((k_X9_lengthOf lY D cA (S 0) (hw.1) (by have := hw.2; omega)) _) ⟨(va_cnB 1 hts gX10_count_X9_lengthOf_n159 rfl rfl rfl (hN (.methodLinkNest RX10 159 yX9_lengthOf "FallingWords") (by decide +kernel)) (hts (.initialized RX9) (by decide +kernel)) (by decide +kernel) ⟨Nat.le_of_ble_eq_true rfl, Nat.le_of_ble_eq_true rfl⟩), hts (.static yX9_lengthOf) (by decide +kernel), trivial⟩ ⟨pw_blind, bl_pre (Ss := []) hP hD hK hN [] rfl (by decide) [] rfl (by decide +kernel)⟩ rfl rfl hl.1 rfl (lv_room (Nat.le_of_ble_eq_true rfl)) dX10_count_78 ⟨Nat.zero_le _, Nat.zero_le _⟩) (fun rY wY H locs hwY hJ hS => ?_)
    obtain ⟨e1Y, e2Y⟩ := hwY
    have e3Y := e1Y.symm
    clear e1Y
    subst e3Y
    have e3Y := e2Y.symm
    clear e2Y
    subst e3Y
    obtain ⟨hP, hD⟩ := hJ [] rfl rfl rfl
    have hP : PB D [gFw cA Bf (Bw 0) (Bq 0) (Bh 0) (Bd 0) (Br 0) (Bo 0) (Bt 0) (Bs 0), gSa cA Bw (nI (S 0)) (nI (S 2)) (nI (S 4)) (nI (S 5)) L R LL RL TM (nI (S 1)) WW NN (nI (S 3)), gHi cA Bh (E0 0) (E1 0) (E2 0) (E3 0) (nI n), gTx cA Bt CH (nI m) at1 kd fw sw dg, gOv cA Bo fi se pl wd1 fn sn, gRd cA Bd WD RD oc ns rs] H := hP
    have hD : DB AY [gFw cA Bf (Bw 0) (Bq 0) (Bh 0) (Bd 0) (Br 0) (Bo 0) (Bt 0) (Bs 0), gSa cA Bw (nI (S 0)) (nI (S 2)) (nI (S 4)) (nI (S 5)) L R LL RL TM (nI (S 1)) WW NN (nI (S 3)), gHi cA Bh (E0 0) (E1 0) (E2 0) (E3 0) (nI n), gTx cA Bt CH (nI m) at1 kd fw sw dg, gOv cA Bo fi se pl wd1 fn sn, gRd cA Bd WD RD oc ns rs] := hD
    exact hret _ _ _ _ _ _ dX10_count_81 ⟨fi, se, pl, wd1, fn, sn, WD, RD, oc, ns, rs, (by unfold couZ; rw [if_neg (show ¬ x.toInt = 0 by omega), if_pos (show x.toInt = 1 by omega)]), rfl⟩ hP.to hD.to hS
  by_cases s1_2 : x.toInt = 2
  · have e1 : (x : Int32).toInt = 2 := s1_2
    refine lv_tableIn (off := 81) (tgt := 82) hx hb dX10_count_1 (by rw [e1]; decide) (by rw [e1]; decide) (by rw [e1]; rfl) (by decide) ?_
    refine lv_aload_n hx hb dX10_count_82 rfl (lv_at hl 0 rfl) ?_
    refine va_get (D := D) (ci := 9) (v := .ref (Bw 0)) (C := RX10) (T := TX10) (N := 8) hx hb hts hi_X10_count_X10 hown hK (hP.blk 0 rfl) 0 rfl rfl 0 (by decide) (hts (.fieldLink RX10 10 "FallingWords" "now" "LFallingWords$State;") (by decide +kernel)) (fun _ h9 => h9) rfl dX10_count_83 ?_
    refine va_getN (D := D) (ci := 6) (v := .int (nI (S 2))) (C := RX6) (T := TX6) (N := 6) hx hb hts hi_X10_count_X6 hown hK (hP.blk 1 rfl) 0 rfl rfl 3 (by decide) (hN.fl (w := .fieldLinkNest RX10 86 "FallingWords$State" "choosing" "I" "FallingWords") (by decide +kernel)) (fun _ h9 => h9) rfl dX10_count_86 ?_
    exact hret _ _ _ _ _ _ dX10_count_89 ⟨fi, se, pl, wd1, fn, sn, WD, RD, oc, ns, rs, (by unfold couZ; rw [if_neg (show ¬ x.toInt = 0 by omega), if_neg (show ¬ x.toInt = 1 by omega), if_pos (show x.toInt = 2 by omega)]), rfl⟩ hP.to hD.to hS
  by_cases s1_3 : x.toInt = 3
  · have e1 : (x : Int32).toInt = 3 := s1_3
    refine lv_tableIn (off := 89) (tgt := 90) hx hb dX10_count_1 (by rw [e1]; decide) (by rw [e1]; decide) (by rw [e1]; rfl) (by decide) ?_
    refine lv_aload_n hx hb dX10_count_90 rfl (lv_at hl 0 rfl) ?_
    refine va_get (D := D) (ci := 9) (v := .ref (Bw 0)) (C := RX10) (T := TX10) (N := 8) hx hb hts hi_X10_count_X10 hown hK (hP.blk 0 rfl) 0 rfl rfl 0 (by decide) (hts (.fieldLink RX10 10 "FallingWords" "now" "LFallingWords$State;") (by decide +kernel)) (fun _ h9 => h9) rfl dX10_count_91 ?_
    refine va_getN (D := D) (ci := 6) (v := .ref (Bw 7)) (C := RX6) (T := TX6) (N := 6) hx hb hts hi_X10_count_X6 hown hK (hP.blk 1 rfl) 0 rfl rfl 1 (by decide) (hN.fl (w := .fieldLinkNest RX10 183 "FallingWords$State" "store" "LFallingWords$Store;" "FallingWords") (by decide +kernel)) (fun _ h9 => h9) rfl dX10_count_94 ?_
    refine va_getN (D := D) (ci := 7) (v := .int (nI (S 3))) (C := RX7) (T := TX7) (N := 3) hx hb hts hi_X10_count_X7 hown hK (hP.blk 1 rfl) 7 rfl rfl 2 (by decide) (hN.fl (w := .fieldLinkNest RX10 187 "FallingWords$Store" "size" "I" "FallingWords") (by decide +kernel)) (fun _ h9 => h9) rfl dX10_count_97 ?_
    exact hret _ _ _ _ _ _ dX10_count_100 ⟨fi, se, pl, wd1, fn, sn, WD, RD, oc, ns, rs, (by unfold couZ; rw [if_neg (show ¬ x.toInt = 0 by omega), if_neg (show ¬ x.toInt = 1 by omega), if_neg (show ¬ x.toInt = 2 by omega), if_pos (show x.toInt = 3 by omega)]), rfl⟩ hP.to hD.to hS
  by_cases s1_4 : x.toInt = 4
  · have e1 : (x : Int32).toInt = 4 := s1_4
    refine lv_tableIn (off := 100) (tgt := 101) hx hb dX10_count_1 (by rw [e1]; decide) (by rw [e1]; decide) (by rw [e1]; rfl) (by decide) ?_
    refine lv_aload_n hx hb dX10_count_101 rfl (lv_at hl 0 rfl) ?_
    refine va_get (D := D) (ci := 9) (v := .ref (Bw 0)) (C := RX10) (T := TX10) (N := 8) hx hb hts hi_X10_count_X10 hown hK (hP.blk 0 rfl) 0 rfl rfl 0 (by decide) (hts (.fieldLink RX10 10 "FallingWords" "now" "LFallingWords$State;") (by decide +kernel)) (fun _ h9 => h9) rfl dX10_count_102 ?_
    refine va_getN (D := D) (ci := 6) (v := .int (nI (S 4))) (C := RX6) (T := TX6) (N := 6) hx hb hts hi_X10_count_X6 hown hK (hP.blk 1 rfl) 0 rfl rfl 4 (by decide) (hN.fl (w := .fieldLinkNest RX10 247 "FallingWords$State" "taken" "I" "FallingWords") (by decide +kernel)) (fun _ h9 => h9) rfl dX10_count_105 ?_
    exact hret _ _ _ _ _ _ dX10_count_108 ⟨fi, se, pl, wd1, fn, sn, WD, RD, oc, ns, rs, (by unfold couZ; rw [if_neg (show ¬ x.toInt = 0 by omega), if_neg (show ¬ x.toInt = 1 by omega), if_neg (show ¬ x.toInt = 2 by omega), if_neg (show ¬ x.toInt = 3 by omega), if_pos (show x.toInt = 4 by omega)]), rfl⟩ hP.to hD.to hS
  by_cases s1_5 : x.toInt = 5
  · have e1 : (x : Int32).toInt = 5 := s1_5
    refine lv_tableIn (off := 108) (tgt := 109) hx hb dX10_count_1 (by rw [e1]; decide) (by rw [e1]; decide) (by rw [e1]; rfl) (by decide) ?_
    refine lv_aload_n hx hb dX10_count_109 rfl (lv_at hl 0 rfl) ?_
    refine va_get (D := D) (ci := 9) (v := .ref (Bw 0)) (C := RX10) (T := TX10) (N := 8) hx hb hts hi_X10_count_X10 hown hK (hP.blk 0 rfl) 0 rfl rfl 0 (by decide) (hts (.fieldLink RX10 10 "FallingWords" "now" "LFallingWords$State;") (by decide +kernel)) (fun _ h9 => h9) rfl dX10_count_110 ?_
    refine va_getN (D := D) (ci := 6) (v := .int (nI (S 5))) (C := RX6) (T := TX6) (N := 6) hx hb hts hi_X10_count_X6 hown hK (hP.blk 1 rfl) 0 rfl rfl 5 (by decide) (hN.fl (w := .fieldLinkNest RX10 250 "FallingWords$State" "steps" "I" "FallingWords") (by decide +kernel)) (fun _ h9 => h9) rfl dX10_count_113 ?_
    exact hret _ _ _ _ _ _ dX10_count_116 ⟨fi, se, pl, wd1, fn, sn, WD, RD, oc, ns, rs, (by unfold couZ; rw [if_neg (show ¬ x.toInt = 0 by omega), if_neg (show ¬ x.toInt = 1 by omega), if_neg (show ¬ x.toInt = 2 by omega), if_neg (show ¬ x.toInt = 3 by omega), if_neg (show ¬ x.toInt = 4 by omega), if_pos (show x.toInt = 5 by omega)]), rfl⟩ hP.to hD.to hS
  by_cases s1_6 : x.toInt = 6
  · have e1 : (x : Int32).toInt = 6 := s1_6
    refine lv_tableIn (off := 116) (tgt := 117) hx hb dX10_count_1 (by rw [e1]; decide) (by rw [e1]; decide) (by rw [e1]; rfl) (by decide) ?_
    refine lv_aload_n hx hb dX10_count_117 rfl (lv_at hl 0 rfl) ?_
    refine va_get (D := D) (ci := 9) (v := .ref (Bo 0)) (C := RX10) (T := TX10) (N := 8) hx hb hts hi_X10_count_X10 hown hK (hP.blk 0 rfl) 0 rfl rfl 5 (by decide) (hts (.fieldLink RX10 43 "FallingWords" "overlaps" "LFallingWords$Overlaps;") (by decide +kernel)) (fun _ h9 => h9) rfl dX10_count_118 ?_
    refine lv_aload_n hx hb dX10_count_121 rfl (lv_at hl 0 rfl) ?_
    refine va_get (D := D) (ci := 9) (v := .ref (Bw 0)) (C := RX10) (T := TX10) (N := 8) hx hb hts hi_X10_count_X10 hown hK (hP.blk 0 rfl) 0 rfl rfl 0 (by decide) (hts (.fieldLink RX10 10 "FallingWords" "now" "LFallingWords$State;") (by decide +kernel)) (fun _ h9 => h9) rfl dX10_count_122 ?_
    refine va_getN (D := D) (ci := 6) (v := .ref (Bw 1)) (C := RX6) (T := TX6) (N := 6) hx hb hts hi_X10_count_X6 hown hK (hP.blk 1 rfl) 0 rfl rfl 0 (by decide) (hN.fl (w := .fieldLinkNest RX10 61 "FallingWords$State" "rules" "LFallingWords$Rules;" "FallingWords") (by decide +kernel)) (fun _ h9 => h9) rfl dX10_count_125 ?_
    refine bl_i (Ss := [gOv cA Bo fi se pl wd1 fn sn, gSa cA Bw (nI (S 0)) (nI (S 2)) (nI (S 4)) (nI (S 5)) L R LL RL TM (nI (S 1)) WW NN (nI (S 3))]) hP hD hS hA [4, 1] rfl (by decide) [0, 2, 3, 4, 5, 6, 7] rfl (va_runVN (As := [.ref (Bw 1)]) (rest := []) h0 ((k_X1_howMany lY D cA Bo (fun i => Bw (i + 1)) fi se pl wd1 fn sn S L R LL RL TM (hIR) (hr)) _) ⟨(va_cnB 1 hts gX10_count_X1_howMany_n251 rfl rfl rfl (hN (.methodLinkNest RX10 251 yX1_howMany "FallingWords") (by decide +kernel)) (hts (.initialized RX1) (by decide +kernel)) (by decide +kernel) ⟨Nat.le_of_ble_eq_true rfl, Nat.le_of_ble_eq_true rfl⟩), hts (.instanceMethod yX1_howMany) (by decide +kernel), hts (.selects RX1 yX1_howMany yX1_howMany) (by decide +kernel)⟩ ⟨pw_blind, bl_recv (ci := 1) (q := (RX1, TX1, 6)) (i := 4) (q0 := 0) hP hK rfl rfl rfl, bl_pre (Ss := [gOv cA Bo fi se pl wd1 fn sn, gSa cA Bw (nI (S 0)) (nI (S 2)) (nI (S 4)) (nI (S 5)) L R LL RL TM (nI (S 1)) WW NN (nI (S 3))]) hP hD hK hN [4, 1] rfl (by decide) [0, 2, 3, 4, 5, 6, 7] rfl (by decide +kernel)⟩ rfl rfl hl.1 rfl (lv_room (Nat.le_of_ble_eq_true rfl)) dX10_count_128 ⟨Nat.zero_le _, Nat.zero_le _⟩) (fun rY wY H locs hwY hJ hS => ?_)
    obtain ⟨fi2_128, se2_128, pl2_128, wd2_128, e1Y, e2Y⟩ := hwY
    have e3Y := e1Y.symm
    clear e1Y
    subst e3Y
    have e3Y := e2Y.symm
    clear e2Y
    subst e3Y
    obtain ⟨hP, hD⟩ := hJ [gOv cA Bo fi2_128 se2_128 pl2_128 wd2_128 fn sn, gSa cA Bw (nI (S 0)) (nI (S 2)) (nI (S 4)) (nI (S 5)) L R LL RL TM (nI (S 1)) WW NN (nI (S 3))] rfl rfl rfl
    have hP : PB D [gFw cA Bf (Bw 0) (Bq 0) (Bh 0) (Bd 0) (Br 0) (Bo 0) (Bt 0) (Bs 0), gSa cA Bw (nI (S 0)) (nI (S 2)) (nI (S 4)) (nI (S 5)) L R LL RL TM (nI (S 1)) WW NN (nI (S 3)), gHi cA Bh (E0 0) (E1 0) (E2 0) (E3 0) (nI n), gTx cA Bt CH (nI m) at1 kd fw sw dg, gOv cA Bo fi2_128 se2_128 pl2_128 wd2_128 fn sn, gRd cA Bd WD RD oc ns rs] H := hP
    have hD : DB AY [gFw cA Bf (Bw 0) (Bq 0) (Bh 0) (Bd 0) (Br 0) (Bo 0) (Bt 0) (Bs 0), gSa cA Bw (nI (S 0)) (nI (S 2)) (nI (S 4)) (nI (S 5)) L R LL RL TM (nI (S 1)) WW NN (nI (S 3)), gHi cA Bh (E0 0) (E1 0) (E2 0) (E3 0) (nI n), gTx cA Bt CH (nI m) at1 kd fw sw dg, gOv cA Bo fi2_128 se2_128 pl2_128 wd2_128 fn sn, gRd cA Bd WD RD oc ns rs] := hD
    exact hret _ _ _ _ _ _ dX10_count_131 ⟨fi2_128, se2_128, pl2_128, wd2_128, fn, sn, WD, RD, oc, ns, rs, (by unfold couZ; rw [if_neg (show ¬ x.toInt = 0 by omega), if_neg (show ¬ x.toInt = 1 by omega), if_neg (show ¬ x.toInt = 2 by omega), if_neg (show ¬ x.toInt = 3 by omega), if_neg (show ¬ x.toInt = 4 by omega), if_neg (show ¬ x.toInt = 5 by omega), if_pos (show x.toInt = 6 by omega)]), rfl⟩ hP.to hD.to hS
  by_cases s1_7 : x.toInt = 7
  · have e1 : (x : Int32).toInt = 7 := s1_7
    refine lv_tableIn (off := 131) (tgt := 132) hx hb dX10_count_1 (by rw [e1]; decide) (by rw [e1]; decide) (by rw [e1]; rfl) (by decide) ?_
    refine lv_aload_n hx hb dX10_count_132 rfl (lv_at hl 0 rfl) ?_
    refine va_get (D := D) (ci := 9) (v := .ref (Bo 0)) (C := RX10) (T := TX10) (N := 8) hx hb hts hi_X10_count_X10 hown hK (hP.blk 0 rfl) 0 rfl rfl 5 (by decide) (hts (.fieldLink RX10 43 "FallingWords" "overlaps" "LFallingWords$Overlaps;") (by decide +kernel)) (fun _ h9 => h9) rfl dX10_count_133 ?_
    refine lv_iconst (v := nI 1) hx hb dX10_count_136 (by decide +kernel) ?_
    refine lv_aload_n hx hb dX10_count_137 rfl (lv_at hl 0 rfl) ?_
    refine va_get (D := D) (ci := 9) (v := .ref (Bw 0)) (C := RX10) (T := TX10) (N := 8) hx hb hts hi_X10_count_X10 hown hK (hP.blk 0 rfl) 0 rfl rfl 0 (by decide) (hts (.fieldLink RX10 10 "FallingWords" "now" "LFallingWords$State;") (by decide +kernel)) (fun _ h9 => h9) rfl dX10_count_138 ?_
    refine lv_aload_n hx hb dX10_count_141 rfl (lv_at hl 0 rfl) ?_
    refine va_get (D := D) (ci := 9) (v := .ref (Bd 0)) (C := RX10) (T := TX10) (N := 8) hx hb hts hi_X10_count_X10 hown hK (hP.blk 0 rfl) 0 rfl rfl 3 (by decide) (hts (.fieldLink RX10 29 "FallingWords" "reduction" "LFallingWords$Reduction;") (by decide +kernel)) (fun _ h9 => h9) rfl dX10_count_142 ?_
    refine bf_i (Ss := [gOv cA Bo fi se pl wd1 fn sn, gSa cA Bw (nI (S 0)) (nI (S 2)) (nI (S 4)) (nI (S 5)) L R LL RL TM (nI (S 1)) WW NN (nI (S 3)), gRd cA Bd WD RD oc ns rs]) hP hD hS hA [4, 1, 5] rfl (by decide) (va_runVN (As := [.int (nI 1), .ref (Bw 0), .ref (Bd 0)]) (rest := []) h0 ((MetI.cw (by simp only [List.flatten_cons, List.flatten_nil, List.append_nil, List.append_assoc]) (k_X1_howManyAre lY D cA Bo Bw Bd fi se pl wd1 fn sn S L R LL RL TM WW NN WD RD oc ns rs 1 (hIR) (hr) (by omega))) _) ⟨(va_cnB 3 hts gX10_count_X1_howManyAre_n254 rfl rfl rfl (hN (.methodLinkNest RX10 254 yX1_howManyAre "FallingWords") (by decide +kernel)) (hts (.initialized RX1) (by decide +kernel)) (by decide +kernel) ⟨Nat.le_of_ble_eq_true rfl, Nat.le_of_ble_eq_true rfl⟩), hts (.instanceMethod yX1_howManyAre) (by decide +kernel), hts (.selects RX1 yX1_howManyAre yX1_howManyAre) (by decide +kernel)⟩ ⟨pw_blind, bl_recv (ci := 1) (q := (RX1, TX1, 6)) (i := 4) (q0 := 0) hP hK rfl rfl rfl, bf_pre (Ss := [gOv cA Bo fi se pl wd1 fn sn, gSa cA Bw (nI (S 0)) (nI (S 2)) (nI (S 4)) (nI (S 5)) L R LL RL TM (nI (S 1)) WW NN (nI (S 3)), gRd cA Bd WD RD oc ns rs]) hP hD hK hN [4, 1, 5] rfl (by decide)⟩ rfl rfl hl.1 rfl (lv_room (Nat.le_of_ble_eq_true rfl)) dX10_count_145 ⟨Nat.zero_le _, Nat.zero_le _⟩) (fun rY wY H locs hwY hJ hS => ?_)
    obtain ⟨fi2_145, se2_145, pl2_145, wd2_145, fn2_145, sn2_145, WD'_145, RD'_145, oc'_145, ns'_145, rs'_145, e1Y, e2Y⟩ := hwY
    have e3Y := e1Y.symm
    clear e1Y
    subst e3Y
    have e3Y := e2Y.symm
    clear e2Y
    subst e3Y
    obtain ⟨hP, hD⟩ := hJ [gOv cA Bo fi2_145 se2_145 pl2_145 wd2_145 fn2_145 sn2_145, gSa cA Bw (nI (S 0)) (nI (S 2)) (nI (S 4)) (nI (S 5)) L R LL RL TM (nI (S 1)) WW NN (nI (S 3)), gRd cA Bd WD'_145 RD'_145 oc'_145 ns'_145 rs'_145] (by simp only [List.flatten_cons, List.flatten_nil, List.append_nil, List.append_assoc]) rfl
    have hP : PB D [gFw cA Bf (Bw 0) (Bq 0) (Bh 0) (Bd 0) (Br 0) (Bo 0) (Bt 0) (Bs 0), gSa cA Bw (nI (S 0)) (nI (S 2)) (nI (S 4)) (nI (S 5)) L R LL RL TM (nI (S 1)) WW NN (nI (S 3)), gHi cA Bh (E0 0) (E1 0) (E2 0) (E3 0) (nI n), gTx cA Bt CH (nI m) at1 kd fw sw dg, gOv cA Bo fi2_145 se2_145 pl2_145 wd2_145 fn2_145 sn2_145, gRd cA Bd WD'_145 RD'_145 oc'_145 ns'_145 rs'_145] H := hP
    have hD : DB AY [gFw cA Bf (Bw 0) (Bq 0) (Bh 0) (Bd 0) (Br 0) (Bo 0) (Bt 0) (Bs 0), gSa cA Bw (nI (S 0)) (nI (S 2)) (nI (S 4)) (nI (S 5)) L R LL RL TM (nI (S 1)) WW NN (nI (S 3)), gHi cA Bh (E0 0) (E1 0) (E2 0) (E3 0) (nI n), gTx cA Bt CH (nI m) at1 kd fw sw dg, gOv cA Bo fi2_145 se2_145 pl2_145 wd2_145 fn2_145 sn2_145, gRd cA Bd WD'_145 RD'_145 oc'_145 ns'_145 rs'_145] := hD
    exact hret _ _ _ _ _ _ dX10_count_148 ⟨fi2_145, se2_145, pl2_145, wd2_145, fn2_145, sn2_145, WD'_145, RD'_145, oc'_145, ns'_145, rs'_145, (by unfold couZ; rw [if_neg (show ¬ x.toInt = 0 by omega), if_neg (show ¬ x.toInt = 1 by omega), if_neg (show ¬ x.toInt = 2 by omega), if_neg (show ¬ x.toInt = 3 by omega), if_neg (show ¬ x.toInt = 4 by omega), if_neg (show ¬ x.toInt = 5 by omega), if_neg (show ¬ x.toInt = 6 by omega), if_pos (show x.toInt = 7 by omega)]), rfl⟩ hP.to hD.to hS
  by_cases s1_8 : x.toInt = 8
  · have e1 : (x : Int32).toInt = 8 := s1_8
    refine lv_tableIn (off := 148) (tgt := 149) hx hb dX10_count_1 (by rw [e1]; decide) (by rw [e1]; decide) (by rw [e1]; rfl) (by decide) ?_
    refine lv_aload_n hx hb dX10_count_149 rfl (lv_at hl 0 rfl) ?_
    refine va_get (D := D) (ci := 9) (v := .ref (Bo 0)) (C := RX10) (T := TX10) (N := 8) hx hb hts hi_X10_count_X10 hown hK (hP.blk 0 rfl) 0 rfl rfl 5 (by decide) (hts (.fieldLink RX10 43 "FallingWords" "overlaps" "LFallingWords$Overlaps;") (by decide +kernel)) (fun _ h9 => h9) rfl dX10_count_150 ?_
    refine lv_iconst (v := nI 2) hx hb dX10_count_153 (by decide +kernel) ?_
    refine lv_aload_n hx hb dX10_count_154 rfl (lv_at hl 0 rfl) ?_
    refine va_get (D := D) (ci := 9) (v := .ref (Bw 0)) (C := RX10) (T := TX10) (N := 8) hx hb hts hi_X10_count_X10 hown hK (hP.blk 0 rfl) 0 rfl rfl 0 (by decide) (hts (.fieldLink RX10 10 "FallingWords" "now" "LFallingWords$State;") (by decide +kernel)) (fun _ h9 => h9) rfl dX10_count_155 ?_
    refine lv_aload_n hx hb dX10_count_158 rfl (lv_at hl 0 rfl) ?_
    refine va_get (D := D) (ci := 9) (v := .ref (Bd 0)) (C := RX10) (T := TX10) (N := 8) hx hb hts hi_X10_count_X10 hown hK (hP.blk 0 rfl) 0 rfl rfl 3 (by decide) (hts (.fieldLink RX10 29 "FallingWords" "reduction" "LFallingWords$Reduction;") (by decide +kernel)) (fun _ h9 => h9) rfl dX10_count_159 ?_
    refine bf_i (Ss := [gOv cA Bo fi se pl wd1 fn sn, gSa cA Bw (nI (S 0)) (nI (S 2)) (nI (S 4)) (nI (S 5)) L R LL RL TM (nI (S 1)) WW NN (nI (S 3)), gRd cA Bd WD RD oc ns rs]) hP hD hS hA [4, 1, 5] rfl (by decide) (va_runVN (As := [.int (nI 2), .ref (Bw 0), .ref (Bd 0)]) (rest := []) h0 ((MetI.cw (by simp only [List.flatten_cons, List.flatten_nil, List.append_nil, List.append_assoc]) (k_X1_howManyAre lY D cA Bo Bw Bd fi se pl wd1 fn sn S L R LL RL TM WW NN WD RD oc ns rs 2 (hIR) (hr) (by omega))) _) ⟨(va_cnB 3 hts gX10_count_X1_howManyAre_n254 rfl rfl rfl (hN (.methodLinkNest RX10 254 yX1_howManyAre "FallingWords") (by decide +kernel)) (hts (.initialized RX1) (by decide +kernel)) (by decide +kernel) ⟨Nat.le_of_ble_eq_true rfl, Nat.le_of_ble_eq_true rfl⟩), hts (.instanceMethod yX1_howManyAre) (by decide +kernel), hts (.selects RX1 yX1_howManyAre yX1_howManyAre) (by decide +kernel)⟩ ⟨pw_blind, bl_recv (ci := 1) (q := (RX1, TX1, 6)) (i := 4) (q0 := 0) hP hK rfl rfl rfl, bf_pre (Ss := [gOv cA Bo fi se pl wd1 fn sn, gSa cA Bw (nI (S 0)) (nI (S 2)) (nI (S 4)) (nI (S 5)) L R LL RL TM (nI (S 1)) WW NN (nI (S 3)), gRd cA Bd WD RD oc ns rs]) hP hD hK hN [4, 1, 5] rfl (by decide)⟩ rfl rfl hl.1 rfl (lv_room (Nat.le_of_ble_eq_true rfl)) dX10_count_162 ⟨Nat.zero_le _, Nat.zero_le _⟩) (fun rY wY H locs hwY hJ hS => ?_)
    obtain ⟨fi2_162, se2_162, pl2_162, wd2_162, fn2_162, sn2_162, WD'_162, RD'_162, oc'_162, ns'_162, rs'_162, e1Y, e2Y⟩ := hwY
    have e3Y := e1Y.symm
    clear e1Y
    subst e3Y
    have e3Y := e2Y.symm
    clear e2Y
    subst e3Y
    obtain ⟨hP, hD⟩ := hJ [gOv cA Bo fi2_162 se2_162 pl2_162 wd2_162 fn2_162 sn2_162, gSa cA Bw (nI (S 0)) (nI (S 2)) (nI (S 4)) (nI (S 5)) L R LL RL TM (nI (S 1)) WW NN (nI (S 3)), gRd cA Bd WD'_162 RD'_162 oc'_162 ns'_162 rs'_162] (by simp only [List.flatten_cons, List.flatten_nil, List.append_nil, List.append_assoc]) rfl
    have hP : PB D [gFw cA Bf (Bw 0) (Bq 0) (Bh 0) (Bd 0) (Br 0) (Bo 0) (Bt 0) (Bs 0), gSa cA Bw (nI (S 0)) (nI (S 2)) (nI (S 4)) (nI (S 5)) L R LL RL TM (nI (S 1)) WW NN (nI (S 3)), gHi cA Bh (E0 0) (E1 0) (E2 0) (E3 0) (nI n), gTx cA Bt CH (nI m) at1 kd fw sw dg, gOv cA Bo fi2_162 se2_162 pl2_162 wd2_162 fn2_162 sn2_162, gRd cA Bd WD'_162 RD'_162 oc'_162 ns'_162 rs'_162] H := hP
    have hD : DB AY [gFw cA Bf (Bw 0) (Bq 0) (Bh 0) (Bd 0) (Br 0) (Bo 0) (Bt 0) (Bs 0), gSa cA Bw (nI (S 0)) (nI (S 2)) (nI (S 4)) (nI (S 5)) L R LL RL TM (nI (S 1)) WW NN (nI (S 3)), gHi cA Bh (E0 0) (E1 0) (E2 0) (E3 0) (nI n), gTx cA Bt CH (nI m) at1 kd fw sw dg, gOv cA Bo fi2_162 se2_162 pl2_162 wd2_162 fn2_162 sn2_162, gRd cA Bd WD'_162 RD'_162 oc'_162 ns'_162 rs'_162] := hD
    exact hret _ _ _ _ _ _ dX10_count_165 ⟨fi2_162, se2_162, pl2_162, wd2_162, fn2_162, sn2_162, WD'_162, RD'_162, oc'_162, ns'_162, rs'_162, (by unfold couZ; rw [if_neg (show ¬ x.toInt = 0 by omega), if_neg (show ¬ x.toInt = 1 by omega), if_neg (show ¬ x.toInt = 2 by omega), if_neg (show ¬ x.toInt = 3 by omega), if_neg (show ¬ x.toInt = 4 by omega), if_neg (show ¬ x.toInt = 5 by omega), if_neg (show ¬ x.toInt = 6 by omega), if_neg (show ¬ x.toInt = 7 by omega), if_pos (show x.toInt = 8 by omega)]), rfl⟩ hP.to hD.to hS
  by_cases s1_9 : x.toInt = 9
  · have e1 : (x : Int32).toInt = 9 := s1_9
    refine lv_tableIn (off := 165) (tgt := 166) hx hb dX10_count_1 (by rw [e1]; decide) (by rw [e1]; decide) (by rw [e1]; rfl) (by decide) ?_
    refine lv_aload_n hx hb dX10_count_166 rfl (lv_at hl 0 rfl) ?_
    refine va_get (D := D) (ci := 9) (v := .ref (Bh 0)) (C := RX10) (T := TX10) (N := 8) hx hb hts hi_X10_count_X10 hown hK (hP.blk 0 rfl) 0 rfl rfl 2 (by decide) (hts (.fieldLink RX10 22 "FallingWords" "history" "LFallingWords$History;") (by decide +kernel)) (fun _ h9 => h9) rfl dX10_count_167 ?_
    refine va_getN (D := D) (ci := 0) (v := .int (nI n)) (C := RX0) (T := TX0) (N := 2) hx hb hts hi_X10_count_X0 hown hK (hP.blk 2 rfl) 0 rfl rfl 1 (by decide) (hN.fl (w := .fieldLinkNest RX10 258 "FallingWords$History" "size" "I" "FallingWords") (by decide +kernel)) (fun _ h9 => h9) rfl dX10_count_170 ?_
    exact hret _ _ _ _ _ _ dX10_count_173 ⟨fi, se, pl, wd1, fn, sn, WD, RD, oc, ns, rs, (by unfold couZ; rw [if_neg (show ¬ x.toInt = 0 by omega), if_neg (show ¬ x.toInt = 1 by omega), if_neg (show ¬ x.toInt = 2 by omega), if_neg (show ¬ x.toInt = 3 by omega), if_neg (show ¬ x.toInt = 4 by omega), if_neg (show ¬ x.toInt = 5 by omega), if_neg (show ¬ x.toInt = 6 by omega), if_neg (show ¬ x.toInt = 7 by omega), if_neg (show ¬ x.toInt = 8 by omega), if_pos (show x.toInt = 9 by omega)]), rfl⟩ hP.to hD.to hS
  by_cases s1_10 : x.toInt = 10
  · have e1 : (x : Int32).toInt = 10 := s1_10
    refine lv_tableIn (off := 173) (tgt := 174) hx hb dX10_count_1 (by rw [e1]; decide) (by rw [e1]; decide) (by rw [e1]; rfl) (by decide) ?_
    refine lv_aload_n hx hb dX10_count_174 rfl (lv_at hl 0 rfl) ?_
    refine va_get (D := D) (ci := 9) (v := .ref (Bt 0)) (C := RX10) (T := TX10) (N := 8) hx hb hts hi_X10_count_X10 hown hK (hP.blk 0 rfl) 0 rfl rfl 6 (by decide) (hts (.fieldLink RX10 50 "FallingWords" "text" "LFallingWords$Text;") (by decide +kernel)) (fun _ h9 => h9) rfl dX10_count_175 ?_
    refine va_getN (D := D) (ci := 8) (v := .int (nI m)) (C := RX8) (T := TX8) (N := 7) hx hb hts hi_X10_count_X8 hown hK (hP.blk 3 rfl) 0 rfl rfl 1 (by decide) (hN.fl (w := .fieldLinkNest RX10 259 "FallingWords$Text" "size" "I" "FallingWords") (by decide +kernel)) (fun _ h9 => h9) rfl dX10_count_178 ?_
    exact hret _ _ _ _ _ _ dX10_count_181 ⟨fi, se, pl, wd1, fn, sn, WD, RD, oc, ns, rs, (by unfold couZ; rw [if_neg (show ¬ x.toInt = 0 by omega), if_neg (show ¬ x.toInt = 1 by omega), if_neg (show ¬ x.toInt = 2 by omega), if_neg (show ¬ x.toInt = 3 by omega), if_neg (show ¬ x.toInt = 4 by omega), if_neg (show ¬ x.toInt = 5 by omega), if_neg (show ¬ x.toInt = 6 by omega), if_neg (show ¬ x.toInt = 7 by omega), if_neg (show ¬ x.toInt = 8 by omega), if_neg (show ¬ x.toInt = 9 by omega), if_pos (show x.toInt = 10 by omega)]), rfl⟩ hP.to hD.to hS
  refine lv_tableOut (tgt := 182) hx hb dX10_count_1 (by omega) (by decide) ?_
  refine lv_ldc (v := (-1000001)) hx hb hown (hts (.constant RX10 71 (-1000001)) (by decide +kernel)) dX10_count_182 ?_
  exact hret _ _ _ _ _ _ dX10_count_184 ⟨fi, se, pl, wd1, fn, sn, WD, RD, oc, ns, rs, (by unfold couZ; rw [if_neg (show ¬ x.toInt = 0 by omega), if_neg (show ¬ x.toInt = 1 by omega), if_neg (show ¬ x.toInt = 2 by omega), if_neg (show ¬ x.toInt = 3 by omega), if_neg (show ¬ x.toInt = 4 by omega), if_neg (show ¬ x.toInt = 5 by omega), if_neg (show ¬ x.toInt = 6 by omega), if_neg (show ¬ x.toInt = 7 by omega), if_neg (show ¬ x.toInt = 8 by omega), if_neg (show ¬ x.toInt = 9 by omega), if_neg (show ¬ x.toInt = 10 by omega)]), rfl⟩ hP.to hD.to hS

theorem hi_X10_undo_X0 : ∀ w ∈ u_ws RX0 TX0 2, w ∈ wsX10_undo := by decide +kernel
theorem hi_X10_undo_X10 : ∀ w ∈ u_ws RX10 TX10 8, w ∈ wsX10_undo := by decide +kernel
set_option maxHeartbeats 1000000 in
set_option maxRecDepth 100000 in
theorem k_X10_undo (lY : Launch) (D : va_G) (cA : Nat → ClassId) (Bf Bw Bq Bh Bd Br Bo Bt Bs : Nat → Nat) (E0 E1 E2 E3 : Nat → Nat) (F0 F1 F2 F3 : Nat → Nat → Int32) (x0 x1 x2 x3 : Nat → Int32) (n : Nat) (h : Nat → St) (S : St) (L R LL RL TM WW NN : Nat → Int32) (hI : IV S) (hr : rRu S L R LL RL TM) (ho : rSo S WW NN) (hn4 : n ≤ 4) (hh : rHi h n F0 x0 F1 x1 F2 x2 F3 x3) (hIh : ∀ i, i < n → IV (h i)) : MetI lY D cA yX10_undo wsX10_undo 4 83 [.ref (Bf 0)] (List.flatten [gFw cA Bf (Bw 0) (Bq 0) (Bh 0) (Bd 0) (Br 0) (Bo 0) (Bt 0) (Bs 0), gSa cA Bw (nI (S 0)) (nI (S 2)) (nI (S 4)) (nI (S 5)) L R LL RL TM (nI (S 1)) WW NN (nI (S 3)), gHi cA Bh (E0 0) (E1 0) (E2 0) (E3 0) (nI n), gSa cA E0 (x0 0) (x0 1) (x0 2) (x0 3) (F0 0) (F0 1) (F0 2) (F0 3) (F0 4) (x0 4) (F0 5) (F0 6) (x0 5), gSa cA E1 (x1 0) (x1 1) (x1 2) (x1 3) (F1 0) (F1 1) (F1 2) (F1 3) (F1 4) (x1 4) (F1 5) (F1 6) (x1 5), gSa cA E2 (x2 0) (x2 1) (x2 2) (x2 3) (F2 0) (F2 1) (F2 2) (F2 3) (F2 4) (x2 4) (F2 5) (F2 6) (x2 5), gSa cA E3 (x3 0) (x3 1) (x3 2) (x3 3) (F3 0) (F3 1) (F3 2) (F3 3) (F3 4) (x3 4) (F3 5) (F3 6) (x3 5)]) (fun rY wY => ∃ (L' : Nat → Int32) (R' : Nat → Int32) (LL' : Nat → Int32) (RL' : Nat → Int32) (TM' : Nat → Int32) (WW' : Nat → Int32) (NN' : Nat → Int32), rY = (undZ S h n).1 ∧ wY = List.flatten [gFw cA Bf (Bw 0) (Bq 0) (Bh 0) (Bd 0) (Br 0) (Bo 0) (Bt 0) (Bs 0), gSa cA Bw (nI (((undZ S h n).2.1) 0)) (nI (((undZ S h n).2.1) 2)) (nI (((undZ S h n).2.1) 4)) (nI (((undZ S h n).2.1) 5)) L' R' LL' RL' TM' (nI (((undZ S h n).2.1) 1)) WW' NN' (nI (((undZ S h n).2.1) 3)), gHi cA Bh (E0 0) (E1 0) (E2 0) (E3 0) (nI ((undZ S h n).2.2.2)), gSa cA E0 (x0 0) (x0 1) (x0 2) (x0 3) (F0 0) (F0 1) (F0 2) (F0 3) (F0 4) (x0 4) (F0 5) (F0 6) (x0 5), gSa cA E1 (x1 0) (x1 1) (x1 2) (x1 3) (F1 0) (F1 1) (F1 2) (F1 3) (F1 4) (x1 4) (F1 5) (F1 6) (x1 5), gSa cA E2 (x2 0) (x2 1) (x2 2) (x2 3) (F2 0) (F2 1) (F2 2) (F2 3) (F2 4) (x2 4) (F2 5) (F2 6) (x2 5), gSa cA E3 (x3 0) (x3 1) (x3 2) (x3 3) (F3 0) (F3 1) (F3 2) (F3 3) (F3 4) (x3 4) (F3 5) (F3 6) (x3 5)] ∧ (rRu ((undZ S h n).2.1) L' R' LL' RL' TM') ∧ (rSo ((undZ S h n).2.1) WW' NN')) := by
  refine MetI.of (cc := cX10_undo) (maxL := 1) (ret := (some .int)) (by decide) rfl (Nat.le_of_ble_eq_true rfl) (Or.inl rfl) ?_
  intro pY eY sY mY aY bY tY cY QY AY ls h0 hP hK hN hD hA hS hl hret
  obtain ⟨hx, hb, hml, hown, hts⟩ := id h0
  have hl : lv_has ls 1 [(0, .ref (Bf 0))] := hl
  have hP : PB D [gFw cA Bf (Bw 0) (Bq 0) (Bh 0) (Bd 0) (Br 0) (Bo 0) (Bt 0) (Bs 0), gSa cA Bw (nI (S 0)) (nI (S 2)) (nI (S 4)) (nI (S 5)) L R LL RL TM (nI (S 1)) WW NN (nI (S 3)), gHi cA Bh (E0 0) (E1 0) (E2 0) (E3 0) (nI n), gSa cA E0 (x0 0) (x0 1) (x0 2) (x0 3) (F0 0) (F0 1) (F0 2) (F0 3) (F0 4) (x0 4) (F0 5) (F0 6) (x0 5), gSa cA E1 (x1 0) (x1 1) (x1 2) (x1 3) (F1 0) (F1 1) (F1 2) (F1 3) (F1 4) (x1 4) (F1 5) (F1 6) (x1 5), gSa cA E2 (x2 0) (x2 1) (x2 2) (x2 3) (F2 0) (F2 1) (F2 2) (F2 3) (F2 4) (x2 4) (F2 5) (F2 6) (x2 5), gSa cA E3 (x3 0) (x3 1) (x3 2) (x3 3) (F3 0) (F3 1) (F3 2) (F3 3) (F3 4) (x3 4) (F3 5) (F3 6) (x3 5)] sY.heap := PB.of hP
  have hD : DB AY [gFw cA Bf (Bw 0) (Bq 0) (Bh 0) (Bd 0) (Br 0) (Bo 0) (Bt 0) (Bs 0), gSa cA Bw (nI (S 0)) (nI (S 2)) (nI (S 4)) (nI (S 5)) L R LL RL TM (nI (S 1)) WW NN (nI (S 3)), gHi cA Bh (E0 0) (E1 0) (E2 0) (E3 0) (nI n), gSa cA E0 (x0 0) (x0 1) (x0 2) (x0 3) (F0 0) (F0 1) (F0 2) (F0 3) (F0 4) (x0 4) (F0 5) (F0 6) (x0 5), gSa cA E1 (x1 0) (x1 1) (x1 2) (x1 3) (F1 0) (F1 1) (F1 2) (F1 3) (F1 4) (x1 4) (F1 5) (F1 6) (x1 5), gSa cA E2 (x2 0) (x2 1) (x2 2) (x2 3) (F2 0) (F2 1) (F2 2) (F2 3) (F2 4) (x2 4) (F2 5) (F2 6) (x2 5), gSa cA E3 (x3 0) (x3 1) (x3 2) (x3 3) (F3 0) (F3 1) (F3 2) (F3 3) (F3 4) (x3 4) (F3 5) (F3 6) (x3 5)] := DB.of hD
  refine lv_aload_n hx hb dX10_undo_0 rfl (lv_at hl 0 rfl) ?_
  refine va_get (D := D) (ci := 9) (v := .ref (Bh 0)) (C := RX10) (T := TX10) (N := 8) hx hb hts hi_X10_undo_X10 hown hK (hP.blk 0 rfl) 0 rfl rfl 2 (by decide) (hts (.fieldLink RX10 22 "FallingWords" "history" "LFallingWords$History;") (by decide +kernel)) (fun _ h9 => h9) rfl dX10_undo_1 ?_
  refine va_getN (D := D) (ci := 0) (v := .int (nI n)) (C := RX0) (T := TX0) (N := 2) hx hb hts hi_X10_undo_X0 hown hK (hP.blk 2 rfl) 0 rfl rfl 1 (by decide) (hN.fl (w := .fieldLinkNest RX10 258 "FallingWords$History" "size" "I" "FallingWords") (by decide +kernel)) (fun _ h9 => h9) rfl dX10_undo_4 ?_
  refine x0_ne (tgt := 14) hx hb dX10_undo_7 (by decide) (by omega) (fun c7 => ?_) (fun c7 => ?_)
  · refine lv_aload_n hx hb dX10_undo_14 rfl (lv_at hl 0 rfl) ?_
    refine va_get (D := D) (ci := 9) (v := .ref (Bh 0)) (C := RX10) (T := TX10) (N := 8) hx hb hts hi_X10_undo_X10 hown hK (hP.blk 0 rfl) 0 rfl rfl 2 (by decide) (hts (.fieldLink RX10 22 "FallingWords" "history" "LFallingWords$History;") (by decide +kernel)) (fun _ h9 => h9) rfl dX10_undo_15 ?_
    refine lv_aload_n hx hb dX10_undo_18 rfl (lv_at hl 0 rfl) ?_
    refine va_get (D := D) (ci := 9) (v := .ref (Bw 0)) (C := RX10) (T := TX10) (N := 8) hx hb hts hi_X10_undo_X10 hown hK (hP.blk 0 rfl) 0 rfl rfl 0 (by decide) (hts (.fieldLink RX10 10 "FallingWords" "now" "LFallingWords$State;") (by decide +kernel)) (fun _ h9 => h9) rfl dX10_undo_19 ?_
    refine bf_v (Ss := [gHi cA Bh (E0 0) (E1 0) (E2 0) (E3 0) (nI n), gSa cA E0 (x0 0) (x0 1) (x0 2) (x0 3) (F0 0) (F0 1) (F0 2) (F0 3) (F0 4) (x0 4) (F0 5) (F0 6) (x0 5), gSa cA E1 (x1 0) (x1 1) (x1 2) (x1 3) (F1 0) (F1 1) (F1 2) (F1 3) (F1 4) (x1 4) (F1 5) (F1 6) (x1 5), gSa cA E2 (x2 0) (x2 1) (x2 2) (x2 3) (F2 0) (F2 1) (F2 2) (F2 3) (F2 4) (x2 4) (F2 5) (F2 6) (x2 5), gSa cA E3 (x3 0) (x3 1) (x3 2) (x3 3) (F3 0) (F3 1) (F3 2) (F3 3) (F3 4) (x3 4) (F3 5) (F3 6) (x3 5), gSa cA Bw (nI (S 0)) (nI (S 2)) (nI (S 4)) (nI (S 5)) L R LL RL TM (nI (S 1)) WW NN (nI (S 3))]) hP hD hS hA [2, 3, 4, 5, 6, 1] rfl (by decide) (va_runVN (As := [.ref (Bw 0)]) (rest := []) h0 ((k_X0_restoreTo lY D cA Bh Bw E0 E1 E2 E3 F0 F1 F2 F3 x0 x1 x2 x3 n h (nI (S 0)) (nI (S 2)) (nI (S 4)) (nI (S 5)) L R LL RL TM (nI (S 1)) WW NN (nI (S 3)) (by omega) (hn4) (hh) (hIh (n - 1) (by omega))) _) ⟨(va_cnB 1 hts gX10_undo_X0_restoreTo_n261 rfl rfl rfl (hN (.methodLinkNest RX10 261 yX0_restoreTo "FallingWords") (by decide +kernel)) (hts (.initialized RX0) (by decide +kernel)) (by decide +kernel) ⟨Nat.le_of_ble_eq_true rfl, Nat.le_of_ble_eq_true rfl⟩), hts (.instanceMethod yX0_restoreTo) (by decide +kernel), hts (.selects RX0 yX0_restoreTo yX0_restoreTo) (by decide +kernel)⟩ ⟨pw_blind, bl_recv (ci := 0) (q := (RX0, TX0, 2)) (i := 2) (q0 := 0) hP hK rfl rfl rfl, bf_pre (Ss := [gHi cA Bh (E0 0) (E1 0) (E2 0) (E3 0) (nI n), gSa cA E0 (x0 0) (x0 1) (x0 2) (x0 3) (F0 0) (F0 1) (F0 2) (F0 3) (F0 4) (x0 4) (F0 5) (F0 6) (x0 5), gSa cA E1 (x1 0) (x1 1) (x1 2) (x1 3) (F1 0) (F1 1) (F1 2) (F1 3) (F1 4) (x1 4) (F1 5) (F1 6) (x1 5), gSa cA E2 (x2 0) (x2 1) (x2 2) (x2 3) (F2 0) (F2 1) (F2 2) (F2 3) (F2 4) (x2 4) (F2 5) (F2 6) (x2 5), gSa cA E3 (x3 0) (x3 1) (x3 2) (x3 3) (F3 0) (F3 1) (F3 2) (F3 3) (F3 4) (x3 4) (F3 5) (F3 6) (x3 5), gSa cA Bw (nI (S 0)) (nI (S 2)) (nI (S 4)) (nI (S 5)) L R LL RL TM (nI (S 1)) WW NN (nI (S 3))]) hP hD hK hN [2, 3, 4, 5, 6, 1] rfl (by decide)⟩ rfl rfl hl.1 rfl (lv_room (Nat.le_of_ble_eq_true rfl)) dX10_undo_22 ⟨Nat.zero_le _, Nat.zero_le _⟩) (fun wY H locs hwY hJ hS => ?_)
    obtain ⟨L'_22, R'_22, LL'_22, RL'_22, TM'_22, WW'_22, NN'_22, e2Y, fr_22, fo_22⟩ := hwY
    have e3Y := e2Y.symm
    clear e2Y
    subst e3Y
    obtain ⟨hP, hD⟩ := hJ [gHi cA Bh (E0 0) (E1 0) (E2 0) (E3 0) (nI (n - 1)), gSa cA E0 (x0 0) (x0 1) (x0 2) (x0 3) (F0 0) (F0 1) (F0 2) (F0 3) (F0 4) (x0 4) (F0 5) (F0 6) (x0 5), gSa cA E1 (x1 0) (x1 1) (x1 2) (x1 3) (F1 0) (F1 1) (F1 2) (F1 3) (F1 4) (x1 4) (F1 5) (F1 6) (x1 5), gSa cA E2 (x2 0) (x2 1) (x2 2) (x2 3) (F2 0) (F2 1) (F2 2) (F2 3) (F2 4) (x2 4) (F2 5) (F2 6) (x2 5), gSa cA E3 (x3 0) (x3 1) (x3 2) (x3 3) (F3 0) (F3 1) (F3 2) (F3 3) (F3 4) (x3 4) (F3 5) (F3 6) (x3 5), gSa cA Bw (nI ((h (n - 1)) 0)) (nI ((h (n - 1)) 2)) (nI ((h (n - 1)) 4)) (nI ((h (n - 1)) 5)) L'_22 R'_22 LL'_22 RL'_22 TM'_22 (nI ((h (n - 1)) 1)) WW'_22 NN'_22 (nI ((h (n - 1)) 3))] rfl rfl
    have hP : PB D [gFw cA Bf (Bw 0) (Bq 0) (Bh 0) (Bd 0) (Br 0) (Bo 0) (Bt 0) (Bs 0), gSa cA Bw (nI ((h (n - 1)) 0)) (nI ((h (n - 1)) 2)) (nI ((h (n - 1)) 4)) (nI ((h (n - 1)) 5)) L'_22 R'_22 LL'_22 RL'_22 TM'_22 (nI ((h (n - 1)) 1)) WW'_22 NN'_22 (nI ((h (n - 1)) 3)), gHi cA Bh (E0 0) (E1 0) (E2 0) (E3 0) (nI (n - 1)), gSa cA E0 (x0 0) (x0 1) (x0 2) (x0 3) (F0 0) (F0 1) (F0 2) (F0 3) (F0 4) (x0 4) (F0 5) (F0 6) (x0 5), gSa cA E1 (x1 0) (x1 1) (x1 2) (x1 3) (F1 0) (F1 1) (F1 2) (F1 3) (F1 4) (x1 4) (F1 5) (F1 6) (x1 5), gSa cA E2 (x2 0) (x2 1) (x2 2) (x2 3) (F2 0) (F2 1) (F2 2) (F2 3) (F2 4) (x2 4) (F2 5) (F2 6) (x2 5), gSa cA E3 (x3 0) (x3 1) (x3 2) (x3 3) (F3 0) (F3 1) (F3 2) (F3 3) (F3 4) (x3 4) (F3 5) (F3 6) (x3 5)] H := hP
    have hD : DB AY [gFw cA Bf (Bw 0) (Bq 0) (Bh 0) (Bd 0) (Br 0) (Bo 0) (Bt 0) (Bs 0), gSa cA Bw (nI ((h (n - 1)) 0)) (nI ((h (n - 1)) 2)) (nI ((h (n - 1)) 4)) (nI ((h (n - 1)) 5)) L'_22 R'_22 LL'_22 RL'_22 TM'_22 (nI ((h (n - 1)) 1)) WW'_22 NN'_22 (nI ((h (n - 1)) 3)), gHi cA Bh (E0 0) (E1 0) (E2 0) (E3 0) (nI (n - 1)), gSa cA E0 (x0 0) (x0 1) (x0 2) (x0 3) (F0 0) (F0 1) (F0 2) (F0 3) (F0 4) (x0 4) (F0 5) (F0 6) (x0 5), gSa cA E1 (x1 0) (x1 1) (x1 2) (x1 3) (F1 0) (F1 1) (F1 2) (F1 3) (F1 4) (x1 4) (F1 5) (F1 6) (x1 5), gSa cA E2 (x2 0) (x2 1) (x2 2) (x2 3) (F2 0) (F2 1) (F2 2) (F2 3) (F2 4) (x2 4) (F2 5) (F2 6) (x2 5), gSa cA E3 (x3 0) (x3 1) (x3 2) (x3 3) (F3 0) (F3 1) (F3 2) (F3 3) (F3 4) (x3 4) (F3 5) (F3 6) (x3 5)] := hD
    refine lv_aload_n hx hb dX10_undo_25 rfl (lv_at hl 0 rfl) ?_
    refine va_get (D := D) (ci := 9) (v := .ref (Bh 0)) (C := RX10) (T := TX10) (N := 8) hx hb hts hi_X10_undo_X10 hown hK (hP.blk 0 rfl) 0 rfl rfl 2 (by decide) (hts (.fieldLink RX10 22 "FallingWords" "history" "LFallingWords$History;") (by decide +kernel)) (fun _ h9 => h9) rfl dX10_undo_26 ?_
    refine va_getN (D := D) (ci := 0) (v := .int (nI (n - 1))) (C := RX0) (T := TX0) (N := 2) hx hb hts hi_X10_undo_X0 hown hK (hP.blk 2 rfl) 0 rfl rfl 1 (by decide) (hN.fl (w := .fieldLinkNest RX10 258 "FallingWords$History" "size" "I" "FallingWords") (by decide +kernel)) (fun _ h9 => h9) rfl dX10_undo_29 ?_
    have hR : undZ S h n = (nI (n - 1), (h (n - 1), h, n - 1)) := if_neg c7
    exact hret _ _ _ _ _ _ dX10_undo_32 ⟨L'_22, R'_22, LL'_22, RL'_22, TM'_22, WW'_22, NN'_22, (by rw [hR]), (by rw [hR]), (by rw [hR]; exact fr_22), (by rw [hR]; exact fo_22)⟩ hP.to hD.to hS
  · refine lv_ldcw (v := (-1000002)) hx hb hown (hts (.constant RX10 260 (-1000002)) (by decide +kernel)) dX10_undo_10 ?_
    have hR : undZ S h n = ((-1000002), (S, h, n)) := if_pos c7
    exact hret _ _ _ _ _ _ dX10_undo_13 ⟨L, R, LL, RL, TM, WW, NN, (by rw [hR]), (by rw [hR]), (by rw [hR]; exact hr), (by rw [hR]; exact ho)⟩ hP.to hD.to hS

theorem hi_X10_type_X10 : ∀ w ∈ u_ws RX10 TX10 8, w ∈ wsX10_type := by decide +kernel
theorem hi_X10_type_X8 : ∀ w ∈ u_ws RX8 TX8 7, w ∈ wsX10_type := by decide +kernel
set_option maxHeartbeats 1000000 in
set_option maxRecDepth 100000 in
theorem k_X10_type (lY : Launch) (D : va_G) (cA : Nat → ClassId) (Bf Bw Bq Bh Bd Br Bo Bt Bs : Nat → Nat) (x : Int32) (txt : Nat → Nat) (m : Nat) (CH : Nat → Int32) (at1 kd fw sw dg : Int32) (ht : rTx txt m CH) : MetI lY D cA yX10_type wsX10_type 2 41 [.ref (Bf 0), .int x] (List.flatten [gFw cA Bf (Bw 0) (Bq 0) (Bh 0) (Bd 0) (Br 0) (Bo 0) (Bt 0) (Bs 0), gTx cA Bt CH (nI m) at1 kd fw sw dg]) (fun rY wY => ∃ (CH' : Nat → Int32), rY = (typZ txt m x).1 ∧ wY = List.flatten [gFw cA Bf (Bw 0) (Bq 0) (Bh 0) (Bd 0) (Br 0) (Bo 0) (Bt 0) (Bs 0), gTx cA Bt CH' (nI ((typZ txt m x).2.2)) at1 kd fw sw dg] ∧ (rTx (typZ txt m x).2.1 (typZ txt m x).2.2 CH')) := by
  refine MetI.of (cc := cX10_type) (maxL := 2) (ret := (some .int)) (by decide) rfl (Nat.le_of_ble_eq_true rfl) (Or.inl rfl) ?_
  intro pY eY sY mY aY bY tY cY QY AY ls h0 hP hK hN hD hA hS hl hret
  obtain ⟨hx, hb, hml, hown, hts⟩ := id h0
  have hl : lv_has ls 2 [(0, .ref (Bf 0)), (1, .int x)] := hl
  have hP : PB D [gFw cA Bf (Bw 0) (Bq 0) (Bh 0) (Bd 0) (Br 0) (Bo 0) (Bt 0) (Bs 0), gTx cA Bt CH (nI m) at1 kd fw sw dg] sY.heap := PB.of hP
  have hD : DB AY [gFw cA Bf (Bw 0) (Bq 0) (Bh 0) (Bd 0) (Br 0) (Bo 0) (Bt 0) (Bs 0), gTx cA Bt CH (nI m) at1 kd fw sw dg] := DB.of hD
  have e32 : (nI 32).toInt = 32 := rfl
  have e126 : (nI 126).toInt = 126 := rfl
  have h80 := ht.1
  refine lv_iload_n hx hb dX10_type_0 rfl (lv_at hl 1 rfl) ?_
  refine lv_bipush (v := nI 32) hx hb dX10_type_1 (by decide +kernel) ?_
  refine xr_lt (tgt := 12) hx hb dX10_type_3 (by decide) (fun c3 => ?_) (fun c3 => ?_)
  · refine lv_ldc (v := (-1000001)) hx hb hown (hts (.constant RX10 71 (-1000001)) (by decide +kernel)) dX10_type_12 ?_
    have hR : typZ txt m x = ((-1000001), txt, m) := if_pos (by omega)
    exact hret _ _ _ _ _ _ dX10_type_14 ⟨CH, (by rw [hR]), (by rw [hR]), (by rw [hR]; exact ht)⟩ hP.to hD.to hS
  · refine lv_iload_n hx hb dX10_type_6 rfl (lv_at hl 1 rfl) ?_
    refine lv_bipush (v := nI 126) hx hb dX10_type_7 (by decide +kernel) ?_
    refine xr_le (tgt := 15) hx hb dX10_type_9 (by decide) (fun c9 => ?_) (fun c9 => ?_)
    · refine lv_aload_n hx hb dX10_type_15 rfl (lv_at hl 0 rfl) ?_
      refine va_get (D := D) (ci := 9) (v := .ref (Bt 0)) (C := RX10) (T := TX10) (N := 8) hx hb hts hi_X10_type_X10 hown hK (hP.blk 0 rfl) 0 rfl rfl 6 (by decide) (hts (.fieldLink RX10 50 "FallingWords" "text" "LFallingWords$Text;") (by decide +kernel)) (fun _ h9 => h9) rfl dX10_type_16 ?_
      refine bf_i (Ss := [gTx cA Bt CH (nI m) at1 kd fw sw dg]) hP hD hS hA [1] rfl (by decide) (va_runVN (As := []) (rest := []) h0 ((MetI.cw (by simp only [List.flatten_cons, List.flatten_nil, List.append_nil, List.append_assoc]) (k_X8_isFull lY D cA Bt m CH at1 kd fw sw dg (h80))) _) ⟨(va_cnB 0 hts gX10_type_X8_isFull_n265 rfl rfl rfl (hN (.methodLinkNest RX10 265 yX8_isFull "FallingWords") (by decide +kernel)) (hts (.initialized RX8) (by decide +kernel)) (by decide +kernel) ⟨Nat.le_of_ble_eq_true rfl, Nat.le_of_ble_eq_true rfl⟩), hts (.instanceMethod yX8_isFull) (by decide +kernel), hts (.selects RX8 yX8_isFull yX8_isFull) (by decide +kernel)⟩ ⟨pw_blind, bl_recv (ci := 8) (q := (RX8, TX8, 7)) (i := 1) (q0 := 0) hP hK rfl rfl rfl, bf_pre (Ss := [gTx cA Bt CH (nI m) at1 kd fw sw dg]) hP hD hK hN [1] rfl (by decide)⟩ rfl rfl hl.1 rfl (lv_room (Nat.le_of_ble_eq_true rfl)) dX10_type_19 ⟨Nat.zero_le _, Nat.zero_le _⟩) (fun rY wY H locs hwY hJ hS => ?_)
      obtain ⟨e1Y, e2Y⟩ := hwY
      have e3Y := e1Y.symm
      clear e1Y
      subst e3Y
      have e3Y := e2Y.symm
      clear e2Y
      subst e3Y
      obtain ⟨hP, hD⟩ := hJ [gTx cA Bt CH (nI m) at1 kd fw sw dg] (by simp only [List.flatten_cons, List.flatten_nil, List.append_nil, List.append_assoc]) rfl
      have hP : PB D [gFw cA Bf (Bw 0) (Bq 0) (Bh 0) (Bd 0) (Br 0) (Bo 0) (Bt 0) (Bs 0), gTx cA Bt CH (nI m) at1 kd fw sw dg] H := hP
      have hD : DB AY [gFw cA Bf (Bw 0) (Bq 0) (Bh 0) (Bd 0) (Br 0) (Bo 0) (Bt 0) (Bs 0), gTx cA Bt CH (nI m) at1 kd fw sw dg] := hD
      refine xb_eq (tgt := 28) hx hb dX10_type_22 (by decide) (fun c22 => ?_) (fun c22 => ?_)
      · have hm8 := of_decide_eq_false c22
        obtain ⟨k, hk, rfl⟩ : ∃ k : Nat, k < 127 ∧ x = nI k := i32_of (by omega) (by omega)
        have ek : (nI k).toInt = (k : Int) := nI_toInt (by omega)
        refine lv_aload_n hx hb dX10_type_28 rfl (lv_at hl 0 rfl) ?_
        refine va_get (D := D) (ci := 9) (v := .ref (Bt 0)) (C := RX10) (T := TX10) (N := 8) hx hb hts hi_X10_type_X10 hown hK (hP.blk 0 rfl) 0 rfl rfl 6 (by decide) (hts (.fieldLink RX10 50 "FallingWords" "text" "LFallingWords$Text;") (by decide +kernel)) (fun _ h9 => h9) rfl dX10_type_29 ?_
        refine lv_iload_n hx hb dX10_type_32 rfl (lv_at hl 1 rfl) ?_
        refine bf_v (Ss := [gTx cA Bt CH (nI m) at1 kd fw sw dg]) hP hD hS hA [1] rfl (by decide) (va_runVN (As := [.int (nI k)]) (rest := []) h0 ((MetV.cw (by simp only [List.flatten_cons, List.flatten_nil, List.append_nil, List.append_assoc]) (k_X8_append lY D cA Bt m k CH at1 kd fw sw dg (by omega) (hk))) _) ⟨(va_cnB 1 hts gX10_type_X8_append_n266 rfl rfl rfl (hN (.methodLinkNest RX10 266 yX8_append "FallingWords") (by decide +kernel)) (hts (.initialized RX8) (by decide +kernel)) (by decide +kernel) ⟨Nat.le_of_ble_eq_true rfl, Nat.le_of_ble_eq_true rfl⟩), hts (.instanceMethod yX8_append) (by decide +kernel), hts (.selects RX8 yX8_append yX8_append) (by decide +kernel)⟩ ⟨pw_blind, bl_recv (ci := 8) (q := (RX8, TX8, 7)) (i := 1) (q0 := 0) hP hK rfl rfl rfl, bf_pre (Ss := [gTx cA Bt CH (nI m) at1 kd fw sw dg]) hP hD hK hN [1] rfl (by decide)⟩ rfl rfl hl.1 rfl (lv_room (Nat.le_of_ble_eq_true rfl)) dX10_type_33 ⟨Nat.zero_le _, Nat.zero_le _⟩) (fun wY H locs hwY hJ hS => ?_)
        have e2Y := hwY
        have e3Y := e2Y.symm
        clear e2Y
        subst e3Y
        obtain ⟨hP, hD⟩ := hJ [gTx cA Bt (upd CH m (nI k)) (nI (m + 1)) at1 kd fw sw dg] (by simp only [List.flatten_cons, List.flatten_nil, List.append_nil, List.append_assoc]) rfl
        have hP : PB D [gFw cA Bf (Bw 0) (Bq 0) (Bh 0) (Bd 0) (Br 0) (Bo 0) (Bt 0) (Bs 0), gTx cA Bt (upd CH m (nI k)) (nI (m + 1)) at1 kd fw sw dg] H := hP
        have hD : DB AY [gFw cA Bf (Bw 0) (Bq 0) (Bh 0) (Bd 0) (Br 0) (Bo 0) (Bt 0) (Bs 0), gTx cA Bt (upd CH m (nI k)) (nI (m + 1)) at1 kd fw sw dg] := hD
        refine lv_aload_n hx hb dX10_type_36 rfl (lv_at hl 0 rfl) ?_
        refine va_get (D := D) (ci := 9) (v := .ref (Bt 0)) (C := RX10) (T := TX10) (N := 8) hx hb hts hi_X10_type_X10 hown hK (hP.blk 0 rfl) 0 rfl rfl 6 (by decide) (hts (.fieldLink RX10 50 "FallingWords" "text" "LFallingWords$Text;") (by decide +kernel)) (fun _ h9 => h9) rfl dX10_type_37 ?_
        refine va_getN (D := D) (ci := 8) (v := .int (nI (m + 1))) (C := RX8) (T := TX8) (N := 7) hx hb hts hi_X10_type_X8 hown hK (hP.blk 1 rfl) 0 rfl rfl 1 (by decide) (hN.fl (w := .fieldLinkNest RX10 259 "FallingWords$Text" "size" "I" "FallingWords") (by decide +kernel)) (fun _ h9 => h9) rfl dX10_type_40 ?_
        have hR : typZ txt m (nI k) = (nI (m + 1), upN txt m k, m + 1) := by unfold typZ; rw [if_neg (by omega), if_neg hm8, ek, Int.toNat_natCast]
        exact hret _ _ _ _ _ _ dX10_type_43 ⟨((upd CH m (nI k))), (by rw [hR]), (by rw [hR]), (by rw [hR]; exact rTx_up ht (by omega) hk)⟩ hP.to hD.to hS
      · refine lv_ldc (v := (-1000003)) hx hb hown (hts (.constant RX10 172 (-1000003)) (by decide +kernel)) dX10_type_25 ?_
        have hR : typZ txt m x = ((-1000003), txt, m) := by unfold typZ; rw [if_neg (by omega), if_pos (of_decide_eq_true c22)]
        exact hret _ _ _ _ _ _ dX10_type_27 ⟨CH, (by rw [hR]), (by rw [hR]), (by rw [hR]; exact ht)⟩ hP.to hD.to hS
    · refine lv_ldc (v := (-1000001)) hx hb hown (hts (.constant RX10 71 (-1000001)) (by decide +kernel)) dX10_type_12 ?_
      have hR : typZ txt m x = ((-1000001), txt, m) := if_pos (by omega)
      exact hret _ _ _ _ _ _ dX10_type_14 ⟨CH, (by rw [hR]), (by rw [hR]), (by rw [hR]; exact ht)⟩ hP.to hD.to hS

theorem hi_X10_clearText_X10 : ∀ w ∈ u_ws RX10 TX10 8, w ∈ wsX10_clearText := by decide +kernel
theorem hi_X10_clearText_X8 : ∀ w ∈ u_ws RX8 TX8 7, w ∈ wsX10_clearText := by decide +kernel
set_option maxHeartbeats 1000000 in
set_option maxRecDepth 100000 in
theorem k_X10_clearText (lY : Launch) (D : va_G) (cA : Nat → ClassId) (Bf Bw Bq Bh Bd Br Bo Bt Bs : Nat → Nat) (m : Nat) (CH : Nat → Int32) (at1 kd fw sw dg : Int32)  : MetI lY D cA yX10_clearText wsX10_clearText 0 0 [.ref (Bf 0)] (List.flatten [gFw cA Bf (Bw 0) (Bq 0) (Bh 0) (Bd 0) (Br 0) (Bo 0) (Bt 0) (Bs 0), gTx cA Bt CH (nI m) at1 kd fw sw dg]) (fun rY wY => rY = nI m ∧ wY = List.flatten [gFw cA Bf (Bw 0) (Bq 0) (Bh 0) (Bd 0) (Br 0) (Bo 0) (Bt 0) (Bs 0), gTx cA Bt CH (nI 0) at1 kd fw sw dg]) := by
  refine MetI.of (cc := cX10_clearText) (maxL := 2) (ret := (some .int)) (by decide) rfl (Nat.le_of_ble_eq_true rfl) (Or.inl rfl) ?_
  intro pY eY sY mY aY bY tY cY QY AY ls h0 hP hK hN hD hA hS hl hret
  obtain ⟨hx, hb, hml, hown, hts⟩ := id h0
  have hl : lv_has ls 2 [(0, .ref (Bf 0))] := hl
  have hP : PB D [gFw cA Bf (Bw 0) (Bq 0) (Bh 0) (Bd 0) (Br 0) (Bo 0) (Bt 0) (Bs 0), gTx cA Bt CH (nI m) at1 kd fw sw dg] sY.heap := PB.of hP
  have hD : DB AY [gFw cA Bf (Bw 0) (Bq 0) (Bh 0) (Bd 0) (Br 0) (Bo 0) (Bt 0) (Bs 0), gTx cA Bt CH (nI m) at1 kd fw sw dg] := DB.of hD
  refine lv_aload_n hx hb dX10_clearText_0 rfl (lv_at hl 0 rfl) ?_
  refine va_get (D := D) (ci := 9) (v := .ref (Bt 0)) (C := RX10) (T := TX10) (N := 8) hx hb hts hi_X10_clearText_X10 hown hK (hP.blk 0 rfl) 0 rfl rfl 6 (by decide) (hts (.fieldLink RX10 50 "FallingWords" "text" "LFallingWords$Text;") (by decide +kernel)) (fun _ h9 => h9) rfl dX10_clearText_1 ?_
  refine va_getN (D := D) (ci := 8) (v := .int (nI m)) (C := RX8) (T := TX8) (N := 7) hx hb hts hi_X10_clearText_X8 hown hK (hP.blk 1 rfl) 0 rfl rfl 1 (by decide) (hN.fl (w := .fieldLinkNest RX10 259 "FallingWords$Text" "size" "I" "FallingWords") (by decide +kernel)) (fun _ h9 => h9) rfl dX10_clearText_4 ?_
  refine lv_istore_n (lv' := [(1, .int (nI m)), (0, .ref (Bf 0))]) hx hb dX10_clearText_7 rfl hl (by decide) rfl (fun ls hl => ?_)
  refine lv_aload_n hx hb dX10_clearText_8 rfl (lv_at hl 1 rfl) ?_
  refine va_get (D := D) (ci := 9) (v := .ref (Bt 0)) (C := RX10) (T := TX10) (N := 8) hx hb hts hi_X10_clearText_X10 hown hK (hP.blk 0 rfl) 0 rfl rfl 6 (by decide) (hts (.fieldLink RX10 50 "FallingWords" "text" "LFallingWords$Text;") (by decide +kernel)) (fun _ h9 => h9) rfl dX10_clearText_9 ?_
  refine lv_iconst (v := nI 0) hx hb dX10_clearText_12 (by decide +kernel) ?_
  have hfg := fl_get [gFw cA Bf (Bw 0) (Bq 0) (Bh 0) (Bd 0) (Br 0) (Bo 0) (Bt 0) (Bs 0), gTx cA Bt CH (nI m) at1 kd fw sw dg] 1 0 (gTx cA Bt CH (nI m) at1 kd fw sw dg) (Bt 0, .inr (8, [.ref (Bt 1), .int (nI m), .int at1, .int kd, .int fw, .int sw, .int dg])) rfl rfl
  refine va_putN (D := D) (ci := 8) (v := .int (nI 0)) (ty := .int) (C := RX8) (T := TX8) (N := 7) hx hb hts hi_X10_clearText_X8 tyX8 tyX8_ok nmX8 hown hK hP.to hD.to hS _ hfg.1 rfl 1 (by decide) (hN.fl (w := .fieldLinkNest RX10 259 "FallingWords$Text" "size" "I" "FallingWords") (by decide +kernel)) (fun _ h9 => h9) rfl (by decide +kernel) rfl rfl (Nat.le_of_ble_eq_true rfl) dX10_clearText_13 (fun H locs hP hD hS => ?_)
  rw [hfg.2] at hP hD
  have hP : PB D [gFw cA Bf (Bw 0) (Bq 0) (Bh 0) (Bd 0) (Br 0) (Bo 0) (Bt 0) (Bs 0), gTx cA Bt CH (nI 0) at1 kd fw sw dg] H := PB.of hP
  have hD : DB AY [gFw cA Bf (Bw 0) (Bq 0) (Bh 0) (Bd 0) (Br 0) (Bo 0) (Bt 0) (Bs 0), gTx cA Bt CH (nI 0) at1 kd fw sw dg] := DB.of hD
  refine lv_iload_n hx hb dX10_clearText_16 rfl (lv_at hl 0 rfl) ?_
  exact hret _ _ _ _ _ _ dX10_clearText_17 ⟨rfl, rfl⟩ hP.to hD.to hS
