theorem hi_X2_addAllFrom_X4 : ∀ w ∈ u_ws RX4 TX4 6, w ∈ wsX2_addAllFrom := by decide +kernel
set_option maxHeartbeats 1000000 in
set_option maxRecDepth 100000 in
theorem k_X2_addAllFrom (lY : Launch) (D : va_G) (cA : Nat → ClassId) (Br B : Nat → Nat) (a : Acc) (WR SE : Nat → Int32) (fe le : Int32) (S : St) (L R LL RL TM : Nat → Int32) (w k x y : Nat) (hI : IR S) (hrr : rRu S L R LL RL TM) (hr : rRe a WR SE) (hw : vw 12 w) (hk : k < 900) (hfe : 0 < k → fe = nI x ∧ le = nI y ∧ x < 2147483648 ∧ y < 2147483648) : MetV lY D cA yX2_addAllFrom wsX2_addAllFrom 2 50 0 0 [.ref (Br 0), .int (nI w), .ref (B 0)] (gRe cA Br WR SE (nI (min a.2 400)) (bI (decide (a.2 = 401))) (nI k) fe le ++ gRu cA B L R LL RL TM (nI (S 1))) (fun wY => ∃ (WR' : Nat → Int32) (SE' : Nat → Int32) (en' : Int32) (fe' : Int32) (le' : Int32), wY = gRe cA Br WR' SE' (nI (min (gP S w a (len w)).2 400)) (bI (decide ((gP S w a (len w)).2 = 401))) en' fe' le' ++ gRu cA B L R LL RL TM (nI (S 1)) ∧ (rRe (gP S w a (len w)) WR' SE') ∧ (nrm S w = true → en' = nI (k + 1) ∧ fe' = nI (if k = 0 then w else min x w) ∧ le' = nI (if k = 0 then w else max y w)) ∧ (nrm S w = false → en' = nI k ∧ fe' = fe ∧ le' = le)) := by
  refine MetV.of (cc := cX2_addAllFrom) (maxL := 7) (by decide) rfl (Nat.le_of_ble_eq_true rfl) ?_
  intro pY eY sY mY aY bY tY cY QY AY ls h0 hP hK hN hD hA hS hl hin hret
  obtain ⟨hx, hb, hml, hown, hts⟩ := id h0
  have hl : lv_has ls 7 [(0, .ref (Br 0)), (1, .int (nI w)), (2, .ref (B 0))] := hl
  have hP : va_P D vwCl (gRe cA Br WR SE (nI (min a.2 400)) (bI (decide (a.2 = 401))) (nI k) fe le ++ gRu cA B L R LL RL TM (nI (S 1))) sY.heap := hP
  have hD : va_D AY (gRe cA Br WR SE (nI (min a.2 400)) (bI (decide (a.2 = 401))) (nI k) fe le ++ gRu cA B L R LL RL TM (nI (S 1))) := hD
  have hB := vw_B hw (by decide)
  have h12 := hw.2
  have h10 := hI.1
  have ha401 := hr.1
  refine lv_iload_n hx hb dX2_addAllFrom_0 rfl (lv_at hl 1 rfl) ?_
  refine ci_SN (As := [.int (nI w)]) (rest := []) h0 hK hN hP hD hS hA hl.1 (k_X9_lengthOf lY D cA w (hw.1) (by omega)) [] rfl (by decide) ⟨(va_cnB 1 hts gX2_addAllFrom_X9_lengthOf_n43 rfl rfl rfl (hN (.methodLinkNest RX2 43 yX9_lengthOf "FallingWords") (by decide +kernel)) (hts (.initialized RX9) (by decide +kernel)) (by decide +kernel) ⟨Nat.le_of_ble_eq_true rfl, Nat.le_of_ble_eq_true rfl⟩), hts (.static yX9_lengthOf) (by decide +kernel), trivial⟩ rfl rfl (Nat.le_of_ble_eq_true rfl) dX2_addAllFrom_1 ⟨Nat.zero_le _, Nat.zero_le _⟩ (fun rY wY H locs hwY hJ hS => ?_)
  obtain ⟨e1Y, e2Y⟩ := hwY
  have e3Y := e1Y.symm
  clear e1Y
  subst e3Y
  have e3Y := e2Y.symm
  clear e2Y
  subst e3Y
  obtain ⟨hP, hD⟩ := hJ rfl
  have hP : va_P D vwCl (gRe cA Br WR SE (nI (min a.2 400)) (bI (decide (a.2 = 401))) (nI k) fe le ++ gRu cA B L R LL RL TM (nI (S 1))) H := hP
  have hD : va_D AY (gRe cA Br WR SE (nI (min a.2 400)) (bI (decide (a.2 = 401))) (nI k) fe le ++ gRu cA B L R LL RL TM (nI (S 1))) := hD
  refine lv_istore_n (lv' := [(3, .int (nI (len w))), (0, .ref (Br 0)), (1, .int (nI w)), (2, .ref (B 0))]) hx hb dX2_addAllFrom_4 rfl hl (by decide) rfl (fun ls hl => ?_)
  refine lv_iconst (v := nI 1) hx hb dX2_addAllFrom_5 (by decide +kernel) ?_
  refine lv_istore (lv' := [(4, .int (nI 1)), (3, .int (nI (len w))), (0, .ref (Br 0)), (1, .int (nI w)), (2, .ref (B 0))]) hx hb dX2_addAllFrom_6 hl (by decide) rfl (fun ls hl => ?_)
  refine lv_iconst (v := nI 0) hx hb dX2_addAllFrom_8 (by decide +kernel) ?_
  refine lv_istore (lv' := [(5, .int (nI 0)), (4, .int (nI 1)), (3, .int (nI (len w))), (0, .ref (Br 0)), (1, .int (nI w)), (2, .ref (B 0))]) hx hb dX2_addAllFrom_9 hl (by decide) rfl (fun ls hl => ?_)
  have L11 : ∀ (nY : Nat), ∀ (p : Nat) (zz : Bool) (WR' : Nat → Int32) (SE' : Nat → Int32), (p ≤ len w) → (rRe (gP S w a p) WR' SE') → (zz = true → ∀ r p', r < S 1 → p' < p → stn (lf S r) w p' = false) → (zz = false → nrm S w = false) → (len w - p < nY) → ∀ (H : Heap) (locs : List Loc) (ls : Array Slot), va_P D vwCl (gRe cA Br WR' SE' (nI (min (gP S w a p).2 400)) (bI (decide ((gP S w a p).2 = 401))) (nI k) fe le ++ gRu cA B L R LL RL TM (nI (S 1))) H → va_D AY (gRe cA Br WR' SE' (nI (min (gP S w a p).2 400)) (bI (decide ((gP S w a p).2 = 401))) (nI k) fe le ++ gRu cA B L R LL RL TM (nI (S 1))) → va_S AY sY.heap H locs → lv_has ls 7 [(0, .ref (Br 0)), (1, .int (nI w)), (2, .ref (B 0)), (3, .int (nI (len w))), (4, .int (bI zz)), (5, .int (nI p))] → W pY lY eY { frames := 2, cells := 0, slots := 0, locals := 50 } sY mY aY bY tY cY H locs 0 0 QY (F0 mY 11 ls []) := by
    intro nY11
    induction nY11 with
    | zero => intro p zz WR' SE' hp hrp hz1 hz2 hm11; exact absurd hm11 (Nat.not_lt_zero _)
    | succ nY11 ih11 =>
      intro p zz WR' SE' hp hrp hz1 hz2 hm11 H locs ls hP hD hS hl
      refine lv_iload hx hb dX2_addAllFrom_11 (lv_at hl 5 rfl) ?_
      refine lv_iload_n hx hb dX2_addAllFrom_13 rfl (lv_at hl 3 rfl) ?_
      refine xc_ge (tgt := 70) hx hb dX2_addAllFrom_14 (by decide) (by omega) (by omega) (fun c14 => ?_) (fun c14 => ?_)
      · have hpl : p = len w := by omega
        rw [hpl] at hP hD hrp hz1
        have hP : va_P D vwCl (gRe cA Br WR' SE' (nI (min (gP S w a (len w)).2 400)) (bI (decide ((gP S w a (len w)).2 = 401))) (nI k) fe le ++ gRu cA B L R LL RL TM (nI (S 1))) H := hP
        have hD : va_D AY (gRe cA Br WR' SE' (nI (min (gP S w a (len w)).2 400)) (bI (decide ((gP S w a (len w)).2 = 401))) (nI k) fe le ++ gRu cA B L R LL RL TM (nI (S 1))) := hD
        refine lv_iload hx hb dX2_addAllFrom_70 (lv_at hl 4 rfl) ?_
        refine xb_eq (tgt := 80) hx hb dX2_addAllFrom_72 (by decide) (fun c72 => ?_) (fun c72 => ?_)
        · exact hret _ _ _ _ _ dX2_addAllFrom_80 ⟨WR', SE', ((nI k)), fe, le, rfl, hrp, (fun h => by rw [hz2 c72] at h; cases h), (fun _ => ⟨rfl, rfl, rfl⟩)⟩ hP hD hS
        · have hnn : nrm S w = true := ch_no (fun r p h1 h2 => hz1 c72 r p h1 h2)
          refine lv_aload_n hx hb dX2_addAllFrom_75 rfl (lv_at hl 0 rfl) ?_
          refine lv_iload_n hx hb dX2_addAllFrom_76 rfl (lv_at hl 1 rfl) ?_
          refine cv_V (As := [.int (nI w)]) (rest := []) h0 hK hN hP hD hS hA hl.1 (k_X2_addEnd lY D cA Br WR' SE' (nI (min (gP S w a (len w)).2 400)) (bI (decide ((gP S w a (len w)).2 = 401))) fe le k x y w (by omega) (hfe) (by omega)) [0, 1, 2] rfl (by decide) (cwV 1 hts gX2_addAllFrom_X2_addEnd rfl rfl rfl (by decide +kernel) ⟨Nat.le_of_ble_eq_true rfl, Nat.le_of_ble_eq_true rfl⟩) (cl_recv (ci := 2) (q := (RX2, TX2, 7)) (q0 := 0) hP hK rfl rfl) rfl rfl (Nat.le_of_ble_eq_true rfl) dX2_addAllFrom_77 ⟨Nat.zero_le _, Nat.zero_le _⟩ (fun wY H locs hwY hJ hS => ?_)
          have e2Y := hwY
          have e3Y := e2Y.symm
          clear e2Y
          subst e3Y
          obtain ⟨hP, hD⟩ := hJ rfl
          have hP : va_P D vwCl (gRe cA Br WR' SE' (nI (min (gP S w a (len w)).2 400)) (bI (decide ((gP S w a (len w)).2 = 401))) (nI (k + 1)) (nI (if k = 0 then w else min x w)) (nI (if k = 0 then w else max y w)) ++ gRu cA B L R LL RL TM (nI (S 1))) H := hP
          have hD : va_D AY (gRe cA Br WR' SE' (nI (min (gP S w a (len w)).2 400)) (bI (decide ((gP S w a (len w)).2 = 401))) (nI (k + 1)) (nI (if k = 0 then w else min x w)) (nI (if k = 0 then w else max y w)) ++ gRu cA B L R LL RL TM (nI (S 1))) := hD
          exact hret _ _ _ _ _ dX2_addAllFrom_80 ⟨WR', SE', ((nI (k + 1))), ((nI (if k = 0 then w else min x w))), ((nI (if k = 0 then w else max y w))), rfl, hrp, (fun _ => ⟨rfl, rfl, rfl⟩), (fun h => by rw [hnn] at h; cases h)⟩ hP hD hS
      · refine lv_iconst (v := nI 0) hx hb dX2_addAllFrom_17 (by decide +kernel) ?_
        refine lv_istore (lv' := [(6, .int (nI 0)), (0, .ref (Br 0)), (1, .int (nI w)), (2, .ref (B 0)), (3, .int (nI (len w))), (4, .int (bI zz)), (5, .int (nI p))]) hx hb dX2_addAllFrom_18 hl (by decide) rfl (fun ls hl => ?_)
        have L20 : ∀ (nY : Nat), ∀ (r : Nat) (z2 : Bool) (WQ : Nat → Int32) (SQ : Nat → Int32), (r ≤ S 1) → (rRe (gR S w p (gP S w a p) r) WQ SQ) → (z2 = true → ∀ r' p', r' < S 1 → (p' < p ∨ p' = p ∧ r' < r) → stn (lf S r') w p' = false) → (z2 = false → nrm S w = false) → (S 1 - r < nY) → ∀ (H : Heap) (locs : List Loc) (ls : Array Slot), va_P D vwCl (gRe cA Br WQ SQ (nI (min (gR S w p (gP S w a p) r).2 400)) (bI (decide ((gR S w p (gP S w a p) r).2 = 401))) (nI k) fe le ++ gRu cA B L R LL RL TM (nI (S 1))) H → va_D AY (gRe cA Br WQ SQ (nI (min (gR S w p (gP S w a p) r).2 400)) (bI (decide ((gR S w p (gP S w a p) r).2 = 401))) (nI k) fe le ++ gRu cA B L R LL RL TM (nI (S 1))) → va_S AY sY.heap H locs → lv_has ls 7 [(0, .ref (Br 0)), (1, .int (nI w)), (2, .ref (B 0)), (3, .int (nI (len w))), (4, .int (bI z2)), (5, .int (nI p)), (6, .int (nI r))] → W pY lY eY { frames := 2, cells := 0, slots := 0, locals := 50 } sY mY aY bY tY cY H locs 0 0 QY (F0 mY 20 ls []) := by
          intro nY20
          induction nY20 with
          | zero => intro r z2 WQ SQ hrr2 hrq hq1 hq2 hm20; exact absurd hm20 (Nat.not_lt_zero _)
          | succ nY20 ih20 =>
            intro r z2 WQ SQ hrr2 hrq hq1 hq2 hm20 H locs ls hP hD hS hl
            refine lv_iload hx hb dX2_addAllFrom_20 (lv_at hl 6 rfl) ?_
            refine lv_aload_n hx hb dX2_addAllFrom_22 rfl (lv_at hl 2 rfl) ?_
            refine va_getN (D := D) (ci := 4) (v := .int (nI (S 1))) (C := RX4) (T := TX4) (N := 6) hx hb hts hi_X2_addAllFrom_X4 hown hK hP 3 rfl rfl 5 (by decide) (hN.fl (w := .fieldLinkNest RX2 49 "FallingWords$Rules" "size" "I" "FallingWords") (by decide +kernel)) (fun _ h9 => h9) rfl dX2_addAllFrom_23 ?_
            refine xc_ge (tgt := 64) hx hb dX2_addAllFrom_26 (by decide) (by omega) (by omega) (fun c26 => ?_) (fun c26 => ?_)
            · have hge : gP S w a (p + 1) = gR S w p (gP S w a p) r := by rw [show r = S 1 by omega]; rfl
              rw [← hge] at hP hD
              have hP : va_P D vwCl (gRe cA Br WQ SQ (nI (min (gP S w a (p + 1)).2 400)) (bI (decide ((gP S w a (p + 1)).2 = 401))) (nI k) fe le ++ gRu cA B L R LL RL TM (nI (S 1))) H := hP
              have hD : va_D AY (gRe cA Br WQ SQ (nI (min (gP S w a (p + 1)).2 400)) (bI (decide ((gP S w a (p + 1)).2 = 401))) (nI k) fe le ++ gRu cA B L R LL RL TM (nI (S 1))) := hD
              refine lv_iinc (v := nI (p + 1)) (lv' := [(5, .int (nI (p + 1))), (0, .ref (Br 0)), (1, .int (nI w)), (2, .ref (B 0)), (3, .int (nI (len w))), (4, .int (bI z2)), (6, .int (nI r))]) hx hb dX2_addAllFrom_64 hl (k := 5) rfl (show nI p + Int32.ofInt 1 = nI (p + 1) from nI_add p 1) (by decide) rfl (fun ls hl => ?_)
              refine lv_goto (tgt := 11) hx hb dX2_addAllFrom_67 (by decide) ?_
              exact ih11 (p + 1) z2 WQ SQ (by omega) (by rw [hge]; exact hrq) (fun h r' p' h1 h2 => hq1 h r' p' h1 (by omega)) (hq2) (by omega) _ _ _ hP hD hS (lv_sub hl [1, 2, 3, 4, 5, 0] rfl)
            · refine lv_aload_n hx hb dX2_addAllFrom_29 rfl (lv_at hl 2 rfl) ?_
              refine lv_iload_n hx hb dX2_addAllFrom_30 rfl (lv_at hl 1 rfl) ?_
              refine lv_iload_n hx hb dX2_addAllFrom_31 rfl (lv_at hl 3 rfl) ?_
              refine lv_iload hx hb dX2_addAllFrom_32 (lv_at hl 6 rfl) ?_
              refine lv_iload hx hb dX2_addAllFrom_34 (lv_at hl 5 rfl) ?_
              refine ci_VN (As := [.int (nI w), .int (nI (len w)), .int (nI r), .int (nI p)]) (rest := []) h0 hK hN hP hD hS hA hl.1 (k_X4_appliesAt lY D cA B S L R LL RL TM w r p (hI) (hrr) (hw) (by omega) (by omega)) [3, 4, 5, 6, 7, 8] rfl (by decide) ⟨(va_cnB 4 hts gX2_addAllFrom_X4_appliesAt_n52 rfl rfl rfl (hN (.methodLinkNest RX2 52 yX4_appliesAt "FallingWords") (by decide +kernel)) (hts (.initialized RX4) (by decide +kernel)) (by decide +kernel) ⟨Nat.le_of_ble_eq_true rfl, Nat.le_of_ble_eq_true rfl⟩), hts (.instanceMethod yX4_appliesAt) (by decide +kernel), hts (.selects RX4 yX4_appliesAt yX4_appliesAt) (by decide +kernel)⟩ (cl_recv (ci := 4) (q := (RX4, TX4, 6)) (q0 := 3) hP hK rfl rfl) rfl rfl (Nat.le_of_ble_eq_true rfl) dX2_addAllFrom_36 ⟨Nat.zero_le _, Nat.zero_le _⟩ (fun rY wY H locs hwY hJ hS => ?_)
              obtain ⟨e1Y, e2Y⟩ := hwY
              have e3Y := e1Y.symm
              clear e1Y
              subst e3Y
              have e3Y := e2Y.symm
              clear e2Y
              subst e3Y
              obtain ⟨hP, hD⟩ := hJ rfl
              have hP : va_P D vwCl (gRe cA Br WQ SQ (nI (min (gR S w p (gP S w a p) r).2 400)) (bI (decide ((gR S w p (gP S w a p) r).2 = 401))) (nI k) fe le ++ gRu cA B L R LL RL TM (nI (S 1))) H := hP
              have hD : va_D AY (gRe cA Br WQ SQ (nI (min (gR S w p (gP S w a p) r).2 400)) (bI (decide ((gR S w p (gP S w a p) r).2 = 401))) (nI k) fe le ++ gRu cA B L R LL RL TM (nI (S 1))) := hD
              refine xb_eq (tgt := 58) hx hb dX2_addAllFrom_39 (by decide) (fun c39 => ?_) (fun c39 => ?_)
              · have hge : gR S w p (gP S w a p) (r + 1) = gR S w p (gP S w a p) r := by show (if _ then _ else _) = _; rw [c39]; rfl
                rw [← hge] at hP hD
                have hrn := hrq
                rw [← hge] at hrn
                have hP : va_P D vwCl (gRe cA Br WQ SQ (nI (min (gR S w p (gP S w a p) (r + 1)).2 400)) (bI (decide ((gR S w p (gP S w a p) (r + 1)).2 = 401))) (nI k) fe le ++ gRu cA B L R LL RL TM (nI (S 1))) H := hP
                have hD : va_D AY (gRe cA Br WQ SQ (nI (min (gR S w p (gP S w a p) (r + 1)).2 400)) (bI (decide ((gR S w p (gP S w a p) (r + 1)).2 = 401))) (nI k) fe le ++ gRu cA B L R LL RL TM (nI (S 1))) := hD
                refine lv_iinc (v := nI (r + 1)) (lv' := [(6, .int (nI (r + 1))), (0, .ref (Br 0)), (1, .int (nI w)), (2, .ref (B 0)), (3, .int (nI (len w))), (4, .int (bI z2)), (5, .int (nI p))]) hx hb dX2_addAllFrom_58 hl (k := 6) rfl (show nI r + Int32.ofInt 1 = nI (r + 1) from nI_add r 1) (by decide) rfl (fun ls hl => ?_)
                refine lv_goto (tgt := 20) hx hb dX2_addAllFrom_61 (by decide) ?_
                exact ih20 (r + 1) z2 WQ SQ (by omega) (hrn) (fun h r' p' h1 h2 => by rcases Decidable.em (p' = p ∧ r' = r) with q | q; (rw [q.1, q.2]; exact c39); exact hq1 h r' p' h1 (by omega)) (hq2) (by omega) _ _ _ hP hD hS (lv_sub hl [1, 2, 3, 4, 5, 6, 0] rfl)
              · have hnr : nrm S w = false := by
                  cases hq : nrm S w with
                  | false => rfl
                  | true => rw [ch_all hI hw hq r p (by omega) (by omega)] at c39; cases c39
                have hav := ap_vw hI hw (show r < S 1 by omega) c39
                refine lv_iconst (v := nI 0) hx hb dX2_addAllFrom_42 (by decide +kernel) ?_
                refine lv_istore (lv' := [(4, .int (nI 0)), (0, .ref (Br 0)), (1, .int (nI w)), (2, .ref (B 0)), (3, .int (nI (len w))), (5, .int (nI p)), (6, .int (nI r))]) hx hb dX2_addAllFrom_43 hl (by decide) rfl (fun ls hl => ?_)
                refine lv_aload_n hx hb dX2_addAllFrom_45 rfl (lv_at hl 1 rfl) ?_
                refine lv_aload_n hx hb dX2_addAllFrom_46 rfl (lv_at hl 3 rfl) ?_
                refine lv_iload_n hx hb dX2_addAllFrom_47 rfl (lv_at hl 2 rfl) ?_
                refine lv_iload hx hb dX2_addAllFrom_48 (lv_at hl 6 rfl) ?_
                refine lv_iload hx hb dX2_addAllFrom_50 (lv_at hl 5 rfl) ?_
                refine ci_VN (As := [.int (nI w), .int (nI r), .int (nI p)]) (rest := [.ref (Br 0)]) h0 hK hN hP hD hS hA hl.1 (k_X4_applied lY D cA B S L R LL RL TM w r p (hI) (hrr) (hw) (by omega) (stn_le c39)) [3, 4, 5, 6, 7, 8] rfl (by decide) ⟨(va_cnB 3 hts gX2_addAllFrom_X4_applied_n56 rfl rfl rfl (hN (.methodLinkNest RX2 56 yX4_applied "FallingWords") (by decide +kernel)) (hts (.initialized RX4) (by decide +kernel)) (by decide +kernel) ⟨Nat.le_of_ble_eq_true rfl, Nat.le_of_ble_eq_true rfl⟩), hts (.instanceMethod yX4_applied) (by decide +kernel), hts (.selects RX4 yX4_applied yX4_applied) (by decide +kernel)⟩ (cl_recv (ci := 4) (q := (RX4, TX4, 6)) (q0 := 3) hP hK rfl rfl) rfl rfl (Nat.le_of_ble_eq_true rfl) dX2_addAllFrom_52 ⟨Nat.zero_le _, Nat.zero_le _⟩ (fun rY wY H locs hwY hJ hS => ?_)
                obtain ⟨e1Y, e2Y⟩ := hwY
                have e3Y := e1Y.symm
                clear e1Y
                subst e3Y
                have e3Y := e2Y.symm
                clear e2Y
                subst e3Y
                obtain ⟨hP, hD⟩ := hJ rfl
                have hP : va_P D vwCl (gRe cA Br WQ SQ (nI (min (gR S w p (gP S w a p) r).2 400)) (bI (decide ((gR S w p (gP S w a p) r).2 = 401))) (nI k) fe le ++ gRu cA B L R LL RL TM (nI (S 1))) H := hP
                have hD : va_D AY (gRe cA Br WQ SQ (nI (min (gR S w p (gP S w a p) r).2 400)) (bI (decide ((gR S w p (gP S w a p) r).2 = 401))) (nI k) fe le ++ gRu cA B L R LL RL TM (nI (S 1))) := hD
                refine cv_V (As := [.int (nI (app (lf S r) (rt S r) w p))]) (rest := []) h0 hK hN hP hD hS hA hl.1 (k_X2_add lY D cA Br (gR S w p (gP S w a p) r) WQ SQ (nI k) fe le (app (lf S r) (rt S r) w p) (hrq) (hav)) [0, 1, 2] rfl (by decide) (cwV 1 hts gX2_addAllFrom_X2_add rfl rfl rfl (by decide +kernel) ⟨Nat.le_of_ble_eq_true rfl, Nat.le_of_ble_eq_true rfl⟩) (cl_recv (ci := 2) (q := (RX2, TX2, 7)) (q0 := 0) hP hK rfl rfl) rfl rfl (Nat.le_of_ble_eq_true rfl) dX2_addAllFrom_55 ⟨Nat.zero_le _, Nat.zero_le _⟩ (fun wY H locs hwY hJ hS => ?_)
                obtain ⟨WR'_55, SE'_55, e2Y, fr_55⟩ := hwY
                have e3Y := e2Y.symm
                clear e2Y
                subst e3Y
                obtain ⟨hP, hD⟩ := hJ rfl
                have hP : va_P D vwCl (gRe cA Br WR'_55 SE'_55 (nI (min (addR (gR S w p (gP S w a p) r) (app (lf S r) (rt S r) w p)).2 400)) (bI (decide ((addR (gR S w p (gP S w a p) r) (app (lf S r) (rt S r) w p)).2 = 401))) (nI k) fe le ++ gRu cA B L R LL RL TM (nI (S 1))) H := hP
                have hD : va_D AY (gRe cA Br WR'_55 SE'_55 (nI (min (addR (gR S w p (gP S w a p) r) (app (lf S r) (rt S r) w p)).2 400)) (bI (decide ((addR (gR S w p (gP S w a p) r) (app (lf S r) (rt S r) w p)).2 = 401))) (nI k) fe le ++ gRu cA B L R LL RL TM (nI (S 1))) := hD
                have hge : gR S w p (gP S w a p) (r + 1) = addR (gR S w p (gP S w a p) r) (app (lf S r) (rt S r) w p) := by show (if _ then _ else _) = _; rw [if_pos c39]
                rw [← hge] at hP hD fr_55
                have hrn := fr_55
                have hP : va_P D vwCl (gRe cA Br WR'_55 SE'_55 (nI (min (gR S w p (gP S w a p) (r + 1)).2 400)) (bI (decide ((gR S w p (gP S w a p) (r + 1)).2 = 401))) (nI k) fe le ++ gRu cA B L R LL RL TM (nI (S 1))) H := hP
                have hD : va_D AY (gRe cA Br WR'_55 SE'_55 (nI (min (gR S w p (gP S w a p) (r + 1)).2 400)) (bI (decide ((gR S w p (gP S w a p) (r + 1)).2 = 401))) (nI k) fe le ++ gRu cA B L R LL RL TM (nI (S 1))) := hD
                refine lv_iinc (v := nI (r + 1)) (lv' := [(6, .int (nI (r + 1))), (4, .int (nI 0)), (0, .ref (Br 0)), (1, .int (nI w)), (2, .ref (B 0)), (3, .int (nI (len w))), (5, .int (nI p))]) hx hb dX2_addAllFrom_58 hl (k := 6) rfl (show nI r + Int32.ofInt 1 = nI (r + 1) from nI_add r 1) (by decide) rfl (fun ls hl => ?_)
                refine lv_goto (tgt := 20) hx hb dX2_addAllFrom_61 (by decide) ?_
                exact ih20 (r + 1) false WR'_55 SE'_55 (by omega) (hrn) (fun h => by cases h) (fun _ => hnr) (by omega) _ _ _ hP hD hS (lv_sub hl [2, 3, 4, 5, 1, 6, 0] rfl)
        exact L20 _ 0 zz WR' SE' (by omega) (hrp) (fun h r' p' h1 h2 => hz1 h r' p' h1 (by omega)) (hz2) (Nat.lt_succ_self _) _ _ _ hP hD hS (lv_sub hl [1, 2, 3, 4, 5, 6, 0] rfl)
  exact L11 _ 0 true WR SE (by omega) (hr) (fun _ r p' _ h => absurd h (Nat.not_lt_zero _)) (fun h => by cases h) (Nat.lt_succ_self _) _ _ _ hP hD hS (lv_sub hl [3, 4, 5, 2, 1, 0] rfl)
