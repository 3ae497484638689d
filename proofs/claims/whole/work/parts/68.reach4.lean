section CVS
variable {p : Program} {l : Launch} {e : Env} {R : Room} {s : State} {m : MethodId} {args : Array Value} {below : List Frame} {meth : Method} {c : Code} {H : Heap} {locs : List Loc} {cells slots : Nat} {Q : State → Prop}
variable {D : va_G} {cA : Nat → ClassId} {y : MethodName} {ws : List Cond} {fr lo : Nat} {As rest st0 : List Value} {w0 w : va_W} {cc bytes : ByteArray} {maxL nL pc n index : Nat} {ret : Option FieldType} {ls : Array Slot} {A : Nat → Prop} {H0 : Heap} {Ts : List Cond} {own : String}
theorem cv_S {post : va_W → Prop} (h0 : CallFix p m c cc nL s args Ts own) (hK : va_K D vwCl (tyS cA) s) (hN : Nst s) (hP : va_P D vwCl w0 H) (hD : va_D A w0) (hS : va_S A H0 H locs) (hA : ∀ q, H0.size ≤ q → A q) (hls : ls.size = nL) (hM : MetV l D cA y ws fr lo 0 0 As w post) (isC : List Nat) (hC : isC.map (fun i => w0[i]?) = w.map some) (hn : va_nd isC = true)
    (cw : CallB R s args own index y bytes maxL ret ws { frames := fr, cells := 0, slots := 0, locals := lo } 0 0 n ∧ (Cond.static y).before args s = true) (hn2 : As.length = n) (hst : st0 = As.reverse ++ rest) (hW : (rest.map fun v => v.category).sum ≤ 8) (hdg : decode cc pc = .ok (.invokestatic index, 3)) (hf : cells ≤ R.cells ∧ slots ≤ R.slots)
    (kk : ∀ (w' : va_W) (H1 : Heap) (locs1 : List Loc), post w' → Jn D A w0 isC H1 w' → va_S A H0 H1 locs1 → W p l e R s m args below meth c H1 locs1 cells slots Q (F0 m (pc + 3) ls rest)) : W p l e R s m args below meth c H locs cells slots Q (F0 m pc ls st0) :=
  cl_v hP hD hS hA isC hC (va_runS (As := As) (rest := rest) h0 (hM H.size) cw ⟨pw_blind, cl_pre hP hD hK hN isC hC hn⟩ rfl hn2 hls hst (lv_room hW) hdg hf) kk
end CVS
theorem re_0 {WR SE : Nat → Int32} (h : ∀ j, j < 1024 → SE j = 0) : rRe (((fun _ => 0), 0) : Acc) WR SE := ⟨Nat.zero_le _, fun i hi => absurd hi (Nat.not_lt_zero i), fun i hi => absurd hi (Nat.not_lt_zero i), fun j hj => Or.inl (h j hj), fun j k hj _ hne _ => absurd (h j hj) hne, fun i hi => absurd hi (Nat.not_lt_zero i)⟩
theorem ad_0 (w : Nat) : addR (((fun _ => 0), 0) : Acc) w = (upN (fun _ => 0) 0 w, 1) := rfl
theorem en_st {S : St} {f g : Nat → Nat} {i : Nat} (h : ∀ j, j < i + 1 → g j = f j) : (nrm S (f i) = true → enF S g (i + 1) = ((enF S f i).1 + 1, if (enF S f i).1 = 0 then f i else min (enF S f i).2.1 (f i), if (enF S f i).1 = 0 then f i else max (enF S f i).2.2 (f i))) ∧ (nrm S (f i) = false → enF S g (i + 1) = enF S f i) := by
  have e := enF_cong (S := S) (f := g) (g := f) i (fun j hj => h j (by omega))
  have e2 := h i (Nat.lt_succ_self i)
  constructor
  · intro hn
    show (if nrm S (g i) then _ else _) = _
    rw [if_pos (by rw [e2]; exact hn), e, e2]
  · intro hn
    show (if nrm S (g i) then _ else _) = _
    rw [e, e2, hn]
    rfl
def rEn (S : St) (f : Nat → Nat) (i : Nat) (en fe le : Int32) : Prop := en = nI (enF S f i).1 ∧ (0 < (enF S f i).1 → fe = nI (enF S f i).2.1 ∧ le = nI (enF S f i).2.2 ∧ (enF S f i).2.1 < 2147483648 ∧ (enF S f i).2.2 < 2147483648)
theorem rEn_s {S : St} {f g : Nat → Nat} {i : Nat} {en fe le en2 fe2 le2 : Int32} (hE : rEn S f i en fe le) (hfg : ∀ j, j < i + 1 → g j = f j) (hb : f i < 2147483648) (h1 : nrm S (f i) = true → en2 = nI ((enF S f i).1 + 1) ∧ fe2 = nI (if (enF S f i).1 = 0 then f i else min (enF S f i).2.1 (f i)) ∧ le2 = nI (if (enF S f i).1 = 0 then f i else max (enF S f i).2.2 (f i))) (h2 : nrm S (f i) = false → en2 = nI (enF S f i).1 ∧ fe2 = fe ∧ le2 = le) : rEn S g (i + 1) en2 fe2 le2 := by
  obtain ⟨s1, s2⟩ := en_st (S := S) hfg
  obtain ⟨g1, g2⟩ := hE
  cases hn : nrm S (f i) with
  | true =>
    obtain ⟨a1, a2, a3⟩ := h1 hn
    unfold rEn
    rw [s1 hn]
    refine ⟨a1, fun _ => ⟨a2, a3, ?_, ?_⟩⟩
    · show (if (enF S f i).1 = 0 then f i else min (enF S f i).2.1 (f i)) < _
      split <;> omega
    · show (if (enF S f i).1 = 0 then f i else max (enF S f i).2.2 (f i)) < _
      split
      · omega
      · have := (g2 (by omega)).2.2.2; omega
  | false =>
    obtain ⟨a1, a2, a3⟩ := h2 hn
    unfold rEn
    rw [s2 hn, a2, a3]
    exact ⟨a1, g2⟩

theorem hi_X2_run_X2 : ∀ w ∈ u_ws RX2 TX2 7, w ∈ wsX2_run := by decide +kernel
set_option maxHeartbeats 1000000 in
set_option maxRecDepth 100000 in
theorem k_X2_run (lY : Launch) (D : va_G) (cA : Nat → ClassId) (Br B : Nat → Nat) (WR SE : Nat → Int32) (nz tm en fe le : Int32) (S : St) (L R LL RL TM : Nat → Int32) (w : Nat) (hI : IR S) (hrr : rRu S L R LL RL TM) (hw : vw 12 w) : MetV lY D cA yX2_run wsX2_run 3 76 0 0 [.ref (Br 0), .ref (B 0), .int (nI w)] (gRe cA Br WR SE nz tm en fe le ++ gRu cA B L R LL RL TM (nI (S 1))) (fun wY => ∃ (WR' : Nat → Int32) (SE' : Nat → Int32) (en' : Int32) (fe' : Int32) (le' : Int32), wY = gRe cA Br WR' SE' (nI (min (bfs S w).2 400)) (bI (decide ((bfs S w).2 = 401))) en' fe' le' ++ gRu cA B L R LL RL TM (nI (S 1)) ∧ (rRe (bfs S w) WR' SE') ∧ ((bfs S w).2 ≤ 400 → rEn S (bfs S w).1 (bfs S w).2 en' fe' le')) := by
  refine MetV.of (cc := cX2_run) (maxL := 4) (by decide) rfl (Nat.le_of_ble_eq_true rfl) ?_
  intro pY eY sY mY aY bY tY cY QY AY ls h0 hP hK hN hD hA hS hl hin hret
  obtain ⟨hx, hb, hml, hown, hts⟩ := id h0
  have hl : lv_has ls 4 [(0, .ref (Br 0)), (1, .ref (B 0)), (2, .int (nI w))] := hl
  have hP : va_P D vwCl (gRe cA Br WR SE nz tm en fe le ++ gRu cA B L R LL RL TM (nI (S 1))) sY.heap := hP
  have hD : va_D AY (gRe cA Br WR SE nz tm en fe le ++ gRu cA B L R LL RL TM (nI (S 1))) := hD
  refine lv_aload_n hx hb dX2_run_0 rfl (lv_at hl 0 rfl) ?_
  refine va_get (D := D) (ci := 2) (v := .ref (Br 2)) (C := RX2) (T := TX2) (N := 7) hx hb hts hi_X2_run_X2 hown hK hP 0 rfl rfl 1 (by decide) (hts (.fieldLink RX2 15 "FallingWords$Reach" "seats" "[I") (by decide +kernel)) (fun _ h9 => h9) rfl dX2_run_1 ?_
  refine lv_iconst (v := nI 0) hx hb dX2_run_4 (by decide +kernel) ?_
  refine cv_S (As := [.ref (Br 2), .int (nI 0)]) (rest := []) h0 hK hN hP hD hS hA hl.1 (k_J7_fill_53178 lY D cA (fun i => Br (i + 2)) SE ) [2] rfl (by decide) (va_cwS 2 hts gX2_run_J7_fill_53178 rfl rfl rfl (by decide +kernel) ⟨Nat.le_of_ble_eq_true rfl, Nat.le_of_ble_eq_true rfl⟩) rfl rfl (Nat.le_of_ble_eq_true rfl) dX2_run_5 ⟨Nat.zero_le _, Nat.zero_le _⟩ (fun wY H locs hwY hJ hS => ?_)
  obtain ⟨SE'_5, e2Y, f1_5⟩ := hwY
  have e3Y := e2Y.symm
  clear e2Y
  subst e3Y
  obtain ⟨hP, hD⟩ := hJ rfl
  have hP : va_P D vwCl (gRe cA Br WR SE'_5 nz tm en fe le ++ gRu cA B L R LL RL TM (nI (S 1))) H := hP
  have hD : va_D AY (gRe cA Br WR SE'_5 nz tm en fe le ++ gRu cA B L R LL RL TM (nI (S 1))) := hD
  refine lv_aload_n hx hb dX2_run_8 rfl (lv_at hl 0 rfl) ?_
  refine lv_iconst (v := nI 0) hx hb dX2_run_9 (by decide +kernel) ?_
  refine va_put (D := D) (ci := 2) (v := .int (nI 0)) (ty := .int) (C := RX2) (T := TX2) (N := 7) hx hb hts hi_X2_run_X2 tyX2 tyX2_ok nmX2 hown hK hP hD hS 0 rfl rfl 2 (by decide) (hts (.fieldLink RX2 24 "FallingWords$Reach" "size" "I") (by decide +kernel)) (fun _ h9 => h9) rfl (by decide +kernel) rfl rfl (Nat.le_of_ble_eq_true rfl) dX2_run_10 (fun H locs hP hD hS => ?_)
  have hP : va_P D vwCl (gRe cA Br WR SE'_5 (nI 0) tm en fe le ++ gRu cA B L R LL RL TM (nI (S 1))) H := hP
  have hD : va_D AY (gRe cA Br WR SE'_5 (nI 0) tm en fe le ++ gRu cA B L R LL RL TM (nI (S 1))) := hD
  refine lv_aload_n hx hb dX2_run_13 rfl (lv_at hl 0 rfl) ?_
  refine lv_iconst (v := nI 0) hx hb dX2_run_14 (by decide +kernel) ?_
  refine va_put (D := D) (ci := 2) (v := .int (nI 0)) (ty := .boolean) (C := RX2) (T := TX2) (N := 7) hx hb hts hi_X2_run_X2 tyX2 tyX2_ok nmX2 hown hK hP hD hS 0 rfl rfl 3 (by decide) (hts (.fieldLink RX2 28 "FallingWords$Reach" "tooMany" "Z") (by decide +kernel)) (fun _ h9 => h9) rfl (by decide +kernel) rfl rfl (Nat.le_of_ble_eq_true rfl) dX2_run_15 (fun H locs hP hD hS => ?_)
  have hP : va_P D vwCl (gRe cA Br WR SE'_5 (nI 0) (nI 0) en fe le ++ gRu cA B L R LL RL TM (nI (S 1))) H := hP
  have hD : va_D AY (gRe cA Br WR SE'_5 (nI 0) (nI 0) en fe le ++ gRu cA B L R LL RL TM (nI (S 1))) := hD
  refine lv_aload_n hx hb dX2_run_18 rfl (lv_at hl 0 rfl) ?_
  refine lv_iconst (v := nI 0) hx hb dX2_run_19 (by decide +kernel) ?_
  refine va_put (D := D) (ci := 2) (v := .int (nI 0)) (ty := .int) (C := RX2) (T := TX2) (N := 7) hx hb hts hi_X2_run_X2 tyX2 tyX2_ok nmX2 hown hK hP hD hS 0 rfl rfl 4 (by decide) (hts (.fieldLink RX2 32 "FallingWords$Reach" "ends" "I") (by decide +kernel)) (fun _ h9 => h9) rfl (by decide +kernel) rfl rfl (Nat.le_of_ble_eq_true rfl) dX2_run_20 (fun H locs hP hD hS => ?_)
  have hP : va_P D vwCl (gRe cA Br WR SE'_5 (nI 0) (nI 0) (nI 0) fe le ++ gRu cA B L R LL RL TM (nI (S 1))) H := hP
  have hD : va_D AY (gRe cA Br WR SE'_5 (nI 0) (nI 0) (nI 0) fe le ++ gRu cA B L R LL RL TM (nI (S 1))) := hD
  refine lv_aload_n hx hb dX2_run_23 rfl (lv_at hl 0 rfl) ?_
  refine lv_iload_n hx hb dX2_run_24 rfl (lv_at hl 2 rfl) ?_
  refine cv_V (As := [.int (nI w)]) (rest := []) h0 hK hN hP hD hS hA hl.1 (k_X2_add lY D cA Br (((fun _ => 0), 0) : Acc) WR SE'_5 (nI 0) fe le w (re_0 f1_5) (hw)) [0, 1, 2] rfl (by decide) (cwV 1 hts gX2_run_X2_add rfl rfl rfl (by decide +kernel) ⟨Nat.le_of_ble_eq_true rfl, Nat.le_of_ble_eq_true rfl⟩) (cl_recv (ci := 2) (q := (RX2, TX2, 7)) (q0 := 0) hP hK rfl rfl) rfl rfl (Nat.le_of_ble_eq_true rfl) dX2_run_25 ⟨Nat.zero_le _, Nat.zero_le _⟩ (fun wY H locs hwY hJ hS => ?_)
  obtain ⟨WR'_25, SE'_25, e2Y, fr_25⟩ := hwY
  have e3Y := e2Y.symm
  clear e2Y
  subst e3Y
  obtain ⟨hP, hD⟩ := hJ rfl
  have hP : va_P D vwCl (gRe cA Br WR'_25 SE'_25 (nI (min (addR (((fun _ => 0), 0) : Acc) w).2 400)) (bI (decide ((addR (((fun _ => 0), 0) : Acc) w).2 = 401))) (nI 0) fe le ++ gRu cA B L R LL RL TM (nI (S 1))) H := hP
  have hD : va_D AY (gRe cA Br WR'_25 SE'_25 (nI (min (addR (((fun _ => 0), 0) : Acc) w).2 400)) (bI (decide ((addR (((fun _ => 0), 0) : Acc) w).2 = 401))) (nI 0) fe le ++ gRu cA B L R LL RL TM (nI (S 1))) := hD
  refine lv_iconst (v := nI 0) hx hb dX2_run_28 (by decide +kernel) ?_
  refine lv_istore_n (lv' := [(3, .int (nI 0)), (0, .ref (Br 0)), (1, .ref (B 0)), (2, .int (nI w))]) hx hb dX2_run_29 rfl hl (by decide) rfl (fun ls hl => ?_)
  have L30 : ∀ (nY : Nat), ∀ (i : Nat) (c1 : Acc) (WQ : Nat → Int32) (SQ : Nat → Int32) (en1 : Int32) (fe1 : Int32) (le1 : Int32), (i ≤ c1.2) → (i ≤ 400) → (rRe c1 WQ SQ) → (bfF S (402 - i) i c1 = bfs S w) → (rEn S c1.1 i en1 fe1 le1) → (401 - i < nY) → ∀ (H : Heap) (locs : List Loc) (ls : Array Slot), va_P D vwCl (gRe cA Br WQ SQ (nI (min c1.2 400)) (bI (decide (c1.2 = 401))) en1 fe1 le1 ++ gRu cA B L R LL RL TM (nI (S 1))) H → va_D AY (gRe cA Br WQ SQ (nI (min c1.2 400)) (bI (decide (c1.2 = 401))) en1 fe1 le1 ++ gRu cA B L R LL RL TM (nI (S 1))) → va_S AY sY.heap H locs → lv_has ls 4 [(0, .ref (Br 0)), (1, .ref (B 0)), (2, .int (nI w)), (3, .int (nI i))] → W pY lY eY { frames := 3, cells := 0, slots := 0, locals := 76 } sY mY aY bY tY cY H locs 0 0 QY (F0 mY 30 ls []) := by
    intro nY30
    induction nY30 with
    | zero => intro i c1 WQ SQ en1 fe1 le1 hi hi4 hrc hbf hE hm30; exact absurd hm30 (Nat.not_lt_zero _)
    | succ nY30 ih30 =>
      intro i c1 WQ SQ en1 fe1 le1 hi hi4 hrc hbf hE hm30 H locs ls hP hD hS hl
      have hc401 := hrc.1
      refine lv_iload_n hx hb dX2_run_30 rfl (lv_at hl 3 rfl) ?_
      refine lv_aload_n hx hb dX2_run_31 rfl (lv_at hl 0 rfl) ?_
      refine va_get (D := D) (ci := 2) (v := .int (nI (min c1.2 400))) (C := RX2) (T := TX2) (N := 7) hx hb hts hi_X2_run_X2 hown hK hP 0 rfl rfl 2 (by decide) (hts (.fieldLink RX2 24 "FallingWords$Reach" "size" "I") (by decide +kernel)) (fun _ h9 => h9) rfl dX2_run_32 ?_
      refine xc_ge (tgt := 69) hx hb dX2_run_35 (by decide) (by omega) (by omega) (fun c35 => ?_) (fun c35 => ?_)
      · have hfin : bfs S w = c1 := by rw [← hbf, show 402 - i = (402 - (i + 1)) + 1 by omega, bfF, if_neg (by omega)]
        exact hret _ _ _ _ _ dX2_run_69 ⟨WQ, SQ, en1, fe1, le1, (by rw [hfin]), (by rw [hfin]; exact hrc), (fun h => by rw [hfin] at h ⊢; rw [show c1.2 = i by omega]; exact hE)⟩ hP hD hS
      · refine lv_iload_n hx hb dX2_run_38 rfl (lv_at hl 3 rfl) ?_
        refine lv_sipush (v := nI 400) hx hb dX2_run_39 (by decide +kernel) ?_
        refine xc_ge (tgt := 69) hx hb dX2_run_42 (by decide) (by omega) (by omega) (fun c42 => ?_) (fun c42 => ?_)
        · exact absurd c42 (by omega)
        · refine lv_aload_n hx hb dX2_run_45 rfl (lv_at hl 0 rfl) ?_
          refine va_get (D := D) (ci := 2) (v := .int (bI (decide (c1.2 = 401)))) (C := RX2) (T := TX2) (N := 7) hx hb hts hi_X2_run_X2 hown hK hP 0 rfl rfl 3 (by decide) (hts (.fieldLink RX2 28 "FallingWords$Reach" "tooMany" "Z") (by decide +kernel)) (fun _ h9 => h9) rfl dX2_run_46 ?_
          refine xb_ne (tgt := 69) hx hb dX2_run_49 (by decide) (fun c49 => ?_) (fun c49 => ?_)
          · have hT := of_decide_eq_true c49
            have hfin : bfs S w = c1 := by rw [← hbf, show 402 - i = (402 - (i + 1)) + 1 by omega, bfF, if_neg (by omega)]
            exact hret _ _ _ _ _ dX2_run_69 ⟨WQ, SQ, en1, fe1, le1, (by rw [hfin]), (by rw [hfin]; exact hrc), (fun h => by rw [hfin] at h ⊢; omega)⟩ hP hD hS
          · have hT := of_decide_eq_false c49
            have hvi := hrc.2.2.1 i (by omega)
            have hBi := vw_B hvi (by decide)
            obtain ⟨g1, g2, g3⟩ := gP_le (S := S) (w := c1.1 i) hc401 (len (c1.1 i))
            have hel := enF_le (S := S) (f := c1.1) i
            rw [hE.1] at hP hD
            have hP : va_P D vwCl (gRe cA Br WQ SQ (nI (min c1.2 400)) (bI (decide (c1.2 = 401))) (nI ((enF S c1.1 i).1)) fe1 le1 ++ gRu cA B L R LL RL TM (nI (S 1))) H := hP
            have hD : va_D AY (gRe cA Br WQ SQ (nI (min c1.2 400)) (bI (decide (c1.2 = 401))) (nI ((enF S c1.1 i).1)) fe1 le1 ++ gRu cA B L R LL RL TM (nI (S 1))) := hD
            refine lv_aload_n hx hb dX2_run_52 rfl (lv_at hl 0 rfl) ?_
            refine lv_aload_n hx hb dX2_run_53 rfl (lv_at hl 0 rfl) ?_
            refine va_get (D := D) (ci := 2) (v := .ref (Br 1)) (C := RX2) (T := TX2) (N := 7) hx hb hts hi_X2_run_X2 hown hK hP 0 rfl rfl 0 (by decide) (hts (.fieldLink RX2 9 "FallingWords$Reach" "words" "[I") (by decide +kernel)) (fun _ h9 => h9) rfl dX2_run_54 ?_
            refine lv_iload_n hx hb dX2_run_57 rfl (lv_at hl 3 rfl) ?_
            refine xa_ld (v := nI (c1.1 i)) hx hb hK hP 1 rfl (by omega) (by decide) (hrc.2.1 i (by omega)) dX2_run_58 ?_
            refine lv_aload_n hx hb dX2_run_59 rfl (lv_at hl 1 rfl) ?_
            refine cv_V (As := [.int (nI (c1.1 i)), .ref (B 0)]) (rest := []) h0 hK hN hP hD hS hA hl.1 (k_X2_addAllFrom lY D cA Br B c1 WQ SQ fe1 le1 S L R LL RL TM (c1.1 i) ((enF S c1.1 i).1) ((enF S c1.1 i).2.1) ((enF S c1.1 i).2.2) (hI) (hrr) (hrc) (hvi) (by omega) (hE.2)) [0, 1, 2, 3, 4, 5, 6, 7, 8] rfl (by decide) (cwV 2 hts gX2_run_X2_addAllFrom rfl rfl rfl (by decide +kernel) ⟨Nat.le_of_ble_eq_true rfl, Nat.le_of_ble_eq_true rfl⟩) (cl_recv (ci := 2) (q := (RX2, TX2, 7)) (q0 := 0) hP hK rfl rfl) rfl rfl (Nat.le_of_ble_eq_true rfl) dX2_run_60 ⟨Nat.zero_le _, Nat.zero_le _⟩ (fun wY H locs hwY hJ hS => ?_)
            obtain ⟨WR'_60, SE'_60, en'_60, fe'_60, le'_60, e2Y, fr_60, f1_60, f2_60⟩ := hwY
            have e3Y := e2Y.symm
            clear e2Y
            subst e3Y
            obtain ⟨hP, hD⟩ := hJ rfl
            have hP : va_P D vwCl (gRe cA Br WR'_60 SE'_60 (nI (min (gP S (c1.1 i) c1 (len (c1.1 i))).2 400)) (bI (decide ((gP S (c1.1 i) c1 (len (c1.1 i))).2 = 401))) en'_60 fe'_60 le'_60 ++ gRu cA B L R LL RL TM (nI (S 1))) H := hP
            have hD : va_D AY (gRe cA Br WR'_60 SE'_60 (nI (min (gP S (c1.1 i) c1 (len (c1.1 i))).2 400)) (bI (decide ((gP S (c1.1 i) c1 (len (c1.1 i))).2 = 401))) en'_60 fe'_60 le'_60 ++ gRu cA B L R LL RL TM (nI (S 1))) := hD
            refine lv_iinc (v := nI (i + 1)) (lv' := [(3, .int (nI (i + 1))), (0, .ref (Br 0)), (1, .ref (B 0)), (2, .int (nI w))]) hx hb dX2_run_63 hl (k := 3) rfl (show nI i + Int32.ofInt 1 = nI (i + 1) from nI_add i 1) (by decide) rfl (fun ls hl => ?_)
            refine lv_goto (tgt := 30) hx hb dX2_run_66 (by decide) ?_
            exact ih30 (i + 1) (gP S (c1.1 i) c1 (len (c1.1 i))) WR'_60 SE'_60 en'_60 fe'_60 le'_60 (by omega) (by omega) (fr_60) (by rw [← hbf, show 402 - i = (402 - (i + 1)) + 1 by omega, bfF, if_pos ⟨by omega, by omega⟩]) (rEn_s hE (fun j hj => g3 j (by omega)) (by omega) f1_60 f2_60) (by omega) _ _ _ hP hD hS (lv_sub hl [1, 2, 3, 0] rfl)
  exact L30 _ 0 (addR (((fun _ => 0), 0) : Acc) w) WR'_25 SE'_25 (nI 0) fe le (by omega) (by omega) (fr_25) (by unfold bfs; rw [sl_eq, ad_0]) (⟨rfl, fun h => absurd h (Nat.lt_irrefl 0)⟩) (Nat.lt_succ_self _) _ _ _ hP hD hS (lv_sub hl [1, 2, 3, 0] rfl)
