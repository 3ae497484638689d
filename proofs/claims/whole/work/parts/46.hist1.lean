/-! the history -/
def hq (a b c d : Nat) : Nat → Option Nat := fun i => match i with
  | 0 => some a
  | 1 => some b
  | 2 => some c
  | 3 => some d
  | _ => none
theorem hq_u0 {a b c d x : Nat} : va_up (hq a b c d) 0 (some x) = hq x b c d := by funext i; match i with | 0 => rfl | 1 => rfl | 2 => rfl | 3 => rfl | i + 4 => rfl
theorem hq_u1 {a b c d x : Nat} : va_up (hq a b c d) 1 (some x) = hq a x c d := by funext i; match i with | 0 => rfl | 1 => rfl | 2 => rfl | 3 => rfl | i + 4 => rfl
theorem hq_u2 {a b c d x : Nat} : va_up (hq a b c d) 2 (some x) = hq a b x d := by funext i; match i with | 0 => rfl | 1 => rfl | 2 => rfl | 3 => rfl | i + 4 => rfl
theorem hq_u3 {a b c d x : Nat} : va_up (hq a b c d) 3 (some x) = hq a b c x := by funext i; match i with | 0 => rfl | 1 => rfl | 2 => rfl | 3 => rfl | i + 4 => rfl
section QR
variable {p : Program} {l : Launch} {e : Env} {R : Room} {s : State} {m : MethodId} {args : Array Value} {below : List Frame} {meth : Method} {c : Code} {H : Heap} {locs : List Loc} {cells slots : Nat} {Q : State → Prop}
variable {cc : ByteArray} {pc : Nat} {ls : Array Slot} {rest : List Value} {D : va_G} {cA : Nat → ClassId} {A : Nat → Prop} {ws : va_W} {H0 : Heap} {q k v : Nat} {f : Nat → Option Nat}
theorem xa_qld (hexec : p.tables.exec = Jvm.exec) (hb : c.code = cc) (hK : va_K D vwCl (tyS cA) s) (hP : va_P D vwCl ws H) (q0 : Nat) (he : ws[q0]? = some (q, .inl (cA 2, 4, .inr (.inr (.inr (.inr f)))))) (hk : k < 4) (hv : f k = some v) (hdg : decode cc pc = .ok (.aaload, 1)) (kk : W p l e R s m args below meth c H locs cells slots Q (F0 m (pc + 1) ls (.ref v :: rest))) : W p l e R s m args below meth c H locs cells slots Q (F0 m pc ls (.int (nI k) :: .ref q :: rest)) := by
  refine va_aldq hexec hb hK hP q0 2 he rfl (vp_in_nI hk (by decide)) hdg ?_
  rw [nI_clamp (by omega), hv]
  exact kk
theorem xa_qst (hexec : p.tables.exec = Jvm.exec) (hb : c.code = cc) (hK : va_K D vwCl (tyS cA) s) (hP : va_P D vwCl ws H) (hD : va_D A ws) (hS : va_S A H0 H locs) (q0 qk : Nat) {vs : List Value} (he : ws[q0]? = some (q, .inl (cA 2, 4, .inr (.inr (.inr (.inr f)))))) (hv : ws[qk]? = some (v, .inr (6, vs))) (hk : k < 4) (hdg : decode cc pc = .ok (.aastore, 1))
    (kk : ∀ (H1 : Heap) (locs1 : List Loc), va_P D vwCl (ws.set q0 (q, .inl (cA 2, 4, .inr (.inr (.inr (.inr (va_up f k (some v)))))))) H1 → va_D A (ws.set q0 (q, .inl (cA 2, 4, .inr (.inr (.inr (.inr (va_up f k (some v)))))))) → va_S A H0 H1 locs1 → W p l e R s m args below meth c H1 locs1 cells slots Q (F0 m (pc + 1) ls rest)) : W p l e R s m args below meth c H locs cells slots Q (F0 m pc ls (.ref v :: .int (nI k) :: .ref q :: rest)) := by
  refine va_astq (r := (RX6, TX6, 6)) hexec hb hK hP hD hS q0 2 qk 6 he rfl hv rfl (vp_in_nI hk (by decide)) hdg ?_
  rw [nI_clamp (by omega)]
  exact kk
end QR
def fF (a b c d e f g : Nat → Int32) : Nat → Nat → Int32 := fun k => match k with
  | 0 => a
  | 1 => b
  | 2 => c
  | 3 => d
  | 4 => e
  | 5 => f
  | _ => g
def xF (a b c d e f : Int32) : Nat → Int32 := fun k => match k with
  | 0 => a
  | 1 => b
  | 2 => c
  | 3 => d
  | 4 => e
  | _ => f
/-- a place of the history holds a state -/
def rX (S : St) (F : Nat → Nat → Int32) (x : Nat → Int32) : Prop := x 0 = nI (S 0) ∧ x 1 = nI (S 2) ∧ x 2 = nI (S 4) ∧ x 3 = nI (S 5) ∧ x 4 = nI (S 1) ∧ x 5 = nI (S 3) ∧ rRu S (F 0) (F 1) (F 2) (F 3) (F 4) ∧ rSo S (F 5) (F 6)
def rHi (h : Nat → St) (n : Nat) (F0 : Nat → Nat → Int32) (x0 : Nat → Int32) (F1 : Nat → Nat → Int32) (x1 : Nat → Int32) (F2 : Nat → Nat → Int32) (x2 : Nat → Int32) (F3 : Nat → Nat → Int32) (x3 : Nat → Int32) : Prop := (0 < n → rX (h 0) F0 x0) ∧ (1 < n → rX (h 1) F1 x1) ∧ (2 < n → rX (h 2) F2 x2) ∧ (3 < n → rX (h 3) F3 x3)
def psh (h : Nat → St) (n : Nat) (S : St) : Nat → St := fun i => if n = 4 then (if i = 3 then S else h (i + 1)) else if i = n then S else h i
theorem rX_cN {S : St} {L R LL RL TM WW NN L' R' LL' RL' TM' WW' NN' : Nat → Int32} (hI : IV S) (hr : rRu S L R LL RL TM) (ho : rSo S WW NN) (h1 : cN 10 L' L) (h2 : cN 10 R' R) (h3 : cN 10 LL' LL) (h4 : cN 10 RL' RL) (h5 : cN 10 TM' TM) (h6 : cN 8 WW' WW) (h7 : cN 8 NN' NN) : rX S (fF L' R' LL' RL' TM' WW' NN') (xF (nI (S 0)) (nI (S 2)) (nI (S 4)) (nI (S 5)) (nI (S 1)) (nI (S 3))) := ⟨rfl, rfl, rfl, rfl, rfl, rfl, rRu_cN hr hI.1.1 h1 h2 h3 h4 h5, rSo_cN ho hI.2.1 h6 h7⟩
theorem psh_n {h : Nat → St} {n : Nat} {S : St} (hn : n < 4) : psh h n S n = S := by unfold psh; rw [if_neg (by omega), if_pos rfl]
theorem psh_o {h : Nat → St} {n i : Nat} {S : St} (hn : n < 4) (hi : i ≠ n) : psh h n S i = h i := by unfold psh; rw [if_neg (by omega), if_neg hi]
theorem psh_4 {h : Nat → St} {i : Nat} {S : St} (hi : i < 3) : psh h 4 S i = h (i + 1) := by unfold psh; rw [if_pos rfl, if_neg (by omega)]
theorem psh_43 {h : Nat → St} {S : St} : psh h 4 S 3 = S := by unfold psh; rw [if_pos rfl, if_pos rfl]

abbrev gHi (cA : Nat → ClassId) (B : Nat → Nat) (a0 : Nat) (a1 : Nat) (a2 : Nat) (a3 : Nat) (sz : Int32) : va_W := [(B 0, .inr (0, [.ref (B 1), .int sz])), (B 1, .inl (cA 2, 4, .inr (.inr (.inr (.inr (hq a0 a1 a2 a3))))))]
set_option maxHeartbeats 1000000 in
set_option maxRecDepth 100000 in
theorem kr_X6_takeOver (lY : Launch) (D : va_G) (cA : Nat → ClassId) (B B2 : Nat → Nat) (wo cho tak stp : Int32) (L R LL RL TM WW NN : Nat → Int32) (z zs : Int32) (wo2 cho2 tak2 stp2 z2 zs2 : Int32) (L2 R2 LL2 RL2 TM2 WW2 NN2 : Nat → Int32)  : MetV lY D cA yX6_takeOver wsX6_takeOver 2 41 0 0 [.ref (B 0), .ref (B2 0)] (gSa cA B wo cho tak stp L R LL RL TM z WW NN zs ++ gSa cA B2 wo2 cho2 tak2 stp2 L2 R2 LL2 RL2 TM2 z2 WW2 NN2 zs2) (fun wY => ∃ (L' : Nat → Int32) (R' : Nat → Int32) (LL' : Nat → Int32) (RL' : Nat → Int32) (TM' : Nat → Int32) (WW' : Nat → Int32) (NN' : Nat → Int32), wY = gSa cA B wo2 cho2 tak2 stp2 L' R' LL' RL' TM' z2 WW' NN' zs2 ++ gSa cA B2 wo2 cho2 tak2 stp2 L2 R2 LL2 RL2 TM2 z2 WW2 NN2 zs2 ∧ (cN 10 L' L2) ∧ (cN 10 R' R2) ∧ (cN 10 LL' LL2) ∧ (cN 10 RL' RL2) ∧ (cN 10 TM' TM2) ∧ (cN 8 WW' WW2) ∧ (cN 8 NN' NN2)) := by
  refine MetV.of (cc := cX6_takeOver) (maxL := 2) (by decide) rfl (Nat.le_of_ble_eq_true rfl) ?_
  intro pY eY sY mY aY bY tY cY QY AY ls h0 hP hK hN hD hA hS hl hin hret
  obtain ⟨hx, hb, hml, hown, hts⟩ := id h0
  have hl : lv_has ls 2 [(0, .ref (B 0)), (1, .ref (B2 0))] := hl
  have hP : va_P D vwCl (gSa cA B wo cho tak stp L R LL RL TM z WW NN zs ++ gSa cA B2 wo2 cho2 tak2 stp2 L2 R2 LL2 RL2 TM2 z2 WW2 NN2 zs2) sY.heap := hP
  have hD : va_D AY (gSa cA B wo cho tak stp L R LL RL TM z WW NN zs ++ gSa cA B2 wo2 cho2 tak2 stp2 L2 R2 LL2 RL2 TM2 z2 WW2 NN2 zs2) := hD
  refine lv_aload_n hx hb dX6_takeOver_0 rfl (lv_at hl 0 rfl) ?_
  refine va_get (D := D) (ci := 6) (v := .ref (B 1)) (C := RX6) (T := TX6) (N := 6) hx hb hts hi_X6_takeOver_X6 hown hK hP 0 rfl rfl 0 (by decide) (hts (.fieldLink RX6 12 "FallingWords$State" "rules" "LFallingWords$Rules;") (by decide +kernel)) (fun _ h9 => h9) rfl dX6_takeOver_1 ?_
  refine lv_aload_n hx hb dX6_takeOver_4 rfl (lv_at hl 1 rfl) ?_
  refine va_get (D := D) (ci := 6) (v := .ref (B2 1)) (C := RX6) (T := TX6) (N := 6) hx hb hts hi_X6_takeOver_X6 hown hK hP 10 rfl rfl 0 (by decide) (hts (.fieldLink RX6 12 "FallingWords$State" "rules" "LFallingWords$Rules;") (by decide +kernel)) (fun _ h9 => h9) rfl dX6_takeOver_5 ?_
  refine cv_VN (As := [.ref (B2 1)]) (rest := []) h0 hK hN hP hD hS hA hl.1 (k_X4_takeOver lY D cA (fun i => B (i + 1)) (fun i => B2 (i + 1)) L R LL RL TM L2 R2 LL2 RL2 TM2 z z2 ) [1, 2, 3, 4, 5, 6, 11, 12, 13, 14, 15, 16] rfl (by decide) ⟨(va_cnB 1 hts gX6_takeOver_X4_takeOver_n34 rfl rfl rfl (hN (.methodLinkNest RX6 34 yX4_takeOver "FallingWords") (by decide +kernel)) (hts (.initialized RX4) (by decide +kernel)) (by decide +kernel) ⟨Nat.le_of_ble_eq_true rfl, Nat.le_of_ble_eq_true rfl⟩), hts (.instanceMethod yX4_takeOver) (by decide +kernel), hts (.selects RX4 yX4_takeOver yX4_takeOver) (by decide +kernel)⟩ (cl_recv (ci := 4) (q := (RX4, TX4, 6)) (q0 := 1) hP hK rfl rfl) rfl rfl (Nat.le_of_ble_eq_true rfl) dX6_takeOver_8 ⟨Nat.zero_le _, Nat.zero_le _⟩ (fun wY H locs hwY hJ hS => ?_)
  obtain ⟨L'_8, R'_8, LL'_8, RL'_8, TM'_8, e2Y, f0_8, f1_8, f2_8, f3_8, f4_8⟩ := hwY
  have e3Y := e2Y.symm
  clear e2Y
  subst e3Y
  obtain ⟨hP, hD⟩ := hJ rfl
  have hP : va_P D vwCl (gSa cA B wo cho tak stp L'_8 R'_8 LL'_8 RL'_8 TM'_8 z2 WW NN zs ++ gSa cA B2 wo2 cho2 tak2 stp2 L2 R2 LL2 RL2 TM2 z2 WW2 NN2 zs2) H := hP
  have hD : va_D AY (gSa cA B wo cho tak stp L'_8 R'_8 LL'_8 RL'_8 TM'_8 z2 WW NN zs ++ gSa cA B2 wo2 cho2 tak2 stp2 L2 R2 LL2 RL2 TM2 z2 WW2 NN2 zs2) := hD
  refine lv_aload_n hx hb dX6_takeOver_11 rfl (lv_at hl 0 rfl) ?_
  refine va_get (D := D) (ci := 6) (v := .ref (B 7)) (C := RX6) (T := TX6) (N := 6) hx hb hts hi_X6_takeOver_X6 hown hK hP 0 rfl rfl 1 (by decide) (hts (.fieldLink RX6 21 "FallingWords$State" "store" "LFallingWords$Store;") (by decide +kernel)) (fun _ h9 => h9) rfl dX6_takeOver_12 ?_
  refine lv_aload_n hx hb dX6_takeOver_15 rfl (lv_at hl 1 rfl) ?_
  refine va_get (D := D) (ci := 6) (v := .ref (B2 7)) (C := RX6) (T := TX6) (N := 6) hx hb hts hi_X6_takeOver_X6 hown hK hP 10 rfl rfl 1 (by decide) (hts (.fieldLink RX6 21 "FallingWords$State" "store" "LFallingWords$Store;") (by decide +kernel)) (fun _ h9 => h9) rfl dX6_takeOver_16 ?_
  refine cv_VN (As := [.ref (B2 7)]) (rest := []) h0 hK hN hP hD hS hA hl.1 (k_X7_takeOver lY D cA (fun i => B (i + 7)) (fun i => B2 (i + 7)) WW NN WW2 NN2 zs zs2 ) [7, 8, 9, 17, 18, 19] rfl (by decide) ⟨(va_cnB 1 hts gX6_takeOver_X7_takeOver_n38 rfl rfl rfl (hN (.methodLinkNest RX6 38 yX7_takeOver "FallingWords") (by decide +kernel)) (hts (.initialized RX7) (by decide +kernel)) (by decide +kernel) ⟨Nat.le_of_ble_eq_true rfl, Nat.le_of_ble_eq_true rfl⟩), hts (.instanceMethod yX7_takeOver) (by decide +kernel), hts (.selects RX7 yX7_takeOver yX7_takeOver) (by decide +kernel)⟩ (cl_recv (ci := 7) (q := (RX7, TX7, 3)) (q0 := 7) hP hK rfl rfl) rfl rfl (Nat.le_of_ble_eq_true rfl) dX6_takeOver_19 ⟨Nat.zero_le _, Nat.zero_le _⟩ (fun wY H locs hwY hJ hS => ?_)
  obtain ⟨WW'_19, NN'_19, e2Y, f1_19, f2_19⟩ := hwY
  have e3Y := e2Y.symm
  clear e2Y
  subst e3Y
  obtain ⟨hP, hD⟩ := hJ rfl
  have hP : va_P D vwCl (gSa cA B wo cho tak stp L'_8 R'_8 LL'_8 RL'_8 TM'_8 z2 WW'_19 NN'_19 zs2 ++ gSa cA B2 wo2 cho2 tak2 stp2 L2 R2 LL2 RL2 TM2 z2 WW2 NN2 zs2) H := hP
  have hD : va_D AY (gSa cA B wo cho tak stp L'_8 R'_8 LL'_8 RL'_8 TM'_8 z2 WW'_19 NN'_19 zs2 ++ gSa cA B2 wo2 cho2 tak2 stp2 L2 R2 LL2 RL2 TM2 z2 WW2 NN2 zs2) := hD
  refine lv_aload_n hx hb dX6_takeOver_22 rfl (lv_at hl 0 rfl) ?_
  refine lv_aload_n hx hb dX6_takeOver_23 rfl (lv_at hl 1 rfl) ?_
  refine va_get (D := D) (ci := 6) (v := .int wo2) (C := RX6) (T := TX6) (N := 6) hx hb hts hi_X6_takeOver_X6 hown hK hP 10 rfl rfl 2 (by decide) (hts (.fieldLink RX6 27 "FallingWords$State" "word" "I") (by decide +kernel)) (fun _ h9 => h9) rfl dX6_takeOver_24 ?_
  refine va_put (D := D) (ci := 6) (v := .int wo2) (ty := .int) (C := RX6) (T := TX6) (N := 6) hx hb hts hi_X6_takeOver_X6 tyX6 tyX6_ok nmX6 hown hK hP hD hS 0 rfl rfl 2 (by decide) (hts (.fieldLink RX6 27 "FallingWords$State" "word" "I") (by decide +kernel)) (fun _ h9 => h9) rfl (by decide +kernel) rfl rfl (Nat.le_of_ble_eq_true rfl) dX6_takeOver_27 (fun H locs hP hD hS => ?_)
  have hP : va_P D vwCl (gSa cA B wo2 cho tak stp L'_8 R'_8 LL'_8 RL'_8 TM'_8 z2 WW'_19 NN'_19 zs2 ++ gSa cA B2 wo2 cho2 tak2 stp2 L2 R2 LL2 RL2 TM2 z2 WW2 NN2 zs2) H := hP
  have hD : va_D AY (gSa cA B wo2 cho tak stp L'_8 R'_8 LL'_8 RL'_8 TM'_8 z2 WW'_19 NN'_19 zs2 ++ gSa cA B2 wo2 cho2 tak2 stp2 L2 R2 LL2 RL2 TM2 z2 WW2 NN2 zs2) := hD
  refine lv_aload_n hx hb dX6_takeOver_30 rfl (lv_at hl 0 rfl) ?_
  refine lv_aload_n hx hb dX6_takeOver_31 rfl (lv_at hl 1 rfl) ?_
  refine va_get (D := D) (ci := 6) (v := .int cho2) (C := RX6) (T := TX6) (N := 6) hx hb hts hi_X6_takeOver_X6 hown hK hP 10 rfl rfl 3 (by decide) (hts (.fieldLink RX6 31 "FallingWords$State" "choosing" "I") (by decide +kernel)) (fun _ h9 => h9) rfl dX6_takeOver_32 ?_
  refine va_put (D := D) (ci := 6) (v := .int cho2) (ty := .int) (C := RX6) (T := TX6) (N := 6) hx hb hts hi_X6_takeOver_X6 tyX6 tyX6_ok nmX6 hown hK hP hD hS 0 rfl rfl 3 (by decide) (hts (.fieldLink RX6 31 "FallingWords$State" "choosing" "I") (by decide +kernel)) (fun _ h9 => h9) rfl (by decide +kernel) rfl rfl (Nat.le_of_ble_eq_true rfl) dX6_takeOver_35 (fun H locs hP hD hS => ?_)
  have hP : va_P D vwCl (gSa cA B wo2 cho2 tak stp L'_8 R'_8 LL'_8 RL'_8 TM'_8 z2 WW'_19 NN'_19 zs2 ++ gSa cA B2 wo2 cho2 tak2 stp2 L2 R2 LL2 RL2 TM2 z2 WW2 NN2 zs2) H := hP
  have hD : va_D AY (gSa cA B wo2 cho2 tak stp L'_8 R'_8 LL'_8 RL'_8 TM'_8 z2 WW'_19 NN'_19 zs2 ++ gSa cA B2 wo2 cho2 tak2 stp2 L2 R2 LL2 RL2 TM2 z2 WW2 NN2 zs2) := hD
  refine lv_aload_n hx hb dX6_takeOver_38 rfl (lv_at hl 0 rfl) ?_
  refine lv_aload_n hx hb dX6_takeOver_39 rfl (lv_at hl 1 rfl) ?_
  refine va_get (D := D) (ci := 6) (v := .int tak2) (C := RX6) (T := TX6) (N := 6) hx hb hts hi_X6_takeOver_X6 hown hK hP 10 rfl rfl 4 (by decide) (hts (.fieldLink RX6 41 "FallingWords$State" "taken" "I") (by decide +kernel)) (fun _ h9 => h9) rfl dX6_takeOver_40 ?_
  refine va_put (D := D) (ci := 6) (v := .int tak2) (ty := .int) (C := RX6) (T := TX6) (N := 6) hx hb hts hi_X6_takeOver_X6 tyX6 tyX6_ok nmX6 hown hK hP hD hS 0 rfl rfl 4 (by decide) (hts (.fieldLink RX6 41 "FallingWords$State" "taken" "I") (by decide +kernel)) (fun _ h9 => h9) rfl (by decide +kernel) rfl rfl (Nat.le_of_ble_eq_true rfl) dX6_takeOver_43 (fun H locs hP hD hS => ?_)
  have hP : va_P D vwCl (gSa cA B wo2 cho2 tak2 stp L'_8 R'_8 LL'_8 RL'_8 TM'_8 z2 WW'_19 NN'_19 zs2 ++ gSa cA B2 wo2 cho2 tak2 stp2 L2 R2 LL2 RL2 TM2 z2 WW2 NN2 zs2) H := hP
  have hD : va_D AY (gSa cA B wo2 cho2 tak2 stp L'_8 R'_8 LL'_8 RL'_8 TM'_8 z2 WW'_19 NN'_19 zs2 ++ gSa cA B2 wo2 cho2 tak2 stp2 L2 R2 LL2 RL2 TM2 z2 WW2 NN2 zs2) := hD
  refine lv_aload_n hx hb dX6_takeOver_46 rfl (lv_at hl 0 rfl) ?_
  refine lv_aload_n hx hb dX6_takeOver_47 rfl (lv_at hl 1 rfl) ?_
  refine va_get (D := D) (ci := 6) (v := .int stp2) (C := RX6) (T := TX6) (N := 6) hx hb hts hi_X6_takeOver_X6 hown hK hP 10 rfl rfl 5 (by decide) (hts (.fieldLink RX6 44 "FallingWords$State" "steps" "I") (by decide +kernel)) (fun _ h9 => h9) rfl dX6_takeOver_48 ?_
  refine va_put (D := D) (ci := 6) (v := .int stp2) (ty := .int) (C := RX6) (T := TX6) (N := 6) hx hb hts hi_X6_takeOver_X6 tyX6 tyX6_ok nmX6 hown hK hP hD hS 0 rfl rfl 5 (by decide) (hts (.fieldLink RX6 44 "FallingWords$State" "steps" "I") (by decide +kernel)) (fun _ h9 => h9) rfl (by decide +kernel) rfl rfl (Nat.le_of_ble_eq_true rfl) dX6_takeOver_51 (fun H locs hP hD hS => ?_)
  have hP : va_P D vwCl (gSa cA B wo2 cho2 tak2 stp2 L'_8 R'_8 LL'_8 RL'_8 TM'_8 z2 WW'_19 NN'_19 zs2 ++ gSa cA B2 wo2 cho2 tak2 stp2 L2 R2 LL2 RL2 TM2 z2 WW2 NN2 zs2) H := hP
  have hD : va_D AY (gSa cA B wo2 cho2 tak2 stp2 L'_8 R'_8 LL'_8 RL'_8 TM'_8 z2 WW'_19 NN'_19 zs2 ++ gSa cA B2 wo2 cho2 tak2 stp2 L2 R2 LL2 RL2 TM2 z2 WW2 NN2 zs2) := hD
  exact hret _ _ _ _ _ dX6_takeOver_54 ⟨L'_8, R'_8, LL'_8, RL'_8, TM'_8, WW'_19, NN'_19, rfl, f0_8, f1_8, f2_8, f3_8, f4_8, f1_19, f2_19⟩ hP hD hS

theorem hi_X0_forgetOldest_X0 : ∀ w ∈ u_ws RX0 TX0 2, w ∈ wsX0_forgetOldest := by decide +kernel
set_option maxHeartbeats 1000000 in
set_option maxRecDepth 100000 in
theorem k_X0_forgetOldest (lY : Launch) (D : va_G) (cA : Nat → ClassId) (Bh : Nat → Nat) (E0 E1 E2 E3 : Nat → Nat) (F0 F1 F2 F3 : Nat → Nat → Int32) (x0 x1 x2 x3 : Nat → Int32) (n : Nat) (hn : 1 ≤ n) (hn4 : n ≤ 4) : MetV lY D cA yX0_forgetOldest wsX0_forgetOldest 0 0 0 0 [.ref (Bh 0)] (gHi cA Bh (E0 0) (E1 0) (E2 0) (E3 0) (nI n) ++ gSa cA E0 (x0 0) (x0 1) (x0 2) (x0 3) (F0 0) (F0 1) (F0 2) (F0 3) (F0 4) (x0 4) (F0 5) (F0 6) (x0 5) ++ gSa cA E1 (x1 0) (x1 1) (x1 2) (x1 3) (F1 0) (F1 1) (F1 2) (F1 3) (F1 4) (x1 4) (F1 5) (F1 6) (x1 5) ++ gSa cA E2 (x2 0) (x2 1) (x2 2) (x2 3) (F2 0) (F2 1) (F2 2) (F2 3) (F2 4) (x2 4) (F2 5) (F2 6) (x2 5) ++ gSa cA E3 (x3 0) (x3 1) (x3 2) (x3 3) (F3 0) (F3 1) (F3 2) (F3 3) (F3 4) (x3 4) (F3 5) (F3 6) (x3 5)) (fun wY => wY = gHi cA Bh (E1 0) (E2 0) (E3 0) (E0 0) (nI (n - 1)) ++ gSa cA E0 (x0 0) (x0 1) (x0 2) (x0 3) (F0 0) (F0 1) (F0 2) (F0 3) (F0 4) (x0 4) (F0 5) (F0 6) (x0 5) ++ gSa cA E1 (x1 0) (x1 1) (x1 2) (x1 3) (F1 0) (F1 1) (F1 2) (F1 3) (F1 4) (x1 4) (F1 5) (F1 6) (x1 5) ++ gSa cA E2 (x2 0) (x2 1) (x2 2) (x2 3) (F2 0) (F2 1) (F2 2) (F2 3) (F2 4) (x2 4) (F2 5) (F2 6) (x2 5) ++ gSa cA E3 (x3 0) (x3 1) (x3 2) (x3 3) (F3 0) (F3 1) (F3 2) (F3 3) (F3 4) (x3 4) (F3 5) (F3 6) (x3 5)) := by
  refine MetV.of (cc := cX0_forgetOldest) (maxL := 3) (by decide) rfl (Nat.le_of_ble_eq_true rfl) ?_
  intro pY eY sY mY aY bY tY cY QY AY ls h0 hP hK hN hD hA hS hl hin hret
  obtain ⟨hx, hb, hml, hown, hts⟩ := id h0
  have hl : lv_has ls 3 [(0, .ref (Bh 0))] := hl
  have hP : va_P D vwCl (gHi cA Bh (E0 0) (E1 0) (E2 0) (E3 0) (nI n) ++ gSa cA E0 (x0 0) (x0 1) (x0 2) (x0 3) (F0 0) (F0 1) (F0 2) (F0 3) (F0 4) (x0 4) (F0 5) (F0 6) (x0 5) ++ gSa cA E1 (x1 0) (x1 1) (x1 2) (x1 3) (F1 0) (F1 1) (F1 2) (F1 3) (F1 4) (x1 4) (F1 5) (F1 6) (x1 5) ++ gSa cA E2 (x2 0) (x2 1) (x2 2) (x2 3) (F2 0) (F2 1) (F2 2) (F2 3) (F2 4) (x2 4) (F2 5) (F2 6) (x2 5) ++ gSa cA E3 (x3 0) (x3 1) (x3 2) (x3 3) (F3 0) (F3 1) (F3 2) (F3 3) (F3 4) (x3 4) (F3 5) (F3 6) (x3 5)) sY.heap := hP
  have hD : va_D AY (gHi cA Bh (E0 0) (E1 0) (E2 0) (E3 0) (nI n) ++ gSa cA E0 (x0 0) (x0 1) (x0 2) (x0 3) (F0 0) (F0 1) (F0 2) (F0 3) (F0 4) (x0 4) (F0 5) (F0 6) (x0 5) ++ gSa cA E1 (x1 0) (x1 1) (x1 2) (x1 3) (F1 0) (F1 1) (F1 2) (F1 3) (F1 4) (x1 4) (F1 5) (F1 6) (x1 5) ++ gSa cA E2 (x2 0) (x2 1) (x2 2) (x2 3) (F2 0) (F2 1) (F2 2) (F2 3) (F2 4) (x2 4) (F2 5) (F2 6) (x2 5) ++ gSa cA E3 (x3 0) (x3 1) (x3 2) (x3 3) (F3 0) (F3 1) (F3 2) (F3 3) (F3 4) (x3 4) (F3 5) (F3 6) (x3 5)) := hD
  refine lv_aload_n hx hb dX0_forgetOldest_0 rfl (lv_at hl 0 rfl) ?_
  refine va_get (D := D) (ci := 0) (v := .ref (Bh 1)) (C := RX0) (T := TX0) (N := 2) hx hb hts hi_X0_forgetOldest_X0 hown hK hP 0 rfl rfl 0 (by decide) (hts (.fieldLink RX0 11 "FallingWords$History" "states" "[LFallingWords$State;") (by decide +kernel)) (fun _ h9 => h9) rfl dX0_forgetOldest_1 ?_
  refine lv_iconst (v := nI 0) hx hb dX0_forgetOldest_4 (by decide +kernel) ?_
  refine xa_qld (k := 0) (v := E0 0) hx hb hK hP 1 rfl (by decide) rfl dX0_forgetOldest_5 ?_
  refine lv_astore_n (lv' := [(1, .ref (E0 0)), (0, .ref (Bh 0))]) hx hb dX0_forgetOldest_6 rfl hl (by decide) rfl (fun ls hl => ?_)
  refine lv_iconst (v := nI 0) hx hb dX0_forgetOldest_7 (by decide +kernel) ?_
  refine lv_istore_n (lv' := [(2, .int (nI 0)), (1, .ref (E0 0)), (0, .ref (Bh 0))]) hx hb dX0_forgetOldest_8 rfl hl (by decide) rfl (fun ls hl => ?_)
  refine lv_iload_n hx hb dX0_forgetOldest_9 rfl (lv_at hl 0 rfl) ?_
  refine lv_iconst (v := nI 1) hx hb dX0_forgetOldest_10 (by decide +kernel) ?_
  refine lv_iadd hx hb dX0_forgetOldest_11 ?_
  refine xt (show (nI 0) + (nI 1) = nI 1 from nI_add _ _) ?_
  refine lv_iconst (v := nI 4) hx hb dX0_forgetOldest_12 (by decide +kernel) ?_
  refine xc_ge (tgt := 36) hx hb dX0_forgetOldest_13 (by decide) (by decide) (by decide) (fun c13 => ?_) (fun c13 => ?_)
  · exact absurd c13 (by decide)
  refine lv_aload_n hx hb dX0_forgetOldest_16 rfl (lv_at hl 2 rfl) ?_
  refine va_get (D := D) (ci := 0) (v := .ref (Bh 1)) (C := RX0) (T := TX0) (N := 2) hx hb hts hi_X0_forgetOldest_X0 hown hK hP 0 rfl rfl 0 (by decide) (hts (.fieldLink RX0 11 "FallingWords$History" "states" "[LFallingWords$State;") (by decide +kernel)) (fun _ h9 => h9) rfl dX0_forgetOldest_17 ?_
  refine lv_iload_n hx hb dX0_forgetOldest_20 rfl (lv_at hl 0 rfl) ?_
  refine lv_aload_n hx hb dX0_forgetOldest_21 rfl (lv_at hl 2 rfl) ?_
  refine va_get (D := D) (ci := 0) (v := .ref (Bh 1)) (C := RX0) (T := TX0) (N := 2) hx hb hts hi_X0_forgetOldest_X0 hown hK hP 0 rfl rfl 0 (by decide) (hts (.fieldLink RX0 11 "FallingWords$History" "states" "[LFallingWords$State;") (by decide +kernel)) (fun _ h9 => h9) rfl dX0_forgetOldest_22 ?_
  refine lv_iload_n hx hb dX0_forgetOldest_25 rfl (lv_at hl 0 rfl) ?_
  refine lv_iconst (v := nI 1) hx hb dX0_forgetOldest_26 (by decide +kernel) ?_
  refine lv_iadd hx hb dX0_forgetOldest_27 ?_
  refine xt (show (nI 0) + (nI 1) = nI 1 from nI_add _ _) ?_
  refine xa_qld (k := 1) (v := E1 0) hx hb hK hP 1 rfl (by decide) rfl dX0_forgetOldest_28 ?_
  refine xa_qst (k := 0) hx hb hK hP hD hS 1 12 rfl rfl (by decide) dX0_forgetOldest_29 (fun H locs hP hD hS => ?_)
  rw [hq_u0] at hP hD
  have hP : va_P D vwCl (gHi cA Bh (E1 0) (E1 0) (E2 0) (E3 0) (nI n) ++ gSa cA E0 (x0 0) (x0 1) (x0 2) (x0 3) (F0 0) (F0 1) (F0 2) (F0 3) (F0 4) (x0 4) (F0 5) (F0 6) (x0 5) ++ gSa cA E1 (x1 0) (x1 1) (x1 2) (x1 3) (F1 0) (F1 1) (F1 2) (F1 3) (F1 4) (x1 4) (F1 5) (F1 6) (x1 5) ++ gSa cA E2 (x2 0) (x2 1) (x2 2) (x2 3) (F2 0) (F2 1) (F2 2) (F2 3) (F2 4) (x2 4) (F2 5) (F2 6) (x2 5) ++ gSa cA E3 (x3 0) (x3 1) (x3 2) (x3 3) (F3 0) (F3 1) (F3 2) (F3 3) (F3 4) (x3 4) (F3 5) (F3 6) (x3 5)) H := hP
  have hD : va_D AY (gHi cA Bh (E1 0) (E1 0) (E2 0) (E3 0) (nI n) ++ gSa cA E0 (x0 0) (x0 1) (x0 2) (x0 3) (F0 0) (F0 1) (F0 2) (F0 3) (F0 4) (x0 4) (F0 5) (F0 6) (x0 5) ++ gSa cA E1 (x1 0) (x1 1) (x1 2) (x1 3) (F1 0) (F1 1) (F1 2) (F1 3) (F1 4) (x1 4) (F1 5) (F1 6) (x1 5) ++ gSa cA E2 (x2 0) (x2 1) (x2 2) (x2 3) (F2 0) (F2 1) (F2 2) (F2 3) (F2 4) (x2 4) (F2 5) (F2 6) (x2 5) ++ gSa cA E3 (x3 0) (x3 1) (x3 2) (x3 3) (F3 0) (F3 1) (F3 2) (F3 3) (F3 4) (x3 4) (F3 5) (F3 6) (x3 5)) := hD
  refine lv_iinc (v := nI 1) (lv' := [(2, .int (nI 1)), (1, .ref (E0 0)), (0, .ref (Bh 0))]) hx hb dX0_forgetOldest_30 hl (k := 0) rfl (show nI 0 + Int32.ofInt 1 = nI 1 from nI_add 0 1) (by decide) rfl (fun ls hl => ?_)
  refine lv_goto (tgt := 9) hx hb dX0_forgetOldest_33 (by decide) ?_
  refine lv_iload_n hx hb dX0_forgetOldest_9 rfl (lv_at hl 0 rfl) ?_
  refine lv_iconst (v := nI 1) hx hb dX0_forgetOldest_10 (by decide +kernel) ?_
  refine lv_iadd hx hb dX0_forgetOldest_11 ?_
  refine xt (show (nI 1) + (nI 1) = nI 2 from nI_add _ _) ?_
  refine lv_iconst (v := nI 4) hx hb dX0_forgetOldest_12 (by decide +kernel) ?_
  refine xc_ge (tgt := 36) hx hb dX0_forgetOldest_13 (by decide) (by decide) (by decide) (fun c13 => ?_) (fun c13 => ?_)
  · exact absurd c13 (by decide)
  refine lv_aload_n hx hb dX0_forgetOldest_16 rfl (lv_at hl 2 rfl) ?_
  refine va_get (D := D) (ci := 0) (v := .ref (Bh 1)) (C := RX0) (T := TX0) (N := 2) hx hb hts hi_X0_forgetOldest_X0 hown hK hP 0 rfl rfl 0 (by decide) (hts (.fieldLink RX0 11 "FallingWords$History" "states" "[LFallingWords$State;") (by decide +kernel)) (fun _ h9 => h9) rfl dX0_forgetOldest_17 ?_
  refine lv_iload_n hx hb dX0_forgetOldest_20 rfl (lv_at hl 0 rfl) ?_
  refine lv_aload_n hx hb dX0_forgetOldest_21 rfl (lv_at hl 2 rfl) ?_
  refine va_get (D := D) (ci := 0) (v := .ref (Bh 1)) (C := RX0) (T := TX0) (N := 2) hx hb hts hi_X0_forgetOldest_X0 hown hK hP 0 rfl rfl 0 (by decide) (hts (.fieldLink RX0 11 "FallingWords$History" "states" "[LFallingWords$State;") (by decide +kernel)) (fun _ h9 => h9) rfl dX0_forgetOldest_22 ?_
  refine lv_iload_n hx hb dX0_forgetOldest_25 rfl (lv_at hl 0 rfl) ?_
  refine lv_iconst (v := nI 1) hx hb dX0_forgetOldest_26 (by decide +kernel) ?_
  refine lv_iadd hx hb dX0_forgetOldest_27 ?_
  refine xt (show (nI 1) + (nI 1) = nI 2 from nI_add _ _) ?_
  refine xa_qld (k := 2) (v := E2 0) hx hb hK hP 1 rfl (by decide) rfl dX0_forgetOldest_28 ?_
  refine xa_qst (k := 1) hx hb hK hP hD hS 1 22 rfl rfl (by decide) dX0_forgetOldest_29 (fun H locs hP hD hS => ?_)
  rw [hq_u1] at hP hD
  have hP : va_P D vwCl (gHi cA Bh (E1 0) (E2 0) (E2 0) (E3 0) (nI n) ++ gSa cA E0 (x0 0) (x0 1) (x0 2) (x0 3) (F0 0) (F0 1) (F0 2) (F0 3) (F0 4) (x0 4) (F0 5) (F0 6) (x0 5) ++ gSa cA E1 (x1 0) (x1 1) (x1 2) (x1 3) (F1 0) (F1 1) (F1 2) (F1 3) (F1 4) (x1 4) (F1 5) (F1 6) (x1 5) ++ gSa cA E2 (x2 0) (x2 1) (x2 2) (x2 3) (F2 0) (F2 1) (F2 2) (F2 3) (F2 4) (x2 4) (F2 5) (F2 6) (x2 5) ++ gSa cA E3 (x3 0) (x3 1) (x3 2) (x3 3) (F3 0) (F3 1) (F3 2) (F3 3) (F3 4) (x3 4) (F3 5) (F3 6) (x3 5)) H := hP
  have hD : va_D AY (gHi cA Bh (E1 0) (E2 0) (E2 0) (E3 0) (nI n) ++ gSa cA E0 (x0 0) (x0 1) (x0 2) (x0 3) (F0 0) (F0 1) (F0 2) (F0 3) (F0 4) (x0 4) (F0 5) (F0 6) (x0 5) ++ gSa cA E1 (x1 0) (x1 1) (x1 2) (x1 3) (F1 0) (F1 1) (F1 2) (F1 3) (F1 4) (x1 4) (F1 5) (F1 6) (x1 5) ++ gSa cA E2 (x2 0) (x2 1) (x2 2) (x2 3) (F2 0) (F2 1) (F2 2) (F2 3) (F2 4) (x2 4) (F2 5) (F2 6) (x2 5) ++ gSa cA E3 (x3 0) (x3 1) (x3 2) (x3 3) (F3 0) (F3 1) (F3 2) (F3 3) (F3 4) (x3 4) (F3 5) (F3 6) (x3 5)) := hD
  refine lv_iinc (v := nI 2) (lv' := [(2, .int (nI 2)), (1, .ref (E0 0)), (0, .ref (Bh 0))]) hx hb dX0_forgetOldest_30 hl (k := 0) rfl (show nI 1 + Int32.ofInt 1 = nI 2 from nI_add 1 1) (by decide) rfl (fun ls hl => ?_)
  refine lv_goto (tgt := 9) hx hb dX0_forgetOldest_33 (by decide) ?_
  refine lv_iload_n hx hb dX0_forgetOldest_9 rfl (lv_at hl 0 rfl) ?_
  refine lv_iconst (v := nI 1) hx hb dX0_forgetOldest_10 (by decide +kernel) ?_
  refine lv_iadd hx hb dX0_forgetOldest_11 ?_
  refine xt (show (nI 2) + (nI 1) = nI 3 from nI_add _ _) ?_
  refine lv_iconst (v := nI 4) hx hb dX0_forgetOldest_12 (by decide +kernel) ?_
  refine xc_ge (tgt := 36) hx hb dX0_forgetOldest_13 (by decide) (by decide) (by decide) (fun c13 => ?_) (fun c13 => ?_)
  · exact absurd c13 (by decide)
  refine lv_aload_n hx hb dX0_forgetOldest_16 rfl (lv_at hl 2 rfl) ?_
  refine va_get (D := D) (ci := 0) (v := .ref (Bh 1)) (C := RX0) (T := TX0) (N := 2) hx hb hts hi_X0_forgetOldest_X0 hown hK hP 0 rfl rfl 0 (by decide) (hts (.fieldLink RX0 11 "FallingWords$History" "states" "[LFallingWords$State;") (by decide +kernel)) (fun _ h9 => h9) rfl dX0_forgetOldest_17 ?_
  refine lv_iload_n hx hb dX0_forgetOldest_20 rfl (lv_at hl 0 rfl) ?_
  refine lv_aload_n hx hb dX0_forgetOldest_21 rfl (lv_at hl 2 rfl) ?_
  refine va_get (D := D) (ci := 0) (v := .ref (Bh 1)) (C := RX0) (T := TX0) (N := 2) hx hb hts hi_X0_forgetOldest_X0 hown hK hP 0 rfl rfl 0 (by decide) (hts (.fieldLink RX0 11 "FallingWords$History" "states" "[LFallingWords$State;") (by decide +kernel)) (fun _ h9 => h9) rfl dX0_forgetOldest_22 ?_
  refine lv_iload_n hx hb dX0_forgetOldest_25 rfl (lv_at hl 0 rfl) ?_
  refine lv_iconst (v := nI 1) hx hb dX0_forgetOldest_26 (by decide +kernel) ?_
  refine lv_iadd hx hb dX0_forgetOldest_27 ?_
  refine xt (show (nI 2) + (nI 1) = nI 3 from nI_add _ _) ?_
  refine xa_qld (k := 3) (v := E3 0) hx hb hK hP 1 rfl (by decide) rfl dX0_forgetOldest_28 ?_
  refine xa_qst (k := 2) hx hb hK hP hD hS 1 32 rfl rfl (by decide) dX0_forgetOldest_29 (fun H locs hP hD hS => ?_)
  rw [hq_u2] at hP hD
  have hP : va_P D vwCl (gHi cA Bh (E1 0) (E2 0) (E3 0) (E3 0) (nI n) ++ gSa cA E0 (x0 0) (x0 1) (x0 2) (x0 3) (F0 0) (F0 1) (F0 2) (F0 3) (F0 4) (x0 4) (F0 5) (F0 6) (x0 5) ++ gSa cA E1 (x1 0) (x1 1) (x1 2) (x1 3) (F1 0) (F1 1) (F1 2) (F1 3) (F1 4) (x1 4) (F1 5) (F1 6) (x1 5) ++ gSa cA E2 (x2 0) (x2 1) (x2 2) (x2 3) (F2 0) (F2 1) (F2 2) (F2 3) (F2 4) (x2 4) (F2 5) (F2 6) (x2 5) ++ gSa cA E3 (x3 0) (x3 1) (x3 2) (x3 3) (F3 0) (F3 1) (F3 2) (F3 3) (F3 4) (x3 4) (F3 5) (F3 6) (x3 5)) H := hP
  have hD : va_D AY (gHi cA Bh (E1 0) (E2 0) (E3 0) (E3 0) (nI n) ++ gSa cA E0 (x0 0) (x0 1) (x0 2) (x0 3) (F0 0) (F0 1) (F0 2) (F0 3) (F0 4) (x0 4) (F0 5) (F0 6) (x0 5) ++ gSa cA E1 (x1 0) (x1 1) (x1 2) (x1 3) (F1 0) (F1 1) (F1 2) (F1 3) (F1 4) (x1 4) (F1 5) (F1 6) (x1 5) ++ gSa cA E2 (x2 0) (x2 1) (x2 2) (x2 3) (F2 0) (F2 1) (F2 2) (F2 3) (F2 4) (x2 4) (F2 5) (F2 6) (x2 5) ++ gSa cA E3 (x3 0) (x3 1) (x3 2) (x3 3) (F3 0) (F3 1) (F3 2) (F3 3) (F3 4) (x3 4) (F3 5) (F3 6) (x3 5)) := hD
  refine lv_iinc (v := nI 3) (lv' := [(2, .int (nI 3)), (1, .ref (E0 0)), (0, .ref (Bh 0))]) hx hb dX0_forgetOldest_30 hl (k := 0) rfl (show nI 2 + Int32.ofInt 1 = nI 3 from nI_add 2 1) (by decide) rfl (fun ls hl => ?_)
  refine lv_goto (tgt := 9) hx hb dX0_forgetOldest_33 (by decide) ?_
  refine lv_iload_n hx hb dX0_forgetOldest_9 rfl (lv_at hl 0 rfl) ?_
  refine lv_iconst (v := nI 1) hx hb dX0_forgetOldest_10 (by decide +kernel) ?_
  refine lv_iadd hx hb dX0_forgetOldest_11 ?_
  refine xt (show (nI 3) + (nI 1) = nI 4 from nI_add _ _) ?_
  refine lv_iconst (v := nI 4) hx hb dX0_forgetOldest_12 (by decide +kernel) ?_
  refine xc_ge (tgt := 36) hx hb dX0_forgetOldest_13 (by decide) (by decide) (by decide) (fun c13 => ?_) (fun c13 => ?_)
  rotate_left
  · exact absurd c13 (by decide)
  refine lv_aload_n hx hb dX0_forgetOldest_36 rfl (lv_at hl 2 rfl) ?_
  refine va_get (D := D) (ci := 0) (v := .ref (Bh 1)) (C := RX0) (T := TX0) (N := 2) hx hb hts hi_X0_forgetOldest_X0 hown hK hP 0 rfl rfl 0 (by decide) (hts (.fieldLink RX0 11 "FallingWords$History" "states" "[LFallingWords$State;") (by decide +kernel)) (fun _ h9 => h9) rfl dX0_forgetOldest_37 ?_
  refine lv_iconst (v := nI 3) hx hb dX0_forgetOldest_40 (by decide +kernel) ?_
  refine lv_aload_n hx hb dX0_forgetOldest_41 rfl (lv_at hl 1 rfl) ?_
  refine xa_qst (k := 3) hx hb hK hP hD hS 1 2 rfl rfl (by decide) dX0_forgetOldest_42 (fun H locs hP hD hS => ?_)
  rw [hq_u3] at hP hD
  have hP : va_P D vwCl (gHi cA Bh (E1 0) (E2 0) (E3 0) (E0 0) (nI n) ++ gSa cA E0 (x0 0) (x0 1) (x0 2) (x0 3) (F0 0) (F0 1) (F0 2) (F0 3) (F0 4) (x0 4) (F0 5) (F0 6) (x0 5) ++ gSa cA E1 (x1 0) (x1 1) (x1 2) (x1 3) (F1 0) (F1 1) (F1 2) (F1 3) (F1 4) (x1 4) (F1 5) (F1 6) (x1 5) ++ gSa cA E2 (x2 0) (x2 1) (x2 2) (x2 3) (F2 0) (F2 1) (F2 2) (F2 3) (F2 4) (x2 4) (F2 5) (F2 6) (x2 5) ++ gSa cA E3 (x3 0) (x3 1) (x3 2) (x3 3) (F3 0) (F3 1) (F3 2) (F3 3) (F3 4) (x3 4) (F3 5) (F3 6) (x3 5)) H := hP
  have hD : va_D AY (gHi cA Bh (E1 0) (E2 0) (E3 0) (E0 0) (nI n) ++ gSa cA E0 (x0 0) (x0 1) (x0 2) (x0 3) (F0 0) (F0 1) (F0 2) (F0 3) (F0 4) (x0 4) (F0 5) (F0 6) (x0 5) ++ gSa cA E1 (x1 0) (x1 1) (x1 2) (x1 3) (F1 0) (F1 1) (F1 2) (F1 3) (F1 4) (x1 4) (F1 5) (F1 6) (x1 5) ++ gSa cA E2 (x2 0) (x2 1) (x2 2) (x2 3) (F2 0) (F2 1) (F2 2) (F2 3) (F2 4) (x2 4) (F2 5) (F2 6) (x2 5) ++ gSa cA E3 (x3 0) (x3 1) (x3 2) (x3 3) (F3 0) (F3 1) (F3 2) (F3 3) (F3 4) (x3 4) (F3 5) (F3 6) (x3 5)) := hD
  refine lv_aload_n hx hb dX0_forgetOldest_43 rfl (lv_at hl 2 rfl) ?_
  refine lv_dup hx hb dX0_forgetOldest_44 rfl ?_
  refine va_get (D := D) (ci := 0) (v := .int (nI n)) (C := RX0) (T := TX0) (N := 2) hx hb hts hi_X0_forgetOldest_X0 hown hK hP 0 rfl rfl 1 (by decide) (hts (.fieldLink RX0 18 "FallingWords$History" "size" "I") (by decide +kernel)) (fun _ h9 => h9) rfl dX0_forgetOldest_45 ?_
  refine lv_iconst (v := nI 1) hx hb dX0_forgetOldest_48 (by decide +kernel) ?_
  refine lv_isub hx hb dX0_forgetOldest_49 ?_
  refine xt (show (nI n) - (nI 1) = nI (n - 1) from pk_sub (by omega)) ?_
  refine va_put (D := D) (ci := 0) (v := .int (nI (n - 1))) (ty := .int) (C := RX0) (T := TX0) (N := 2) hx hb hts hi_X0_forgetOldest_X0 tyX0 tyX0_ok nmX0 hown hK hP hD hS 0 rfl rfl 1 (by decide) (hts (.fieldLink RX0 18 "FallingWords$History" "size" "I") (by decide +kernel)) (fun _ h9 => h9) rfl (by decide +kernel) rfl rfl (Nat.le_of_ble_eq_true rfl) dX0_forgetOldest_50 (fun H locs hP hD hS => ?_)
  have hP : va_P D vwCl (gHi cA Bh (E1 0) (E2 0) (E3 0) (E0 0) (nI (n - 1)) ++ gSa cA E0 (x0 0) (x0 1) (x0 2) (x0 3) (F0 0) (F0 1) (F0 2) (F0 3) (F0 4) (x0 4) (F0 5) (F0 6) (x0 5) ++ gSa cA E1 (x1 0) (x1 1) (x1 2) (x1 3) (F1 0) (F1 1) (F1 2) (F1 3) (F1 4) (x1 4) (F1 5) (F1 6) (x1 5) ++ gSa cA E2 (x2 0) (x2 1) (x2 2) (x2 3) (F2 0) (F2 1) (F2 2) (F2 3) (F2 4) (x2 4) (F2 5) (F2 6) (x2 5) ++ gSa cA E3 (x3 0) (x3 1) (x3 2) (x3 3) (F3 0) (F3 1) (F3 2) (F3 3) (F3 4) (x3 4) (F3 5) (F3 6) (x3 5)) H := hP
  have hD : va_D AY (gHi cA Bh (E1 0) (E2 0) (E3 0) (E0 0) (nI (n - 1)) ++ gSa cA E0 (x0 0) (x0 1) (x0 2) (x0 3) (F0 0) (F0 1) (F0 2) (F0 3) (F0 4) (x0 4) (F0 5) (F0 6) (x0 5) ++ gSa cA E1 (x1 0) (x1 1) (x1 2) (x1 3) (F1 0) (F1 1) (F1 2) (F1 3) (F1 4) (x1 4) (F1 5) (F1 6) (x1 5) ++ gSa cA E2 (x2 0) (x2 1) (x2 2) (x2 3) (F2 0) (F2 1) (F2 2) (F2 3) (F2 4) (x2 4) (F2 5) (F2 6) (x2 5) ++ gSa cA E3 (x3 0) (x3 1) (x3 2) (x3 3) (F3 0) (F3 1) (F3 2) (F3 3) (F3 4) (x3 4) (F3 5) (F3 6) (x3 5)) := hD
  exact hret _ _ _ _ _ dX0_forgetOldest_53 rfl hP hD hS
