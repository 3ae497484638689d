/-! the reference: overlaps -/
theorem sh_t {x y q a b : Nat} (h : (a ≠ b ∧ q + len y ≤ len x) ∨ (0 < q ∧ q < len x ∧ len x ≤ q + len y)) : true = shp x y q (decide (a ≠ b)) := by
  unfold shp
  rcases h with ⟨h1, h2⟩ | h
  · rw [decide_eq_true h1, decide_eq_true h2]; rfl
  · rw [decide_eq_true h, Bool.or_true]
theorem sh_f {x y q a b : Nat} (h1 : ¬ (a ≠ b ∧ q + len y ≤ len x)) (h2 : ¬ (0 < q ∧ q < len x ∧ len x ≤ q + len y)) : false = shp x y q (decide (a ≠ b)) := by
  unfold shp
  rw [decide_eq_false h2, Bool.or_false]
  by_cases e : a = b
  · rw [decide_eq_false (fun z => z e)]; rfl
  · rw [decide_eq_false (fun z => h1 ⟨e, z⟩), Bool.and_false]
theorem ov_t {S : St} {a b q : Nat} {zz : Bool} (hsh : zz = shp (lf S a) (lf S b) q (decide (a ≠ b))) (h1 : zz = true) (h2 : agrP (lf S a) (lf S b) q) : ovl S a b q = true := by unfold ovl; rw [← hsh, h1, agr_t h2]; rfl
theorem ov_f {S : St} {a b q : Nat} {zz : Bool} (hsh : zz = shp (lf S a) (lf S b) q (decide (a ≠ b))) (h : zz = false ∨ ¬ agrP (lf S a) (lf S b) q) : ovl S a b q = false := by
  unfold ovl
  rw [← hsh]
  rcases h with h | h
  · rw [h]; rfl
  · rw [agr_f h, Bool.and_false]
theorem lay_s {x y j k : Nat} (hk : k < len y) : 4 * (x * 4 ^ j + y / 4 ^ (len y - k) % 4 ^ j) + lt4 y k = x * 4 ^ (j + 1) + y / 4 ^ (len y - (k + 1)) % 4 ^ (j + 1) := by
  unfold lt4
  have e1 : len y - 1 - k = len y - (k + 1) := by omega
  have e2 : len y - k = len y - (k + 1) + 1 := by omega
  rw [e1, e2, Nat.pow_succ 4 (len y - (k + 1)), ← Nat.div_div_eq_div_mul]
  generalize y / 4 ^ (len y - (k + 1)) = z
  have h : z % (4 * 4 ^ j) = z % 4 + 4 * (z / 4 % 4 ^ j) := Nat.mod_mul
  rw [Nat.pow_succ 4 j, Nat.mul_comm (4 ^ j) 4, h, Nat.mul_add]
  have h2 : x * (4 * 4 ^ j) = 4 * (x * 4 ^ j) := by rw [Nat.mul_left_comm]
  rw [h2]
  omega
noncomputable def fdP (S : St) (kd : Int32) (k : Nat) : Bool := ovk S k && (decide (kd.toInt < 0) || decide ((nI (prk S k)).toInt = kd.toInt))
theorem fdP_neg {S : St} {kd : Int32} (h : kd.toInt < 0) : fdP S kd = ovk S := by
  funext k
  unfold fdP
  rw [decide_eq_true h, Bool.true_or, Bool.and_true]
theorem fdP_v {S : St} {v : Nat} (h : v < 1000) : fdP S (nI v) = fun k => ovk S k && decide (prk S k = v) := by
  funext k
  unfold fdP
  have e1 : (nI v).toInt = (v : Int) := nI_toInt (by omega)
  have h2 : prk S k ≤ 2 := par_le
  have e2 : (nI (prk S k)).toInt = (prk S k : Int) := nI_toInt (by omega)
  rw [e1, e2, decide_eq_false (by omega), Bool.false_or]
  congr 1
  by_cases e : prk S k = v
  · rw [decide_eq_true e, decide_eq_true (by omega)]
  · rw [decide_eq_false e, decide_eq_false (by omega)]
theorem cn_skip {p : Nat → Bool} {i : Nat} : ∀ {d : Nat}, (∀ k, i ≤ k → k < i + d → p k = false) → cn p (i + d) = cn p i
  | 0, _ => rfl
  | d + 1, h => by
    have ih := cn_skip (p := p) (i := i) (d := d) (fun k h1 h2 => h k h1 (by omega))
    show cn p (i + d + 1) = _
    rw [cn_f (h (i + d) (by omega) (by omega)), ih]
theorem cn_to {p : Nat → Bool} {i j c : Nat} (hc : c = cn p i) (hij : i ≤ j) (h : ∀ k, i ≤ k → k < j → p k = false) : c = cn p j := by
  have := cn_skip (p := p) (i := i) (d := j - i) (fun k h1 h2 => h k h1 (by omega))
  rw [hc, ← this, show i + (j - i) = j by omega]
theorem kidx {a b q : Nat} (hb2 : b < 10) (hq : q < 4) : kA (a * 40 + b * 4 + q) = a ∧ kB (a * 40 + b * 4 + q) = b ∧ kQ (a * 40 + b * 4 + q) = q := by unfold kA kB kQ; omega
theorem ovk_i {S : St} {a b q : Nat} (ha : a < S 1) (hb2 : b < S 1) (h10 : S 1 ≤ 10) (hq : q < 4) : ovk S (a * 40 + b * 4 + q) = ovl S a b q := by
  obtain ⟨k1, k2, k3⟩ := kidx (a := a) (b := b) (q := q) (by omega) hq
  unfold ovk
  rw [k1, k2, k3, decide_eq_true ha, decide_eq_true hb2]; rfl
theorem fdP_out {S : St} {kd : Int32} {k : Nat} (h : S 1 ≤ kA k ∨ S 1 ≤ kB k) : fdP S kd k = false := by
  unfold fdP ovk
  rcases h with h | h
  · rw [decide_eq_false (show ¬ kA k < S 1 by omega)]; rfl
  · rw [decide_eq_false (show ¬ kB k < S 1 by omega), Bool.and_false]; rfl
theorem fdP_no {S : St} {kd : Int32} {k : Nat} (h : ovk S k = false) : fdP S kd k = false := by unfold fdP; rw [h]; rfl
theorem fdP_ne {S : St} {kd : Int32} {k : Nat} (h0 : 0 ≤ kd.toInt) (h : (nI (prk S k)).toInt ≠ kd.toInt) : fdP S kd k = false := by unfold fdP; rw [decide_eq_false (show ¬ kd.toInt < 0 by omega), decide_eq_false h, Bool.or_false, Bool.and_false]
theorem fdP_y1 {S : St} {kd : Int32} {k : Nat} (h : ovk S k = true) (h0 : kd.toInt < 0) : fdP S kd k = true := by unfold fdP; rw [h, decide_eq_true h0]; rfl
theorem fdP_y2 {S : St} {kd : Int32} {k : Nat} (h : ovk S k = true) (h2 : (nI (prk S k)).toInt = kd.toInt) : fdP S kd k = true := by unfold fdP; rw [h, decide_eq_true h2, Bool.or_true]; rfl
theorem pE {D : va_G} {A : Nat → Prop} {ws : va_W} {H : Heap} {a n : Nat} {c : ClassId} {f g : Nat → Int32} (hP : va_P D vwCl ws H) (hD : va_D A ws) (q : Nat) (he : ws[q]? = some (a, .inl (c, n, .inl f))) (hfg : ∀ j, j < n → f j = g j) : va_P D vwCl (ws.set q (a, .inl (c, n, .inl g))) H ∧ va_D A (ws.set q (a, .inl (c, n, .inl g))) := by
  have h1 : H[a]? = some (vp_cell c (n, .inl f)) := hP q _ he
  have h2 : vp_cell c (n, .inl f) = vp_cell c (n, .inl g) := by
    show arrV c n (fun j => .int (f j)) = arrV c n (fun j => .int (g j))
    unfold arrV
    congr 1
    exact congrArg Array.ofFn (funext fun j => by show Value.int (f j.val) = Value.int (g j.val); rw [hfg j.val j.isLt])
  exact ⟨hP.set hD he (show H[a]? = some (vp_cell c (n, .inl g)) by rw [h1, h2]) (fun _ _ => rfl), hD.set he⟩
theorem ov_q {S : St} {a b q : Nat} (h : ovl S a b q = true) : q ≤ len (lf S a) := by
  unfold ovl shp at h
  simp only [Bool.and_eq_true, Bool.or_eq_true, decide_eq_true_eq] at h
  rcases h.1 with h | h <;> omega
theorem lay_e {S : St} {a b q k : Nat} (hqa : q ≤ len (lf S a)) (h1 : len (lf S a) - q ≤ k) (h2 : len (lf S b) ≤ k) (h3 : k ≤ len (lf S b) ∨ k = len (lf S a) - q) : lf S a * 4 ^ (k - (len (lf S a) - q)) + lf S b / 4 ^ (len (lf S b) - k) % 4 ^ (k - (len (lf S a) - q)) = ovw S a b q := by
  unfold ovw ovx
  rw [show len (lf S b) - k = 0 by omega, Nat.pow_zero, Nat.div_one, show q + len (lf S b) - len (lf S a) = k - (len (lf S a) - q) by omega]

set_option maxHeartbeats 1000000 in
set_option maxRecDepth 100000 in
theorem k_X11_isOverlap (lY : Launch) (D : va_G) (cA : Nat → ClassId) (B : Nat → Nat) (S : St) (WA BG AS TX RW RR FD : Nat → Int32) (m1 m2 m3 m4 m5 m6 m7 m8 m9 m10 m11 m12 m13 m14 m15 m16 m17 m18 m19 : Int32) (a b q : Nat) (hI : IR S) (ha : a < S 1) (hb2 : b < S 1) (hq : q < 4) : MetI lY D cA yX11_isOverlap wsX11_isOverlap 2 43 [.ref (B 0), .int (nI a), .int (nI b), .int (nI q)] (gMo cA B (fN S) WA BG AS TX RW RR FD m1 m2 m3 m4 m5 m6 m7 m8 m9 m10 m11 m12 m13 m14 m15 m16 m17 m18 m19) (fun rY wY => rY = bI (ovl S a b q) ∧ wY = gMo cA B (fN S) WA BG AS TX RW RR FD m1 m2 m3 m4 m5 m6 m7 m8 m9 m10 m11 m12 m13 m14 m15 m16 m17 m18 m19) := by
  refine MetI.of (cc := cX11_isOverlap) (maxL := 10) (ret := (some .boolean)) (by decide) rfl (Nat.le_of_ble_eq_true rfl) (Or.inr ⟨rfl, fun r w' h => by obtain ⟨h, -⟩ := h; rw [h]; exact bI_nar _⟩) ?_
  intro pY eY sY mY aY bY tY cY QY AY ls h0 hP hK hN hD hA hS hl hret
  obtain ⟨hx, hb, hml, hown, hts⟩ := id h0
  have hl : lv_has ls 10 [(0, .ref (B 0)), (1, .int (nI a)), (2, .int (nI b)), (3, .int (nI q))] := hl
  have hP : va_P D vwCl (gMo cA B (fN S) WA BG AS TX RW RR FD m1 m2 m3 m4 m5 m6 m7 m8 m9 m10 m11 m12 m13 m14 m15 m16 m17 m18 m19) sY.heap := hP
  have hD : va_D AY (gMo cA B (fN S) WA BG AS TX RW RR FD m1 m2 m3 m4 m5 m6 m7 m8 m9 m10 m11 m12 m13 m14 m15 m16 m17 m18 m19) := hD
  have h10 := hI.1
  obtain ⟨va1, va2, va3, va4⟩ := hI.2.2 a ha
  obtain ⟨vb1, vb2, vb3, vb4⟩ := hI.2.2 b hb2
  have la4 := va1.2
  have lb4 := vb1.2
  refine lv_aload_n hx hb dX11_isOverlap_0 rfl (lv_at hl 0 rfl) ?_
  refine lv_iload_n hx hb dX11_isOverlap_1 rfl (lv_at hl 1 rfl) ?_
  refine ci_V (As := [.int (nI a)]) (rest := []) h0 hK hN hP hD hS hA hl.1 (k_X11_left lY D cA B S WA BG AS TX RW RR FD m1 m2 m3 m4 m5 m6 m7 m8 m9 m10 m11 m12 m13 m14 m15 m16 m17 m18 m19 a (by omega)) [0, 1, 2, 3, 4, 5, 6, 7, 8] rfl (by decide) (cwV 1 hts gX11_isOverlap_X11_left rfl rfl rfl (by decide +kernel) ⟨Nat.le_of_ble_eq_true rfl, Nat.le_of_ble_eq_true rfl⟩) (cl_recv (ci := 10) (q := (RX11, TX11, 27)) (q0 := 0) hP hK rfl rfl) rfl rfl (Nat.le_of_ble_eq_true rfl) dX11_isOverlap_2 ⟨Nat.zero_le _, Nat.zero_le _⟩ (fun rY wY H locs hwY hJ hS => ?_)
  obtain ⟨e1Y, e2Y⟩ := hwY
  have e3Y := e1Y.symm
  clear e1Y
  subst e3Y
  have e3Y := e2Y.symm
  clear e2Y
  subst e3Y
  obtain ⟨hP, hD⟩ := hJ rfl
  have hP : va_P D vwCl (gMo cA B (fN S) WA BG AS TX RW RR FD m1 m2 m3 m4 m5 m6 m7 m8 m9 m10 m11 m12 m13 m14 m15 m16 m17 m18 m19) H := hP
  have hD : va_D AY (gMo cA B (fN S) WA BG AS TX RW RR FD m1 m2 m3 m4 m5 m6 m7 m8 m9 m10 m11 m12 m13 m14 m15 m16 m17 m18 m19) := hD
  refine ci_S (As := [.int (nI (lf S a))]) (rest := []) h0 hK hN hP hD hS hA hl.1 (k_X11_length lY D cA (lf S a) (va1.1) (by omega)) [] rfl (by decide) (va_cwS 1 hts gX11_isOverlap_X11_length rfl rfl rfl (by decide +kernel) ⟨Nat.le_of_ble_eq_true rfl, Nat.le_of_ble_eq_true rfl⟩) rfl rfl (Nat.le_of_ble_eq_true rfl) dX11_isOverlap_5 ⟨Nat.zero_le _, Nat.zero_le _⟩ (fun rY wY H locs hwY hJ hS => ?_)
  obtain ⟨e1Y, e2Y⟩ := hwY
  have e3Y := e1Y.symm
  clear e1Y
  subst e3Y
  have e3Y := e2Y.symm
  clear e2Y
  subst e3Y
  obtain ⟨hP, hD⟩ := hJ rfl
  have hP : va_P D vwCl (gMo cA B (fN S) WA BG AS TX RW RR FD m1 m2 m3 m4 m5 m6 m7 m8 m9 m10 m11 m12 m13 m14 m15 m16 m17 m18 m19) H := hP
  have hD : va_D AY (gMo cA B (fN S) WA BG AS TX RW RR FD m1 m2 m3 m4 m5 m6 m7 m8 m9 m10 m11 m12 m13 m14 m15 m16 m17 m18 m19) := hD
  refine lv_istore (lv' := [(4, .int (nI (len (lf S a)))), (0, .ref (B 0)), (1, .int (nI a)), (2, .int (nI b)), (3, .int (nI q))]) hx hb dX11_isOverlap_8 hl (by decide) rfl (fun ls hl => ?_)
  refine lv_aload_n hx hb dX11_isOverlap_10 rfl (lv_at hl 1 rfl) ?_
  refine lv_iload_n hx hb dX11_isOverlap_11 rfl (lv_at hl 3 rfl) ?_
  refine ci_V (As := [.int (nI b)]) (rest := []) h0 hK hN hP hD hS hA hl.1 (k_X11_left lY D cA B S WA BG AS TX RW RR FD m1 m2 m3 m4 m5 m6 m7 m8 m9 m10 m11 m12 m13 m14 m15 m16 m17 m18 m19 b (by omega)) [0, 1, 2, 3, 4, 5, 6, 7, 8] rfl (by decide) (cwV 1 hts gX11_isOverlap_X11_left rfl rfl rfl (by decide +kernel) ⟨Nat.le_of_ble_eq_true rfl, Nat.le_of_ble_eq_true rfl⟩) (cl_recv (ci := 10) (q := (RX11, TX11, 27)) (q0 := 0) hP hK rfl rfl) rfl rfl (Nat.le_of_ble_eq_true rfl) dX11_isOverlap_12 ⟨Nat.zero_le _, Nat.zero_le _⟩ (fun rY wY H locs hwY hJ hS => ?_)
  obtain ⟨e1Y, e2Y⟩ := hwY
  have e3Y := e1Y.symm
  clear e1Y
  subst e3Y
  have e3Y := e2Y.symm
  clear e2Y
  subst e3Y
  obtain ⟨hP, hD⟩ := hJ rfl
  have hP : va_P D vwCl (gMo cA B (fN S) WA BG AS TX RW RR FD m1 m2 m3 m4 m5 m6 m7 m8 m9 m10 m11 m12 m13 m14 m15 m16 m17 m18 m19) H := hP
  have hD : va_D AY (gMo cA B (fN S) WA BG AS TX RW RR FD m1 m2 m3 m4 m5 m6 m7 m8 m9 m10 m11 m12 m13 m14 m15 m16 m17 m18 m19) := hD
  refine ci_S (As := [.int (nI (lf S b))]) (rest := []) h0 hK hN hP hD hS hA hl.1 (k_X11_length lY D cA (lf S b) (vb1.1) (by omega)) [] rfl (by decide) (va_cwS 1 hts gX11_isOverlap_X11_length rfl rfl rfl (by decide +kernel) ⟨Nat.le_of_ble_eq_true rfl, Nat.le_of_ble_eq_true rfl⟩) rfl rfl (Nat.le_of_ble_eq_true rfl) dX11_isOverlap_15 ⟨Nat.zero_le _, Nat.zero_le _⟩ (fun rY wY H locs hwY hJ hS => ?_)
  obtain ⟨e1Y, e2Y⟩ := hwY
  have e3Y := e1Y.symm
  clear e1Y
  subst e3Y
  have e3Y := e2Y.symm
  clear e2Y
  subst e3Y
  obtain ⟨hP, hD⟩ := hJ rfl
  have hP : va_P D vwCl (gMo cA B (fN S) WA BG AS TX RW RR FD m1 m2 m3 m4 m5 m6 m7 m8 m9 m10 m11 m12 m13 m14 m15 m16 m17 m18 m19) H := hP
  have hD : va_D AY (gMo cA B (fN S) WA BG AS TX RW RR FD m1 m2 m3 m4 m5 m6 m7 m8 m9 m10 m11 m12 m13 m14 m15 m16 m17 m18 m19) := hD
  refine lv_istore (lv' := [(5, .int (nI (len (lf S b)))), (4, .int (nI (len (lf S a)))), (0, .ref (B 0)), (1, .int (nI a)), (2, .int (nI b)), (3, .int (nI q))]) hx hb dX11_isOverlap_18 hl (by decide) rfl (fun ls hl => ?_)
  have L84 :  ∀ (zz : Bool), (zz = shp (lf S a) (lf S b) q (decide (a ≠ b))) → ∀ (H : Heap) (locs : List Loc) (ls : Array Slot), va_P D vwCl (gMo cA B (fN S) WA BG AS TX RW RR FD m1 m2 m3 m4 m5 m6 m7 m8 m9 m10 m11 m12 m13 m14 m15 m16 m17 m18 m19) H → va_D AY (gMo cA B (fN S) WA BG AS TX RW RR FD m1 m2 m3 m4 m5 m6 m7 m8 m9 m10 m11 m12 m13 m14 m15 m16 m17 m18 m19) → va_S AY sY.heap H locs → lv_has ls 10 [(0, .ref (B 0)), (1, .int (nI a)), (2, .int (nI b)), (3, .int (nI q)), (4, .int (nI (len (lf S a)))), (5, .int (nI (len (lf S b)))), (8, .int (bI zz))] → W pY lY eY { frames := 2, cells := 0, slots := 0, locals := 43 } sY mY aY bY tY cY H locs 0 0 QY (F0 mY 84 ls []) := by
    intro zz hsh H locs ls hP hD hS hl
    refine lv_iload_n hx hb dX11_isOverlap_84 rfl (lv_at hl 3 rfl) ?_
    refine lv_istore (lv' := [(9, .int (nI q)), (0, .ref (B 0)), (1, .int (nI a)), (2, .int (nI b)), (3, .int (nI q)), (4, .int (nI (len (lf S a)))), (5, .int (nI (len (lf S b)))), (8, .int (bI zz))]) hx hb dX11_isOverlap_85 hl (by decide) rfl (fun ls hl => ?_)
    have L87 : ∀ (nY : Nat), ∀ (k : Nat) (z : Bool), (q ≤ k) → (k ≤ 12) → (z = true → zz = true ∧ ∀ j, q ≤ j → j < k → j < len (lf S a) → j < q + len (lf S b) → lt4 (lf S a) j = lt4 (lf S b) (j - q)) → (z = false → zz = false ∨ ¬ agrP (lf S a) (lf S b) q) → (12 - k < nY) → ∀ (H : Heap) (locs : List Loc) (ls : Array Slot), va_P D vwCl (gMo cA B (fN S) WA BG AS TX RW RR FD m1 m2 m3 m4 m5 m6 m7 m8 m9 m10 m11 m12 m13 m14 m15 m16 m17 m18 m19) H → va_D AY (gMo cA B (fN S) WA BG AS TX RW RR FD m1 m2 m3 m4 m5 m6 m7 m8 m9 m10 m11 m12 m13 m14 m15 m16 m17 m18 m19) → va_S AY sY.heap H locs → lv_has ls 10 [(0, .ref (B 0)), (1, .int (nI a)), (2, .int (nI b)), (3, .int (nI q)), (4, .int (nI (len (lf S a)))), (5, .int (nI (len (lf S b)))), (8, .int (bI z)), (9, .int (nI k))] → W pY lY eY { frames := 2, cells := 0, slots := 0, locals := 43 } sY mY aY bY tY cY H locs 0 0 QY (F0 mY 87 ls []) := by
      intro nY87
      induction nY87 with
      | zero => intro k z hqk hk12 hz1 hz2 hm87; exact absurd hm87 (Nat.not_lt_zero _)
      | succ nY87 ih87 =>
        intro k z hqk hk12 hz1 hz2 hm87 H locs ls hP hD hS hl
        refine lv_iload hx hb dX11_isOverlap_87 (lv_at hl 7 rfl) ?_
        refine lv_iload hx hb dX11_isOverlap_89 (lv_at hl 4 rfl) ?_
        refine xc_ge (tgt := 146) hx hb dX11_isOverlap_91 (by decide) (by omega) (by omega) (fun c91 => ?_) (fun c91 => ?_)
        · refine lv_iload hx hb dX11_isOverlap_146 (lv_at hl 6 rfl) ?_
          have hR : ovl S a b q = z := by cases z; (exact ov_f hsh (hz2 rfl)); exact ov_t hsh (hz1 rfl).1 (fun j y1 y2 y3 => (hz1 rfl).2 j y1 (by omega) y2 y3)
          exact hret _ _ _ _ _ _ dX11_isOverlap_148 ⟨(by rw [hR]), rfl⟩ hP hD hS
        · refine lv_iload hx hb dX11_isOverlap_94 (lv_at hl 7 rfl) ?_
          refine lv_iload_n hx hb dX11_isOverlap_96 rfl (lv_at hl 3 rfl) ?_
          refine lv_iload hx hb dX11_isOverlap_97 (lv_at hl 5 rfl) ?_
          refine lv_iadd hx hb dX11_isOverlap_99 ?_
          refine xt (show (nI q) + (nI (len (lf S b))) = nI (q + (len (lf S b))) from nI_add _ _) ?_
          refine xc_ge (tgt := 146) hx hb dX11_isOverlap_100 (by decide) (by omega) (by omega) (fun c100 => ?_) (fun c100 => ?_)
          · refine lv_iload hx hb dX11_isOverlap_146 (lv_at hl 6 rfl) ?_
            have hR : ovl S a b q = z := by cases z; (exact ov_f hsh (hz2 rfl)); exact ov_t hsh (hz1 rfl).1 (fun j y1 y2 y3 => (hz1 rfl).2 j y1 (by omega) y2 y3)
            exact hret _ _ _ _ _ _ dX11_isOverlap_148 ⟨(by rw [hR]), rfl⟩ hP hD hS
          · refine lv_iload hx hb dX11_isOverlap_103 (lv_at hl 6 rfl) ?_
            refine xb_eq (tgt := 146) hx hb dX11_isOverlap_105 (by decide) (fun c105 => ?_) (fun c105 => ?_)
            · refine lv_iload hx hb dX11_isOverlap_146 (lv_at hl 6 rfl) ?_
              have hR : ovl S a b q = false := ov_f hsh (hz2 c105)
              exact hret _ _ _ _ _ _ dX11_isOverlap_148 ⟨(by rw [hR, c105]), rfl⟩ hP hD hS
            · refine lv_aload_n hx hb dX11_isOverlap_108 rfl (lv_at hl 0 rfl) ?_
              refine lv_iload_n hx hb dX11_isOverlap_109 rfl (lv_at hl 1 rfl) ?_
              refine ci_V (As := [.int (nI a)]) (rest := []) h0 hK hN hP hD hS hA hl.1 (k_X11_left lY D cA B S WA BG AS TX RW RR FD m1 m2 m3 m4 m5 m6 m7 m8 m9 m10 m11 m12 m13 m14 m15 m16 m17 m18 m19 a (by omega)) [0, 1, 2, 3, 4, 5, 6, 7, 8] rfl (by decide) (cwV 1 hts gX11_isOverlap_X11_left rfl rfl rfl (by decide +kernel) ⟨Nat.le_of_ble_eq_true rfl, Nat.le_of_ble_eq_true rfl⟩) (cl_recv (ci := 10) (q := (RX11, TX11, 27)) (q0 := 0) hP hK rfl rfl) rfl rfl (Nat.le_of_ble_eq_true rfl) dX11_isOverlap_110 ⟨Nat.zero_le _, Nat.zero_le _⟩ (fun rY wY H locs hwY hJ hS => ?_)
              obtain ⟨e1Y, e2Y⟩ := hwY
              have e3Y := e1Y.symm
              clear e1Y
              subst e3Y
              have e3Y := e2Y.symm
              clear e2Y
              subst e3Y
              obtain ⟨hP, hD⟩ := hJ rfl
              have hP : va_P D vwCl (gMo cA B (fN S) WA BG AS TX RW RR FD m1 m2 m3 m4 m5 m6 m7 m8 m9 m10 m11 m12 m13 m14 m15 m16 m17 m18 m19) H := hP
              have hD : va_D AY (gMo cA B (fN S) WA BG AS TX RW RR FD m1 m2 m3 m4 m5 m6 m7 m8 m9 m10 m11 m12 m13 m14 m15 m16 m17 m18 m19) := hD
              refine lv_iload hx hb dX11_isOverlap_113 (lv_at hl 7 rfl) ?_
              refine ci_S (As := [.int (nI (lf S a)), .int (nI k)]) (rest := []) h0 hK hN hP hD hS hA hl.1 (k_X11_letter lY D cA (lf S a) k (vw_up va1 (by decide)) (by omega)) [] rfl (by decide) (va_cwS 2 hts gX11_isOverlap_X11_letter rfl rfl rfl (by decide +kernel) ⟨Nat.le_of_ble_eq_true rfl, Nat.le_of_ble_eq_true rfl⟩) rfl rfl (Nat.le_of_ble_eq_true rfl) dX11_isOverlap_115 ⟨Nat.zero_le _, Nat.zero_le _⟩ (fun rY wY H locs hwY hJ hS => ?_)
              obtain ⟨e1Y, e2Y⟩ := hwY
              have e3Y := e1Y.symm
              clear e1Y
              subst e3Y
              have e3Y := e2Y.symm
              clear e2Y
              subst e3Y
              obtain ⟨hP, hD⟩ := hJ rfl
              have hP : va_P D vwCl (gMo cA B (fN S) WA BG AS TX RW RR FD m1 m2 m3 m4 m5 m6 m7 m8 m9 m10 m11 m12 m13 m14 m15 m16 m17 m18 m19) H := hP
              have hD : va_D AY (gMo cA B (fN S) WA BG AS TX RW RR FD m1 m2 m3 m4 m5 m6 m7 m8 m9 m10 m11 m12 m13 m14 m15 m16 m17 m18 m19) := hD
              refine lv_aload_n hx hb dX11_isOverlap_118 rfl (lv_at hl 0 rfl) ?_
              refine lv_iload_n hx hb dX11_isOverlap_119 rfl (lv_at hl 2 rfl) ?_
              refine ci_V (As := [.int (nI b)]) (rest := [.int (nI (lt4 (lf S a) k))]) h0 hK hN hP hD hS hA hl.1 (k_X11_left lY D cA B S WA BG AS TX RW RR FD m1 m2 m3 m4 m5 m6 m7 m8 m9 m10 m11 m12 m13 m14 m15 m16 m17 m18 m19 b (by omega)) [0, 1, 2, 3, 4, 5, 6, 7, 8] rfl (by decide) (cwV 1 hts gX11_isOverlap_X11_left rfl rfl rfl (by decide +kernel) ⟨Nat.le_of_ble_eq_true rfl, Nat.le_of_ble_eq_true rfl⟩) (cl_recv (ci := 10) (q := (RX11, TX11, 27)) (q0 := 0) hP hK rfl rfl) rfl rfl (Nat.le_of_ble_eq_true rfl) dX11_isOverlap_120 ⟨Nat.zero_le _, Nat.zero_le _⟩ (fun rY wY H locs hwY hJ hS => ?_)
              obtain ⟨e1Y, e2Y⟩ := hwY
              have e3Y := e1Y.symm
              clear e1Y
              subst e3Y
              have e3Y := e2Y.symm
              clear e2Y
              subst e3Y
              obtain ⟨hP, hD⟩ := hJ rfl
              have hP : va_P D vwCl (gMo cA B (fN S) WA BG AS TX RW RR FD m1 m2 m3 m4 m5 m6 m7 m8 m9 m10 m11 m12 m13 m14 m15 m16 m17 m18 m19) H := hP
              have hD : va_D AY (gMo cA B (fN S) WA BG AS TX RW RR FD m1 m2 m3 m4 m5 m6 m7 m8 m9 m10 m11 m12 m13 m14 m15 m16 m17 m18 m19) := hD
              refine lv_iload hx hb dX11_isOverlap_123 (lv_at hl 7 rfl) ?_
              refine lv_iload_n hx hb dX11_isOverlap_125 rfl (lv_at hl 3 rfl) ?_
              refine lv_isub hx hb dX11_isOverlap_126 ?_
              refine xt (show (nI k) - (nI q) = nI (k - q) from pk_sub (by omega)) ?_
              refine ci_S (As := [.int (nI (lf S b)), .int (nI (k - q))]) (rest := [.int (nI (lt4 (lf S a) k))]) h0 hK hN hP hD hS hA hl.1 (k_X11_letter lY D cA (lf S b) (k - q) (vw_up vb1 (by decide)) (by omega)) [] rfl (by decide) (va_cwS 2 hts gX11_isOverlap_X11_letter rfl rfl rfl (by decide +kernel) ⟨Nat.le_of_ble_eq_true rfl, Nat.le_of_ble_eq_true rfl⟩) rfl rfl (Nat.le_of_ble_eq_true rfl) dX11_isOverlap_127 ⟨Nat.zero_le _, Nat.zero_le _⟩ (fun rY wY H locs hwY hJ hS => ?_)
              obtain ⟨e1Y, e2Y⟩ := hwY
              have e3Y := e1Y.symm
              clear e1Y
              subst e3Y
              have e3Y := e2Y.symm
              clear e2Y
              subst e3Y
              obtain ⟨hP, hD⟩ := hJ rfl
              have hP : va_P D vwCl (gMo cA B (fN S) WA BG AS TX RW RR FD m1 m2 m3 m4 m5 m6 m7 m8 m9 m10 m11 m12 m13 m14 m15 m16 m17 m18 m19) H := hP
              have hD : va_D AY (gMo cA B (fN S) WA BG AS TX RW RR FD m1 m2 m3 m4 m5 m6 m7 m8 m9 m10 m11 m12 m13 m14 m15 m16 m17 m18 m19) := hD
              have hl1 : lt4 (lf S a) k < 4 := Nat.mod_lt _ (by decide)
              have hl2 : lt4 (lf S b) (k - q) < 4 := Nat.mod_lt _ (by decide)
              refine xc_ne (tgt := 137) hx hb dX11_isOverlap_130 (by decide) (by omega) (by omega) (fun c130 => ?_) (fun c130 => ?_)
              · refine lv_iconst (v := nI 0) hx hb dX11_isOverlap_137 (by decide +kernel) ?_
                refine lv_istore (lv' := [(8, .int (nI 0)), (0, .ref (B 0)), (1, .int (nI a)), (2, .int (nI b)), (3, .int (nI q)), (4, .int (nI (len (lf S a)))), (5, .int (nI (len (lf S b)))), (9, .int (nI k))]) hx hb dX11_isOverlap_138 hl (by decide) rfl (fun ls hl => ?_)
                refine lv_iinc (v := nI (k + 1)) (lv' := [(9, .int (nI (k + 1))), (8, .int (nI 0)), (0, .ref (B 0)), (1, .int (nI a)), (2, .int (nI b)), (3, .int (nI q)), (4, .int (nI (len (lf S a)))), (5, .int (nI (len (lf S b))))]) hx hb dX11_isOverlap_140 hl (k := 7) rfl (show nI k + Int32.ofInt 1 = nI (k + 1) from nI_add k 1) (by decide) rfl (fun ls hl => ?_)
                refine lv_goto (tgt := 87) hx hb dX11_isOverlap_143 (by decide) ?_
                exact ih87 (k + 1) false (by omega) (by omega) (fun h => by cases h) (fun _ => Or.inr (fun h => c130 (h k (by omega) (by omega) (by omega)))) (by omega) _ _ _ hP hD hS (lv_sub hl [2, 3, 4, 5, 6, 7, 1, 0] rfl)
              · refine lv_iconst (v := nI 1) hx hb dX11_isOverlap_133 (by decide +kernel) ?_
                refine lv_goto (tgt := 138) hx hb dX11_isOverlap_134 (by decide) ?_
                refine lv_istore (lv' := [(8, .int (nI 1)), (0, .ref (B 0)), (1, .int (nI a)), (2, .int (nI b)), (3, .int (nI q)), (4, .int (nI (len (lf S a)))), (5, .int (nI (len (lf S b)))), (9, .int (nI k))]) hx hb dX11_isOverlap_138 hl (by decide) rfl (fun ls hl => ?_)
                refine lv_iinc (v := nI (k + 1)) (lv' := [(9, .int (nI (k + 1))), (8, .int (nI 1)), (0, .ref (B 0)), (1, .int (nI a)), (2, .int (nI b)), (3, .int (nI q)), (4, .int (nI (len (lf S a)))), (5, .int (nI (len (lf S b))))]) hx hb dX11_isOverlap_140 hl (k := 7) rfl (show nI k + Int32.ofInt 1 = nI (k + 1) from nI_add k 1) (by decide) rfl (fun ls hl => ?_)
                refine lv_goto (tgt := 87) hx hb dX11_isOverlap_143 (by decide) ?_
                exact ih87 (k + 1) true (by omega) (by omega) (fun _ => ⟨(hz1 c105).1, fun j h1 h2 h3 h4 => by rcases Nat.lt_or_ge j k with y | y; (exact (hz1 c105).2 j h1 y h3 h4); rw [show j = k by omega]; exact c130⟩) (fun h => by cases h) (by omega) _ _ _ hP hD hS (lv_sub hl [2, 3, 4, 5, 6, 7, 1, 0] rfl)
    exact L87 _ q zz (by omega) (by omega) (fun h => ⟨h, fun j h1 h2 => by omega⟩) (fun h => Or.inl h) (Nat.lt_succ_self _) _ _ _ hP hD hS (lv_sub hl [1, 2, 3, 4, 5, 6, 7, 0] rfl)
  refine lv_iload_n hx hb dX11_isOverlap_20 rfl (lv_at hl 3 rfl) ?_
  refine lv_iload_n hx hb dX11_isOverlap_21 rfl (lv_at hl 4 rfl) ?_
  refine xc_eq (tgt := 38) hx hb dX11_isOverlap_22 (by decide) (by omega) (by omega) (fun c22 => ?_) (fun c22 => ?_)
  · refine lv_iconst (v := nI 0) hx hb dX11_isOverlap_38 (by decide +kernel) ?_
    refine lv_istore (lv' := [(6, .int (nI 0)), (5, .int (nI (len (lf S b)))), (4, .int (nI (len (lf S a)))), (0, .ref (B 0)), (1, .int (nI a)), (2, .int (nI b)), (3, .int (nI q))]) hx hb dX11_isOverlap_39 hl (by decide) rfl (fun ls hl => ?_)
    refine lv_iload_n hx hb dX11_isOverlap_41 rfl (lv_at hl 6 rfl) ?_
    refine x0_le (tgt := 64) hx hb dX11_isOverlap_42 (by decide) (by omega) (fun c42 => ?_) (fun c42 => ?_)
    · refine lv_iconst (v := nI 0) hx hb dX11_isOverlap_64 (by decide +kernel) ?_
      refine lv_istore (lv' := [(7, .int (nI 0)), (6, .int (nI 0)), (5, .int (nI (len (lf S b)))), (4, .int (nI (len (lf S a)))), (0, .ref (B 0)), (1, .int (nI a)), (2, .int (nI b)), (3, .int (nI q))]) hx hb dX11_isOverlap_65 hl (by decide) rfl (fun ls hl => ?_)
      refine lv_iload hx hb dX11_isOverlap_67 (lv_at hl 1 rfl) ?_
      refine lv_if_ne (tgt := 77) hx hb dX11_isOverlap_69 (by decide) (fun c69 => ?_) (fun c69 => ?_)
      · exact absurd (by decide +kernel) c69
      refine lv_iload hx hb dX11_isOverlap_72 (lv_at hl 0 rfl) ?_
      refine lv_if_eq (tgt := 81) hx hb dX11_isOverlap_74 (by decide) (fun c74 => ?_) (fun c74 => ?_)
      rotate_left
      · exact absurd (by decide +kernel) c74
      refine lv_iconst (v := nI 0) hx hb dX11_isOverlap_81 (by decide +kernel) ?_
      refine lv_istore (lv' := [(8, .int (nI 0)), (7, .int (nI 0)), (6, .int (nI 0)), (5, .int (nI (len (lf S b)))), (4, .int (nI (len (lf S a)))), (0, .ref (B 0)), (1, .int (nI a)), (2, .int (nI b)), (3, .int (nI q))]) hx hb dX11_isOverlap_82 hl (by decide) rfl (fun ls hl => ?_)
      exact L84 false (sh_f (by omega) (by omega)) _ _ _ hP hD hS (lv_sub hl [5, 6, 7, 8, 4, 3, 0] rfl)
    · refine lv_iload_n hx hb dX11_isOverlap_45 rfl (lv_at hl 6 rfl) ?_
      refine lv_iload hx hb dX11_isOverlap_46 (lv_at hl 2 rfl) ?_
      refine xc_ge (tgt := 64) hx hb dX11_isOverlap_48 (by decide) (by omega) (by omega) (fun c48 => ?_) (fun c48 => ?_)
      · refine lv_iconst (v := nI 0) hx hb dX11_isOverlap_64 (by decide +kernel) ?_
        refine lv_istore (lv' := [(7, .int (nI 0)), (6, .int (nI 0)), (5, .int (nI (len (lf S b)))), (4, .int (nI (len (lf S a)))), (0, .ref (B 0)), (1, .int (nI a)), (2, .int (nI b)), (3, .int (nI q))]) hx hb dX11_isOverlap_65 hl (by decide) rfl (fun ls hl => ?_)
        refine lv_iload hx hb dX11_isOverlap_67 (lv_at hl 1 rfl) ?_
        refine lv_if_ne (tgt := 77) hx hb dX11_isOverlap_69 (by decide) (fun c69 => ?_) (fun c69 => ?_)
        · exact absurd (by decide +kernel) c69
        refine lv_iload hx hb dX11_isOverlap_72 (lv_at hl 0 rfl) ?_
        refine lv_if_eq (tgt := 81) hx hb dX11_isOverlap_74 (by decide) (fun c74 => ?_) (fun c74 => ?_)
        rotate_left
        · exact absurd (by decide +kernel) c74
        refine lv_iconst (v := nI 0) hx hb dX11_isOverlap_81 (by decide +kernel) ?_
        refine lv_istore (lv' := [(8, .int (nI 0)), (7, .int (nI 0)), (6, .int (nI 0)), (5, .int (nI (len (lf S b)))), (4, .int (nI (len (lf S a)))), (0, .ref (B 0)), (1, .int (nI a)), (2, .int (nI b)), (3, .int (nI q))]) hx hb dX11_isOverlap_82 hl (by decide) rfl (fun ls hl => ?_)
        exact L84 false (sh_f (by omega) (by omega)) _ _ _ hP hD hS (lv_sub hl [5, 6, 7, 8, 4, 3, 0] rfl)
      · refine lv_iload_n hx hb dX11_isOverlap_51 rfl (lv_at hl 6 rfl) ?_
        refine lv_iload hx hb dX11_isOverlap_52 (lv_at hl 1 rfl) ?_
        refine lv_iadd hx hb dX11_isOverlap_54 ?_
        refine xt (show (nI q) + (nI (len (lf S b))) = nI (q + (len (lf S b))) from nI_add _ _) ?_
        refine lv_iload hx hb dX11_isOverlap_55 (lv_at hl 2 rfl) ?_
        refine xc_lt (tgt := 64) hx hb dX11_isOverlap_57 (by decide) (by omega) (by omega) (fun c57 => ?_) (fun c57 => ?_)
        · refine lv_iconst (v := nI 0) hx hb dX11_isOverlap_64 (by decide +kernel) ?_
          refine lv_istore (lv' := [(7, .int (nI 0)), (6, .int (nI 0)), (5, .int (nI (len (lf S b)))), (4, .int (nI (len (lf S a)))), (0, .ref (B 0)), (1, .int (nI a)), (2, .int (nI b)), (3, .int (nI q))]) hx hb dX11_isOverlap_65 hl (by decide) rfl (fun ls hl => ?_)
          refine lv_iload hx hb dX11_isOverlap_67 (lv_at hl 1 rfl) ?_
          refine lv_if_ne (tgt := 77) hx hb dX11_isOverlap_69 (by decide) (fun c69 => ?_) (fun c69 => ?_)
          · exact absurd (by decide +kernel) c69
          refine lv_iload hx hb dX11_isOverlap_72 (lv_at hl 0 rfl) ?_
          refine lv_if_eq (tgt := 81) hx hb dX11_isOverlap_74 (by decide) (fun c74 => ?_) (fun c74 => ?_)
          rotate_left
          · exact absurd (by decide +kernel) c74
          refine lv_iconst (v := nI 0) hx hb dX11_isOverlap_81 (by decide +kernel) ?_
          refine lv_istore (lv' := [(8, .int (nI 0)), (7, .int (nI 0)), (6, .int (nI 0)), (5, .int (nI (len (lf S b)))), (4, .int (nI (len (lf S a)))), (0, .ref (B 0)), (1, .int (nI a)), (2, .int (nI b)), (3, .int (nI q))]) hx hb dX11_isOverlap_82 hl (by decide) rfl (fun ls hl => ?_)
          exact L84 false (sh_f (by omega) (by omega)) _ _ _ hP hD hS (lv_sub hl [5, 6, 7, 8, 4, 3, 0] rfl)
        · refine lv_iconst (v := nI 1) hx hb dX11_isOverlap_60 (by decide +kernel) ?_
          refine lv_goto (tgt := 65) hx hb dX11_isOverlap_61 (by decide) ?_
          refine lv_istore (lv' := [(7, .int (nI 1)), (6, .int (nI 0)), (5, .int (nI (len (lf S b)))), (4, .int (nI (len (lf S a)))), (0, .ref (B 0)), (1, .int (nI a)), (2, .int (nI b)), (3, .int (nI q))]) hx hb dX11_isOverlap_65 hl (by decide) rfl (fun ls hl => ?_)
          refine lv_iload hx hb dX11_isOverlap_67 (lv_at hl 1 rfl) ?_
          refine lv_if_ne (tgt := 77) hx hb dX11_isOverlap_69 (by decide) (fun c69 => ?_) (fun c69 => ?_)
          · exact absurd (by decide +kernel) c69
          refine lv_iload hx hb dX11_isOverlap_72 (lv_at hl 0 rfl) ?_
          refine lv_if_eq (tgt := 81) hx hb dX11_isOverlap_74 (by decide) (fun c74 => ?_) (fun c74 => ?_)
          · exact absurd c74 (by decide +kernel)
          refine lv_iconst (v := nI 1) hx hb dX11_isOverlap_77 (by decide +kernel) ?_
          refine lv_goto (tgt := 82) hx hb dX11_isOverlap_78 (by decide) ?_
          refine lv_istore (lv' := [(8, .int (nI 1)), (7, .int (nI 1)), (6, .int (nI 0)), (5, .int (nI (len (lf S b)))), (4, .int (nI (len (lf S a)))), (0, .ref (B 0)), (1, .int (nI a)), (2, .int (nI b)), (3, .int (nI q))]) hx hb dX11_isOverlap_82 hl (by decide) rfl (fun ls hl => ?_)
          exact L84 true (sh_t (by omega)) _ _ _ hP hD hS (lv_sub hl [5, 6, 7, 8, 4, 3, 0] rfl)
  · refine lv_iload_n hx hb dX11_isOverlap_25 rfl (lv_at hl 5 rfl) ?_
    refine lv_iload hx hb dX11_isOverlap_26 (lv_at hl 0 rfl) ?_
    refine lv_iadd hx hb dX11_isOverlap_28 ?_
    refine xt (show (nI q) + (nI (len (lf S b))) = nI (q + (len (lf S b))) from nI_add _ _) ?_
    refine lv_iload hx hb dX11_isOverlap_29 (lv_at hl 1 rfl) ?_
    refine xc_gt (tgt := 38) hx hb dX11_isOverlap_31 (by decide) (by omega) (by omega) (fun c31 => ?_) (fun c31 => ?_)
    · refine lv_iconst (v := nI 0) hx hb dX11_isOverlap_38 (by decide +kernel) ?_
      refine lv_istore (lv' := [(6, .int (nI 0)), (5, .int (nI (len (lf S b)))), (4, .int (nI (len (lf S a)))), (0, .ref (B 0)), (1, .int (nI a)), (2, .int (nI b)), (3, .int (nI q))]) hx hb dX11_isOverlap_39 hl (by decide) rfl (fun ls hl => ?_)
      refine lv_iload_n hx hb dX11_isOverlap_41 rfl (lv_at hl 6 rfl) ?_
      refine x0_le (tgt := 64) hx hb dX11_isOverlap_42 (by decide) (by omega) (fun c42 => ?_) (fun c42 => ?_)
      · refine lv_iconst (v := nI 0) hx hb dX11_isOverlap_64 (by decide +kernel) ?_
        refine lv_istore (lv' := [(7, .int (nI 0)), (6, .int (nI 0)), (5, .int (nI (len (lf S b)))), (4, .int (nI (len (lf S a)))), (0, .ref (B 0)), (1, .int (nI a)), (2, .int (nI b)), (3, .int (nI q))]) hx hb dX11_isOverlap_65 hl (by decide) rfl (fun ls hl => ?_)
        refine lv_iload hx hb dX11_isOverlap_67 (lv_at hl 1 rfl) ?_
        refine lv_if_ne (tgt := 77) hx hb dX11_isOverlap_69 (by decide) (fun c69 => ?_) (fun c69 => ?_)
        · exact absurd (by decide +kernel) c69
        refine lv_iload hx hb dX11_isOverlap_72 (lv_at hl 0 rfl) ?_
        refine lv_if_eq (tgt := 81) hx hb dX11_isOverlap_74 (by decide) (fun c74 => ?_) (fun c74 => ?_)
        rotate_left
        · exact absurd (by decide +kernel) c74
        refine lv_iconst (v := nI 0) hx hb dX11_isOverlap_81 (by decide +kernel) ?_
        refine lv_istore (lv' := [(8, .int (nI 0)), (7, .int (nI 0)), (6, .int (nI 0)), (5, .int (nI (len (lf S b)))), (4, .int (nI (len (lf S a)))), (0, .ref (B 0)), (1, .int (nI a)), (2, .int (nI b)), (3, .int (nI q))]) hx hb dX11_isOverlap_82 hl (by decide) rfl (fun ls hl => ?_)
        exact L84 false (sh_f (by omega) (by omega)) _ _ _ hP hD hS (lv_sub hl [5, 6, 7, 8, 4, 3, 0] rfl)
      · refine lv_iload_n hx hb dX11_isOverlap_45 rfl (lv_at hl 6 rfl) ?_
        refine lv_iload hx hb dX11_isOverlap_46 (lv_at hl 2 rfl) ?_
        refine xc_ge (tgt := 64) hx hb dX11_isOverlap_48 (by decide) (by omega) (by omega) (fun c48 => ?_) (fun c48 => ?_)
        · refine lv_iconst (v := nI 0) hx hb dX11_isOverlap_64 (by decide +kernel) ?_
          refine lv_istore (lv' := [(7, .int (nI 0)), (6, .int (nI 0)), (5, .int (nI (len (lf S b)))), (4, .int (nI (len (lf S a)))), (0, .ref (B 0)), (1, .int (nI a)), (2, .int (nI b)), (3, .int (nI q))]) hx hb dX11_isOverlap_65 hl (by decide) rfl (fun ls hl => ?_)
          refine lv_iload hx hb dX11_isOverlap_67 (lv_at hl 1 rfl) ?_
          refine lv_if_ne (tgt := 77) hx hb dX11_isOverlap_69 (by decide) (fun c69 => ?_) (fun c69 => ?_)
          · exact absurd (by decide +kernel) c69
          refine lv_iload hx hb dX11_isOverlap_72 (lv_at hl 0 rfl) ?_
          refine lv_if_eq (tgt := 81) hx hb dX11_isOverlap_74 (by decide) (fun c74 => ?_) (fun c74 => ?_)
          rotate_left
          · exact absurd (by decide +kernel) c74
          refine lv_iconst (v := nI 0) hx hb dX11_isOverlap_81 (by decide +kernel) ?_
          refine lv_istore (lv' := [(8, .int (nI 0)), (7, .int (nI 0)), (6, .int (nI 0)), (5, .int (nI (len (lf S b)))), (4, .int (nI (len (lf S a)))), (0, .ref (B 0)), (1, .int (nI a)), (2, .int (nI b)), (3, .int (nI q))]) hx hb dX11_isOverlap_82 hl (by decide) rfl (fun ls hl => ?_)
          exact L84 false (sh_f (by omega) (by omega)) _ _ _ hP hD hS (lv_sub hl [5, 6, 7, 8, 4, 3, 0] rfl)
        · refine lv_iload_n hx hb dX11_isOverlap_51 rfl (lv_at hl 6 rfl) ?_
          refine lv_iload hx hb dX11_isOverlap_52 (lv_at hl 1 rfl) ?_
          refine lv_iadd hx hb dX11_isOverlap_54 ?_
          refine xt (show (nI q) + (nI (len (lf S b))) = nI (q + (len (lf S b))) from nI_add _ _) ?_
          refine lv_iload hx hb dX11_isOverlap_55 (lv_at hl 2 rfl) ?_
          refine xc_lt (tgt := 64) hx hb dX11_isOverlap_57 (by decide) (by omega) (by omega) (fun c57 => ?_) (fun c57 => ?_)
          · refine lv_iconst (v := nI 0) hx hb dX11_isOverlap_64 (by decide +kernel) ?_
            refine lv_istore (lv' := [(7, .int (nI 0)), (6, .int (nI 0)), (5, .int (nI (len (lf S b)))), (4, .int (nI (len (lf S a)))), (0, .ref (B 0)), (1, .int (nI a)), (2, .int (nI b)), (3, .int (nI q))]) hx hb dX11_isOverlap_65 hl (by decide) rfl (fun ls hl => ?_)
            refine lv_iload hx hb dX11_isOverlap_67 (lv_at hl 1 rfl) ?_
            refine lv_if_ne (tgt := 77) hx hb dX11_isOverlap_69 (by decide) (fun c69 => ?_) (fun c69 => ?_)
            · exact absurd (by decide +kernel) c69
            refine lv_iload hx hb dX11_isOverlap_72 (lv_at hl 0 rfl) ?_
            refine lv_if_eq (tgt := 81) hx hb dX11_isOverlap_74 (by decide) (fun c74 => ?_) (fun c74 => ?_)
            rotate_left
            · exact absurd (by decide +kernel) c74
            refine lv_iconst (v := nI 0) hx hb dX11_isOverlap_81 (by decide +kernel) ?_
            refine lv_istore (lv' := [(8, .int (nI 0)), (7, .int (nI 0)), (6, .int (nI 0)), (5, .int (nI (len (lf S b)))), (4, .int (nI (len (lf S a)))), (0, .ref (B 0)), (1, .int (nI a)), (2, .int (nI b)), (3, .int (nI q))]) hx hb dX11_isOverlap_82 hl (by decide) rfl (fun ls hl => ?_)
            exact L84 false (sh_f (by omega) (by omega)) _ _ _ hP hD hS (lv_sub hl [5, 6, 7, 8, 4, 3, 0] rfl)
          · refine lv_iconst (v := nI 1) hx hb dX11_isOverlap_60 (by decide +kernel) ?_
            refine lv_goto (tgt := 65) hx hb dX11_isOverlap_61 (by decide) ?_
            refine lv_istore (lv' := [(7, .int (nI 1)), (6, .int (nI 0)), (5, .int (nI (len (lf S b)))), (4, .int (nI (len (lf S a)))), (0, .ref (B 0)), (1, .int (nI a)), (2, .int (nI b)), (3, .int (nI q))]) hx hb dX11_isOverlap_65 hl (by decide) rfl (fun ls hl => ?_)
            refine lv_iload hx hb dX11_isOverlap_67 (lv_at hl 1 rfl) ?_
            refine lv_if_ne (tgt := 77) hx hb dX11_isOverlap_69 (by decide) (fun c69 => ?_) (fun c69 => ?_)
            · exact absurd (by decide +kernel) c69
            refine lv_iload hx hb dX11_isOverlap_72 (lv_at hl 0 rfl) ?_
            refine lv_if_eq (tgt := 81) hx hb dX11_isOverlap_74 (by decide) (fun c74 => ?_) (fun c74 => ?_)
            · exact absurd c74 (by decide +kernel)
            refine lv_iconst (v := nI 1) hx hb dX11_isOverlap_77 (by decide +kernel) ?_
            refine lv_goto (tgt := 82) hx hb dX11_isOverlap_78 (by decide) ?_
            refine lv_istore (lv' := [(8, .int (nI 1)), (7, .int (nI 1)), (6, .int (nI 0)), (5, .int (nI (len (lf S b)))), (4, .int (nI (len (lf S a)))), (0, .ref (B 0)), (1, .int (nI a)), (2, .int (nI b)), (3, .int (nI q))]) hx hb dX11_isOverlap_82 hl (by decide) rfl (fun ls hl => ?_)
            exact L84 true (sh_t (by omega)) _ _ _ hP hD hS (lv_sub hl [5, 6, 7, 8, 4, 3, 0] rfl)
    · refine lv_iconst (v := nI 1) hx hb dX11_isOverlap_34 (by decide +kernel) ?_
      refine lv_goto (tgt := 39) hx hb dX11_isOverlap_35 (by decide) ?_
      refine lv_istore (lv' := [(6, .int (nI 1)), (5, .int (nI (len (lf S b)))), (4, .int (nI (len (lf S a)))), (0, .ref (B 0)), (1, .int (nI a)), (2, .int (nI b)), (3, .int (nI q))]) hx hb dX11_isOverlap_39 hl (by decide) rfl (fun ls hl => ?_)
      refine lv_iload_n hx hb dX11_isOverlap_41 rfl (lv_at hl 6 rfl) ?_
      refine x0_le (tgt := 64) hx hb dX11_isOverlap_42 (by decide) (by omega) (fun c42 => ?_) (fun c42 => ?_)
      · refine lv_iconst (v := nI 0) hx hb dX11_isOverlap_64 (by decide +kernel) ?_
        refine lv_istore (lv' := [(7, .int (nI 0)), (6, .int (nI 1)), (5, .int (nI (len (lf S b)))), (4, .int (nI (len (lf S a)))), (0, .ref (B 0)), (1, .int (nI a)), (2, .int (nI b)), (3, .int (nI q))]) hx hb dX11_isOverlap_65 hl (by decide) rfl (fun ls hl => ?_)
        refine lv_iload hx hb dX11_isOverlap_67 (lv_at hl 1 rfl) ?_
        refine lv_if_ne (tgt := 77) hx hb dX11_isOverlap_69 (by decide) (fun c69 => ?_) (fun c69 => ?_)
        rotate_left
        · exact absurd c69 (by decide +kernel)
        refine lv_iconst (v := nI 1) hx hb dX11_isOverlap_77 (by decide +kernel) ?_
        refine lv_goto (tgt := 82) hx hb dX11_isOverlap_78 (by decide) ?_
        refine lv_istore (lv' := [(8, .int (nI 1)), (7, .int (nI 0)), (6, .int (nI 1)), (5, .int (nI (len (lf S b)))), (4, .int (nI (len (lf S a)))), (0, .ref (B 0)), (1, .int (nI a)), (2, .int (nI b)), (3, .int (nI q))]) hx hb dX11_isOverlap_82 hl (by decide) rfl (fun ls hl => ?_)
        exact L84 true (sh_t (by omega)) _ _ _ hP hD hS (lv_sub hl [5, 6, 7, 8, 4, 3, 0] rfl)
      · refine lv_iload_n hx hb dX11_isOverlap_45 rfl (lv_at hl 6 rfl) ?_
        refine lv_iload hx hb dX11_isOverlap_46 (lv_at hl 2 rfl) ?_
        refine xc_ge (tgt := 64) hx hb dX11_isOverlap_48 (by decide) (by omega) (by omega) (fun c48 => ?_) (fun c48 => ?_)
        · refine lv_iconst (v := nI 0) hx hb dX11_isOverlap_64 (by decide +kernel) ?_
          refine lv_istore (lv' := [(7, .int (nI 0)), (6, .int (nI 1)), (5, .int (nI (len (lf S b)))), (4, .int (nI (len (lf S a)))), (0, .ref (B 0)), (1, .int (nI a)), (2, .int (nI b)), (3, .int (nI q))]) hx hb dX11_isOverlap_65 hl (by decide) rfl (fun ls hl => ?_)
          refine lv_iload hx hb dX11_isOverlap_67 (lv_at hl 1 rfl) ?_
          refine lv_if_ne (tgt := 77) hx hb dX11_isOverlap_69 (by decide) (fun c69 => ?_) (fun c69 => ?_)
          rotate_left
          · exact absurd c69 (by decide +kernel)
          refine lv_iconst (v := nI 1) hx hb dX11_isOverlap_77 (by decide +kernel) ?_
          refine lv_goto (tgt := 82) hx hb dX11_isOverlap_78 (by decide) ?_
          refine lv_istore (lv' := [(8, .int (nI 1)), (7, .int (nI 0)), (6, .int (nI 1)), (5, .int (nI (len (lf S b)))), (4, .int (nI (len (lf S a)))), (0, .ref (B 0)), (1, .int (nI a)), (2, .int (nI b)), (3, .int (nI q))]) hx hb dX11_isOverlap_82 hl (by decide) rfl (fun ls hl => ?_)
          exact L84 true (sh_t (by omega)) _ _ _ hP hD hS (lv_sub hl [5, 6, 7, 8, 4, 3, 0] rfl)
        · refine lv_iload_n hx hb dX11_isOverlap_51 rfl (lv_at hl 6 rfl) ?_
          refine lv_iload hx hb dX11_isOverlap_52 (lv_at hl 1 rfl) ?_
          refine lv_iadd hx hb dX11_isOverlap_54 ?_
          refine xt (show (nI q) + (nI (len (lf S b))) = nI (q + (len (lf S b))) from nI_add _ _) ?_
          refine lv_iload hx hb dX11_isOverlap_55 (lv_at hl 2 rfl) ?_
          refine xc_lt (tgt := 64) hx hb dX11_isOverlap_57 (by decide) (by omega) (by omega) (fun c57 => ?_) (fun c57 => ?_)
          · refine lv_iconst (v := nI 0) hx hb dX11_isOverlap_64 (by decide +kernel) ?_
            refine lv_istore (lv' := [(7, .int (nI 0)), (6, .int (nI 1)), (5, .int (nI (len (lf S b)))), (4, .int (nI (len (lf S a)))), (0, .ref (B 0)), (1, .int (nI a)), (2, .int (nI b)), (3, .int (nI q))]) hx hb dX11_isOverlap_65 hl (by decide) rfl (fun ls hl => ?_)
            refine lv_iload hx hb dX11_isOverlap_67 (lv_at hl 1 rfl) ?_
            refine lv_if_ne (tgt := 77) hx hb dX11_isOverlap_69 (by decide) (fun c69 => ?_) (fun c69 => ?_)
            rotate_left
            · exact absurd c69 (by decide +kernel)
            refine lv_iconst (v := nI 1) hx hb dX11_isOverlap_77 (by decide +kernel) ?_
            refine lv_goto (tgt := 82) hx hb dX11_isOverlap_78 (by decide) ?_
            refine lv_istore (lv' := [(8, .int (nI 1)), (7, .int (nI 0)), (6, .int (nI 1)), (5, .int (nI (len (lf S b)))), (4, .int (nI (len (lf S a)))), (0, .ref (B 0)), (1, .int (nI a)), (2, .int (nI b)), (3, .int (nI q))]) hx hb dX11_isOverlap_82 hl (by decide) rfl (fun ls hl => ?_)
            exact L84 true (sh_t (by omega)) _ _ _ hP hD hS (lv_sub hl [5, 6, 7, 8, 4, 3, 0] rfl)
          · refine lv_iconst (v := nI 1) hx hb dX11_isOverlap_60 (by decide +kernel) ?_
            refine lv_goto (tgt := 65) hx hb dX11_isOverlap_61 (by decide) ?_
            refine lv_istore (lv' := [(7, .int (nI 1)), (6, .int (nI 1)), (5, .int (nI (len (lf S b)))), (4, .int (nI (len (lf S a)))), (0, .ref (B 0)), (1, .int (nI a)), (2, .int (nI b)), (3, .int (nI q))]) hx hb dX11_isOverlap_65 hl (by decide) rfl (fun ls hl => ?_)
            refine lv_iload hx hb dX11_isOverlap_67 (lv_at hl 1 rfl) ?_
            refine lv_if_ne (tgt := 77) hx hb dX11_isOverlap_69 (by decide) (fun c69 => ?_) (fun c69 => ?_)
            rotate_left
            · exact absurd c69 (by decide +kernel)
            refine lv_iconst (v := nI 1) hx hb dX11_isOverlap_77 (by decide +kernel) ?_
            refine lv_goto (tgt := 82) hx hb dX11_isOverlap_78 (by decide) ?_
            refine lv_istore (lv' := [(8, .int (nI 1)), (7, .int (nI 1)), (6, .int (nI 1)), (5, .int (nI (len (lf S b)))), (4, .int (nI (len (lf S a)))), (0, .ref (B 0)), (1, .int (nI a)), (2, .int (nI b)), (3, .int (nI q))]) hx hb dX11_isOverlap_82 hl (by decide) rfl (fun ls hl => ?_)
            exact L84 true (sh_t (by omega)) _ _ _ hP hD hS (lv_sub hl [5, 6, 7, 8, 4, 3, 0] rfl)

theorem hi_X11_lays_X11 : ∀ w ∈ u_ws RX11 TX11 27, w ∈ wsX11_lays := by decide +kernel
set_option maxHeartbeats 1000000 in
set_option maxRecDepth 100000 in
theorem k_X11_lays (lY : Launch) (D : va_G) (cA : Nat → ClassId) (B : Nat → Nat) (S : St) (WA BG AS TX RW RR FD : Nat → Int32) (m1 m2 m3 m4 m5 m6 m7 m8 m9 m10 m11 m12 m13 m14 m15 m16 m17 m18 m19 : Int32) (a b q : Nat) (hI : IR S) (ha : a < S 1) (hb2 : b < S 1) (hq : q < 4) (ho : ovl S a b q = true) : MetV lY D cA yX11_lays wsX11_lays 2 48 0 0 [.ref (B 0), .int (nI a), .int (nI b), .int (nI q)] (gMo cA B (fN S) WA BG AS TX RW RR FD m1 m2 m3 m4 m5 m6 m7 m8 m9 m10 m11 m12 m13 m14 m15 m16 m17 m18 m19) (fun wY => wY = gMo cA B (fN S) WA BG AS TX RW RR FD m1 m2 m3 m4 m5 m6 m7 m8 m9 m10 m11 m12 (nI a) (nI b) (nI q) (nI (ow1 S a b q)) (nI (ow2 S a b q)) m18 m19) := by
  refine MetV.of (cc := cX11_lays) (maxL := 6) (by decide) rfl (Nat.le_of_ble_eq_true rfl) ?_
  intro pY eY sY mY aY bY tY cY QY AY ls h0 hP hK hN hD hA hS hl hin hret
  obtain ⟨hx, hb, hml, hown, hts⟩ := id h0
  have hl : lv_has ls 6 [(0, .ref (B 0)), (1, .int (nI a)), (2, .int (nI b)), (3, .int (nI q))] := hl
  have hP : va_P D vwCl (gMo cA B (fN S) WA BG AS TX RW RR FD m1 m2 m3 m4 m5 m6 m7 m8 m9 m10 m11 m12 m13 m14 m15 m16 m17 m18 m19) sY.heap := hP
  have hD : va_D AY (gMo cA B (fN S) WA BG AS TX RW RR FD m1 m2 m3 m4 m5 m6 m7 m8 m9 m10 m11 m12 m13 m14 m15 m16 m17 m18 m19) := hD
  have h10 := hI.1
  obtain ⟨va1, va2, va3, va4⟩ := hI.2.2 a ha
  obtain ⟨vb1, vb2, vb3, vb4⟩ := hI.2.2 b hb2
  have la4 := va1.2
  have lb4 := vb1.2
  obtain ⟨e1, e2, e3, e4, e5⟩ := ov_w hI ha hb2 hq ho
  have hqa : q ≤ len (lf S a) := ov_q ho
  refine lv_aload_n hx hb dX11_lays_0 rfl (lv_at hl 0 rfl) ?_
  refine lv_iload_n hx hb dX11_lays_1 rfl (lv_at hl 1 rfl) ?_
  refine ci_V (As := [.int (nI a)]) (rest := []) h0 hK hN hP hD hS hA hl.1 (k_X11_left lY D cA B S WA BG AS TX RW RR FD m1 m2 m3 m4 m5 m6 m7 m8 m9 m10 m11 m12 m13 m14 m15 m16 m17 m18 m19 a (by omega)) [0, 1, 2, 3, 4, 5, 6, 7, 8] rfl (by decide) (cwV 1 hts gX11_lays_X11_left rfl rfl rfl (by decide +kernel) ⟨Nat.le_of_ble_eq_true rfl, Nat.le_of_ble_eq_true rfl⟩) (cl_recv (ci := 10) (q := (RX11, TX11, 27)) (q0 := 0) hP hK rfl rfl) rfl rfl (Nat.le_of_ble_eq_true rfl) dX11_lays_2 ⟨Nat.zero_le _, Nat.zero_le _⟩ (fun rY wY H locs hwY hJ hS => ?_)
  obtain ⟨e1Y, e2Y⟩ := hwY
  have e3Y := e1Y.symm
  clear e1Y
  subst e3Y
  have e3Y := e2Y.symm
  clear e2Y
  subst e3Y
  obtain ⟨hP, hD⟩ := hJ rfl
  have hP : va_P D vwCl (gMo cA B (fN S) WA BG AS TX RW RR FD m1 m2 m3 m4 m5 m6 m7 m8 m9 m10 m11 m12 m13 m14 m15 m16 m17 m18 m19) H := hP
  have hD : va_D AY (gMo cA B (fN S) WA BG AS TX RW RR FD m1 m2 m3 m4 m5 m6 m7 m8 m9 m10 m11 m12 m13 m14 m15 m16 m17 m18 m19) := hD
  refine lv_istore (lv' := [(4, .int (nI (lf S a))), (0, .ref (B 0)), (1, .int (nI a)), (2, .int (nI b)), (3, .int (nI q))]) hx hb dX11_lays_5 hl (by decide) rfl (fun ls hl => ?_)
  refine lv_aload_n hx hb dX11_lays_7 rfl (lv_at hl 1 rfl) ?_
  refine lv_iload_n hx hb dX11_lays_8 rfl (lv_at hl 2 rfl) ?_
  refine ci_V (As := [.int (nI a)]) (rest := []) h0 hK hN hP hD hS hA hl.1 (k_X11_left lY D cA B S WA BG AS TX RW RR FD m1 m2 m3 m4 m5 m6 m7 m8 m9 m10 m11 m12 m13 m14 m15 m16 m17 m18 m19 a (by omega)) [0, 1, 2, 3, 4, 5, 6, 7, 8] rfl (by decide) (cwV 1 hts gX11_lays_X11_left rfl rfl rfl (by decide +kernel) ⟨Nat.le_of_ble_eq_true rfl, Nat.le_of_ble_eq_true rfl⟩) (cl_recv (ci := 10) (q := (RX11, TX11, 27)) (q0 := 0) hP hK rfl rfl) rfl rfl (Nat.le_of_ble_eq_true rfl) dX11_lays_9 ⟨Nat.zero_le _, Nat.zero_le _⟩ (fun rY wY H locs hwY hJ hS => ?_)
  obtain ⟨e1Y, e2Y⟩ := hwY
  have e3Y := e1Y.symm
  clear e1Y
  subst e3Y
  have e3Y := e2Y.symm
  clear e2Y
  subst e3Y
  obtain ⟨hP, hD⟩ := hJ rfl
  have hP : va_P D vwCl (gMo cA B (fN S) WA BG AS TX RW RR FD m1 m2 m3 m4 m5 m6 m7 m8 m9 m10 m11 m12 m13 m14 m15 m16 m17 m18 m19) H := hP
  have hD : va_D AY (gMo cA B (fN S) WA BG AS TX RW RR FD m1 m2 m3 m4 m5 m6 m7 m8 m9 m10 m11 m12 m13 m14 m15 m16 m17 m18 m19) := hD
  refine ci_S (As := [.int (nI (lf S a))]) (rest := []) h0 hK hN hP hD hS hA hl.1 (k_X11_length lY D cA (lf S a) (va1.1) (by omega)) [] rfl (by decide) (va_cwS 1 hts gX11_lays_X11_length rfl rfl rfl (by decide +kernel) ⟨Nat.le_of_ble_eq_true rfl, Nat.le_of_ble_eq_true rfl⟩) rfl rfl (Nat.le_of_ble_eq_true rfl) dX11_lays_12 ⟨Nat.zero_le _, Nat.zero_le _⟩ (fun rY wY H locs hwY hJ hS => ?_)
  obtain ⟨e1Y, e2Y⟩ := hwY
  have e3Y := e1Y.symm
  clear e1Y
  subst e3Y
  have e3Y := e2Y.symm
  clear e2Y
  subst e3Y
  obtain ⟨hP, hD⟩ := hJ rfl
  have hP : va_P D vwCl (gMo cA B (fN S) WA BG AS TX RW RR FD m1 m2 m3 m4 m5 m6 m7 m8 m9 m10 m11 m12 m13 m14 m15 m16 m17 m18 m19) H := hP
  have hD : va_D AY (gMo cA B (fN S) WA BG AS TX RW RR FD m1 m2 m3 m4 m5 m6 m7 m8 m9 m10 m11 m12 m13 m14 m15 m16 m17 m18 m19) := hD
  refine lv_iload_n hx hb dX11_lays_15 rfl (lv_at hl 4 rfl) ?_
  refine lv_isub hx hb dX11_lays_16 ?_
  refine xt (show (nI (len (lf S a))) - (nI q) = nI ((len (lf S a)) - q) from pk_sub (by omega)) ?_
  refine lv_istore (lv' := [(5, .int (nI ((len (lf S a)) - q))), (4, .int (nI (lf S a))), (0, .ref (B 0)), (1, .int (nI a)), (2, .int (nI b)), (3, .int (nI q))]) hx hb dX11_lays_17 hl (by decide) rfl (fun ls hl => ?_)
  have L19 : ∀ (nY : Nat), ∀ (k : Nat), (len (lf S a) - q ≤ k) → (k ≤ len (lf S b) ∨ k = len (lf S a) - q) → (len (lf S b) - k < nY) → ∀ (H : Heap) (locs : List Loc) (ls : Array Slot), va_P D vwCl (gMo cA B (fN S) WA BG AS TX RW RR FD m1 m2 m3 m4 m5 m6 m7 m8 m9 m10 m11 m12 m13 m14 m15 m16 m17 m18 m19) H → va_D AY (gMo cA B (fN S) WA BG AS TX RW RR FD m1 m2 m3 m4 m5 m6 m7 m8 m9 m10 m11 m12 m13 m14 m15 m16 m17 m18 m19) → va_S AY sY.heap H locs → lv_has ls 6 [(0, .ref (B 0)), (1, .int (nI a)), (2, .int (nI b)), (3, .int (nI q)), (4, .int (nI (lf S a * 4 ^ (k - (len (lf S a) - q)) + lf S b / 4 ^ (len (lf S b) - k) % 4 ^ (k - (len (lf S a) - q))))), (5, .int (nI k))] → W pY lY eY { frames := 2, cells := 0, slots := 0, locals := 48 } sY mY aY bY tY cY H locs 0 0 QY (F0 mY 19 ls []) := by
    intro nY19
    induction nY19 with
    | zero => intro k hk1 hk2 hm19; exact absurd hm19 (Nat.not_lt_zero _)
    | succ nY19 ih19 =>
      intro k hk1 hk2 hm19 H locs ls hP hD hS hl
      refine lv_iload hx hb dX11_lays_19 (lv_at hl 5 rfl) ?_
      refine lv_aload_n hx hb dX11_lays_21 rfl (lv_at hl 0 rfl) ?_
      refine lv_iload_n hx hb dX11_lays_22 rfl (lv_at hl 2 rfl) ?_
      refine ci_V (As := [.int (nI b)]) (rest := [.int (nI k)]) h0 hK hN hP hD hS hA hl.1 (k_X11_left lY D cA B S WA BG AS TX RW RR FD m1 m2 m3 m4 m5 m6 m7 m8 m9 m10 m11 m12 m13 m14 m15 m16 m17 m18 m19 b (by omega)) [0, 1, 2, 3, 4, 5, 6, 7, 8] rfl (by decide) (cwV 1 hts gX11_lays_X11_left rfl rfl rfl (by decide +kernel) ⟨Nat.le_of_ble_eq_true rfl, Nat.le_of_ble_eq_true rfl⟩) (cl_recv (ci := 10) (q := (RX11, TX11, 27)) (q0 := 0) hP hK rfl rfl) rfl rfl (Nat.le_of_ble_eq_true rfl) dX11_lays_23 ⟨Nat.zero_le _, Nat.zero_le _⟩ (fun rY wY H locs hwY hJ hS => ?_)
      obtain ⟨e1Y, e2Y⟩ := hwY
      have e3Y := e1Y.symm
      clear e1Y
      subst e3Y
      have e3Y := e2Y.symm
      clear e2Y
      subst e3Y
      obtain ⟨hP, hD⟩ := hJ rfl
      have hP : va_P D vwCl (gMo cA B (fN S) WA BG AS TX RW RR FD m1 m2 m3 m4 m5 m6 m7 m8 m9 m10 m11 m12 m13 m14 m15 m16 m17 m18 m19) H := hP
      have hD : va_D AY (gMo cA B (fN S) WA BG AS TX RW RR FD m1 m2 m3 m4 m5 m6 m7 m8 m9 m10 m11 m12 m13 m14 m15 m16 m17 m18 m19) := hD
      refine ci_S (As := [.int (nI (lf S b))]) (rest := [.int (nI k)]) h0 hK hN hP hD hS hA hl.1 (k_X11_length lY D cA (lf S b) (vb1.1) (by omega)) [] rfl (by decide) (va_cwS 1 hts gX11_lays_X11_length rfl rfl rfl (by decide +kernel) ⟨Nat.le_of_ble_eq_true rfl, Nat.le_of_ble_eq_true rfl⟩) rfl rfl (Nat.le_of_ble_eq_true rfl) dX11_lays_26 ⟨Nat.zero_le _, Nat.zero_le _⟩ (fun rY wY H locs hwY hJ hS => ?_)
      obtain ⟨e1Y, e2Y⟩ := hwY
      have e3Y := e1Y.symm
      clear e1Y
      subst e3Y
      have e3Y := e2Y.symm
      clear e2Y
      subst e3Y
      obtain ⟨hP, hD⟩ := hJ rfl
      have hP : va_P D vwCl (gMo cA B (fN S) WA BG AS TX RW RR FD m1 m2 m3 m4 m5 m6 m7 m8 m9 m10 m11 m12 m13 m14 m15 m16 m17 m18 m19) H := hP
      have hD : va_D AY (gMo cA B (fN S) WA BG AS TX RW RR FD m1 m2 m3 m4 m5 m6 m7 m8 m9 m10 m11 m12 m13 m14 m15 m16 m17 m18 m19) := hD
      refine xc_ge (tgt := 55) hx hb dX11_lays_29 (by decide) (by omega) (by omega) (fun c29 => ?_) (fun c29 => ?_)
      · have hl : lv_has ls 6 [(0, .ref (B 0)), (1, .int (nI a)), (2, .int (nI b)), (3, .int (nI q)), (4, .int (nI (ovw S a b q))), (5, .int (nI k))] := Eq.mp (congrArg (fun zY : Int32 => lv_has ls 6 [(0, .ref (B 0)), (1, .int (nI a)), (2, .int (nI b)), (3, .int (nI q)), (4, .int zY), (5, .int (nI k))]) (show nI (lf S a * 4 ^ (k - (len (lf S a) - q)) + lf S b / 4 ^ (len (lf S b) - k) % 4 ^ (k - (len (lf S a) - q))) = nI (ovw S a b q) from congrArg nI (lay_e hqa hk1 (by omega) hk2))) hl
        refine lv_aload_n hx hb dX11_lays_55 rfl (lv_at hl 0 rfl) ?_
        refine lv_iload_n hx hb dX11_lays_56 rfl (lv_at hl 1 rfl) ?_
        refine va_put (D := D) (ci := 10) (v := .int (nI a)) (ty := .int) (C := RX11) (T := TX11) (N := 27) hx hb hts hi_X11_lays_X11 tyX11 tyX11_ok nmX11 hown hK hP hD hS 0 rfl rfl 20 (by decide) (hts (.fieldLink RX11 136 "FallingWordsModel" "oneRule" "I") (by decide +kernel)) (fun _ h9 => h9) rfl (by decide +kernel) rfl rfl (Nat.le_of_ble_eq_true rfl) dX11_lays_57 (fun H locs hP hD hS => ?_)
        have hP : va_P D vwCl (gMo cA B (fN S) WA BG AS TX RW RR FD m1 m2 m3 m4 m5 m6 m7 m8 m9 m10 m11 m12 (nI a) m14 m15 m16 m17 m18 m19) H := hP
        have hD : va_D AY (gMo cA B (fN S) WA BG AS TX RW RR FD m1 m2 m3 m4 m5 m6 m7 m8 m9 m10 m11 m12 (nI a) m14 m15 m16 m17 m18 m19) := hD
        refine lv_aload_n hx hb dX11_lays_60 rfl (lv_at hl 0 rfl) ?_
        refine lv_iload_n hx hb dX11_lays_61 rfl (lv_at hl 2 rfl) ?_
        refine va_put (D := D) (ci := 10) (v := .int (nI b)) (ty := .int) (C := RX11) (T := TX11) (N := 27) hx hb hts hi_X11_lays_X11 tyX11 tyX11_ok nmX11 hown hK hP hD hS 0 rfl rfl 21 (by decide) (hts (.fieldLink RX11 139 "FallingWordsModel" "otherRule" "I") (by decide +kernel)) (fun _ h9 => h9) rfl (by decide +kernel) rfl rfl (Nat.le_of_ble_eq_true rfl) dX11_lays_62 (fun H locs hP hD hS => ?_)
        have hP : va_P D vwCl (gMo cA B (fN S) WA BG AS TX RW RR FD m1 m2 m3 m4 m5 m6 m7 m8 m9 m10 m11 m12 (nI a) (nI b) m15 m16 m17 m18 m19) H := hP
        have hD : va_D AY (gMo cA B (fN S) WA BG AS TX RW RR FD m1 m2 m3 m4 m5 m6 m7 m8 m9 m10 m11 m12 (nI a) (nI b) m15 m16 m17 m18 m19) := hD
        refine lv_aload_n hx hb dX11_lays_65 rfl (lv_at hl 0 rfl) ?_
        refine lv_iload_n hx hb dX11_lays_66 rfl (lv_at hl 3 rfl) ?_
        refine va_put (D := D) (ci := 10) (v := .int (nI q)) (ty := .int) (C := RX11) (T := TX11) (N := 27) hx hb hts hi_X11_lays_X11 tyX11 tyX11_ok nmX11 hown hK hP hD hS 0 rfl rfl 22 (by decide) (hts (.fieldLink RX11 142 "FallingWordsModel" "overlapPlace" "I") (by decide +kernel)) (fun _ h9 => h9) rfl (by decide +kernel) rfl rfl (Nat.le_of_ble_eq_true rfl) dX11_lays_67 (fun H locs hP hD hS => ?_)
        have hP : va_P D vwCl (gMo cA B (fN S) WA BG AS TX RW RR FD m1 m2 m3 m4 m5 m6 m7 m8 m9 m10 m11 m12 (nI a) (nI b) (nI q) m16 m17 m18 m19) H := hP
        have hD : va_D AY (gMo cA B (fN S) WA BG AS TX RW RR FD m1 m2 m3 m4 m5 m6 m7 m8 m9 m10 m11 m12 (nI a) (nI b) (nI q) m16 m17 m18 m19) := hD
        refine lv_aload_n hx hb dX11_lays_70 rfl (lv_at hl 0 rfl) ?_
        refine lv_aload_n hx hb dX11_lays_71 rfl (lv_at hl 0 rfl) ?_
        refine lv_iload hx hb dX11_lays_72 (lv_at hl 4 rfl) ?_
        refine lv_iload_n hx hb dX11_lays_74 rfl (lv_at hl 1 rfl) ?_
        refine lv_iconst (v := nI 0) hx hb dX11_lays_75 (by decide +kernel) ?_
        refine ci_V (As := [.int (nI (ovw S a b q)), .int (nI a), .int (nI 0)]) (rest := [.ref (B 0)]) h0 hK hN hP hD hS hA hl.1 (k_X11_applied lY D cA B S WA BG AS TX RW RR FD m1 m2 m3 m4 m5 m6 m7 m8 m9 m10 m11 m12 (nI a) (nI b) (nI q) m16 m17 m18 m19 (ovw S a b q) a 0 (hI) (e1) (ha) (e2)) [0, 1, 2, 3, 4, 5, 6, 7, 8] rfl (by decide) (cwV 3 hts gX11_lays_X11_applied rfl rfl rfl (by decide +kernel) ⟨Nat.le_of_ble_eq_true rfl, Nat.le_of_ble_eq_true rfl⟩) (cl_recv (ci := 10) (q := (RX11, TX11, 27)) (q0 := 0) hP hK rfl rfl) rfl rfl (Nat.le_of_ble_eq_true rfl) dX11_lays_76 ⟨Nat.zero_le _, Nat.zero_le _⟩ (fun rY wY H locs hwY hJ hS => ?_)
        obtain ⟨e1Y, e2Y⟩ := hwY
        have e3Y := e1Y.symm
        clear e1Y
        subst e3Y
        have e3Y := e2Y.symm
        clear e2Y
        subst e3Y
        obtain ⟨hP, hD⟩ := hJ rfl
        have hP : va_P D vwCl (gMo cA B (fN S) WA BG AS TX RW RR FD m1 m2 m3 m4 m5 m6 m7 m8 m9 m10 m11 m12 (nI a) (nI b) (nI q) m16 m17 m18 m19) H := hP
        have hD : va_D AY (gMo cA B (fN S) WA BG AS TX RW RR FD m1 m2 m3 m4 m5 m6 m7 m8 m9 m10 m11 m12 (nI a) (nI b) (nI q) m16 m17 m18 m19) := hD
        refine xt (show nI (app (lf S a) (rt S a) (ovw S a b q) 0) = nI (ow1 S a b q) from rfl) ?_
        refine va_put (D := D) (ci := 10) (v := .int (nI (ow1 S a b q))) (ty := .int) (C := RX11) (T := TX11) (N := 27) hx hb hts hi_X11_lays_X11 tyX11 tyX11_ok nmX11 hown hK hP hD hS 0 rfl rfl 23 (by decide) (hts (.fieldLink RX11 145 "FallingWordsModel" "oneWord" "I") (by decide +kernel)) (fun _ h9 => h9) rfl (by decide +kernel) rfl rfl (Nat.le_of_ble_eq_true rfl) dX11_lays_79 (fun H locs hP hD hS => ?_)
        have hP : va_P D vwCl (gMo cA B (fN S) WA BG AS TX RW RR FD m1 m2 m3 m4 m5 m6 m7 m8 m9 m10 m11 m12 (nI a) (nI b) (nI q) (nI (ow1 S a b q)) m17 m18 m19) H := hP
        have hD : va_D AY (gMo cA B (fN S) WA BG AS TX RW RR FD m1 m2 m3 m4 m5 m6 m7 m8 m9 m10 m11 m12 (nI a) (nI b) (nI q) (nI (ow1 S a b q)) m17 m18 m19) := hD
        refine lv_aload_n hx hb dX11_lays_82 rfl (lv_at hl 0 rfl) ?_
        refine lv_aload_n hx hb dX11_lays_83 rfl (lv_at hl 0 rfl) ?_
        refine lv_iload hx hb dX11_lays_84 (lv_at hl 4 rfl) ?_
        refine lv_iload_n hx hb dX11_lays_86 rfl (lv_at hl 2 rfl) ?_
        refine lv_iload_n hx hb dX11_lays_87 rfl (lv_at hl 3 rfl) ?_
        refine ci_V (As := [.int (nI (ovw S a b q)), .int (nI b), .int (nI q)]) (rest := [.ref (B 0)]) h0 hK hN hP hD hS hA hl.1 (k_X11_applied lY D cA B S WA BG AS TX RW RR FD m1 m2 m3 m4 m5 m6 m7 m8 m9 m10 m11 m12 (nI a) (nI b) (nI q) (nI (ow1 S a b q)) m17 m18 m19 (ovw S a b q) b q (hI) (e1) (hb2) (e3)) [0, 1, 2, 3, 4, 5, 6, 7, 8] rfl (by decide) (cwV 3 hts gX11_lays_X11_applied rfl rfl rfl (by decide +kernel) ⟨Nat.le_of_ble_eq_true rfl, Nat.le_of_ble_eq_true rfl⟩) (cl_recv (ci := 10) (q := (RX11, TX11, 27)) (q0 := 0) hP hK rfl rfl) rfl rfl (Nat.le_of_ble_eq_true rfl) dX11_lays_88 ⟨Nat.zero_le _, Nat.zero_le _⟩ (fun rY wY H locs hwY hJ hS => ?_)
        obtain ⟨e1Y, e2Y⟩ := hwY
        have e3Y := e1Y.symm
        clear e1Y
        subst e3Y
        have e3Y := e2Y.symm
        clear e2Y
        subst e3Y
        obtain ⟨hP, hD⟩ := hJ rfl
        have hP : va_P D vwCl (gMo cA B (fN S) WA BG AS TX RW RR FD m1 m2 m3 m4 m5 m6 m7 m8 m9 m10 m11 m12 (nI a) (nI b) (nI q) (nI (ow1 S a b q)) m17 m18 m19) H := hP
        have hD : va_D AY (gMo cA B (fN S) WA BG AS TX RW RR FD m1 m2 m3 m4 m5 m6 m7 m8 m9 m10 m11 m12 (nI a) (nI b) (nI q) (nI (ow1 S a b q)) m17 m18 m19) := hD
        refine xt (show nI (app (lf S b) (rt S b) (ovw S a b q) q) = nI (ow2 S a b q) from rfl) ?_
        refine va_put (D := D) (ci := 10) (v := .int (nI (ow2 S a b q))) (ty := .int) (C := RX11) (T := TX11) (N := 27) hx hb hts hi_X11_lays_X11 tyX11 tyX11_ok nmX11 hown hK hP hD hS 0 rfl rfl 24 (by decide) (hts (.fieldLink RX11 148 "FallingWordsModel" "otherWord" "I") (by decide +kernel)) (fun _ h9 => h9) rfl (by decide +kernel) rfl rfl (Nat.le_of_ble_eq_true rfl) dX11_lays_91 (fun H locs hP hD hS => ?_)
        have hP : va_P D vwCl (gMo cA B (fN S) WA BG AS TX RW RR FD m1 m2 m3 m4 m5 m6 m7 m8 m9 m10 m11 m12 (nI a) (nI b) (nI q) (nI (ow1 S a b q)) (nI (ow2 S a b q)) m18 m19) H := hP
        have hD : va_D AY (gMo cA B (fN S) WA BG AS TX RW RR FD m1 m2 m3 m4 m5 m6 m7 m8 m9 m10 m11 m12 (nI a) (nI b) (nI q) (nI (ow1 S a b q)) (nI (ow2 S a b q)) m18 m19) := hD
        exact hret _ _ _ _ _ dX11_lays_94 rfl hP hD hS
      · refine lv_iconst (v := nI 4) hx hb dX11_lays_32 (by decide +kernel) ?_
        refine lv_iload hx hb dX11_lays_33 (lv_at hl 4 rfl) ?_
        refine lv_imul hx hb dX11_lays_35 ?_
        refine xt (show (nI 4) * (nI (lf S a * 4 ^ (k - (len (lf S a) - q)) + lf S b / 4 ^ (len (lf S b) - k) % 4 ^ (k - (len (lf S a) - q)))) = nI (4 * (lf S a * 4 ^ (k - (len (lf S a) - q)) + lf S b / 4 ^ (len (lf S b) - k) % 4 ^ (k - (len (lf S a) - q)))) from pk_mul _ _) ?_
        refine lv_aload_n hx hb dX11_lays_36 rfl (lv_at hl 0 rfl) ?_
        refine lv_iload_n hx hb dX11_lays_37 rfl (lv_at hl 2 rfl) ?_
        refine ci_V (As := [.int (nI b)]) (rest := [.int (nI (4 * (lf S a * 4 ^ (k - (len (lf S a) - q)) + lf S b / 4 ^ (len (lf S b) - k) % 4 ^ (k - (len (lf S a) - q)))))]) h0 hK hN hP hD hS hA hl.1 (k_X11_left lY D cA B S WA BG AS TX RW RR FD m1 m2 m3 m4 m5 m6 m7 m8 m9 m10 m11 m12 m13 m14 m15 m16 m17 m18 m19 b (by omega)) [0, 1, 2, 3, 4, 5, 6, 7, 8] rfl (by decide) (cwV 1 hts gX11_lays_X11_left rfl rfl rfl (by decide +kernel) ⟨Nat.le_of_ble_eq_true rfl, Nat.le_of_ble_eq_true rfl⟩) (cl_recv (ci := 10) (q := (RX11, TX11, 27)) (q0 := 0) hP hK rfl rfl) rfl rfl (Nat.le_of_ble_eq_true rfl) dX11_lays_38 ⟨Nat.zero_le _, Nat.zero_le _⟩ (fun rY wY H locs hwY hJ hS => ?_)
        obtain ⟨e1Y, e2Y⟩ := hwY
        have e3Y := e1Y.symm
        clear e1Y
        subst e3Y
        have e3Y := e2Y.symm
        clear e2Y
        subst e3Y
        obtain ⟨hP, hD⟩ := hJ rfl
        have hP : va_P D vwCl (gMo cA B (fN S) WA BG AS TX RW RR FD m1 m2 m3 m4 m5 m6 m7 m8 m9 m10 m11 m12 m13 m14 m15 m16 m17 m18 m19) H := hP
        have hD : va_D AY (gMo cA B (fN S) WA BG AS TX RW RR FD m1 m2 m3 m4 m5 m6 m7 m8 m9 m10 m11 m12 m13 m14 m15 m16 m17 m18 m19) := hD
        refine lv_iload hx hb dX11_lays_41 (lv_at hl 5 rfl) ?_
        refine ci_S (As := [.int (nI (lf S b)), .int (nI k)]) (rest := [.int (nI (4 * (lf S a * 4 ^ (k - (len (lf S a) - q)) + lf S b / 4 ^ (len (lf S b) - k) % 4 ^ (k - (len (lf S a) - q)))))]) h0 hK hN hP hD hS hA hl.1 (k_X11_letter lY D cA (lf S b) k (vw_up vb1 (by decide)) (by omega)) [] rfl (by decide) (va_cwS 2 hts gX11_lays_X11_letter rfl rfl rfl (by decide +kernel) ⟨Nat.le_of_ble_eq_true rfl, Nat.le_of_ble_eq_true rfl⟩) rfl rfl (Nat.le_of_ble_eq_true rfl) dX11_lays_43 ⟨Nat.zero_le _, Nat.zero_le _⟩ (fun rY wY H locs hwY hJ hS => ?_)
        obtain ⟨e1Y, e2Y⟩ := hwY
        have e3Y := e1Y.symm
        clear e1Y
        subst e3Y
        have e3Y := e2Y.symm
        clear e2Y
        subst e3Y
        obtain ⟨hP, hD⟩ := hJ rfl
        have hP : va_P D vwCl (gMo cA B (fN S) WA BG AS TX RW RR FD m1 m2 m3 m4 m5 m6 m7 m8 m9 m10 m11 m12 m13 m14 m15 m16 m17 m18 m19) H := hP
        have hD : va_D AY (gMo cA B (fN S) WA BG AS TX RW RR FD m1 m2 m3 m4 m5 m6 m7 m8 m9 m10 m11 m12 m13 m14 m15 m16 m17 m18 m19) := hD
        refine lv_iadd hx hb dX11_lays_46 ?_
        refine xt (show (nI (4 * (lf S a * 4 ^ (k - (len (lf S a) - q)) + lf S b / 4 ^ (len (lf S b) - k) % 4 ^ (k - (len (lf S a) - q))))) + (nI (lt4 (lf S b) k)) = nI (lf S a * 4 ^ ((k + 1) - (len (lf S a) - q)) + lf S b / 4 ^ (len (lf S b) - (k + 1)) % 4 ^ ((k + 1) - (len (lf S a) - q))) from (nI_add _ _).trans (congrArg nI (by rw [show k + 1 - (len (lf S a) - q) = k - (len (lf S a) - q) + 1 by omega]; exact lay_s (by omega)))) ?_
        refine lv_istore (lv' := [(4, .int (nI (lf S a * 4 ^ ((k + 1) - (len (lf S a) - q)) + lf S b / 4 ^ (len (lf S b) - (k + 1)) % 4 ^ ((k + 1) - (len (lf S a) - q))))), (0, .ref (B 0)), (1, .int (nI a)), (2, .int (nI b)), (3, .int (nI q)), (5, .int (nI k))]) hx hb dX11_lays_47 hl (by decide) rfl (fun ls hl => ?_)
        refine lv_iinc (v := nI (k + 1)) (lv' := [(5, .int (nI (k + 1))), (4, .int (nI (lf S a * 4 ^ ((k + 1) - (len (lf S a) - q)) + lf S b / 4 ^ (len (lf S b) - (k + 1)) % 4 ^ ((k + 1) - (len (lf S a) - q))))), (0, .ref (B 0)), (1, .int (nI a)), (2, .int (nI b)), (3, .int (nI q))]) hx hb dX11_lays_49 hl (k := 5) rfl (show nI k + Int32.ofInt 1 = nI (k + 1) from nI_add k 1) (by decide) rfl (fun ls hl => ?_)
        refine lv_goto (tgt := 19) hx hb dX11_lays_52 (by decide) ?_
        exact ih19 (k + 1) (by omega) (by omega) (by omega) _ _ _ hP hD hS (lv_sub hl [2, 3, 4, 5, 1, 0] rfl)
  have hl : lv_has ls 6 [(5, .int (nI ((len (lf S a)) - q))), (4, .int (nI (lf S a * 4 ^ ((len (lf S a) - q) - (len (lf S a) - q)) + lf S b / 4 ^ (len (lf S b) - (len (lf S a) - q)) % 4 ^ ((len (lf S a) - q) - (len (lf S a) - q))))), (0, .ref (B 0)), (1, .int (nI a)), (2, .int (nI b)), (3, .int (nI q))] := Eq.mp (congrArg (fun zY : Int32 => lv_has ls 6 [(5, .int (nI ((len (lf S a)) - q))), (4, .int zY), (0, .ref (B 0)), (1, .int (nI a)), (2, .int (nI b)), (3, .int (nI q))]) (show nI (lf S a) = nI (lf S a * 4 ^ ((len (lf S a) - q) - (len (lf S a) - q)) + lf S b / 4 ^ (len (lf S b) - (len (lf S a) - q)) % 4 ^ ((len (lf S a) - q) - (len (lf S a) - q))) from congrArg nI (by rw [Nat.sub_self, Nat.pow_zero, Nat.mod_one, Nat.mul_one, Nat.add_zero]))) hl
  exact L19 _ (len (lf S a) - q) (by omega) (by omega) (Nat.lt_succ_self _) _ _ _ hP hD hS (lv_sub hl [2, 3, 4, 5, 1, 0] rfl)

theorem hi_X11_parts_X11 : ∀ w ∈ u_ws RX11 TX11 27, w ∈ wsX11_parts := by decide +kernel
set_option maxHeartbeats 1000000 in
set_option maxRecDepth 100000 in
theorem k_X11_parts (lY : Launch) (D : va_G) (cA : Nat → ClassId) (B : Nat → Nat) (S : St) (WA BG AS TX RW RR FD : Nat → Int32) (m1 m2 m3 m4 m5 m6 m7 m8 m9 m10 m11 m12 m13 m14 m15 m18 m19 : Int32) (u v : Nat) (hI : IR S) (hu : vw 12 u) (hv : vw 12 v) : MetI lY D cA yX11_parts wsX11_parts 4 95 [.ref (B 0)] (gMo cA B (fN S) WA BG AS TX RW RR FD m1 m2 m3 m4 m5 m6 m7 m8 m9 m10 m11 m12 m13 m14 m15 (nI u) (nI v) m18 m19) (fun rY wY => ∃ (k8 : Int32) (k9 : Int32) (RW' : Nat → Int32) (RR' : Nat → Int32) (k10 : Int32) (k11 : Int32), rY = nI (par S u v) ∧ wY = gMo cA B (fN S) WA BG AS TX RW' RR' FD m1 m2 m3 m4 m5 m6 m7 k8 k9 k10 k11 m12 m13 m14 m15 (nI u) (nI v) (nI (nw S u)) (nI (nw S v))) := by
  refine MetI.of (cc := cX11_parts) (maxL := 3) (ret := (some .int)) (by decide) rfl (Nat.le_of_ble_eq_true rfl) (Or.inl rfl) ?_
  intro pY eY sY mY aY bY tY cY QY AY ls h0 hP hK hN hD hA hS hl hret
  obtain ⟨hx, hb, hml, hown, hts⟩ := id h0
  have hl : lv_has ls 3 [(0, .ref (B 0))] := hl
  have hP : va_P D vwCl (gMo cA B (fN S) WA BG AS TX RW RR FD m1 m2 m3 m4 m5 m6 m7 m8 m9 m10 m11 m12 m13 m14 m15 (nI u) (nI v) m18 m19) sY.heap := hP
  have hD : va_D AY (gMo cA B (fN S) WA BG AS TX RW RR FD m1 m2 m3 m4 m5 m6 m7 m8 m9 m10 m11 m12 m13 m14 m15 (nI u) (nI v) m18 m19) := hD
  obtain ⟨z1, -, z3, z4, -, -⟩ := red_ok hI hu
  obtain ⟨y1, -, y3, y4, -, -⟩ := red_ok hI hv
  have hBz : nw S u < 134217728 := vw_B z3 (by decide)
  have hBy : nw S v < 134217728 := vw_B y3 (by decide)
  refine lv_aload_n hx hb dX11_parts_0 rfl (lv_at hl 0 rfl) ?_
  refine lv_aload_n hx hb dX11_parts_1 rfl (lv_at hl 0 rfl) ?_
  refine va_get (D := D) (ci := 10) (v := .int (nI u)) (C := RX11) (T := TX11) (N := 27) hx hb hts hi_X11_parts_X11 hown hK hP 0 rfl rfl 23 (by decide) (hts (.fieldLink RX11 145 "FallingWordsModel" "oneWord" "I") (by decide +kernel)) (fun _ h9 => h9) rfl dX11_parts_2 ?_
  refine ci_V (As := [.int (nI u)]) (rest := []) h0 hK hN hP hD hS hA hl.1 (k_X11_reduces lY D cA B S WA BG AS TX RW RR FD m1 m2 m3 m4 m5 m6 m7 m8 m9 m10 m11 m12 m13 m14 m15 (nI u) (nI v) m18 m19 u (hI) (hu)) [0, 1, 2, 3, 4, 5, 6, 7, 8] rfl (by decide) (cwV 1 hts gX11_parts_X11_reduces rfl rfl rfl (by decide +kernel) ⟨Nat.le_of_ble_eq_true rfl, Nat.le_of_ble_eq_true rfl⟩) (cl_recv (ci := 10) (q := (RX11, TX11, 27)) (q0 := 0) hP hK rfl rfl) rfl rfl (Nat.le_of_ble_eq_true rfl) dX11_parts_5 ⟨Nat.zero_le _, Nat.zero_le _⟩ (fun rY wY H locs hwY hJ hS => ?_)
  obtain ⟨k8_5, k9_5, RW'_5, RR'_5, k11_5, e1Y, e2Y, f1_5, f2_5, f3_5⟩ := hwY
  have e3Y := e1Y.symm
  clear e1Y
  subst e3Y
  have e3Y := e2Y.symm
  clear e2Y
  subst e3Y
  obtain ⟨hP, hD⟩ := hJ rfl
  have hP : va_P D vwCl (gMo cA B (fN S) WA BG AS TX RW'_5 RR'_5 FD m1 m2 m3 m4 m5 m6 m7 k8_5 k9_5 (nI ((red S u).2.1)) k11_5 m12 m13 m14 m15 (nI u) (nI v) m18 m19) H := hP
  have hD : va_D AY (gMo cA B (fN S) WA BG AS TX RW'_5 RR'_5 FD m1 m2 m3 m4 m5 m6 m7 k8_5 k9_5 (nI ((red S u).2.1)) k11_5 m12 m13 m14 m15 (nI u) (nI v) m18 m19) := hD
  refine x0_ne (tgt := 15) hx hb dX11_parts_8 (by decide) (by omega) (fun c8 => ?_) (fun c8 => ?_)
  · refine lv_iconst (v := nI 0) hx hb dX11_parts_15 (by decide +kernel) ?_
    refine lv_istore_n (lv' := [(1, .int (nI 0)), (0, .ref (B 0))]) hx hb dX11_parts_16 rfl hl (by decide) rfl (fun ls hl => ?_)
    refine lv_aload_n hx hb dX11_parts_17 rfl (lv_at hl 1 rfl) ?_
    refine lv_aload_n hx hb dX11_parts_18 rfl (lv_at hl 1 rfl) ?_
    refine va_get (D := D) (ci := 10) (v := .ref (B 6)) (C := RX11) (T := TX11) (N := 27) hx hb hts hi_X11_parts_X11 hown hK hP 0 rfl rfl 14 (by decide) (hts (.fieldLink RX11 26 "FallingWordsModel" "row" "[I") (by decide +kernel)) (fun _ h9 => h9) rfl dX11_parts_19 ?_
    refine lv_aload_n hx hb dX11_parts_22 rfl (lv_at hl 1 rfl) ?_
    refine va_get (D := D) (ci := 10) (v := .int (nI ((red S u).2.1))) (C := RX11) (T := TX11) (N := 27) hx hb hts hi_X11_parts_X11 hown hK hP 0 rfl rfl 16 (by decide) (hts (.fieldLink RX11 64 "FallingWordsModel" "rowSteps" "I") (by decide +kernel)) (fun _ h9 => h9) rfl dX11_parts_23 ?_
    refine xa_ld (v := nI (nw S u)) hx hb hK hP 6 rfl (by omega) (by decide) (f1_5 _ (Nat.le_refl _)) dX11_parts_26 ?_
    refine va_put (D := D) (ci := 10) (v := .int (nI (nw S u))) (ty := .int) (C := RX11) (T := TX11) (N := 27) hx hb hts hi_X11_parts_X11 tyX11 tyX11_ok nmX11 hown hK hP hD hS 0 rfl rfl 25 (by decide) (hts (.fieldLink RX11 151 "FallingWordsModel" "oneNormal" "I") (by decide +kernel)) (fun _ h9 => h9) rfl (by decide +kernel) rfl rfl (Nat.le_of_ble_eq_true rfl) dX11_parts_27 (fun H locs hP hD hS => ?_)
    have hP : va_P D vwCl (gMo cA B (fN S) WA BG AS TX RW'_5 RR'_5 FD m1 m2 m3 m4 m5 m6 m7 k8_5 k9_5 (nI ((red S u).2.1)) k11_5 m12 m13 m14 m15 (nI u) (nI v) (nI (nw S u)) m19) H := hP
    have hD : va_D AY (gMo cA B (fN S) WA BG AS TX RW'_5 RR'_5 FD m1 m2 m3 m4 m5 m6 m7 k8_5 k9_5 (nI ((red S u).2.1)) k11_5 m12 m13 m14 m15 (nI u) (nI v) (nI (nw S u)) m19) := hD
    refine lv_aload_n hx hb dX11_parts_30 rfl (lv_at hl 1 rfl) ?_
    refine lv_aload_n hx hb dX11_parts_31 rfl (lv_at hl 1 rfl) ?_
    refine va_get (D := D) (ci := 10) (v := .int (nI v)) (C := RX11) (T := TX11) (N := 27) hx hb hts hi_X11_parts_X11 hown hK hP 0 rfl rfl 24 (by decide) (hts (.fieldLink RX11 148 "FallingWordsModel" "otherWord" "I") (by decide +kernel)) (fun _ h9 => h9) rfl dX11_parts_32 ?_
    refine ci_V (As := [.int (nI v)]) (rest := []) h0 hK hN hP hD hS hA hl.1 (k_X11_reduces lY D cA B S WA BG AS TX RW'_5 RR'_5 FD m1 m2 m3 m4 m5 m6 m7 k8_5 k9_5 (nI ((red S u).2.1)) k11_5 m12 m13 m14 m15 (nI u) (nI v) (nI (nw S u)) m19 v (hI) (hv)) [0, 1, 2, 3, 4, 5, 6, 7, 8] rfl (by decide) (cwV 1 hts gX11_parts_X11_reduces rfl rfl rfl (by decide +kernel) ⟨Nat.le_of_ble_eq_true rfl, Nat.le_of_ble_eq_true rfl⟩) (cl_recv (ci := 10) (q := (RX11, TX11, 27)) (q0 := 0) hP hK rfl rfl) rfl rfl (Nat.le_of_ble_eq_true rfl) dX11_parts_35 ⟨Nat.zero_le _, Nat.zero_le _⟩ (fun rY wY H locs hwY hJ hS => ?_)
    obtain ⟨k8_35, k9_35, RW'_35, RR'_35, k11_35, e1Y, e2Y, f1_35, f2_35, f3_35⟩ := hwY
    have e3Y := e1Y.symm
    clear e1Y
    subst e3Y
    have e3Y := e2Y.symm
    clear e2Y
    subst e3Y
    obtain ⟨hP, hD⟩ := hJ rfl
    have hP : va_P D vwCl (gMo cA B (fN S) WA BG AS TX RW'_35 RR'_35 FD m1 m2 m3 m4 m5 m6 m7 k8_35 k9_35 (nI ((red S v).2.1)) k11_35 m12 m13 m14 m15 (nI u) (nI v) (nI (nw S u)) m19) H := hP
    have hD : va_D AY (gMo cA B (fN S) WA BG AS TX RW'_35 RR'_35 FD m1 m2 m3 m4 m5 m6 m7 k8_35 k9_35 (nI ((red S v).2.1)) k11_35 m12 m13 m14 m15 (nI u) (nI v) (nI (nw S u)) m19) := hD
    refine x0_ne (tgt := 45) hx hb dX11_parts_38 (by decide) (by omega) (fun c38 => ?_) (fun c38 => ?_)
    · refine lv_iconst (v := nI 0) hx hb dX11_parts_45 (by decide +kernel) ?_
      refine lv_istore_n (lv' := [(2, .int (nI 0)), (1, .int (nI 0)), (0, .ref (B 0))]) hx hb dX11_parts_46 rfl hl (by decide) rfl (fun ls hl => ?_)
      refine lv_aload_n hx hb dX11_parts_47 rfl (lv_at hl 2 rfl) ?_
      refine lv_aload_n hx hb dX11_parts_48 rfl (lv_at hl 2 rfl) ?_
      refine va_get (D := D) (ci := 10) (v := .ref (B 6)) (C := RX11) (T := TX11) (N := 27) hx hb hts hi_X11_parts_X11 hown hK hP 0 rfl rfl 14 (by decide) (hts (.fieldLink RX11 26 "FallingWordsModel" "row" "[I") (by decide +kernel)) (fun _ h9 => h9) rfl dX11_parts_49 ?_
      refine lv_aload_n hx hb dX11_parts_52 rfl (lv_at hl 2 rfl) ?_
      refine va_get (D := D) (ci := 10) (v := .int (nI ((red S v).2.1))) (C := RX11) (T := TX11) (N := 27) hx hb hts hi_X11_parts_X11 hown hK hP 0 rfl rfl 16 (by decide) (hts (.fieldLink RX11 64 "FallingWordsModel" "rowSteps" "I") (by decide +kernel)) (fun _ h9 => h9) rfl dX11_parts_53 ?_
      refine xa_ld (v := nI (nw S v)) hx hb hK hP 6 rfl (by omega) (by decide) (f1_35 _ (Nat.le_refl _)) dX11_parts_56 ?_
      refine va_put (D := D) (ci := 10) (v := .int (nI (nw S v))) (ty := .int) (C := RX11) (T := TX11) (N := 27) hx hb hts hi_X11_parts_X11 tyX11 tyX11_ok nmX11 hown hK hP hD hS 0 rfl rfl 26 (by decide) (hts (.fieldLink RX11 154 "FallingWordsModel" "otherNormal" "I") (by decide +kernel)) (fun _ h9 => h9) rfl (by decide +kernel) rfl rfl (Nat.le_of_ble_eq_true rfl) dX11_parts_57 (fun H locs hP hD hS => ?_)
      have hP : va_P D vwCl (gMo cA B (fN S) WA BG AS TX RW'_35 RR'_35 FD m1 m2 m3 m4 m5 m6 m7 k8_35 k9_35 (nI ((red S v).2.1)) k11_35 m12 m13 m14 m15 (nI u) (nI v) (nI (nw S u)) (nI (nw S v))) H := hP
      have hD : va_D AY (gMo cA B (fN S) WA BG AS TX RW'_35 RR'_35 FD m1 m2 m3 m4 m5 m6 m7 k8_35 k9_35 (nI ((red S v).2.1)) k11_35 m12 m13 m14 m15 (nI u) (nI v) (nI (nw S u)) (nI (nw S v))) := hD
      refine lv_iload_n hx hb dX11_parts_60 rfl (lv_at hl 1 rfl) ?_
      refine lv_if_eq (tgt := 68) hx hb dX11_parts_61 (by decide) (fun c61 => ?_) (fun c61 => ?_)
      rotate_left
      · exact absurd (by decide +kernel) c61
      refine lv_iconst (v := nI 2) hx hb dX11_parts_68 (by decide +kernel) ?_
      refine lv_goto (tgt := 88) hx hb dX11_parts_69 (by decide) ?_
      exact hret _ _ _ _ _ _ dX11_parts_88 ⟨k8_35, k9_35, RW'_35, RR'_35, ((nI ((red S v).2.1))), k11_35, (by rw [par_2a c8]), rfl⟩ hP hD hS
    · refine lv_iconst (v := nI 1) hx hb dX11_parts_41 (by decide +kernel) ?_
      refine lv_goto (tgt := 46) hx hb dX11_parts_42 (by decide) ?_
      refine lv_istore_n (lv' := [(2, .int (nI 1)), (1, .int (nI 0)), (0, .ref (B 0))]) hx hb dX11_parts_46 rfl hl (by decide) rfl (fun ls hl => ?_)
      refine lv_aload_n hx hb dX11_parts_47 rfl (lv_at hl 2 rfl) ?_
      refine lv_aload_n hx hb dX11_parts_48 rfl (lv_at hl 2 rfl) ?_
      refine va_get (D := D) (ci := 10) (v := .ref (B 6)) (C := RX11) (T := TX11) (N := 27) hx hb hts hi_X11_parts_X11 hown hK hP 0 rfl rfl 14 (by decide) (hts (.fieldLink RX11 26 "FallingWordsModel" "row" "[I") (by decide +kernel)) (fun _ h9 => h9) rfl dX11_parts_49 ?_
      refine lv_aload_n hx hb dX11_parts_52 rfl (lv_at hl 2 rfl) ?_
      refine va_get (D := D) (ci := 10) (v := .int (nI ((red S v).2.1))) (C := RX11) (T := TX11) (N := 27) hx hb hts hi_X11_parts_X11 hown hK hP 0 rfl rfl 16 (by decide) (hts (.fieldLink RX11 64 "FallingWordsModel" "rowSteps" "I") (by decide +kernel)) (fun _ h9 => h9) rfl dX11_parts_53 ?_
      refine xa_ld (v := nI (nw S v)) hx hb hK hP 6 rfl (by omega) (by decide) (f1_35 _ (Nat.le_refl _)) dX11_parts_56 ?_
      refine va_put (D := D) (ci := 10) (v := .int (nI (nw S v))) (ty := .int) (C := RX11) (T := TX11) (N := 27) hx hb hts hi_X11_parts_X11 tyX11 tyX11_ok nmX11 hown hK hP hD hS 0 rfl rfl 26 (by decide) (hts (.fieldLink RX11 154 "FallingWordsModel" "otherNormal" "I") (by decide +kernel)) (fun _ h9 => h9) rfl (by decide +kernel) rfl rfl (Nat.le_of_ble_eq_true rfl) dX11_parts_57 (fun H locs hP hD hS => ?_)
      have hP : va_P D vwCl (gMo cA B (fN S) WA BG AS TX RW'_35 RR'_35 FD m1 m2 m3 m4 m5 m6 m7 k8_35 k9_35 (nI ((red S v).2.1)) k11_35 m12 m13 m14 m15 (nI u) (nI v) (nI (nw S u)) (nI (nw S v))) H := hP
      have hD : va_D AY (gMo cA B (fN S) WA BG AS TX RW'_35 RR'_35 FD m1 m2 m3 m4 m5 m6 m7 k8_35 k9_35 (nI ((red S v).2.1)) k11_35 m12 m13 m14 m15 (nI u) (nI v) (nI (nw S u)) (nI (nw S v))) := hD
      refine lv_iload_n hx hb dX11_parts_60 rfl (lv_at hl 1 rfl) ?_
      refine lv_if_eq (tgt := 68) hx hb dX11_parts_61 (by decide) (fun c61 => ?_) (fun c61 => ?_)
      rotate_left
      · exact absurd (by decide +kernel) c61
      refine lv_iconst (v := nI 2) hx hb dX11_parts_68 (by decide +kernel) ?_
      refine lv_goto (tgt := 88) hx hb dX11_parts_69 (by decide) ?_
      exact hret _ _ _ _ _ _ dX11_parts_88 ⟨k8_35, k9_35, RW'_35, RR'_35, ((nI ((red S v).2.1))), k11_35, (by rw [par_2a c8]), rfl⟩ hP hD hS
  · refine lv_iconst (v := nI 1) hx hb dX11_parts_11 (by decide +kernel) ?_
    refine lv_goto (tgt := 16) hx hb dX11_parts_12 (by decide) ?_
    refine lv_istore_n (lv' := [(1, .int (nI 1)), (0, .ref (B 0))]) hx hb dX11_parts_16 rfl hl (by decide) rfl (fun ls hl => ?_)
    refine lv_aload_n hx hb dX11_parts_17 rfl (lv_at hl 1 rfl) ?_
    refine lv_aload_n hx hb dX11_parts_18 rfl (lv_at hl 1 rfl) ?_
    refine va_get (D := D) (ci := 10) (v := .ref (B 6)) (C := RX11) (T := TX11) (N := 27) hx hb hts hi_X11_parts_X11 hown hK hP 0 rfl rfl 14 (by decide) (hts (.fieldLink RX11 26 "FallingWordsModel" "row" "[I") (by decide +kernel)) (fun _ h9 => h9) rfl dX11_parts_19 ?_
    refine lv_aload_n hx hb dX11_parts_22 rfl (lv_at hl 1 rfl) ?_
    refine va_get (D := D) (ci := 10) (v := .int (nI ((red S u).2.1))) (C := RX11) (T := TX11) (N := 27) hx hb hts hi_X11_parts_X11 hown hK hP 0 rfl rfl 16 (by decide) (hts (.fieldLink RX11 64 "FallingWordsModel" "rowSteps" "I") (by decide +kernel)) (fun _ h9 => h9) rfl dX11_parts_23 ?_
    refine xa_ld (v := nI (nw S u)) hx hb hK hP 6 rfl (by omega) (by decide) (f1_5 _ (Nat.le_refl _)) dX11_parts_26 ?_
    refine va_put (D := D) (ci := 10) (v := .int (nI (nw S u))) (ty := .int) (C := RX11) (T := TX11) (N := 27) hx hb hts hi_X11_parts_X11 tyX11 tyX11_ok nmX11 hown hK hP hD hS 0 rfl rfl 25 (by decide) (hts (.fieldLink RX11 151 "FallingWordsModel" "oneNormal" "I") (by decide +kernel)) (fun _ h9 => h9) rfl (by decide +kernel) rfl rfl (Nat.le_of_ble_eq_true rfl) dX11_parts_27 (fun H locs hP hD hS => ?_)
    have hP : va_P D vwCl (gMo cA B (fN S) WA BG AS TX RW'_5 RR'_5 FD m1 m2 m3 m4 m5 m6 m7 k8_5 k9_5 (nI ((red S u).2.1)) k11_5 m12 m13 m14 m15 (nI u) (nI v) (nI (nw S u)) m19) H := hP
    have hD : va_D AY (gMo cA B (fN S) WA BG AS TX RW'_5 RR'_5 FD m1 m2 m3 m4 m5 m6 m7 k8_5 k9_5 (nI ((red S u).2.1)) k11_5 m12 m13 m14 m15 (nI u) (nI v) (nI (nw S u)) m19) := hD
    refine lv_aload_n hx hb dX11_parts_30 rfl (lv_at hl 1 rfl) ?_
    refine lv_aload_n hx hb dX11_parts_31 rfl (lv_at hl 1 rfl) ?_
    refine va_get (D := D) (ci := 10) (v := .int (nI v)) (C := RX11) (T := TX11) (N := 27) hx hb hts hi_X11_parts_X11 hown hK hP 0 rfl rfl 24 (by decide) (hts (.fieldLink RX11 148 "FallingWordsModel" "otherWord" "I") (by decide +kernel)) (fun _ h9 => h9) rfl dX11_parts_32 ?_
    refine ci_V (As := [.int (nI v)]) (rest := []) h0 hK hN hP hD hS hA hl.1 (k_X11_reduces lY D cA B S WA BG AS TX RW'_5 RR'_5 FD m1 m2 m3 m4 m5 m6 m7 k8_5 k9_5 (nI ((red S u).2.1)) k11_5 m12 m13 m14 m15 (nI u) (nI v) (nI (nw S u)) m19 v (hI) (hv)) [0, 1, 2, 3, 4, 5, 6, 7, 8] rfl (by decide) (cwV 1 hts gX11_parts_X11_reduces rfl rfl rfl (by decide +kernel) ⟨Nat.le_of_ble_eq_true rfl, Nat.le_of_ble_eq_true rfl⟩) (cl_recv (ci := 10) (q := (RX11, TX11, 27)) (q0 := 0) hP hK rfl rfl) rfl rfl (Nat.le_of_ble_eq_true rfl) dX11_parts_35 ⟨Nat.zero_le _, Nat.zero_le _⟩ (fun rY wY H locs hwY hJ hS => ?_)
    obtain ⟨k8_35, k9_35, RW'_35, RR'_35, k11_35, e1Y, e2Y, f1_35, f2_35, f3_35⟩ := hwY
    have e3Y := e1Y.symm
    clear e1Y
    subst e3Y
    have e3Y := e2Y.symm
    clear e2Y
    subst e3Y
    obtain ⟨hP, hD⟩ := hJ rfl
    have hP : va_P D vwCl (gMo cA B (fN S) WA BG AS TX RW'_35 RR'_35 FD m1 m2 m3 m4 m5 m6 m7 k8_35 k9_35 (nI ((red S v).2.1)) k11_35 m12 m13 m14 m15 (nI u) (nI v) (nI (nw S u)) m19) H := hP
    have hD : va_D AY (gMo cA B (fN S) WA BG AS TX RW'_35 RR'_35 FD m1 m2 m3 m4 m5 m6 m7 k8_35 k9_35 (nI ((red S v).2.1)) k11_35 m12 m13 m14 m15 (nI u) (nI v) (nI (nw S u)) m19) := hD
    refine x0_ne (tgt := 45) hx hb dX11_parts_38 (by decide) (by omega) (fun c38 => ?_) (fun c38 => ?_)
    · refine lv_iconst (v := nI 0) hx hb dX11_parts_45 (by decide +kernel) ?_
      refine lv_istore_n (lv' := [(2, .int (nI 0)), (1, .int (nI 1)), (0, .ref (B 0))]) hx hb dX11_parts_46 rfl hl (by decide) rfl (fun ls hl => ?_)
      refine lv_aload_n hx hb dX11_parts_47 rfl (lv_at hl 2 rfl) ?_
      refine lv_aload_n hx hb dX11_parts_48 rfl (lv_at hl 2 rfl) ?_
      refine va_get (D := D) (ci := 10) (v := .ref (B 6)) (C := RX11) (T := TX11) (N := 27) hx hb hts hi_X11_parts_X11 hown hK hP 0 rfl rfl 14 (by decide) (hts (.fieldLink RX11 26 "FallingWordsModel" "row" "[I") (by decide +kernel)) (fun _ h9 => h9) rfl dX11_parts_49 ?_
      refine lv_aload_n hx hb dX11_parts_52 rfl (lv_at hl 2 rfl) ?_
      refine va_get (D := D) (ci := 10) (v := .int (nI ((red S v).2.1))) (C := RX11) (T := TX11) (N := 27) hx hb hts hi_X11_parts_X11 hown hK hP 0 rfl rfl 16 (by decide) (hts (.fieldLink RX11 64 "FallingWordsModel" "rowSteps" "I") (by decide +kernel)) (fun _ h9 => h9) rfl dX11_parts_53 ?_
      refine xa_ld (v := nI (nw S v)) hx hb hK hP 6 rfl (by omega) (by decide) (f1_35 _ (Nat.le_refl _)) dX11_parts_56 ?_
      refine va_put (D := D) (ci := 10) (v := .int (nI (nw S v))) (ty := .int) (C := RX11) (T := TX11) (N := 27) hx hb hts hi_X11_parts_X11 tyX11 tyX11_ok nmX11 hown hK hP hD hS 0 rfl rfl 26 (by decide) (hts (.fieldLink RX11 154 "FallingWordsModel" "otherNormal" "I") (by decide +kernel)) (fun _ h9 => h9) rfl (by decide +kernel) rfl rfl (Nat.le_of_ble_eq_true rfl) dX11_parts_57 (fun H locs hP hD hS => ?_)
      have hP : va_P D vwCl (gMo cA B (fN S) WA BG AS TX RW'_35 RR'_35 FD m1 m2 m3 m4 m5 m6 m7 k8_35 k9_35 (nI ((red S v).2.1)) k11_35 m12 m13 m14 m15 (nI u) (nI v) (nI (nw S u)) (nI (nw S v))) H := hP
      have hD : va_D AY (gMo cA B (fN S) WA BG AS TX RW'_35 RR'_35 FD m1 m2 m3 m4 m5 m6 m7 k8_35 k9_35 (nI ((red S v).2.1)) k11_35 m12 m13 m14 m15 (nI u) (nI v) (nI (nw S u)) (nI (nw S v))) := hD
      refine lv_iload_n hx hb dX11_parts_60 rfl (lv_at hl 1 rfl) ?_
      refine lv_if_eq (tgt := 68) hx hb dX11_parts_61 (by decide) (fun c61 => ?_) (fun c61 => ?_)
      · exact absurd c61 (by decide +kernel)
      refine lv_iload_n hx hb dX11_parts_64 rfl (lv_at hl 0 rfl) ?_
      refine lv_if_ne (tgt := 72) hx hb dX11_parts_65 (by decide) (fun c65 => ?_) (fun c65 => ?_)
      · exact absurd (by decide +kernel) c65
      refine lv_iconst (v := nI 2) hx hb dX11_parts_68 (by decide +kernel) ?_
      refine lv_goto (tgt := 88) hx hb dX11_parts_69 (by decide) ?_
      exact hret _ _ _ _ _ _ dX11_parts_88 ⟨k8_35, k9_35, RW'_35, RR'_35, ((nI ((red S v).2.1))), k11_35, (by rw [par_2b c38]), rfl⟩ hP hD hS
    · refine lv_iconst (v := nI 1) hx hb dX11_parts_41 (by decide +kernel) ?_
      refine lv_goto (tgt := 46) hx hb dX11_parts_42 (by decide) ?_
      refine lv_istore_n (lv' := [(2, .int (nI 1)), (1, .int (nI 1)), (0, .ref (B 0))]) hx hb dX11_parts_46 rfl hl (by decide) rfl (fun ls hl => ?_)
      refine lv_aload_n hx hb dX11_parts_47 rfl (lv_at hl 2 rfl) ?_
      refine lv_aload_n hx hb dX11_parts_48 rfl (lv_at hl 2 rfl) ?_
      refine va_get (D := D) (ci := 10) (v := .ref (B 6)) (C := RX11) (T := TX11) (N := 27) hx hb hts hi_X11_parts_X11 hown hK hP 0 rfl rfl 14 (by decide) (hts (.fieldLink RX11 26 "FallingWordsModel" "row" "[I") (by decide +kernel)) (fun _ h9 => h9) rfl dX11_parts_49 ?_
      refine lv_aload_n hx hb dX11_parts_52 rfl (lv_at hl 2 rfl) ?_
      refine va_get (D := D) (ci := 10) (v := .int (nI ((red S v).2.1))) (C := RX11) (T := TX11) (N := 27) hx hb hts hi_X11_parts_X11 hown hK hP 0 rfl rfl 16 (by decide) (hts (.fieldLink RX11 64 "FallingWordsModel" "rowSteps" "I") (by decide +kernel)) (fun _ h9 => h9) rfl dX11_parts_53 ?_
      refine xa_ld (v := nI (nw S v)) hx hb hK hP 6 rfl (by omega) (by decide) (f1_35 _ (Nat.le_refl _)) dX11_parts_56 ?_
      refine va_put (D := D) (ci := 10) (v := .int (nI (nw S v))) (ty := .int) (C := RX11) (T := TX11) (N := 27) hx hb hts hi_X11_parts_X11 tyX11 tyX11_ok nmX11 hown hK hP hD hS 0 rfl rfl 26 (by decide) (hts (.fieldLink RX11 154 "FallingWordsModel" "otherNormal" "I") (by decide +kernel)) (fun _ h9 => h9) rfl (by decide +kernel) rfl rfl (Nat.le_of_ble_eq_true rfl) dX11_parts_57 (fun H locs hP hD hS => ?_)
      have hP : va_P D vwCl (gMo cA B (fN S) WA BG AS TX RW'_35 RR'_35 FD m1 m2 m3 m4 m5 m6 m7 k8_35 k9_35 (nI ((red S v).2.1)) k11_35 m12 m13 m14 m15 (nI u) (nI v) (nI (nw S u)) (nI (nw S v))) H := hP
      have hD : va_D AY (gMo cA B (fN S) WA BG AS TX RW'_35 RR'_35 FD m1 m2 m3 m4 m5 m6 m7 k8_35 k9_35 (nI ((red S v).2.1)) k11_35 m12 m13 m14 m15 (nI u) (nI v) (nI (nw S u)) (nI (nw S v))) := hD
      refine lv_iload_n hx hb dX11_parts_60 rfl (lv_at hl 1 rfl) ?_
      refine lv_if_eq (tgt := 68) hx hb dX11_parts_61 (by decide) (fun c61 => ?_) (fun c61 => ?_)
      · exact absurd c61 (by decide +kernel)
      refine lv_iload_n hx hb dX11_parts_64 rfl (lv_at hl 0 rfl) ?_
      refine lv_if_ne (tgt := 72) hx hb dX11_parts_65 (by decide) (fun c65 => ?_) (fun c65 => ?_)
      rotate_left
      · exact absurd c65 (by decide +kernel)
      refine lv_aload_n hx hb dX11_parts_72 rfl (lv_at hl 2 rfl) ?_
      refine va_get (D := D) (ci := 10) (v := .int (nI (nw S u))) (C := RX11) (T := TX11) (N := 27) hx hb hts hi_X11_parts_X11 hown hK hP 0 rfl rfl 25 (by decide) (hts (.fieldLink RX11 151 "FallingWordsModel" "oneNormal" "I") (by decide +kernel)) (fun _ h9 => h9) rfl dX11_parts_73 ?_
      refine lv_aload_n hx hb dX11_parts_76 rfl (lv_at hl 2 rfl) ?_
      refine va_get (D := D) (ci := 10) (v := .int (nI (nw S v))) (C := RX11) (T := TX11) (N := 27) hx hb hts hi_X11_parts_X11 hown hK hP 0 rfl rfl 26 (by decide) (hts (.fieldLink RX11 154 "FallingWordsModel" "otherNormal" "I") (by decide +kernel)) (fun _ h9 => h9) rfl dX11_parts_77 ?_
      refine xc_ne (tgt := 87) hx hb dX11_parts_80 (by decide) (by omega) (by omega) (fun c80 => ?_) (fun c80 => ?_)
      · refine lv_iconst (v := nI 1) hx hb dX11_parts_87 (by decide +kernel) ?_
        exact hret _ _ _ _ _ _ dX11_parts_88 ⟨k8_35, k9_35, RW'_35, RR'_35, ((nI ((red S v).2.1))), k11_35, (by rw [par_1 c8 c38 c80]), rfl⟩ hP hD hS
      · refine lv_iconst (v := nI 0) hx hb dX11_parts_83 (by decide +kernel) ?_
        refine lv_goto (tgt := 88) hx hb dX11_parts_84 (by decide) ?_
        exact hret _ _ _ _ _ _ dX11_parts_88 ⟨k8_35, k9_35, RW'_35, RR'_35, ((nI ((red S v).2.1))), k11_35, (by rw [par_0 c8 c38 c80]), rfl⟩ hP hD hS

theorem hi_X11_finds_X11 : ∀ w ∈ u_ws RX11 TX11 27, w ∈ wsX11_finds := by decide +kernel
set_option maxHeartbeats 8000000 in
set_option maxRecDepth 100000 in
theorem k_X11_finds (lY : Launch) (D : va_G) (cA : Nat → ClassId) (B : Nat → Nat) (S : St) (WA BG AS TX RW RR FD : Nat → Int32) (m1 m2 m3 m4 m5 m6 m7 m8 m9 m10 m11 m12 m13 m14 m15 m16 m17 m18 m19 : Int32) (u : Nat) (kd : Int32) (hI : IR S) (hu : u < 2147483648) : MetI lY D cA yX11_finds wsX11_finds 5 117 [.ref (B 0), .int (nI u), .int kd] (gMo cA B (fN S) WA BG AS TX RW RR FD m1 m2 m3 m4 m5 m6 m7 m8 m9 m10 m11 m12 m13 m14 m15 m16 m17 m18 m19) (fun rY wY => ∃ (t : Nat) (k : Nat) (y8f : Int32) (y9f : Int32) (y10f : Int32) (y11f : Int32) (y13f : Int32) (y14f : Int32) (y15f : Int32) (y16f : Int32) (y17f : Int32) (y18f : Int32) (y19f : Int32) (RWf : Nat → Int32) (RRf : Nat → Int32), rY = nI t ∧ wY = gMo cA B (fN S) WA BG AS TX RWf RRf FD m1 m2 m3 m4 m5 m6 m7 y8f y9f y10f y11f m12 y13f y14f y15f y16f y17f y18f y19f ∧ (t ≤ 400) ∧ (t ≤ u → t = cn (fdP S kd) 400) ∧ (u < t → t = u + 1 ∧ k < 400 ∧ fdP S kd k = true ∧ cn (fdP S kd) k = u ∧ y13f = nI (kA k) ∧ y14f = nI (kB k) ∧ y15f = nI (kQ k) ∧ y16f = nI (ow1 S (kA k) (kB k) (kQ k)) ∧ y17f = nI (ow2 S (kA k) (kB k) (kQ k)) ∧ (0 ≤ kd.toInt → y18f = nI (nw S (ow1 S (kA k) (kB k) (kQ k))) ∧ y19f = nI (nw S (ow2 S (kA k) (kB k) (kQ k)))))) := by
  refine MetI.of (cc := cX11_finds) (maxL := 7) (ret := (some .int)) (by decide) rfl (Nat.le_of_ble_eq_true rfl) (Or.inl rfl) ?_
  intro pY eY sY mY aY bY tY cY QY AY ls h0 hP hK hN hD hA hS hl hret
  obtain ⟨hx, hb, hml, hown, hts⟩ := id h0
  have hl : lv_has ls 7 [(0, .ref (B 0)), (1, .int (nI u)), (2, .int kd)] := hl
  have hP : va_P D vwCl (gMo cA B (fN S) WA BG AS TX RW RR FD m1 m2 m3 m4 m5 m6 m7 m8 m9 m10 m11 m12 m13 m14 m15 m16 m17 m18 m19) sY.heap := hP
  have hD : va_D AY (gMo cA B (fN S) WA BG AS TX RW RR FD m1 m2 m3 m4 m5 m6 m7 m8 m9 m10 m11 m12 m13 m14 m15 m16 m17 m18 m19) := hD
  have h10 := hI.1
  refine lv_iconst (v := nI 0) hx hb dX11_finds_0 (by decide +kernel) ?_
  refine lv_istore_n (lv' := [(3, .int (nI 0)), (0, .ref (B 0)), (1, .int (nI u)), (2, .int kd)]) hx hb dX11_finds_1 rfl hl (by decide) rfl (fun ls hl => ?_)
  refine lv_iconst (v := nI 0) hx hb dX11_finds_2 (by decide +kernel) ?_
  refine lv_istore (lv' := [(4, .int (nI 0)), (3, .int (nI 0)), (0, .ref (B 0)), (1, .int (nI u)), (2, .int kd)]) hx hb dX11_finds_3 hl (by decide) rfl (fun ls hl => ?_)
  have L5 : ∀ (nY : Nat), ∀ (c1 : Nat) (a : Nat) (y81 : Int32) (y91 : Int32) (y101 : Int32) (y111 : Int32) (y131 : Int32) (y141 : Int32) (y151 : Int32) (y161 : Int32) (y171 : Int32) (y181 : Int32) (y191 : Int32) (RW1 : Nat → Int32) (RR1 : Nat → Int32), (a ≤ S 1) → (c1 ≤ u) → (c1 ≤ 400) → (c1 = cn (fdP S kd) (a * 40)) → (S 1 - a < nY) → ∀ (H : Heap) (locs : List Loc) (ls : Array Slot), va_P D vwCl (gMo cA B (fN S) WA BG AS TX RW1 RR1 FD m1 m2 m3 m4 m5 m6 m7 y81 y91 y101 y111 m12 y131 y141 y151 y161 y171 y181 y191) H → va_D AY (gMo cA B (fN S) WA BG AS TX RW1 RR1 FD m1 m2 m3 m4 m5 m6 m7 y81 y91 y101 y111 m12 y131 y141 y151 y161 y171 y181 y191) → va_S AY sY.heap H locs → lv_has ls 7 [(0, .ref (B 0)), (1, .int (nI u)), (2, .int kd), (3, .int (nI c1)), (4, .int (nI a))] → W pY lY eY { frames := 5, cells := 0, slots := 0, locals := 117 } sY mY aY bY tY cY H locs 0 0 QY (F0 mY 5 ls []) := by
    intro nY5
    induction nY5 with
    | zero => intro c1 a y81 y91 y101 y111 y131 y141 y151 y161 y171 y181 y191 RW1 RR1 ha1 hcu1 hcl1 hc1 hm5; exact absurd hm5 (Nat.not_lt_zero _)
    | succ nY5 ih5 =>
      intro c1 a y81 y91 y101 y111 y131 y141 y151 y161 y171 y181 y191 RW1 RR1 ha1 hcu1 hcl1 hc1 hm5 H locs ls hP hD hS hl
      refine lv_iload hx hb dX11_finds_5 (lv_at hl 4 rfl) ?_
      refine lv_aload_n hx hb dX11_finds_7 rfl (lv_at hl 0 rfl) ?_
      refine va_get (D := D) (ci := 10) (v := .ref (B 1)) (C := RX11) (T := TX11) (N := 27) hx hb hts hi_X11_finds_X11 hown hK hP 0 rfl rfl 0 (by decide) (hts (.fieldLink RX11 7 "FallingWordsModel" "s" "[I") (by decide +kernel)) (fun _ h9 => h9) rfl dX11_finds_8 ?_
      refine lv_iconst (v := nI 1) hx hb dX11_finds_11 (by decide +kernel) ?_
      refine xa_ld (v := nI (S 1)) hx hb hK hP 1 rfl (by omega) (by decide) (rfl) dX11_finds_12 ?_
      refine xc_ge (tgt := 107) hx hb dX11_finds_13 (by decide) (by omega) (by omega) (fun c13 => ?_) (fun c13 => ?_)
      · refine lv_iload_n hx hb dX11_finds_107 rfl (lv_at hl 3 rfl) ?_
        exact hret _ _ _ _ _ _ dX11_finds_108 ⟨c1, 0, y81, y91, y101, y111, y131, y141, y151, y161, y171, y181, y191, RW1, RR1, rfl, rfl, (by first | assumption | omega), (fun _ => cn_to hc1 (by omega) (fun k h1 h2 => fdP_out (by unfold kA kB; omega))), (fun z => absurd z (by omega))⟩ hP hD hS
      · refine lv_iconst (v := nI 0) hx hb dX11_finds_16 (by decide +kernel) ?_
        refine lv_istore (lv' := [(5, .int (nI 0)), (0, .ref (B 0)), (1, .int (nI u)), (2, .int kd), (3, .int (nI c1)), (4, .int (nI a))]) hx hb dX11_finds_17 hl (by decide) rfl (fun ls hl => ?_)
        have L19 : ∀ (nY : Nat), ∀ (c2 : Nat) (b : Nat) (y82 : Int32) (y92 : Int32) (y102 : Int32) (y112 : Int32) (y132 : Int32) (y142 : Int32) (y152 : Int32) (y162 : Int32) (y172 : Int32) (y182 : Int32) (y192 : Int32) (RW2 : Nat → Int32) (RR2 : Nat → Int32), (b ≤ S 1) → (c2 ≤ u) → (c2 ≤ 400) → (c2 = cn (fdP S kd) (a * 40 + b * 4)) → (S 1 - b < nY) → ∀ (H : Heap) (locs : List Loc) (ls : Array Slot), va_P D vwCl (gMo cA B (fN S) WA BG AS TX RW2 RR2 FD m1 m2 m3 m4 m5 m6 m7 y82 y92 y102 y112 m12 y132 y142 y152 y162 y172 y182 y192) H → va_D AY (gMo cA B (fN S) WA BG AS TX RW2 RR2 FD m1 m2 m3 m4 m5 m6 m7 y82 y92 y102 y112 m12 y132 y142 y152 y162 y172 y182 y192) → va_S AY sY.heap H locs → lv_has ls 7 [(0, .ref (B 0)), (1, .int (nI u)), (2, .int kd), (3, .int (nI c2)), (4, .int (nI a)), (5, .int (nI b))] → W pY lY eY { frames := 5, cells := 0, slots := 0, locals := 117 } sY mY aY bY tY cY H locs 0 0 QY (F0 mY 19 ls []) := by
          intro nY19
          induction nY19 with
          | zero => intro c2 b y82 y92 y102 y112 y132 y142 y152 y162 y172 y182 y192 RW2 RR2 hb1 hcu2 hcl2 hc2 hm19; exact absurd hm19 (Nat.not_lt_zero _)
          | succ nY19 ih19 =>
            intro c2 b y82 y92 y102 y112 y132 y142 y152 y162 y172 y182 y192 RW2 RR2 hb1 hcu2 hcl2 hc2 hm19 H locs ls hP hD hS hl
            refine lv_iload hx hb dX11_finds_19 (lv_at hl 5 rfl) ?_
            refine lv_aload_n hx hb dX11_finds_21 rfl (lv_at hl 0 rfl) ?_
            refine va_get (D := D) (ci := 10) (v := .ref (B 1)) (C := RX11) (T := TX11) (N := 27) hx hb hts hi_X11_finds_X11 hown hK hP 0 rfl rfl 0 (by decide) (hts (.fieldLink RX11 7 "FallingWordsModel" "s" "[I") (by decide +kernel)) (fun _ h9 => h9) rfl dX11_finds_22 ?_
            refine lv_iconst (v := nI 1) hx hb dX11_finds_25 (by decide +kernel) ?_
            refine xa_ld (v := nI (S 1)) hx hb hK hP 1 rfl (by omega) (by decide) (rfl) dX11_finds_26 ?_
            refine xc_ge (tgt := 101) hx hb dX11_finds_27 (by decide) (by omega) (by omega) (fun c27 => ?_) (fun c27 => ?_)
            · refine lv_iinc (v := nI (a + 1)) (lv' := [(4, .int (nI (a + 1))), (0, .ref (B 0)), (1, .int (nI u)), (2, .int kd), (3, .int (nI c2)), (5, .int (nI b))]) hx hb dX11_finds_101 hl (k := 4) rfl (show nI a + Int32.ofInt 1 = nI (a + 1) from nI_add a 1) (by decide) rfl (fun ls hl => ?_)
              refine lv_goto (tgt := 5) hx hb dX11_finds_104 (by decide) ?_
              exact ih5 c2 (a + 1) y82 y92 y102 y112 y132 y142 y152 y162 y172 y182 y192 RW2 RR2 (by omega) (by omega) (by omega) (cn_to hc2 (by omega) (fun k h1 h2 => fdP_out (by unfold kA kB; omega))) (by omega) _ _ _ hP hD hS (lv_sub hl [1, 2, 3, 4, 0] rfl)
            · refine lv_iconst (v := nI 0) hx hb dX11_finds_30 (by decide +kernel) ?_
              refine lv_istore (lv' := [(6, .int (nI 0)), (0, .ref (B 0)), (1, .int (nI u)), (2, .int kd), (3, .int (nI c2)), (4, .int (nI a)), (5, .int (nI b))]) hx hb dX11_finds_31 hl (by decide) rfl (fun ls hl => ?_)
              have L33 : ∀ (nY : Nat), ∀ (c3 : Nat) (q : Nat) (y83 : Int32) (y93 : Int32) (y103 : Int32) (y113 : Int32) (y133 : Int32) (y143 : Int32) (y153 : Int32) (y163 : Int32) (y173 : Int32) (y183 : Int32) (y193 : Int32) (RW3 : Nat → Int32) (RR3 : Nat → Int32), (q ≤ 4) → (c3 ≤ u) → (c3 ≤ 400) → (c3 = cn (fdP S kd) (a * 40 + b * 4 + q)) → (4 - q < nY) → ∀ (H : Heap) (locs : List Loc) (ls : Array Slot), va_P D vwCl (gMo cA B (fN S) WA BG AS TX RW3 RR3 FD m1 m2 m3 m4 m5 m6 m7 y83 y93 y103 y113 m12 y133 y143 y153 y163 y173 y183 y193) H → va_D AY (gMo cA B (fN S) WA BG AS TX RW3 RR3 FD m1 m2 m3 m4 m5 m6 m7 y83 y93 y103 y113 m12 y133 y143 y153 y163 y173 y183 y193) → va_S AY sY.heap H locs → lv_has ls 7 [(0, .ref (B 0)), (1, .int (nI u)), (2, .int kd), (3, .int (nI c3)), (4, .int (nI a)), (5, .int (nI b)), (6, .int (nI q))] → W pY lY eY { frames := 5, cells := 0, slots := 0, locals := 117 } sY mY aY bY tY cY H locs 0 0 QY (F0 mY 33 ls []) := by
                intro nY33
                induction nY33 with
                | zero => intro c3 q y83 y93 y103 y113 y133 y143 y153 y163 y173 y183 y193 RW3 RR3 hq1 hcu3 hcl3 hc3 hm33; exact absurd hm33 (Nat.not_lt_zero _)
                | succ nY33 ih33 =>
                  intro c3 q y83 y93 y103 y113 y133 y143 y153 y163 y173 y183 y193 RW3 RR3 hq1 hcu3 hcl3 hc3 hm33 H locs ls hP hD hS hl
                  refine lv_iload hx hb dX11_finds_33 (lv_at hl 6 rfl) ?_
                  refine lv_iconst (v := nI 4) hx hb dX11_finds_35 (by decide +kernel) ?_
                  refine xc_ge (tgt := 95) hx hb dX11_finds_36 (by decide) (by omega) (by omega) (fun c36 => ?_) (fun c36 => ?_)
                  · refine lv_iinc (v := nI (b + 1)) (lv' := [(5, .int (nI (b + 1))), (0, .ref (B 0)), (1, .int (nI u)), (2, .int kd), (3, .int (nI c3)), (4, .int (nI a)), (6, .int (nI q))]) hx hb dX11_finds_95 hl (k := 5) rfl (show nI b + Int32.ofInt 1 = nI (b + 1) from nI_add b 1) (by decide) rfl (fun ls hl => ?_)
                    refine lv_goto (tgt := 19) hx hb dX11_finds_98 (by decide) ?_
                    exact ih19 c3 (b + 1) y83 y93 y103 y113 y133 y143 y153 y163 y173 y183 y193 RW3 RR3 (by omega) (by omega) (by omega) (hc3.trans (congrArg (cn (fdP S kd)) (by omega))) (by omega) _ _ _ hP hD hS (lv_sub hl [1, 2, 3, 4, 5, 0] rfl)
                  · have hoi := ovk_i (S := S) (a := a) (b := b) (q := q) (by omega) (by omega) h10 (by omega)
                    have hple : prk S (a * 40 + b * 4 + q) ≤ 2 := par_le
                    obtain ⟨kx1, kx2, kx3⟩ := kidx (a := a) (b := b) (q := q) (by omega) (by omega)
                    refine lv_aload_n hx hb dX11_finds_39 rfl (lv_at hl 0 rfl) ?_
                    refine lv_iload hx hb dX11_finds_40 (lv_at hl 4 rfl) ?_
                    refine lv_iload hx hb dX11_finds_42 (lv_at hl 5 rfl) ?_
                    refine lv_iload hx hb dX11_finds_44 (lv_at hl 6 rfl) ?_
                    refine ci_V (As := [.int (nI a), .int (nI b), .int (nI q)]) (rest := []) h0 hK hN hP hD hS hA hl.1 (k_X11_isOverlap lY D cA B S WA BG AS TX RW3 RR3 FD m1 m2 m3 m4 m5 m6 m7 y83 y93 y103 y113 m12 y133 y143 y153 y163 y173 y183 y193 a b q (hI) (by omega) (by omega) (by omega)) [0, 1, 2, 3, 4, 5, 6, 7, 8] rfl (by decide) (cwV 3 hts gX11_finds_X11_isOverlap rfl rfl rfl (by decide +kernel) ⟨Nat.le_of_ble_eq_true rfl, Nat.le_of_ble_eq_true rfl⟩) (cl_recv (ci := 10) (q := (RX11, TX11, 27)) (q0 := 0) hP hK rfl rfl) rfl rfl (Nat.le_of_ble_eq_true rfl) dX11_finds_46 ⟨Nat.zero_le _, Nat.zero_le _⟩ (fun rY wY H locs hwY hJ hS => ?_)
                    obtain ⟨e1Y, e2Y⟩ := hwY
                    have e3Y := e1Y.symm
                    clear e1Y
                    subst e3Y
                    have e3Y := e2Y.symm
                    clear e2Y
                    subst e3Y
                    obtain ⟨hP, hD⟩ := hJ rfl
                    have hP : va_P D vwCl (gMo cA B (fN S) WA BG AS TX RW3 RR3 FD m1 m2 m3 m4 m5 m6 m7 y83 y93 y103 y113 m12 y133 y143 y153 y163 y173 y183 y193) H := hP
                    have hD : va_D AY (gMo cA B (fN S) WA BG AS TX RW3 RR3 FD m1 m2 m3 m4 m5 m6 m7 y83 y93 y103 y113 m12 y133 y143 y153 y163 y173 y183 y193) := hD
                    refine xb_eq (tgt := 89) hx hb dX11_finds_49 (by decide) (fun c49 => ?_) (fun c49 => ?_)
                    · have hc3n : c3 = cn (fdP S kd) (a * 40 + b * 4 + (q + 1)) := hc3.trans (cn_f (fdP_no (hoi.trans c49))).symm
                      refine lv_iinc (v := nI (q + 1)) (lv' := [(6, .int (nI (q + 1))), (0, .ref (B 0)), (1, .int (nI u)), (2, .int kd), (3, .int (nI c3)), (4, .int (nI a)), (5, .int (nI b))]) hx hb dX11_finds_89 hl (k := 6) rfl (show nI q + Int32.ofInt 1 = nI (q + 1) from nI_add q 1) (by decide) rfl (fun ls hl => ?_)
                      refine lv_goto (tgt := 33) hx hb dX11_finds_92 (by decide) ?_
                      exact ih33 c3 (q + 1) y83 y93 y103 y113 y133 y143 y153 y163 y173 y183 y193 RW3 RR3 (by omega) (by omega) (by rw [hc3n]; exact Nat.le_trans (cn_le _ _) (by omega)) (hc3n) (by omega) _ _ _ hP hD hS (lv_sub hl [1, 2, 3, 4, 5, 6, 0] rfl)
                    · refine lv_aload_n hx hb dX11_finds_52 rfl (lv_at hl 0 rfl) ?_
                      refine lv_iload hx hb dX11_finds_53 (lv_at hl 4 rfl) ?_
                      refine lv_iload hx hb dX11_finds_55 (lv_at hl 5 rfl) ?_
                      refine lv_iload hx hb dX11_finds_57 (lv_at hl 6 rfl) ?_
                      refine cv_V (As := [.int (nI a), .int (nI b), .int (nI q)]) (rest := []) h0 hK hN hP hD hS hA hl.1 (k_X11_lays lY D cA B S WA BG AS TX RW3 RR3 FD m1 m2 m3 m4 m5 m6 m7 y83 y93 y103 y113 m12 y133 y143 y153 y163 y173 y183 y193 a b q (hI) (by omega) (by omega) (by omega) (c49)) [0, 1, 2, 3, 4, 5, 6, 7, 8] rfl (by decide) (cwV 3 hts gX11_finds_X11_lays rfl rfl rfl (by decide +kernel) ⟨Nat.le_of_ble_eq_true rfl, Nat.le_of_ble_eq_true rfl⟩) (cl_recv (ci := 10) (q := (RX11, TX11, 27)) (q0 := 0) hP hK rfl rfl) rfl rfl (Nat.le_of_ble_eq_true rfl) dX11_finds_59 ⟨Nat.zero_le _, Nat.zero_le _⟩ (fun wY H locs hwY hJ hS => ?_)
                      have e2Y := hwY
                      have e3Y := e2Y.symm
                      clear e2Y
                      subst e3Y
                      obtain ⟨hP, hD⟩ := hJ rfl
                      have hP : va_P D vwCl (gMo cA B (fN S) WA BG AS TX RW3 RR3 FD m1 m2 m3 m4 m5 m6 m7 y83 y93 y103 y113 m12 (nI a) (nI b) (nI q) (nI (ow1 S a b q)) (nI (ow2 S a b q)) y183 y193) H := hP
                      have hD : va_D AY (gMo cA B (fN S) WA BG AS TX RW3 RR3 FD m1 m2 m3 m4 m5 m6 m7 y83 y93 y103 y113 m12 (nI a) (nI b) (nI q) (nI (ow1 S a b q)) (nI (ow2 S a b q)) y183 y193) := hD
                      have hok : ovk S (a * 40 + b * 4 + q) = true := hoi.trans c49
                      obtain ⟨e1, e2, e3, e4, e5⟩ := ov_w hI (a := a) (b := b) (q := q) (by omega) (by omega) (by omega) c49
                      refine lv_iload_n hx hb dX11_finds_62 rfl (lv_at hl 3 rfl) ?_
                      refine lv_iload_n hx hb dX11_finds_63 rfl (lv_at hl 2 rfl) ?_
                      refine xz_lt (tgt := 75) hx hb dX11_finds_64 (by decide) (fun c64 => ?_) (fun c64 => ?_)
                      · refine lv_iconst (v := nI 1) hx hb dX11_finds_75 (by decide +kernel) ?_
                        refine lv_goto (tgt := 80) hx hb dX11_finds_76 (by decide) ?_
                        refine lv_iadd hx hb dX11_finds_80 ?_
                        refine xt (show (nI c3) + (nI 1) = nI (c3 + 1) from nI_add _ _) ?_
                        refine lv_istore_n (lv' := [(3, .int (nI (c3 + 1))), (0, .ref (B 0)), (1, .int (nI u)), (2, .int kd), (4, .int (nI a)), (5, .int (nI b)), (6, .int (nI q))]) hx hb dX11_finds_81 rfl hl (by decide) rfl (fun ls hl => ?_)
                        refine lv_iload_n hx hb dX11_finds_82 rfl (lv_at hl 0 rfl) ?_
                        refine lv_iload_n hx hb dX11_finds_83 rfl (lv_at hl 2 rfl) ?_
                        refine xc_le (tgt := 89) hx hb dX11_finds_84 (by decide) (by omega) (by omega) (fun c84 => ?_) (fun c84 => ?_)
                        · have hc3n : c3 + 1 = cn (fdP S kd) (a * 40 + b * 4 + (q + 1)) := (congrArg (· + 1) hc3).trans (cn_t (fdP_y1 hok c64)).symm
                          refine lv_iinc (v := nI (q + 1)) (lv' := [(6, .int (nI (q + 1))), (3, .int (nI (c3 + 1))), (0, .ref (B 0)), (1, .int (nI u)), (2, .int kd), (4, .int (nI a)), (5, .int (nI b))]) hx hb dX11_finds_89 hl (k := 6) rfl (show nI q + Int32.ofInt 1 = nI (q + 1) from nI_add q 1) (by decide) rfl (fun ls hl => ?_)
                          refine lv_goto (tgt := 33) hx hb dX11_finds_92 (by decide) ?_
                          exact ih33 (c3 + 1) (q + 1) y83 y93 y103 y113 (nI a) (nI b) (nI q) (nI (ow1 S a b q)) (nI (ow2 S a b q)) y183 y193 RW3 RR3 (by omega) (by omega) (by rw [hc3n]; exact Nat.le_trans (cn_le _ _) (by omega)) (hc3n) (by omega) _ _ _ hP hD hS (lv_sub hl [2, 3, 4, 1, 5, 6, 0] rfl)
                        · refine lv_iload_n hx hb dX11_finds_87 rfl (lv_at hl 0 rfl) ?_
                          exact hret _ _ _ _ _ _ dX11_finds_88 ⟨((c3 + 1)), ((a * 40 + b * 4 + q)), y83, y93, y103, y113, ((nI a)), ((nI b)), ((nI q)), ((nI (ow1 S a b q))), ((nI (ow2 S a b q))), y183, y193, RW3, RR3, rfl, rfl, (by have := cn_le (fdP S kd) (a * 40 + b * 4 + q); omega), (fun z => absurd z (by omega)), (fun _ => ⟨by omega, by omega, fdP_y1 hok c64, by omega, by rw [kx1], by rw [kx2], by rw [kx3], by rw [kx1, kx2, kx3], by rw [kx1, kx2, kx3], by rw [kx1, kx2, kx3]; exact (fun z => absurd z (by omega))⟩)⟩ hP hD hS
                      · refine lv_aload_n hx hb dX11_finds_67 rfl (lv_at hl 0 rfl) ?_
                        refine ci_V (As := []) (rest := [.int (nI c3)]) h0 hK hN hP hD hS hA hl.1 (k_X11_parts lY D cA B S WA BG AS TX RW3 RR3 FD m1 m2 m3 m4 m5 m6 m7 y83 y93 y103 y113 m12 (nI a) (nI b) (nI q) y183 y193 (ow1 S a b q) (ow2 S a b q) (hI) (e4) (e5)) [0, 1, 2, 3, 4, 5, 6, 7, 8] rfl (by decide) (cwV 0 hts gX11_finds_X11_parts rfl rfl rfl (by decide +kernel) ⟨Nat.le_of_ble_eq_true rfl, Nat.le_of_ble_eq_true rfl⟩) (cl_recv (ci := 10) (q := (RX11, TX11, 27)) (q0 := 0) hP hK rfl rfl) rfl rfl (Nat.le_of_ble_eq_true rfl) dX11_finds_68 ⟨Nat.zero_le _, Nat.zero_le _⟩ (fun rY wY H locs hwY hJ hS => ?_)
                        obtain ⟨k8_68, k9_68, RW'_68, RR'_68, k10_68, k11_68, e1Y, e2Y⟩ := hwY
                        have e3Y := e1Y.symm
                        clear e1Y
                        subst e3Y
                        have e3Y := e2Y.symm
                        clear e2Y
                        subst e3Y
                        obtain ⟨hP, hD⟩ := hJ rfl
                        have hP : va_P D vwCl (gMo cA B (fN S) WA BG AS TX RW'_68 RR'_68 FD m1 m2 m3 m4 m5 m6 m7 k8_68 k9_68 k10_68 k11_68 m12 (nI a) (nI b) (nI q) (nI (ow1 S a b q)) (nI (ow2 S a b q)) (nI (nw S (ow1 S a b q))) (nI (nw S (ow2 S a b q)))) H := hP
                        have hD : va_D AY (gMo cA B (fN S) WA BG AS TX RW'_68 RR'_68 FD m1 m2 m3 m4 m5 m6 m7 k8_68 k9_68 k10_68 k11_68 m12 (nI a) (nI b) (nI q) (nI (ow1 S a b q)) (nI (ow2 S a b q)) (nI (nw S (ow1 S a b q))) (nI (nw S (ow2 S a b q)))) := hD
                        refine xt (show nI (par S (ow1 S a b q) (ow2 S a b q)) = nI (prk S (a * 40 + b * 4 + q)) from congrArg nI (by unfold prk; rw [kx1, kx2, kx3])) ?_
                        refine lv_iload_n hx hb dX11_finds_71 rfl (lv_at hl 2 rfl) ?_
                        refine xr_ne (tgt := 79) hx hb dX11_finds_72 (by decide) (fun c72 => ?_) (fun c72 => ?_)
                        · refine lv_iconst (v := nI 0) hx hb dX11_finds_79 (by decide +kernel) ?_
                          refine lv_iadd hx hb dX11_finds_80 ?_
                          refine xt (show (nI c3) + (nI 0) = nI (c3 + 0) from nI_add _ _) ?_
                          refine lv_istore_n (lv' := [(3, .int (nI (c3 + 0))), (0, .ref (B 0)), (1, .int (nI u)), (2, .int kd), (4, .int (nI a)), (5, .int (nI b)), (6, .int (nI q))]) hx hb dX11_finds_81 rfl hl (by decide) rfl (fun ls hl => ?_)
                          refine lv_iload_n hx hb dX11_finds_82 rfl (lv_at hl 0 rfl) ?_
                          refine lv_iload_n hx hb dX11_finds_83 rfl (lv_at hl 2 rfl) ?_
                          refine xc_le (tgt := 89) hx hb dX11_finds_84 (by decide) (by omega) (by omega) (fun c84 => ?_) (fun c84 => ?_)
                          · have hc3n : c3 = cn (fdP S kd) (a * 40 + b * 4 + (q + 1)) := hc3.trans (cn_f (fdP_ne c64 c72)).symm
                            refine lv_iinc (v := nI (q + 1)) (lv' := [(6, .int (nI (q + 1))), (3, .int (nI (c3 + 0))), (0, .ref (B 0)), (1, .int (nI u)), (2, .int kd), (4, .int (nI a)), (5, .int (nI b))]) hx hb dX11_finds_89 hl (k := 6) rfl (show nI q + Int32.ofInt 1 = nI (q + 1) from nI_add q 1) (by decide) rfl (fun ls hl => ?_)
                            refine lv_goto (tgt := 33) hx hb dX11_finds_92 (by decide) ?_
                            exact ih33 c3 (q + 1) k8_68 k9_68 k10_68 k11_68 (nI a) (nI b) (nI q) (nI (ow1 S a b q)) (nI (ow2 S a b q)) (nI (nw S (ow1 S a b q))) (nI (nw S (ow2 S a b q))) RW'_68 RR'_68 (by omega) (by omega) (by rw [hc3n]; exact Nat.le_trans (cn_le _ _) (by omega)) (hc3n) (by omega) _ _ _ hP hD hS (lv_sub hl [2, 3, 4, 1, 5, 6, 0] rfl)
                          · exact absurd c84 (by omega)
                        · refine lv_iconst (v := nI 1) hx hb dX11_finds_75 (by decide +kernel) ?_
                          refine lv_goto (tgt := 80) hx hb dX11_finds_76 (by decide) ?_
                          refine lv_iadd hx hb dX11_finds_80 ?_
                          refine xt (show (nI c3) + (nI 1) = nI (c3 + 1) from nI_add _ _) ?_
                          refine lv_istore_n (lv' := [(3, .int (nI (c3 + 1))), (0, .ref (B 0)), (1, .int (nI u)), (2, .int kd), (4, .int (nI a)), (5, .int (nI b)), (6, .int (nI q))]) hx hb dX11_finds_81 rfl hl (by decide) rfl (fun ls hl => ?_)
                          refine lv_iload_n hx hb dX11_finds_82 rfl (lv_at hl 0 rfl) ?_
                          refine lv_iload_n hx hb dX11_finds_83 rfl (lv_at hl 2 rfl) ?_
                          refine xc_le (tgt := 89) hx hb dX11_finds_84 (by decide) (by omega) (by omega) (fun c84 => ?_) (fun c84 => ?_)
                          · have hc3n : c3 + 1 = cn (fdP S kd) (a * 40 + b * 4 + (q + 1)) := (congrArg (· + 1) hc3).trans (cn_t (fdP_y2 hok c72)).symm
                            refine lv_iinc (v := nI (q + 1)) (lv' := [(6, .int (nI (q + 1))), (3, .int (nI (c3 + 1))), (0, .ref (B 0)), (1, .int (nI u)), (2, .int kd), (4, .int (nI a)), (5, .int (nI b))]) hx hb dX11_finds_89 hl (k := 6) rfl (show nI q + Int32.ofInt 1 = nI (q + 1) from nI_add q 1) (by decide) rfl (fun ls hl => ?_)
                            refine lv_goto (tgt := 33) hx hb dX11_finds_92 (by decide) ?_
                            exact ih33 (c3 + 1) (q + 1) k8_68 k9_68 k10_68 k11_68 (nI a) (nI b) (nI q) (nI (ow1 S a b q)) (nI (ow2 S a b q)) (nI (nw S (ow1 S a b q))) (nI (nw S (ow2 S a b q))) RW'_68 RR'_68 (by omega) (by omega) (by rw [hc3n]; exact Nat.le_trans (cn_le _ _) (by omega)) (hc3n) (by omega) _ _ _ hP hD hS (lv_sub hl [2, 3, 4, 1, 5, 6, 0] rfl)
                          · refine lv_iload_n hx hb dX11_finds_87 rfl (lv_at hl 0 rfl) ?_
                            exact hret _ _ _ _ _ _ dX11_finds_88 ⟨((c3 + 1)), ((a * 40 + b * 4 + q)), k8_68, k9_68, k10_68, k11_68, ((nI a)), ((nI b)), ((nI q)), ((nI (ow1 S a b q))), ((nI (ow2 S a b q))), ((nI (nw S (ow1 S a b q)))), ((nI (nw S (ow2 S a b q)))), RW'_68, RR'_68, rfl, rfl, (by have := cn_le (fdP S kd) (a * 40 + b * 4 + q); omega), (fun z => absurd z (by omega)), (fun _ => ⟨by omega, by omega, fdP_y2 hok c72, by omega, by rw [kx1], by rw [kx2], by rw [kx3], by rw [kx1, kx2, kx3], by rw [kx1, kx2, kx3], by rw [kx1, kx2, kx3]; exact (fun _ => ⟨rfl, rfl⟩)⟩)⟩ hP hD hS
              exact L33 _ c2 0 y82 y92 y102 y112 y132 y142 y152 y162 y172 y182 y192 RW2 RR2 (by omega) (by omega) (by omega) (hc2) (Nat.lt_succ_self _) _ _ _ hP hD hS (lv_sub hl [1, 2, 3, 4, 5, 6, 0] rfl)
        exact L19 _ c1 0 y81 y91 y101 y111 y131 y141 y151 y161 y171 y181 y191 RW1 RR1 (by omega) (by omega) (by omega) (hc1.trans (congrArg (cn (fdP S kd)) (by omega))) (Nat.lt_succ_self _) _ _ _ hP hD hS (lv_sub hl [1, 2, 3, 4, 5, 0] rfl)
  exact L5 _ 0 0 m8 m9 m10 m11 m13 m14 m15 m16 m17 m18 m19 RW RR (by omega) (by omega) (by omega) (rfl) (Nat.lt_succ_self _) _ _ _ hP hD hS (lv_sub hl [2, 3, 4, 1, 0] rfl)

theorem hi_X11_overlapOf_X11 : ∀ w ∈ u_ws RX11 TX11 27, w ∈ wsX11_overlapOf := by decide +kernel
set_option maxHeartbeats 8000000 in
set_option maxRecDepth 100000 in
theorem k_X11_overlapOf (lY : Launch) (D : va_G) (cA : Nat → ClassId) (B : Nat → Nat) (S : St) (WA BG AS TX RW RR FD : Nat → Int32) (m1 m2 m3 m4 m5 m6 m7 m8 m9 m10 m11 m12 m13 m14 m15 m16 m17 m18 m19 : Int32) (x y : Int32) (hI : IR S) : MetI lY D cA yX11_overlapOf wsX11_overlapOf 6 143 [.ref (B 0), .int x, .int y] (gMo cA B (fN S) WA BG AS TX RW RR FD m1 m2 m3 m4 m5 m6 m7 m8 m9 m10 m11 m12 m13 m14 m15 m16 m17 m18 m19) (fun rY wY => ∃ (y8f : Int32) (y9f : Int32) (y10f : Int32) (y11f : Int32) (y13f : Int32) (y14f : Int32) (y15f : Int32) (y16f : Int32) (y17f : Int32) (y18f : Int32) (y19f : Int32) (RWf : Nat → Int32) (RRf : Nat → Int32), rY = ovZ S x y ∧ wY = gMo cA B (fN S) WA BG AS TX RWf RRf FD m1 m2 m3 m4 m5 m6 m7 y8f y9f y10f y11f m12 y13f y14f y15f y16f y17f y18f y19f) := by
  refine MetI.of (cc := cX11_overlapOf) (maxL := 5) (ret := (some .int)) (by decide) rfl (Nat.le_of_ble_eq_true rfl) (Or.inl rfl) ?_
  intro pY eY sY mY aY bY tY cY QY AY ls h0 hP hK hN hD hA hS hl hret
  obtain ⟨hx, hb, hml, hown, hts⟩ := id h0
  have hl : lv_has ls 5 [(0, .ref (B 0)), (1, .int x), (2, .int y)] := hl
  have hP : va_P D vwCl (gMo cA B (fN S) WA BG AS TX RW RR FD m1 m2 m3 m4 m5 m6 m7 m8 m9 m10 m11 m12 m13 m14 m15 m16 m17 m18 m19) sY.heap := hP
  have hD : va_D AY (gMo cA B (fN S) WA BG AS TX RW RR FD m1 m2 m3 m4 m5 m6 m7 m8 m9 m10 m11 m12 m13 m14 m15 m16 m17 m18 m19) := hD
  have h10 := hI.1
  have e0 : (nI 0).toInt = 0 := rfl
  have e6 : (nI 6).toInt = 6 := rfl
  have em : ((-1) : Int32).toInt = -1 := rfl
  refine lv_iload_n hx hb dX11_overlapOf_0 rfl (lv_at hl 1 rfl) ?_
  refine xz_lt (tgt := 24) hx hb dX11_overlapOf_1 (by decide) (fun c1 => ?_) (fun c1 => ?_)
  · refine lv_ldc (v := (-1000001)) hx hb hown (hts (.constant RX11 78 (-1000001)) (by decide +kernel)) dX11_overlapOf_24 ?_
    have hfb : fndB S x = false := by unfold fndB; rw [sl_eq]; exact decide_eq_false (by omega)
    exact hret _ _ _ _ _ _ dX11_overlapOf_26 ⟨m8, m9, m10, m11, m13, m14, m15, m16, m17, m18, m19, RW, RR, (by unfold ovZ; rw [if_pos (Or.inr (Or.inr hfb))]), rfl⟩ hP hD hS
  · refine lv_iload_n hx hb dX11_overlapOf_4 rfl (lv_at hl 2 rfl) ?_
    refine lv_iconst (v := nI 0) hx hb dX11_overlapOf_5 (by decide +kernel) ?_
    refine lv_bipush (v := nI 6) hx hb dX11_overlapOf_6 (by decide +kernel) ?_
    refine ci_S (As := [.int y, .int (nI 0), .int (nI 6)]) (rest := []) h0 hK hN hP hD hS hA hl.1 (k_X11_in lY D cA y (nI 0) (nI 6) ) [] rfl (by decide) (va_cwS 3 hts gX11_overlapOf_X11_in rfl rfl rfl (by decide +kernel) ⟨Nat.le_of_ble_eq_true rfl, Nat.le_of_ble_eq_true rfl⟩) rfl rfl (Nat.le_of_ble_eq_true rfl) dX11_overlapOf_8 ⟨Nat.zero_le _, Nat.zero_le _⟩ (fun rY wY H locs hwY hJ hS => ?_)
    obtain ⟨e1Y, e2Y⟩ := hwY
    have e3Y := e1Y.symm
    clear e1Y
    subst e3Y
    have e3Y := e2Y.symm
    clear e2Y
    subst e3Y
    obtain ⟨hP, hD⟩ := hJ rfl
    have hP : va_P D vwCl (gMo cA B (fN S) WA BG AS TX RW RR FD m1 m2 m3 m4 m5 m6 m7 m8 m9 m10 m11 m12 m13 m14 m15 m16 m17 m18 m19) H := hP
    have hD : va_D AY (gMo cA B (fN S) WA BG AS TX RW RR FD m1 m2 m3 m4 m5 m6 m7 m8 m9 m10 m11 m12 m13 m14 m15 m16 m17 m18 m19) := hD
    refine xb_eq (tgt := 24) hx hb dX11_overlapOf_11 (by decide) (fun c11 => ?_) (fun c11 => ?_)
    · refine lv_ldc (v := (-1000001)) hx hb hown (hts (.constant RX11 78 (-1000001)) (by decide +kernel)) dX11_overlapOf_24 ?_
      have i11 := inI_f c11
      exact hret _ _ _ _ _ _ dX11_overlapOf_26 ⟨m8, m9, m10, m11, m13, m14, m15, m16, m17, m18, m19, RW, RR, (by unfold ovZ; rw [if_pos (by omega)]), rfl⟩ hP hD hS
    · have hxb : x.toInt < 2147483648 := Int32.toInt_lt x
      obtain ⟨n, hn, rfl⟩ : ∃ n : Nat, n < 2147483648 ∧ x = nI n := i32_of (by omega) (by omega)
      have en : (nI n).toInt.toNat = n := by rw [nI_toInt hn, Int.toNat_natCast]
      have en2 : (nI n).toInt = (n : Int) := nI_toInt hn
      have i11 := inI_t c11
      refine lv_aload_n hx hb dX11_overlapOf_14 rfl (lv_at hl 0 rfl) ?_
      refine lv_iload_n hx hb dX11_overlapOf_15 rfl (lv_at hl 1 rfl) ?_
      refine lv_iconst (v := (-1)) hx hb dX11_overlapOf_16 (by decide +kernel) ?_
      refine ci_V (As := [.int (nI n), .int (-1)]) (rest := []) h0 hK hN hP hD hS hA hl.1 (k_X11_finds lY D cA B S WA BG AS TX RW RR FD m1 m2 m3 m4 m5 m6 m7 m8 m9 m10 m11 m12 m13 m14 m15 m16 m17 m18 m19 n (-1) (hI) (hn)) [0, 1, 2, 3, 4, 5, 6, 7, 8] rfl (by decide) (cwV 2 hts gX11_overlapOf_X11_finds rfl rfl rfl (by decide +kernel) ⟨Nat.le_of_ble_eq_true rfl, Nat.le_of_ble_eq_true rfl⟩) (cl_recv (ci := 10) (q := (RX11, TX11, 27)) (q0 := 0) hP hK rfl rfl) rfl rfl (Nat.le_of_ble_eq_true rfl) dX11_overlapOf_17 ⟨Nat.zero_le _, Nat.zero_le _⟩ (fun rY wY H locs hwY hJ hS => ?_)
      obtain ⟨t_17, k_17, y8f_17, y9f_17, y10f_17, y11f_17, y13f_17, y14f_17, y15f_17, y16f_17, y17f_17, y18f_17, y19f_17, RWf_17, RRf_17, e1Y, e2Y, ff0_17, ff1_17, ff2_17⟩ := hwY
      have e3Y := e1Y.symm
      clear e1Y
      subst e3Y
      have e3Y := e2Y.symm
      clear e2Y
      subst e3Y
      obtain ⟨hP, hD⟩ := hJ rfl
      have hP : va_P D vwCl (gMo cA B (fN S) WA BG AS TX RWf_17 RRf_17 FD m1 m2 m3 m4 m5 m6 m7 y8f_17 y9f_17 y10f_17 y11f_17 m12 y13f_17 y14f_17 y15f_17 y16f_17 y17f_17 y18f_17 y19f_17) H := hP
      have hD : va_D AY (gMo cA B (fN S) WA BG AS TX RWf_17 RRf_17 FD m1 m2 m3 m4 m5 m6 m7 y8f_17 y9f_17 y10f_17 y11f_17 m12 y13f_17 y14f_17 y15f_17 y16f_17 y17f_17 y18f_17 y19f_17) := hD
      have hfk := fdP_neg (S := S) (kd := (-1)) (by decide)
      rw [hfk] at ff1_17 ff2_17
      refine lv_iload_n hx hb dX11_overlapOf_20 rfl (lv_at hl 1 rfl) ?_
      refine xc_gt (tgt := 27) hx hb dX11_overlapOf_21 (by decide) (by omega) (by omega) (fun c21 => ?_) (fun c21 => ?_)
      · obtain ⟨t1, t2, t3, t4, t5, t6, t7, t8, t9, -⟩ := ff2_17 (by omega)
        obtain ⟨k1, k2⟩ := kth_is t2 t3 t4
        have hfb : fndB S (nI n) = true := by unfold fndB; rw [sl_eq]; exact decide_eq_true (by omega)
        obtain ⟨b1, b2, b3⟩ := kb k_17 t2
        obtain ⟨hAB, hO1⟩ := Bool.and_eq_true _ _ |>.mp t3
        obtain ⟨hA0, hB0⟩ := Bool.and_eq_true _ _ |>.mp hAB
        have hA1 := of_decide_eq_true hA0
        have hB1 := of_decide_eq_true hB0
        obtain ⟨e1, e2, e3, e4, e5⟩ := ov_w hI hA1 hB1 b3 hO1
        have eov := (ov_ok hI hA1 hB1 b3 (Bool.and_eq_true _ _ |>.mp hO1).1).2.1
        obtain ⟨va1, va2, va3, va4⟩ := hI.2.2 _ hA1
        obtain ⟨vb1, vb2, vb3, vb4⟩ := hI.2.2 _ hB1
        have la4 := va1.2
        have lb4 := vb1.2
        rw [t5, t6, t7, t8, t9] at hP hD
        have hP : va_P D vwCl (gMo cA B (fN S) WA BG AS TX RWf_17 RRf_17 FD m1 m2 m3 m4 m5 m6 m7 y8f_17 y9f_17 y10f_17 y11f_17 m12 (nI (kA k_17)) (nI (kB k_17)) (nI (kQ k_17)) (nI (ow1 S (kA k_17) (kB k_17) (kQ k_17))) (nI (ow2 S (kA k_17) (kB k_17) (kQ k_17))) y18f_17 y19f_17) H := hP
        have hD : va_D AY (gMo cA B (fN S) WA BG AS TX RWf_17 RRf_17 FD m1 m2 m3 m4 m5 m6 m7 y8f_17 y9f_17 y10f_17 y11f_17 m12 (nI (kA k_17)) (nI (kB k_17)) (nI (kQ k_17)) (nI (ow1 S (kA k_17) (kB k_17) (kQ k_17))) (nI (ow2 S (kA k_17) (kB k_17) (kQ k_17))) y18f_17 y19f_17) := hD
        refine lv_aload_n hx hb dX11_overlapOf_27 rfl (lv_at hl 0 rfl) ?_
        refine lv_aload_n hx hb dX11_overlapOf_28 rfl (lv_at hl 0 rfl) ?_
        refine va_get (D := D) (ci := 10) (v := .int (nI (kA k_17))) (C := RX11) (T := TX11) (N := 27) hx hb hts hi_X11_overlapOf_X11 hown hK hP 0 rfl rfl 20 (by decide) (hts (.fieldLink RX11 136 "FallingWordsModel" "oneRule" "I") (by decide +kernel)) (fun _ h9 => h9) rfl dX11_overlapOf_29 ?_
        refine ci_V (As := [.int (nI (kA k_17))]) (rest := []) h0 hK hN hP hD hS hA hl.1 (k_X11_left lY D cA B S WA BG AS TX RWf_17 RRf_17 FD m1 m2 m3 m4 m5 m6 m7 y8f_17 y9f_17 y10f_17 y11f_17 m12 (nI (kA k_17)) (nI (kB k_17)) (nI (kQ k_17)) (nI (ow1 S (kA k_17) (kB k_17) (kQ k_17))) (nI (ow2 S (kA k_17) (kB k_17) (kQ k_17))) y18f_17 y19f_17 (kA k_17) (by omega)) [0, 1, 2, 3, 4, 5, 6, 7, 8] rfl (by decide) (cwV 1 hts gX11_overlapOf_X11_left rfl rfl rfl (by decide +kernel) ⟨Nat.le_of_ble_eq_true rfl, Nat.le_of_ble_eq_true rfl⟩) (cl_recv (ci := 10) (q := (RX11, TX11, 27)) (q0 := 0) hP hK rfl rfl) rfl rfl (Nat.le_of_ble_eq_true rfl) dX11_overlapOf_32 ⟨Nat.zero_le _, Nat.zero_le _⟩ (fun rY wY H locs hwY hJ hS => ?_)
        obtain ⟨e1Y, e2Y⟩ := hwY
        have e3Y := e1Y.symm
        clear e1Y
        subst e3Y
        have e3Y := e2Y.symm
        clear e2Y
        subst e3Y
        obtain ⟨hP, hD⟩ := hJ rfl
        have hP : va_P D vwCl (gMo cA B (fN S) WA BG AS TX RWf_17 RRf_17 FD m1 m2 m3 m4 m5 m6 m7 y8f_17 y9f_17 y10f_17 y11f_17 m12 (nI (kA k_17)) (nI (kB k_17)) (nI (kQ k_17)) (nI (ow1 S (kA k_17) (kB k_17) (kQ k_17))) (nI (ow2 S (kA k_17) (kB k_17) (kQ k_17))) y18f_17 y19f_17) H := hP
        have hD : va_D AY (gMo cA B (fN S) WA BG AS TX RWf_17 RRf_17 FD m1 m2 m3 m4 m5 m6 m7 y8f_17 y9f_17 y10f_17 y11f_17 m12 (nI (kA k_17)) (nI (kB k_17)) (nI (kQ k_17)) (nI (ow1 S (kA k_17) (kB k_17) (kQ k_17))) (nI (ow2 S (kA k_17) (kB k_17) (kQ k_17))) y18f_17 y19f_17) := hD
        refine ci_S (As := [.int (nI (lf S (kA k_17)))]) (rest := []) h0 hK hN hP hD hS hA hl.1 (k_X11_length lY D cA (lf S (kA k_17)) (va1.1) (by omega)) [] rfl (by decide) (va_cwS 1 hts gX11_overlapOf_X11_length rfl rfl rfl (by decide +kernel) ⟨Nat.le_of_ble_eq_true rfl, Nat.le_of_ble_eq_true rfl⟩) rfl rfl (Nat.le_of_ble_eq_true rfl) dX11_overlapOf_35 ⟨Nat.zero_le _, Nat.zero_le _⟩ (fun rY wY H locs hwY hJ hS => ?_)
        obtain ⟨e1Y, e2Y⟩ := hwY
        have e3Y := e1Y.symm
        clear e1Y
        subst e3Y
        have e3Y := e2Y.symm
        clear e2Y
        subst e3Y
        obtain ⟨hP, hD⟩ := hJ rfl
        have hP : va_P D vwCl (gMo cA B (fN S) WA BG AS TX RWf_17 RRf_17 FD m1 m2 m3 m4 m5 m6 m7 y8f_17 y9f_17 y10f_17 y11f_17 m12 (nI (kA k_17)) (nI (kB k_17)) (nI (kQ k_17)) (nI (ow1 S (kA k_17) (kB k_17) (kQ k_17))) (nI (ow2 S (kA k_17) (kB k_17) (kQ k_17))) y18f_17 y19f_17) H := hP
        have hD : va_D AY (gMo cA B (fN S) WA BG AS TX RWf_17 RRf_17 FD m1 m2 m3 m4 m5 m6 m7 y8f_17 y9f_17 y10f_17 y11f_17 m12 (nI (kA k_17)) (nI (kB k_17)) (nI (kQ k_17)) (nI (ow1 S (kA k_17) (kB k_17) (kQ k_17))) (nI (ow2 S (kA k_17) (kB k_17) (kQ k_17))) y18f_17 y19f_17) := hD
        refine lv_istore_n (lv' := [(3, .int (nI (len (lf S (kA k_17))))), (0, .ref (B 0)), (1, .int (nI n)), (2, .int y)]) hx hb dX11_overlapOf_38 rfl hl (by decide) rfl (fun ls hl => ?_)
        refine lv_aload_n hx hb dX11_overlapOf_39 rfl (lv_at hl 1 rfl) ?_
        refine va_get (D := D) (ci := 10) (v := .int (nI (kQ k_17))) (C := RX11) (T := TX11) (N := 27) hx hb hts hi_X11_overlapOf_X11 hown hK hP 0 rfl rfl 22 (by decide) (hts (.fieldLink RX11 142 "FallingWordsModel" "overlapPlace" "I") (by decide +kernel)) (fun _ h9 => h9) rfl dX11_overlapOf_40 ?_
        refine lv_aload_n hx hb dX11_overlapOf_43 rfl (lv_at hl 1 rfl) ?_
        refine lv_aload_n hx hb dX11_overlapOf_44 rfl (lv_at hl 1 rfl) ?_
        refine va_get (D := D) (ci := 10) (v := .int (nI (kB k_17))) (C := RX11) (T := TX11) (N := 27) hx hb hts hi_X11_overlapOf_X11 hown hK hP 0 rfl rfl 21 (by decide) (hts (.fieldLink RX11 139 "FallingWordsModel" "otherRule" "I") (by decide +kernel)) (fun _ h9 => h9) rfl dX11_overlapOf_45 ?_
        refine ci_V (As := [.int (nI (kB k_17))]) (rest := [.int (nI (kQ k_17))]) h0 hK hN hP hD hS hA hl.1 (k_X11_left lY D cA B S WA BG AS TX RWf_17 RRf_17 FD m1 m2 m3 m4 m5 m6 m7 y8f_17 y9f_17 y10f_17 y11f_17 m12 (nI (kA k_17)) (nI (kB k_17)) (nI (kQ k_17)) (nI (ow1 S (kA k_17) (kB k_17) (kQ k_17))) (nI (ow2 S (kA k_17) (kB k_17) (kQ k_17))) y18f_17 y19f_17 (kB k_17) (by omega)) [0, 1, 2, 3, 4, 5, 6, 7, 8] rfl (by decide) (cwV 1 hts gX11_overlapOf_X11_left rfl rfl rfl (by decide +kernel) ⟨Nat.le_of_ble_eq_true rfl, Nat.le_of_ble_eq_true rfl⟩) (cl_recv (ci := 10) (q := (RX11, TX11, 27)) (q0 := 0) hP hK rfl rfl) rfl rfl (Nat.le_of_ble_eq_true rfl) dX11_overlapOf_48 ⟨Nat.zero_le _, Nat.zero_le _⟩ (fun rY wY H locs hwY hJ hS => ?_)
        obtain ⟨e1Y, e2Y⟩ := hwY
        have e3Y := e1Y.symm
        clear e1Y
        subst e3Y
        have e3Y := e2Y.symm
        clear e2Y
        subst e3Y
        obtain ⟨hP, hD⟩ := hJ rfl
        have hP : va_P D vwCl (gMo cA B (fN S) WA BG AS TX RWf_17 RRf_17 FD m1 m2 m3 m4 m5 m6 m7 y8f_17 y9f_17 y10f_17 y11f_17 m12 (nI (kA k_17)) (nI (kB k_17)) (nI (kQ k_17)) (nI (ow1 S (kA k_17) (kB k_17) (kQ k_17))) (nI (ow2 S (kA k_17) (kB k_17) (kQ k_17))) y18f_17 y19f_17) H := hP
        have hD : va_D AY (gMo cA B (fN S) WA BG AS TX RWf_17 RRf_17 FD m1 m2 m3 m4 m5 m6 m7 y8f_17 y9f_17 y10f_17 y11f_17 m12 (nI (kA k_17)) (nI (kB k_17)) (nI (kQ k_17)) (nI (ow1 S (kA k_17) (kB k_17) (kQ k_17))) (nI (ow2 S (kA k_17) (kB k_17) (kQ k_17))) y18f_17 y19f_17) := hD
        refine ci_S (As := [.int (nI (lf S (kB k_17)))]) (rest := [.int (nI (kQ k_17))]) h0 hK hN hP hD hS hA hl.1 (k_X11_length lY D cA (lf S (kB k_17)) (vb1.1) (by omega)) [] rfl (by decide) (va_cwS 1 hts gX11_overlapOf_X11_length rfl rfl rfl (by decide +kernel) ⟨Nat.le_of_ble_eq_true rfl, Nat.le_of_ble_eq_true rfl⟩) rfl rfl (Nat.le_of_ble_eq_true rfl) dX11_overlapOf_51 ⟨Nat.zero_le _, Nat.zero_le _⟩ (fun rY wY H locs hwY hJ hS => ?_)
        obtain ⟨e1Y, e2Y⟩ := hwY
        have e3Y := e1Y.symm
        clear e1Y
        subst e3Y
        have e3Y := e2Y.symm
        clear e2Y
        subst e3Y
        obtain ⟨hP, hD⟩ := hJ rfl
        have hP : va_P D vwCl (gMo cA B (fN S) WA BG AS TX RWf_17 RRf_17 FD m1 m2 m3 m4 m5 m6 m7 y8f_17 y9f_17 y10f_17 y11f_17 m12 (nI (kA k_17)) (nI (kB k_17)) (nI (kQ k_17)) (nI (ow1 S (kA k_17) (kB k_17) (kQ k_17))) (nI (ow2 S (kA k_17) (kB k_17) (kQ k_17))) y18f_17 y19f_17) H := hP
        have hD : va_D AY (gMo cA B (fN S) WA BG AS TX RWf_17 RRf_17 FD m1 m2 m3 m4 m5 m6 m7 y8f_17 y9f_17 y10f_17 y11f_17 m12 (nI (kA k_17)) (nI (kB k_17)) (nI (kQ k_17)) (nI (ow1 S (kA k_17) (kB k_17) (kQ k_17))) (nI (ow2 S (kA k_17) (kB k_17) (kQ k_17))) y18f_17 y19f_17) := hD
        refine lv_iadd hx hb dX11_overlapOf_54 ?_
        refine xt (show (nI (kQ k_17)) + (nI (len (lf S (kB k_17)))) = nI (kQ k_17 + (len (lf S (kB k_17)))) from nI_add _ _) ?_
        refine lv_istore (lv' := [(4, .int (nI (kQ k_17 + (len (lf S (kB k_17)))))), (3, .int (nI (len (lf S (kA k_17))))), (0, .ref (B 0)), (1, .int (nI n)), (2, .int y)]) hx hb dX11_overlapOf_55 hl (by decide) rfl (fun ls hl => ?_)
        refine lv_iload_n hx hb dX11_overlapOf_57 rfl (lv_at hl 4 rfl) ?_
        by_cases s58_0 : y.toInt = 0
        · have e58 : (y : Int32).toInt = 0 := s58_0
          refine lv_tableIn (off := 38) (tgt := 96) hx hb dX11_overlapOf_58 (by rw [e58]; decide) (by rw [e58]; decide) (by rw [e58]; rfl) (by decide) ?_
          refine lv_aload_n hx hb dX11_overlapOf_96 rfl (lv_at hl 2 rfl) ?_
          refine va_get (D := D) (ci := 10) (v := .int (nI (kA k_17))) (C := RX11) (T := TX11) (N := 27) hx hb hts hi_X11_overlapOf_X11 hown hK hP 0 rfl rfl 20 (by decide) (hts (.fieldLink RX11 136 "FallingWordsModel" "oneRule" "I") (by decide +kernel)) (fun _ h9 => h9) rfl dX11_overlapOf_97 ?_
          exact hret _ _ _ _ _ _ dX11_overlapOf_100 ⟨y8f_17, y9f_17, y10f_17, y11f_17, ((nI (kA k_17))), ((nI (kB k_17))), ((nI (kQ k_17))), ((nI (ow1 S (kA k_17) (kB k_17) (kQ k_17)))), ((nI (ow2 S (kA k_17) (kB k_17) (kQ k_17)))), y18f_17, y19f_17, RWf_17, RRf_17, (by unfold ovZ; rw [if_neg (show ¬ (y.toInt < 0 ∨ 6 < y.toInt ∨ fndB S (nI n) = false) from fun h => h.elim (fun h => by omega) (fun h => h.elim (fun h => by omega) (fun h => by rw [hfb] at h; cases h))), if_pos (show y.toInt = 0 by omega), en, k1]), rfl⟩ hP hD hS
        by_cases s58_1 : y.toInt = 1
        · have e58 : (y : Int32).toInt = 1 := s58_1
          refine lv_tableIn (off := 43) (tgt := 101) hx hb dX11_overlapOf_58 (by rw [e58]; decide) (by rw [e58]; decide) (by rw [e58]; rfl) (by decide) ?_
          refine lv_aload_n hx hb dX11_overlapOf_101 rfl (lv_at hl 2 rfl) ?_
          refine va_get (D := D) (ci := 10) (v := .int (nI (kB k_17))) (C := RX11) (T := TX11) (N := 27) hx hb hts hi_X11_overlapOf_X11 hown hK hP 0 rfl rfl 21 (by decide) (hts (.fieldLink RX11 139 "FallingWordsModel" "otherRule" "I") (by decide +kernel)) (fun _ h9 => h9) rfl dX11_overlapOf_102 ?_
          exact hret _ _ _ _ _ _ dX11_overlapOf_105 ⟨y8f_17, y9f_17, y10f_17, y11f_17, ((nI (kA k_17))), ((nI (kB k_17))), ((nI (kQ k_17))), ((nI (ow1 S (kA k_17) (kB k_17) (kQ k_17)))), ((nI (ow2 S (kA k_17) (kB k_17) (kQ k_17)))), y18f_17, y19f_17, RWf_17, RRf_17, (by unfold ovZ; rw [if_neg (show ¬ (y.toInt < 0 ∨ 6 < y.toInt ∨ fndB S (nI n) = false) from fun h => h.elim (fun h => by omega) (fun h => h.elim (fun h => by omega) (fun h => by rw [hfb] at h; cases h))), if_neg (show ¬ y.toInt = 0 by omega), if_pos (show y.toInt = 1 by omega), en, k1]), rfl⟩ hP hD hS
        by_cases s58_2 : y.toInt = 2
        · have e58 : (y : Int32).toInt = 2 := s58_2
          refine lv_tableIn (off := 48) (tgt := 106) hx hb dX11_overlapOf_58 (by rw [e58]; decide) (by rw [e58]; decide) (by rw [e58]; rfl) (by decide) ?_
          refine lv_aload_n hx hb dX11_overlapOf_106 rfl (lv_at hl 2 rfl) ?_
          refine va_get (D := D) (ci := 10) (v := .int (nI (kQ k_17))) (C := RX11) (T := TX11) (N := 27) hx hb hts hi_X11_overlapOf_X11 hown hK hP 0 rfl rfl 22 (by decide) (hts (.fieldLink RX11 142 "FallingWordsModel" "overlapPlace" "I") (by decide +kernel)) (fun _ h9 => h9) rfl dX11_overlapOf_107 ?_
          exact hret _ _ _ _ _ _ dX11_overlapOf_110 ⟨y8f_17, y9f_17, y10f_17, y11f_17, ((nI (kA k_17))), ((nI (kB k_17))), ((nI (kQ k_17))), ((nI (ow1 S (kA k_17) (kB k_17) (kQ k_17)))), ((nI (ow2 S (kA k_17) (kB k_17) (kQ k_17)))), y18f_17, y19f_17, RWf_17, RRf_17, (by unfold ovZ; rw [if_neg (show ¬ (y.toInt < 0 ∨ 6 < y.toInt ∨ fndB S (nI n) = false) from fun h => h.elim (fun h => by omega) (fun h => h.elim (fun h => by omega) (fun h => by rw [hfb] at h; cases h))), if_neg (show ¬ y.toInt = 0 by omega), if_neg (show ¬ y.toInt = 1 by omega), if_pos (show y.toInt = 2 by omega), en, k1]), rfl⟩ hP hD hS
        by_cases s58_3 : y.toInt = 3
        · have e58 : (y : Int32).toInt = 3 := s58_3
          refine lv_tableIn (off := 53) (tgt := 111) hx hb dX11_overlapOf_58 (by rw [e58]; decide) (by rw [e58]; decide) (by rw [e58]; rfl) (by decide) ?_
          refine lv_iload_n hx hb dX11_overlapOf_111 rfl (lv_at hl 1 rfl) ?_
          refine lv_iload hx hb dX11_overlapOf_112 (lv_at hl 0 rfl) ?_
          refine xc_le (tgt := 121) hx hb dX11_overlapOf_114 (by decide) (by omega) (by omega) (fun c114 => ?_) (fun c114 => ?_)
          · refine lv_iload hx hb dX11_overlapOf_121 (lv_at hl 0 rfl) ?_
            exact hret _ _ _ _ _ _ dX11_overlapOf_123 ⟨y8f_17, y9f_17, y10f_17, y11f_17, ((nI (kA k_17))), ((nI (kB k_17))), ((nI (kQ k_17))), ((nI (ow1 S (kA k_17) (kB k_17) (kQ k_17)))), ((nI (ow2 S (kA k_17) (kB k_17) (kQ k_17)))), y18f_17, y19f_17, RWf_17, RRf_17, (by unfold ovZ; rw [if_neg (show ¬ (y.toInt < 0 ∨ 6 < y.toInt ∨ fndB S (nI n) = false) from fun h => h.elim (fun h => by omega) (fun h => h.elim (fun h => by omega) (fun h => by rw [hfb] at h; cases h))), if_neg (show ¬ y.toInt = 0 by omega), if_neg (show ¬ y.toInt = 1 by omega), if_neg (show ¬ y.toInt = 2 by omega), if_pos (show y.toInt = 3 by omega), en, k1]; exact congrArg nI (by omega)), rfl⟩ hP hD hS
          · refine lv_iload_n hx hb dX11_overlapOf_117 rfl (lv_at hl 1 rfl) ?_
            refine lv_goto (tgt := 123) hx hb dX11_overlapOf_118 (by decide) ?_
            exact hret _ _ _ _ _ _ dX11_overlapOf_123 ⟨y8f_17, y9f_17, y10f_17, y11f_17, ((nI (kA k_17))), ((nI (kB k_17))), ((nI (kQ k_17))), ((nI (ow1 S (kA k_17) (kB k_17) (kQ k_17)))), ((nI (ow2 S (kA k_17) (kB k_17) (kQ k_17)))), y18f_17, y19f_17, RWf_17, RRf_17, (by unfold ovZ; rw [if_neg (show ¬ (y.toInt < 0 ∨ 6 < y.toInt ∨ fndB S (nI n) = false) from fun h => h.elim (fun h => by omega) (fun h => h.elim (fun h => by omega) (fun h => by rw [hfb] at h; cases h))), if_neg (show ¬ y.toInt = 0 by omega), if_neg (show ¬ y.toInt = 1 by omega), if_neg (show ¬ y.toInt = 2 by omega), if_pos (show y.toInt = 3 by omega), en, k1]; exact congrArg nI (by omega)), rfl⟩ hP hD hS
        by_cases s58_4 : y.toInt = 4
        · have e58 : (y : Int32).toInt = 4 := s58_4
          refine lv_tableIn (off := 66) (tgt := 124) hx hb dX11_overlapOf_58 (by rw [e58]; decide) (by rw [e58]; decide) (by rw [e58]; rfl) (by decide) ?_
          refine lv_aload_n hx hb dX11_overlapOf_124 rfl (lv_at hl 2 rfl) ?_
          refine ci_V (As := []) (rest := []) h0 hK hN hP hD hS hA hl.1 (k_X11_parts lY D cA B S WA BG AS TX RWf_17 RRf_17 FD m1 m2 m3 m4 m5 m6 m7 y8f_17 y9f_17 y10f_17 y11f_17 m12 (nI (kA k_17)) (nI (kB k_17)) (nI (kQ k_17)) y18f_17 y19f_17 (ow1 S (kA k_17) (kB k_17) (kQ k_17)) (ow2 S (kA k_17) (kB k_17) (kQ k_17)) (hI) (e4) (e5)) [0, 1, 2, 3, 4, 5, 6, 7, 8] rfl (by decide) (cwV 0 hts gX11_overlapOf_X11_parts rfl rfl rfl (by decide +kernel) ⟨Nat.le_of_ble_eq_true rfl, Nat.le_of_ble_eq_true rfl⟩) (cl_recv (ci := 10) (q := (RX11, TX11, 27)) (q0 := 0) hP hK rfl rfl) rfl rfl (Nat.le_of_ble_eq_true rfl) dX11_overlapOf_125 ⟨Nat.zero_le _, Nat.zero_le _⟩ (fun rY wY H locs hwY hJ hS => ?_)
          obtain ⟨k8_125, k9_125, RW'_125, RR'_125, k10_125, k11_125, e1Y, e2Y⟩ := hwY
          have e3Y := e1Y.symm
          clear e1Y
          subst e3Y
          have e3Y := e2Y.symm
          clear e2Y
          subst e3Y
          obtain ⟨hP, hD⟩ := hJ rfl
          have hP : va_P D vwCl (gMo cA B (fN S) WA BG AS TX RW'_125 RR'_125 FD m1 m2 m3 m4 m5 m6 m7 k8_125 k9_125 k10_125 k11_125 m12 (nI (kA k_17)) (nI (kB k_17)) (nI (kQ k_17)) (nI (ow1 S (kA k_17) (kB k_17) (kQ k_17))) (nI (ow2 S (kA k_17) (kB k_17) (kQ k_17))) (nI (nw S (ow1 S (kA k_17) (kB k_17) (kQ k_17)))) (nI (nw S (ow2 S (kA k_17) (kB k_17) (kQ k_17))))) H := hP
          have hD : va_D AY (gMo cA B (fN S) WA BG AS TX RW'_125 RR'_125 FD m1 m2 m3 m4 m5 m6 m7 k8_125 k9_125 k10_125 k11_125 m12 (nI (kA k_17)) (nI (kB k_17)) (nI (kQ k_17)) (nI (ow1 S (kA k_17) (kB k_17) (kQ k_17))) (nI (ow2 S (kA k_17) (kB k_17) (kQ k_17))) (nI (nw S (ow1 S (kA k_17) (kB k_17) (kQ k_17)))) (nI (nw S (ow2 S (kA k_17) (kB k_17) (kQ k_17))))) := hD
          refine xt (show nI (par S (ow1 S (kA k_17) (kB k_17) (kQ k_17)) (ow2 S (kA k_17) (kB k_17) (kQ k_17))) = nI (prk S k_17) from rfl) ?_
          exact hret _ _ _ _ _ _ dX11_overlapOf_128 ⟨k8_125, k9_125, k10_125, k11_125, ((nI (kA k_17))), ((nI (kB k_17))), ((nI (kQ k_17))), ((nI (ow1 S (kA k_17) (kB k_17) (kQ k_17)))), ((nI (ow2 S (kA k_17) (kB k_17) (kQ k_17)))), ((nI (nw S (ow1 S (kA k_17) (kB k_17) (kQ k_17))))), ((nI (nw S (ow2 S (kA k_17) (kB k_17) (kQ k_17))))), RW'_125, RR'_125, (by unfold ovZ; rw [if_neg (show ¬ (y.toInt < 0 ∨ 6 < y.toInt ∨ fndB S (nI n) = false) from fun h => h.elim (fun h => by omega) (fun h => h.elim (fun h => by omega) (fun h => by rw [hfb] at h; cases h))), if_neg (show ¬ y.toInt = 0 by omega), if_neg (show ¬ y.toInt = 1 by omega), if_neg (show ¬ y.toInt = 2 by omega), if_neg (show ¬ y.toInt = 3 by omega), if_pos (show y.toInt = 4 by omega), en, k1]), rfl⟩ hP hD hS
        by_cases s58_5 : y.toInt = 5
        · have e58 : (y : Int32).toInt = 5 := s58_5
          refine lv_tableIn (off := 71) (tgt := 129) hx hb dX11_overlapOf_58 (by rw [e58]; decide) (by rw [e58]; decide) (by rw [e58]; rfl) (by decide) ?_
          refine lv_aload_n hx hb dX11_overlapOf_129 rfl (lv_at hl 2 rfl) ?_
          refine va_get (D := D) (ci := 10) (v := .int (nI (ow1 S (kA k_17) (kB k_17) (kQ k_17)))) (C := RX11) (T := TX11) (N := 27) hx hb hts hi_X11_overlapOf_X11 hown hK hP 0 rfl rfl 23 (by decide) (hts (.fieldLink RX11 145 "FallingWordsModel" "oneWord" "I") (by decide +kernel)) (fun _ h9 => h9) rfl dX11_overlapOf_130 ?_
          refine ci_S (As := [.int (nI (ow1 S (kA k_17) (kB k_17) (kQ k_17)))]) (rest := []) h0 hK hN hP hD hS hA hl.1 (k_X11_length lY D cA (ow1 S (kA k_17) (kB k_17) (kQ k_17)) (e4.1) (by have := e4.2; omega)) [] rfl (by decide) (va_cwS 1 hts gX11_overlapOf_X11_length rfl rfl rfl (by decide +kernel) ⟨Nat.le_of_ble_eq_true rfl, Nat.le_of_ble_eq_true rfl⟩) rfl rfl (Nat.le_of_ble_eq_true rfl) dX11_overlapOf_133 ⟨Nat.zero_le _, Nat.zero_le _⟩ (fun rY wY H locs hwY hJ hS => ?_)
          obtain ⟨e1Y, e2Y⟩ := hwY
          have e3Y := e1Y.symm
          clear e1Y
          subst e3Y
          have e3Y := e2Y.symm
          clear e2Y
          subst e3Y
          obtain ⟨hP, hD⟩ := hJ rfl
          have hP : va_P D vwCl (gMo cA B (fN S) WA BG AS TX RWf_17 RRf_17 FD m1 m2 m3 m4 m5 m6 m7 y8f_17 y9f_17 y10f_17 y11f_17 m12 (nI (kA k_17)) (nI (kB k_17)) (nI (kQ k_17)) (nI (ow1 S (kA k_17) (kB k_17) (kQ k_17))) (nI (ow2 S (kA k_17) (kB k_17) (kQ k_17))) y18f_17 y19f_17) H := hP
          have hD : va_D AY (gMo cA B (fN S) WA BG AS TX RWf_17 RRf_17 FD m1 m2 m3 m4 m5 m6 m7 y8f_17 y9f_17 y10f_17 y11f_17 m12 (nI (kA k_17)) (nI (kB k_17)) (nI (kQ k_17)) (nI (ow1 S (kA k_17) (kB k_17) (kQ k_17))) (nI (ow2 S (kA k_17) (kB k_17) (kQ k_17))) y18f_17 y19f_17) := hD
          exact hret _ _ _ _ _ _ dX11_overlapOf_136 ⟨y8f_17, y9f_17, y10f_17, y11f_17, ((nI (kA k_17))), ((nI (kB k_17))), ((nI (kQ k_17))), ((nI (ow1 S (kA k_17) (kB k_17) (kQ k_17)))), ((nI (ow2 S (kA k_17) (kB k_17) (kQ k_17)))), y18f_17, y19f_17, RWf_17, RRf_17, (by unfold ovZ; rw [if_neg (show ¬ (y.toInt < 0 ∨ 6 < y.toInt ∨ fndB S (nI n) = false) from fun h => h.elim (fun h => by omega) (fun h => h.elim (fun h => by omega) (fun h => by rw [hfb] at h; cases h))), if_neg (show ¬ y.toInt = 0 by omega), if_neg (show ¬ y.toInt = 1 by omega), if_neg (show ¬ y.toInt = 2 by omega), if_neg (show ¬ y.toInt = 3 by omega), if_neg (show ¬ y.toInt = 4 by omega), if_pos (show y.toInt = 5 by omega), en, k1]), rfl⟩ hP hD hS
        refine lv_tableOut (tgt := 137) hx hb dX11_overlapOf_58 (by omega) (by decide) ?_
        refine lv_aload_n hx hb dX11_overlapOf_137 rfl (lv_at hl 2 rfl) ?_
        refine va_get (D := D) (ci := 10) (v := .int (nI (ow2 S (kA k_17) (kB k_17) (kQ k_17)))) (C := RX11) (T := TX11) (N := 27) hx hb hts hi_X11_overlapOf_X11 hown hK hP 0 rfl rfl 24 (by decide) (hts (.fieldLink RX11 148 "FallingWordsModel" "otherWord" "I") (by decide +kernel)) (fun _ h9 => h9) rfl dX11_overlapOf_138 ?_
        refine ci_S (As := [.int (nI (ow2 S (kA k_17) (kB k_17) (kQ k_17)))]) (rest := []) h0 hK hN hP hD hS hA hl.1 (k_X11_length lY D cA (ow2 S (kA k_17) (kB k_17) (kQ k_17)) (e5.1) (by have := e5.2; omega)) [] rfl (by decide) (va_cwS 1 hts gX11_overlapOf_X11_length rfl rfl rfl (by decide +kernel) ⟨Nat.le_of_ble_eq_true rfl, Nat.le_of_ble_eq_true rfl⟩) rfl rfl (Nat.le_of_ble_eq_true rfl) dX11_overlapOf_141 ⟨Nat.zero_le _, Nat.zero_le _⟩ (fun rY wY H locs hwY hJ hS => ?_)
        obtain ⟨e1Y, e2Y⟩ := hwY
        have e3Y := e1Y.symm
        clear e1Y
        subst e3Y
        have e3Y := e2Y.symm
        clear e2Y
        subst e3Y
        obtain ⟨hP, hD⟩ := hJ rfl
        have hP : va_P D vwCl (gMo cA B (fN S) WA BG AS TX RWf_17 RRf_17 FD m1 m2 m3 m4 m5 m6 m7 y8f_17 y9f_17 y10f_17 y11f_17 m12 (nI (kA k_17)) (nI (kB k_17)) (nI (kQ k_17)) (nI (ow1 S (kA k_17) (kB k_17) (kQ k_17))) (nI (ow2 S (kA k_17) (kB k_17) (kQ k_17))) y18f_17 y19f_17) H := hP
        have hD : va_D AY (gMo cA B (fN S) WA BG AS TX RWf_17 RRf_17 FD m1 m2 m3 m4 m5 m6 m7 y8f_17 y9f_17 y10f_17 y11f_17 m12 (nI (kA k_17)) (nI (kB k_17)) (nI (kQ k_17)) (nI (ow1 S (kA k_17) (kB k_17) (kQ k_17))) (nI (ow2 S (kA k_17) (kB k_17) (kQ k_17))) y18f_17 y19f_17) := hD
        exact hret _ _ _ _ _ _ dX11_overlapOf_144 ⟨y8f_17, y9f_17, y10f_17, y11f_17, ((nI (kA k_17))), ((nI (kB k_17))), ((nI (kQ k_17))), ((nI (ow1 S (kA k_17) (kB k_17) (kQ k_17)))), ((nI (ow2 S (kA k_17) (kB k_17) (kQ k_17)))), y18f_17, y19f_17, RWf_17, RRf_17, (by unfold ovZ; rw [if_neg (show ¬ (y.toInt < 0 ∨ 6 < y.toInt ∨ fndB S (nI n) = false) from fun h => h.elim (fun h => by omega) (fun h => h.elim (fun h => by omega) (fun h => by rw [hfb] at h; cases h))), if_neg (show ¬ y.toInt = 0 by omega), if_neg (show ¬ y.toInt = 1 by omega), if_neg (show ¬ y.toInt = 2 by omega), if_neg (show ¬ y.toInt = 3 by omega), if_neg (show ¬ y.toInt = 4 by omega), if_neg (show ¬ y.toInt = 5 by omega), en, k1]), rfl⟩ hP hD hS
      · refine lv_ldc (v := (-1000001)) hx hb hown (hts (.constant RX11 78 (-1000001)) (by decide +kernel)) dX11_overlapOf_24 ?_
        have hfb : fndB S (nI n) = false := by unfold fndB; rw [sl_eq]; refine decide_eq_false (fun z => ?_); have e : cntO S = cn (ovk S) 400 := (by unfold cntO; rw [sl_eq]); have := ff1_17 (by omega); omega
        exact hret _ _ _ _ _ _ dX11_overlapOf_26 ⟨y8f_17, y9f_17, y10f_17, y11f_17, y13f_17, y14f_17, y15f_17, y16f_17, y17f_17, y18f_17, y19f_17, RWf_17, RRf_17, (by unfold ovZ; rw [if_pos (Or.inr (Or.inr hfb))]), rfl⟩ hP hD hS
