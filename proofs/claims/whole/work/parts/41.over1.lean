/-! overlaps -/
noncomputable def sl {α : Type} (x : α) : α := Classical.choose (⟨x, rfl⟩ : ∃ y, y = x)
theorem sl_eq {α : Type} (x : α) : sl x = x := Classical.choose_spec (⟨x, rfl⟩ : ∃ y, y = x)
def kA (k : Nat) : Nat := k / 40
def kB (k : Nat) : Nat := k / 4 % 10
def kQ (k : Nat) : Nat := k % 4
def agrP (x y q : Nat) : Prop := ∀ k, q ≤ k → k < len x → k < q + len y → lt4 x k = lt4 y (k - q)
noncomputable def agr (x y q : Nat) : Bool := @decide (agrP x y q) (Classical.propDecidable _)
theorem agr_t {x y q : Nat} (h : agrP x y q) : agr x y q = true := @decide_eq_true _ (Classical.propDecidable _) h
theorem agr_f {x y q : Nat} (h : ¬ agrP x y q) : agr x y q = false := @decide_eq_false _ (Classical.propDecidable _) h
theorem agr_u {x y q : Nat} (h : agr x y q = true) : agrP x y q := @of_decide_eq_true _ (Classical.propDecidable _) h
def shp (x y q : Nat) (ne : Bool) : Bool := (ne && decide (q + len y ≤ len x)) || decide (0 < q ∧ q < len x ∧ len x ≤ q + len y)
noncomputable def ovl (S : St) (a b q : Nat) : Bool := shp (lf S a) (lf S b) q (decide (a ≠ b)) && agr (lf S a) (lf S b) q
def ovx (x y e : Nat) : Nat := x * 4 ^ e + y % 4 ^ e
def ovw (S : St) (a b q : Nat) : Nat := ovx (lf S a) (lf S b) (q + len (lf S b) - len (lf S a))
def ow1 (S : St) (a b q : Nat) : Nat := app (lf S a) (rt S a) (ovw S a b q) 0
def ow2 (S : St) (a b q : Nat) : Nat := app (lf S b) (rt S b) (ovw S a b q) q
noncomputable def ovk (S : St) (k : Nat) : Bool := decide (kA k < S 1) && decide (kB k < S 1) && ovl S (kA k) (kB k) (kQ k)
noncomputable def nw (S : St) (u : Nat) : Nat := xs S u (red S u).2.1
noncomputable def par (S : St) (u v : Nat) : Nat := sl (if (red S u).1 = 0 ∧ (red S v).1 = 0 then (if nw S u = nw S v then 0 else 1) else 2)
noncomputable def prk (S : St) (k : Nat) : Nat := par S (ow1 S (kA k) (kB k) (kQ k)) (ow2 S (kA k) (kB k) (kQ k))
theorem dig (t : Nat) : ∀ u v : Nat, u % 4 ^ t = v % 4 ^ t ↔ ∀ i, i < t → u / 4 ^ i % 4 = v / 4 ^ i % 4 := by
  induction t with
  | zero => intro u v; simp [Nat.mod_one]
  | succ t ih =>
    intro u v
    have hu := Nat.mod_pow_succ (b := 4) (k := t) (x := u)
    have hv := Nat.mod_pow_succ (b := 4) (k := t) (x := v)
    have lu : u % 4 ^ t < 4 ^ t := Nat.mod_lt _ (four_pos _)
    have lv : v % 4 ^ t < 4 ^ t := Nat.mod_lt _ (four_pos _)
    rw [hu, hv]
    constructor
    · intro h
      have h1 : u % 4 ^ t = v % 4 ^ t := by
        have a := congrArg (· % 4 ^ t) h
        simp only [Nat.add_mul_mod_self_left, Nat.mod_mod] at a
        exact a
      have h2 : u / 4 ^ t % 4 = v / 4 ^ t % 4 := by
        rw [h1] at h
        exact Nat.eq_of_mul_eq_mul_left (four_pos t) (Nat.add_left_cancel h)
      intro i hi
      rcases Nat.lt_or_ge i t with q | q
      · exact (ih u v).mp h1 i q
      · rw [show i = t by omega]; exact h2
    · intro h
      rw [(ih u v).mpr (fun i hi => h i (by omega)), h t (Nat.lt_succ_self t)]
theorem stn_iff {y w q : Nat} (hq : q + len y ≤ len w) : stn y w q = true ↔ ∀ i, i < len y → lt4 w (q + i) = lt4 y i := by
  unfold stn
  rw [decide_eq_true hq, Bool.true_and, decide_eq_true_eq, dig]
  unfold lt4
  constructor
  · intro h i hi
    have a := h (len y - 1 - i) (by omega)
    rw [Nat.div_div_eq_div_mul, ← Nat.pow_add] at a
    rw [show len w - 1 - (q + i) = len w - q - len y + (len y - 1 - i) by omega]
    exact a
  · intro h i hi
    have a := h (len y - 1 - i) (by omega)
    rw [show len w - 1 - (q + (len y - 1 - i)) = len w - q - len y + i by omega, show len y - 1 - (len y - 1 - i) = i by omega] at a
    rw [Nat.div_div_eq_div_mul, ← Nat.pow_add]
    exact a
theorem ovx_wd {x y e n : Nat} (hx1 : wd n x) : wd (n + e) (ovx x y e) := wd_app hx1 (Nat.mod_lt _ (four_pos _))
theorem ovx_hi {x y e k : Nat} (hx1 : wd (len x) x) (hk : k < len x) : lt4 (ovx x y e) k = lt4 x k := by
  unfold lt4
  rw [len_wd (ovx_wd hx1), show len x + e - 1 - k = e + (len x - 1 - k) by omega, Nat.pow_add, ← Nat.div_div_eq_div_mul]
  unfold ovx
  rw [Nat.mul_comm x, Nat.mul_add_div (four_pos e), Nat.div_eq_of_lt (Nat.mod_lt _ (four_pos e)), Nat.add_zero]
theorem ovx_lo {x y e k : Nat} (hx1 : wd (len x) x) (hk : len x ≤ k) (hk2 : k < len x + e) (he : e ≤ len y) : lt4 (ovx x y e) k = lt4 y (k + len y - (len x + e)) := by
  unfold lt4
  rw [len_wd (ovx_wd hx1), show len y - 1 - (k + len y - (len x + e)) = len x + e - 1 - k by omega]
  refine (dig e _ _).mp ?_ _ (by omega)
  unfold ovx
  rw [Nat.mul_comm x, Nat.mul_add_mod, Nat.mod_mod]
theorem ov_ok {S : St} {a b q : Nat} (hI : IR S) (ha : a < S 1) (hb2 : b < S 1) (hq : q < 4) (hs : shp (lf S a) (lf S b) q (decide (a ≠ b)) = true) : vw 12 (ovw S a b q) ∧ len (ovw S a b q) = len (lf S a) + (q + len (lf S b) - len (lf S a)) ∧ stn (lf S a) (ovw S a b q) 0 = true ∧ stn (lf S b) (ovw S a b q) q = agr (lf S a) (lf S b) q := by
  obtain ⟨a1, a2, a3, a4⟩ := hI.2.2 a ha
  obtain ⟨b1, b2, b3, b4⟩ := hI.2.2 b hb2
  have a12 := a1.2
  have b12 := b1.2
  unfold shp at hs
  simp only [Bool.or_eq_true, Bool.and_eq_true, decide_eq_true_eq] at hs
  have hw : wd (len (lf S a) + (q + len (lf S b) - len (lf S a))) (ovw S a b q) := ovx_wd a1.1
  have hlen := len_wd hw
  refine ⟨wd_vw hw (by omega), hlen, ?_, ?_⟩
  · rw [stn_iff (by omega)]
    intro i hi
    rw [Nat.zero_add]
    exact ovx_hi a1.1 hi
  · cases hag : agr (lf S a) (lf S b) q with
    | true =>
      have h := agr_u hag
      rw [stn_iff (by omega)]
      intro i hi
      rcases Nat.lt_or_ge (q + i) (len (lf S a)) with c | c
      · have := ovx_hi (y := lf S b) (e := q + len (lf S b) - len (lf S a)) a1.1 c
        have h2 := h (q + i) (by omega) c (by omega)
        rw [Nat.add_sub_cancel_left] at h2
        exact this.trans h2
      · have := ovx_lo (y := lf S b) (e := q + len (lf S b) - len (lf S a)) a1.1 c (by omega) (by omega)
        rw [show q + i + len (lf S b) - (len (lf S a) + (q + len (lf S b) - len (lf S a))) = i by omega] at this
        exact this
    | false =>
      cases hst : stn (lf S b) (ovw S a b q) q with
      | false => rfl
      | true =>
        rw [stn_iff (by omega)] at hst
        refine absurd (agr_t (x := lf S a) (y := lf S b) (q := q) ?_) (by rw [hag]; decide)
        intro k h2 h3 h4
        have t := hst (k - q) (by omega)
        rw [show q + (k - q) = k by omega] at t
        rw [← t]
        exact (ovx_hi a1.1 h3).symm
theorem ov_w {S : St} {a b q : Nat} (hI : IR S) (ha : a < S 1) (hb2 : b < S 1) (hq : q < 4) (h : ovl S a b q = true) : vw 12 (ovw S a b q) ∧ 0 + len (lf S a) ≤ len (ovw S a b q) ∧ q + len (lf S b) ≤ len (ovw S a b q) ∧ vw 12 (ow1 S a b q) ∧ vw 12 (ow2 S a b q) := by
  unfold ovl at h
  rw [Bool.and_eq_true] at h
  obtain ⟨h1, h2⟩ := h
  obtain ⟨e1, e2, e3, e4⟩ := ov_ok hI ha hb2 hq h1
  rw [h2] at e4
  exact ⟨e1, stn_le e3, stn_le e4, ap_vw hI e1 ha e3, ap_vw hI e1 hb2 e4⟩
theorem inR_nI {S : St} {a : Nat} (h : a < 2147483648) : inR S (nI a) = decide (a < S 1) := by
  unfold inR
  rw [nI_toInt h]
  by_cases q : a < S 1
  · rw [decide_eq_true q, decide_eq_true (by omega)]
  · rw [decide_eq_false q, decide_eq_false (by omega)]
theorem ovx_lt {x y e n : Nat} (hx1 : vw n x) (hn : n + e ≤ 13) : x * 4 ^ e < 134217728 := by
  have h := wd_app hx1.1 (k := e) (b := 0) (four_pos _)
  have := wd_lt h (m := 13) (by have := hx1.2; omega)
  have e2 : 2 * 4 ^ 13 = 134217728 := by decide
  omega
theorem cn_mono (p : Nat → Bool) : ∀ {i j : Nat}, i ≤ j → cn p i ≤ cn p j := by
  intro i j h
  induction h with
  | refl => exact Nat.le_refl _
  | step h ih => exact Nat.le_trans ih (by show cn p _ ≤ cn p _ + _; omega)
noncomputable def cntO (S : St) : Nat := sl (cn (ovk S) 400)
noncomputable def cntV (S : St) (v : Nat) : Nat := sl (cn (fun k => ovk S k && decide (prk S k = v)) 400)
noncomputable def kth (S : St) (n : Nat) : Nat := sl (ff (fun k => ovk S k && decide (cn (ovk S) k = n)) 400)
noncomputable def pth (S : St) : Nat := sl (ff (fun k => ovk S k && decide (prk S k = 1)) 400)
noncomputable def fndB (S : St) (x : Int32) : Bool := sl (decide (0 ≤ x.toInt ∧ x.toInt < (cntO S : Int)))
theorem kth_is {S : St} {k n : Nat} (hk : k < 400) (h : ovk S k = true) (hn : cn (ovk S) k = n) : kth S n = k ∧ n < cntO S := by
  unfold kth cntO
  rw [sl_eq, sl_eq]
  refine ⟨ff_is hk (by rw [h, hn]; simp) (fun j hj => ?_), ?_⟩
  · cases hj1 : ovk S j with
    | false => rfl
    | true =>
      have h1 := cn_t hj1
      have h2 := cn_mono (ovk S) (show j + 1 ≤ k by omega)
      simp only [Bool.true_and]
      exact decide_eq_false (by omega)
  · have h1 := cn_t h
    have h2 := cn_mono (ovk S) (show k + 1 ≤ 400 by omega)
    omega
theorem par_2a {S : St} {u v : Nat} (h : (red S u).1 ≠ 0) : par S u v = 2 := by unfold par; rw [sl_eq, if_neg (fun q => h q.1)]
theorem par_2b {S : St} {u v : Nat} (h : (red S v).1 ≠ 0) : par S u v = 2 := by unfold par; rw [sl_eq, if_neg (fun q => h q.2)]
theorem par_0 {S : St} {u v : Nat} (h1 : (red S u).1 = 0) (h2 : (red S v).1 = 0) (h : nw S u = nw S v) : par S u v = 0 := by unfold par; rw [sl_eq, if_pos ⟨h1, h2⟩, if_pos h]
theorem par_1 {S : St} {u v : Nat} (h1 : (red S u).1 = 0) (h2 : (red S v).1 = 0) (h : nw S u ≠ nw S v) : par S u v = 1 := by unfold par; rw [sl_eq, if_pos ⟨h1, h2⟩, if_neg h]
theorem par_le {S : St} {u v : Nat} : par S u v ≤ 2 := by
  unfold par
  rw [sl_eq]
  split
  · split <;> decide
  · decide
theorem rRu_f {S : St} {L R LL RL TM : Nat → Int32} {r : Nat} (h : rRu S L R LL RL TM) (hr : r < S 1) : L r = nI (lf S r) ∧ R r = nI (rt S r) ∧ LL r = nI (len (lf S r)) ∧ RL r = nI (len (rt S r)) ∧ TM r = nI (tms S r) := h r hr
theorem ov_pow0 {x y e : Nat} (h : e = 0) : ovx x y e = x := by
  subst h
  unfold ovx
  rw [Nat.pow_zero, Nat.mul_one, Nat.mod_one, Nat.add_zero]
theorem kb (k : Nat) (h : k < 400) : kA k < 10 ∧ kB k < 10 ∧ kQ k < 4 := by unfold kA kB kQ; omega

abbrev gOv (cA : Nat → ClassId) (B : Nat → Nat) (fi : Int32) (se : Int32) (pl : Int32) (wd1 : Int32) (fn : Int32) (sn : Int32) : va_W := [(B 0, .inr (1, [.int fi, .int se, .int pl, .int wd1, .int fn, .int sn]))]
theorem hi_X1_coveredWord_X1 : ∀ w ∈ u_ws RX1 TX1 6, w ∈ wsX1_coveredWord := by decide +kernel
theorem hi_X1_coveredWord_X4 : ∀ w ∈ u_ws RX4 TX4 6, w ∈ wsX1_coveredWord := by decide +kernel
set_option maxHeartbeats 1000000 in
set_option maxRecDepth 100000 in
theorem k_X1_coveredWord (lY : Launch) (D : va_G) (cA : Nat → ClassId) (Bo B : Nat → Nat) (pl wd1 fn sn : Int32) (S : St) (L R LL RL TM : Nat → Int32) (a b e n1 : Nat) (hI : IR S) (hr : rRu S L R LL RL TM) (ha : a < S 1) (hb2 : b < S 1) (he : e ≤ 8) (hn : n1 ≤ 4) : MetI lY D cA yX1_coveredWord wsX1_coveredWord 1 21 [.ref (Bo 0), .ref (B 0), .int (nI e - nI n1)] (gOv cA Bo (nI a) (nI b) pl wd1 fn sn ++ gRu cA B L R LL RL TM (nI (S 1))) (fun rY wY => rY = nI (ovx (lf S a) (lf S b) (e - n1)) ∧ wY = gOv cA Bo (nI a) (nI b) pl wd1 fn sn ++ gRu cA B L R LL RL TM (nI (S 1))) := by
  refine MetI.of (cc := cX1_coveredWord) (maxL := 4) (ret := (some .int)) (by decide) rfl (Nat.le_of_ble_eq_true rfl) (Or.inl rfl) ?_
  intro pY eY sY mY aY bY tY cY QY AY ls h0 hP hK hN hD hA hS hl hret
  obtain ⟨hx, hb, hml, hown, hts⟩ := id h0
  have hl : lv_has ls 4 [(0, .ref (Bo 0)), (1, .ref (B 0)), (2, .int (nI e - nI n1))] := hl
  have hP : va_P D vwCl (gOv cA Bo (nI a) (nI b) pl wd1 fn sn ++ gRu cA B L R LL RL TM (nI (S 1))) sY.heap := hP
  have hD : va_D AY (gOv cA Bo (nI a) (nI b) pl wd1 fn sn ++ gRu cA B L R LL RL TM (nI (S 1))) := hD
  have h10 := hI.1
  obtain ⟨v1, v2, v3, v4⟩ := hI.2.2 a ha
  obtain ⟨u1, u2, u3, u4⟩ := hI.2.2 b hb2
  obtain ⟨f1, f2, f3, f4, f5⟩ := hr a ha
  obtain ⟨g1, g2, g3, g4, g5⟩ := hr b hb2
  refine lv_aload_n hx hb dX1_coveredWord_0 rfl (lv_at hl 1 rfl) ?_
  refine va_getN (D := D) (ci := 4) (v := .ref (B 1)) (C := RX4) (T := TX4) (N := 6) hx hb hts hi_X1_coveredWord_X4 hown hK hP 1 rfl rfl 0 (by decide) (hN.fl (w := .fieldLinkNest RX1 62 "FallingWords$Rules" "left" "[I" "FallingWords") (by decide +kernel)) (fun _ h9 => h9) rfl dX1_coveredWord_1 ?_
  refine lv_aload_n hx hb dX1_coveredWord_4 rfl (lv_at hl 0 rfl) ?_
  refine va_get (D := D) (ci := 1) (v := .int (nI a)) (C := RX1) (T := TX1) (N := 6) hx hb hts hi_X1_coveredWord_X1 hown hK hP 0 rfl rfl 0 (by decide) (hts (.fieldLink RX1 25 "FallingWords$Overlaps" "first" "I") (by decide +kernel)) (fun _ h9 => h9) rfl dX1_coveredWord_5 ?_
  refine xa_ld (v := nI (lf S a)) hx hb hK hP 2 rfl (by omega) (by decide) (f1) dX1_coveredWord_8 ?_
  refine lv_istore_n (lv' := [(3, .int (nI (lf S a))), (0, .ref (Bo 0)), (1, .ref (B 0)), (2, .int (nI e - nI n1))]) hx hb dX1_coveredWord_9 rfl hl (by decide) rfl (fun ls hl => ?_)
  refine lv_iload_n hx hb dX1_coveredWord_10 rfl (lv_at hl 3 rfl) ?_
  refine xd_gt (tgt := 16) hx hb dX1_coveredWord_11 (by decide) (by omega) (by omega) (fun c11 => ?_) (fun c11 => ?_)
  · have hov := ovx_lt (y := lf S b) (e := e - n1) v1 (by omega)
    have hl : lv_has ls 4 [(3, .int (nI (lf S a))), (0, .ref (Bo 0)), (1, .ref (B 0)), (2, .int (nI (e - n1)))] := Eq.mp (congrArg (fun zY : Int32 => lv_has ls 4 [(3, .int (nI (lf S a))), (0, .ref (Bo 0)), (1, .ref (B 0)), (2, .int zY)]) (show nI e - nI n1 = nI (e - n1) from pk_sub (by omega))) hl
    refine lv_iload_n hx hb dX1_coveredWord_16 rfl (lv_at hl 0 rfl) ?_
    refine lv_iconst (v := nI 2) hx hb dX1_coveredWord_17 (by decide +kernel) ?_
    refine lv_iload_n hx hb dX1_coveredWord_18 rfl (lv_at hl 3 rfl) ?_
    refine lv_imul hx hb dX1_coveredWord_19 ?_
    refine xt (show (nI 2) * (nI (e - n1)) = nI (2 * (e - n1)) from pk_mul _ _) ?_
    refine lv_ishl hx hb dX1_coveredWord_20 ?_
    refine xt (show (nI (lf S a)) <<< ((nI (2 * (e - n1))) &&& 31) = nI (lf S a * 4 ^ (e - n1)) from sh_l (by omega) (by omega)) ?_
    refine lv_aload_n hx hb dX1_coveredWord_21 rfl (lv_at hl 2 rfl) ?_
    refine va_getN (D := D) (ci := 4) (v := .ref (B 1)) (C := RX4) (T := TX4) (N := 6) hx hb hts hi_X1_coveredWord_X4 hown hK hP 1 rfl rfl 0 (by decide) (hN.fl (w := .fieldLinkNest RX1 62 "FallingWords$Rules" "left" "[I" "FallingWords") (by decide +kernel)) (fun _ h9 => h9) rfl dX1_coveredWord_22 ?_
    refine lv_aload_n hx hb dX1_coveredWord_25 rfl (lv_at hl 1 rfl) ?_
    refine va_get (D := D) (ci := 1) (v := .int (nI b)) (C := RX1) (T := TX1) (N := 6) hx hb hts hi_X1_coveredWord_X1 hown hK hP 0 rfl rfl 1 (by decide) (hts (.fieldLink RX1 29 "FallingWords$Overlaps" "second" "I") (by decide +kernel)) (fun _ h9 => h9) rfl dX1_coveredWord_26 ?_
    refine xa_ld (v := nI (lf S b)) hx hb hK hP 2 rfl (by omega) (by decide) (g1) dX1_coveredWord_29 ?_
    refine lv_iload_n hx hb dX1_coveredWord_30 rfl (lv_at hl 3 rfl) ?_
    refine ci_SN (As := [.int (nI (lf S b)), .int (nI (e - n1))]) (rest := [.int (nI (lf S a * 4 ^ (e - n1)))]) h0 hK hN hP hD hS hA hl.1 (k_X9_lastBits lY D cA (lf S b) (e - n1) (by omega)) [] rfl (by decide) ⟨(va_cnB 2 hts gX1_coveredWord_X9_lastBits_n65 rfl rfl rfl (hN (.methodLinkNest RX1 65 yX9_lastBits "FallingWords") (by decide +kernel)) (hts (.initialized RX9) (by decide +kernel)) (by decide +kernel) ⟨Nat.le_of_ble_eq_true rfl, Nat.le_of_ble_eq_true rfl⟩), hts (.static yX9_lastBits) (by decide +kernel), trivial⟩ rfl rfl (Nat.le_of_ble_eq_true rfl) dX1_coveredWord_31 ⟨Nat.zero_le _, Nat.zero_le _⟩ (fun rY wY H locs hwY hJ hS => ?_)
    obtain ⟨e1Y, e2Y⟩ := hwY
    have e3Y := e1Y.symm
    clear e1Y
    subst e3Y
    have e3Y := e2Y.symm
    clear e2Y
    subst e3Y
    obtain ⟨hP, hD⟩ := hJ rfl
    have hP : va_P D vwCl (gOv cA Bo (nI a) (nI b) pl wd1 fn sn ++ gRu cA B L R LL RL TM (nI (S 1))) H := hP
    have hD : va_D AY (gOv cA Bo (nI a) (nI b) pl wd1 fn sn ++ gRu cA B L R LL RL TM (nI (S 1))) := hD
    refine lv_ior hx hb dX1_coveredWord_34 ?_
    refine xt (show (nI (lf S a * 4 ^ (e - n1))) ||| (nI ((lf S b) % 4 ^ (e - n1))) = nI (ovx (lf S a) (lf S b) (e - n1)) from sh_o (Nat.mod_lt _ (four_pos _))) ?_
    exact hret _ _ _ _ _ _ dX1_coveredWord_35 ⟨rfl, rfl⟩ hP hD hS
  · refine lv_iload_n hx hb dX1_coveredWord_14 rfl (lv_at hl 0 rfl) ?_
    exact hret _ _ _ _ _ _ dX1_coveredWord_15 ⟨congrArg nI (ov_pow0 (by omega)).symm, rfl⟩ hP hD hS

theorem hi_X1_isOverlap_X1 : ∀ w ∈ u_ws RX1 TX1 6, w ∈ wsX1_isOverlap := by decide +kernel
theorem hi_X1_isOverlap_X4 : ∀ w ∈ u_ws RX4 TX4 6, w ∈ wsX1_isOverlap := by decide +kernel
set_option maxHeartbeats 1000000 in
set_option maxRecDepth 100000 in
theorem k_X1_isOverlap (lY : Launch) (D : va_G) (cA : Nat → ClassId) (Bo B : Nat → Nat) (fi se pl wd1 fn sn : Int32) (S : St) (L R LL RL TM : Nat → Int32) (k : Nat) (hI : IR S) (hr : rRu S L R LL RL TM) (hk : k < 400) : MetI lY D cA yX1_isOverlap wsX1_isOverlap 2 44 [.ref (Bo 0), .ref (B 0), .int (nI k)] (gOv cA Bo fi se pl wd1 fn sn ++ gRu cA B L R LL RL TM (nI (S 1))) (fun rY wY => ∃ (wd2 : Int32), rY = bI (ovk S k) ∧ wY = gOv cA Bo (nI (kA k)) (nI (kB k)) (nI (kQ k)) wd2 fn sn ++ gRu cA B L R LL RL TM (nI (S 1)) ∧ (ovk S k = true → wd2 = nI (ovw S (kA k) (kB k) (kQ k)))) := by
  refine MetI.of (cc := cX1_isOverlap) (maxL := 7) (ret := (some .boolean)) (by decide) rfl (Nat.le_of_ble_eq_true rfl) (Or.inr ⟨rfl, fun r w' h => by obtain ⟨_, h, -⟩ := h; rw [h]; exact bI_nar _⟩) ?_
  intro pY eY sY mY aY bY tY cY QY AY ls h0 hP hK hN hD hA hS hl hret
  obtain ⟨hx, hb, hml, hown, hts⟩ := id h0
  have hl : lv_has ls 7 [(0, .ref (Bo 0)), (1, .ref (B 0)), (2, .int (nI k))] := hl
  have hP : va_P D vwCl (gOv cA Bo fi se pl wd1 fn sn ++ gRu cA B L R LL RL TM (nI (S 1))) sY.heap := hP
  have hD : va_D AY (gOv cA Bo fi se pl wd1 fn sn ++ gRu cA B L R LL RL TM (nI (S 1))) := hD
  have h10 := hI.1
  obtain ⟨k1, k2, k3⟩ := kb k hk
  refine lv_aload_n hx hb dX1_isOverlap_0 rfl (lv_at hl 0 rfl) ?_
  refine lv_iload_n hx hb dX1_isOverlap_1 rfl (lv_at hl 2 rfl) ?_
  refine lv_bipush (v := nI 40) hx hb dX1_isOverlap_2 (by decide +kernel) ?_
  refine lv_idiv hx hb dX1_isOverlap_4 (by decide +kernel) ?_
  refine xt (show (nI k) / (nI 40) = nI (kA k) from pk_div (by omega) (by omega) (by omega)) ?_
  refine va_put (D := D) (ci := 1) (v := .int (nI (kA k))) (ty := .int) (C := RX1) (T := TX1) (N := 6) hx hb hts hi_X1_isOverlap_X1 tyX1 tyX1_ok nmX1 hown hK hP hD hS 0 rfl rfl 0 (by decide) (hts (.fieldLink RX1 25 "FallingWords$Overlaps" "first" "I") (by decide +kernel)) (fun _ h9 => h9) rfl (by decide +kernel) rfl rfl (Nat.le_of_ble_eq_true rfl) dX1_isOverlap_5 (fun H locs hP hD hS => ?_)
  have hP : va_P D vwCl (gOv cA Bo (nI (kA k)) se pl wd1 fn sn ++ gRu cA B L R LL RL TM (nI (S 1))) H := hP
  have hD : va_D AY (gOv cA Bo (nI (kA k)) se pl wd1 fn sn ++ gRu cA B L R LL RL TM (nI (S 1))) := hD
  refine lv_aload_n hx hb dX1_isOverlap_8 rfl (lv_at hl 0 rfl) ?_
  refine lv_iload_n hx hb dX1_isOverlap_9 rfl (lv_at hl 2 rfl) ?_
  refine lv_iconst (v := nI 4) hx hb dX1_isOverlap_10 (by decide +kernel) ?_
  refine lv_idiv hx hb dX1_isOverlap_11 (by decide +kernel) ?_
  refine xt (show (nI k) / (nI 4) = nI (k / 4) from pk_div (by omega) (by omega) (by omega)) ?_
  refine lv_bipush (v := nI 10) hx hb dX1_isOverlap_12 (by decide +kernel) ?_
  refine lv_irem hx hb dX1_isOverlap_14 (by decide +kernel) ?_
  refine xt (show (nI (k / 4)) - (nI (k / 4)) / (nI 10) * (nI 10) = nI (kB k) from pk_rem (by omega) (by omega) (by omega)) ?_
  refine va_put (D := D) (ci := 1) (v := .int (nI (kB k))) (ty := .int) (C := RX1) (T := TX1) (N := 6) hx hb hts hi_X1_isOverlap_X1 tyX1 tyX1_ok nmX1 hown hK hP hD hS 0 rfl rfl 1 (by decide) (hts (.fieldLink RX1 29 "FallingWords$Overlaps" "second" "I") (by decide +kernel)) (fun _ h9 => h9) rfl (by decide +kernel) rfl rfl (Nat.le_of_ble_eq_true rfl) dX1_isOverlap_15 (fun H locs hP hD hS => ?_)
  have hP : va_P D vwCl (gOv cA Bo (nI (kA k)) (nI (kB k)) pl wd1 fn sn ++ gRu cA B L R LL RL TM (nI (S 1))) H := hP
  have hD : va_D AY (gOv cA Bo (nI (kA k)) (nI (kB k)) pl wd1 fn sn ++ gRu cA B L R LL RL TM (nI (S 1))) := hD
  refine lv_aload_n hx hb dX1_isOverlap_18 rfl (lv_at hl 0 rfl) ?_
  refine lv_iload_n hx hb dX1_isOverlap_19 rfl (lv_at hl 2 rfl) ?_
  refine lv_iconst (v := nI 4) hx hb dX1_isOverlap_20 (by decide +kernel) ?_
  refine lv_irem hx hb dX1_isOverlap_21 (by decide +kernel) ?_
  refine xt (show (nI k) - (nI k) / (nI 4) * (nI 4) = nI (kQ k) from pk_rem (by omega) (by omega) (by omega)) ?_
  refine va_put (D := D) (ci := 1) (v := .int (nI (kQ k))) (ty := .int) (C := RX1) (T := TX1) (N := 6) hx hb hts hi_X1_isOverlap_X1 tyX1 tyX1_ok nmX1 hown hK hP hD hS 0 rfl rfl 2 (by decide) (hts (.fieldLink RX1 32 "FallingWords$Overlaps" "place" "I") (by decide +kernel)) (fun _ h9 => h9) rfl (by decide +kernel) rfl rfl (Nat.le_of_ble_eq_true rfl) dX1_isOverlap_22 (fun H locs hP hD hS => ?_)
  have hP : va_P D vwCl (gOv cA Bo (nI (kA k)) (nI (kB k)) (nI (kQ k)) wd1 fn sn ++ gRu cA B L R LL RL TM (nI (S 1))) H := hP
  have hD : va_D AY (gOv cA Bo (nI (kA k)) (nI (kB k)) (nI (kQ k)) wd1 fn sn ++ gRu cA B L R LL RL TM (nI (S 1))) := hD
  refine lv_aload_n hx hb dX1_isOverlap_25 rfl (lv_at hl 1 rfl) ?_
  refine lv_aload_n hx hb dX1_isOverlap_26 rfl (lv_at hl 0 rfl) ?_
  refine va_get (D := D) (ci := 1) (v := .int (nI (kA k))) (C := RX1) (T := TX1) (N := 6) hx hb hts hi_X1_isOverlap_X1 hown hK hP 0 rfl rfl 0 (by decide) (hts (.fieldLink RX1 25 "FallingWords$Overlaps" "first" "I") (by decide +kernel)) (fun _ h9 => h9) rfl dX1_isOverlap_27 ?_
  refine ci_VN (As := [.int (nI (kA k))]) (rest := []) h0 hK hN hP hD hS hA hl.1 (k_X4_contains lY D cA B S L R LL RL TM (nI (kA k)) (by first | assumption | omega)) [1, 2, 3, 4, 5, 6] rfl (by decide) ⟨(va_cnB 1 hts gX1_isOverlap_X4_contains_n35 rfl rfl rfl (hN (.methodLinkNest RX1 35 yX4_contains "FallingWords") (by decide +kernel)) (hts (.initialized RX4) (by decide +kernel)) (by decide +kernel) ⟨Nat.le_of_ble_eq_true rfl, Nat.le_of_ble_eq_true rfl⟩), hts (.instanceMethod yX4_contains) (by decide +kernel), hts (.selects RX4 yX4_contains yX4_contains) (by decide +kernel)⟩ (cl_recv (ci := 4) (q := (RX4, TX4, 6)) (q0 := 1) hP hK rfl rfl) rfl rfl (Nat.le_of_ble_eq_true rfl) dX1_isOverlap_30 ⟨Nat.zero_le _, Nat.zero_le _⟩ (fun rY wY H locs hwY hJ hS => ?_)
  obtain ⟨e1Y, e2Y⟩ := hwY
  have e3Y := e1Y.symm
  clear e1Y
  subst e3Y
  have e3Y := e2Y.symm
  clear e2Y
  subst e3Y
  obtain ⟨hP, hD⟩ := hJ rfl
  have hP : va_P D vwCl (gOv cA Bo (nI (kA k)) (nI (kB k)) (nI (kQ k)) wd1 fn sn ++ gRu cA B L R LL RL TM (nI (S 1))) H := hP
  have hD : va_D AY (gOv cA Bo (nI (kA k)) (nI (kB k)) (nI (kQ k)) wd1 fn sn ++ gRu cA B L R LL RL TM (nI (S 1))) := hD
  refine xt (show bI (inR S (nI (kA k))) = bI (decide (kA k < S 1)) from congrArg bI (inR_nI (by omega))) ?_
  refine xb_eq (tgt := 47) hx hb dX1_isOverlap_33 (by decide) (fun c33 => ?_) (fun c33 => ?_)
  · refine lv_iconst (v := nI 0) hx hb dX1_isOverlap_47 (by decide +kernel) ?_
    have hz : ovk S k = false := by unfold ovk; rw [c33]; rfl
    exact hret _ _ _ _ _ _ dX1_isOverlap_48 ⟨wd1, by rw [hz]; rfl, rfl, fun h => by rw [hz] at h; cases h⟩ hP hD hS
  · refine lv_aload_n hx hb dX1_isOverlap_36 rfl (lv_at hl 1 rfl) ?_
    refine lv_aload_n hx hb dX1_isOverlap_37 rfl (lv_at hl 0 rfl) ?_
    refine va_get (D := D) (ci := 1) (v := .int (nI (kB k))) (C := RX1) (T := TX1) (N := 6) hx hb hts hi_X1_isOverlap_X1 hown hK hP 0 rfl rfl 1 (by decide) (hts (.fieldLink RX1 29 "FallingWords$Overlaps" "second" "I") (by decide +kernel)) (fun _ h9 => h9) rfl dX1_isOverlap_38 ?_
    refine ci_VN (As := [.int (nI (kB k))]) (rest := []) h0 hK hN hP hD hS hA hl.1 (k_X4_contains lY D cA B S L R LL RL TM (nI (kB k)) (by first | assumption | omega)) [1, 2, 3, 4, 5, 6] rfl (by decide) ⟨(va_cnB 1 hts gX1_isOverlap_X4_contains_n35 rfl rfl rfl (hN (.methodLinkNest RX1 35 yX4_contains "FallingWords") (by decide +kernel)) (hts (.initialized RX4) (by decide +kernel)) (by decide +kernel) ⟨Nat.le_of_ble_eq_true rfl, Nat.le_of_ble_eq_true rfl⟩), hts (.instanceMethod yX4_contains) (by decide +kernel), hts (.selects RX4 yX4_contains yX4_contains) (by decide +kernel)⟩ (cl_recv (ci := 4) (q := (RX4, TX4, 6)) (q0 := 1) hP hK rfl rfl) rfl rfl (Nat.le_of_ble_eq_true rfl) dX1_isOverlap_41 ⟨Nat.zero_le _, Nat.zero_le _⟩ (fun rY wY H locs hwY hJ hS => ?_)
    obtain ⟨e1Y, e2Y⟩ := hwY
    have e3Y := e1Y.symm
    clear e1Y
    subst e3Y
    have e3Y := e2Y.symm
    clear e2Y
    subst e3Y
    obtain ⟨hP, hD⟩ := hJ rfl
    have hP : va_P D vwCl (gOv cA Bo (nI (kA k)) (nI (kB k)) (nI (kQ k)) wd1 fn sn ++ gRu cA B L R LL RL TM (nI (S 1))) H := hP
    have hD : va_D AY (gOv cA Bo (nI (kA k)) (nI (kB k)) (nI (kQ k)) wd1 fn sn ++ gRu cA B L R LL RL TM (nI (S 1))) := hD
    refine xt (show bI (inR S (nI (kB k))) = bI (decide (kB k < S 1)) from congrArg bI (inR_nI (by omega))) ?_
    refine xb_ne (tgt := 49) hx hb dX1_isOverlap_44 (by decide) (fun c44 => ?_) (fun c44 => ?_)
    · have ha := of_decide_eq_true c33
      have hb2 := of_decide_eq_true c44
      obtain ⟨v1, v2, v3, v4⟩ := hI.2.2 _ ha
      obtain ⟨u1, u2, u3, u4⟩ := hI.2.2 _ hb2
      have v12 := v1.2
      have u12 := u1.2
      obtain ⟨f1, f2, f3, f4, f5⟩ := hr _ ha
      obtain ⟨g1, g2, g3, g4, g5⟩ := hr _ hb2
      refine lv_aload_n hx hb dX1_isOverlap_49 rfl (lv_at hl 1 rfl) ?_
      refine va_getN (D := D) (ci := 4) (v := .ref (B 3)) (C := RX4) (T := TX4) (N := 6) hx hb hts hi_X1_isOverlap_X4 hown hK hP 1 rfl rfl 2 (by decide) (hN.fl (w := .fieldLinkNest RX1 41 "FallingWords$Rules" "leftLength" "[I" "FallingWords") (by decide +kernel)) (fun _ h9 => h9) rfl dX1_isOverlap_50 ?_
      refine lv_aload_n hx hb dX1_isOverlap_53 rfl (lv_at hl 0 rfl) ?_
      refine va_get (D := D) (ci := 1) (v := .int (nI (kA k))) (C := RX1) (T := TX1) (N := 6) hx hb hts hi_X1_isOverlap_X1 hown hK hP 0 rfl rfl 0 (by decide) (hts (.fieldLink RX1 25 "FallingWords$Overlaps" "first" "I") (by decide +kernel)) (fun _ h9 => h9) rfl dX1_isOverlap_54 ?_
      refine xa_ld (v := nI (len (lf S (kA k)))) hx hb hK hP 4 rfl (by omega) (by decide) (f3) dX1_isOverlap_57 ?_
      refine lv_istore_n (lv' := [(3, .int (nI (len (lf S (kA k))))), (0, .ref (Bo 0)), (1, .ref (B 0)), (2, .int (nI k))]) hx hb dX1_isOverlap_58 rfl hl (by decide) rfl (fun ls hl => ?_)
      refine lv_aload_n hx hb dX1_isOverlap_59 rfl (lv_at hl 1 rfl) ?_
      refine va_get (D := D) (ci := 1) (v := .int (nI (kQ k))) (C := RX1) (T := TX1) (N := 6) hx hb hts hi_X1_isOverlap_X1 hown hK hP 0 rfl rfl 2 (by decide) (hts (.fieldLink RX1 32 "FallingWords$Overlaps" "place" "I") (by decide +kernel)) (fun _ h9 => h9) rfl dX1_isOverlap_60 ?_
      refine lv_aload_n hx hb dX1_isOverlap_63 rfl (lv_at hl 2 rfl) ?_
      refine va_getN (D := D) (ci := 4) (v := .ref (B 3)) (C := RX4) (T := TX4) (N := 6) hx hb hts hi_X1_isOverlap_X4 hown hK hP 1 rfl rfl 2 (by decide) (hN.fl (w := .fieldLinkNest RX1 41 "FallingWords$Rules" "leftLength" "[I" "FallingWords") (by decide +kernel)) (fun _ h9 => h9) rfl dX1_isOverlap_64 ?_
      refine lv_aload_n hx hb dX1_isOverlap_67 rfl (lv_at hl 1 rfl) ?_
      refine va_get (D := D) (ci := 1) (v := .int (nI (kB k))) (C := RX1) (T := TX1) (N := 6) hx hb hts hi_X1_isOverlap_X1 hown hK hP 0 rfl rfl 1 (by decide) (hts (.fieldLink RX1 29 "FallingWords$Overlaps" "second" "I") (by decide +kernel)) (fun _ h9 => h9) rfl dX1_isOverlap_68 ?_
      refine xa_ld (v := nI (len (lf S (kB k)))) hx hb hK hP 4 rfl (by omega) (by decide) (g3) dX1_isOverlap_71 ?_
      refine lv_iadd hx hb dX1_isOverlap_72 ?_
      refine xt (show (nI (kQ k)) + (nI (len (lf S (kB k)))) = nI (kQ k + (len (lf S (kB k)))) from nI_add _ _) ?_
      refine lv_istore (lv' := [(4, .int (nI (kQ k + (len (lf S (kB k)))))), (3, .int (nI (len (lf S (kA k))))), (0, .ref (Bo 0)), (1, .ref (B 0)), (2, .int (nI k))]) hx hb dX1_isOverlap_73 hl (by decide) rfl (fun ls hl => ?_)
      have L101 :  ∀ (z : Bool), (z = decide (0 < kQ k ∧ kQ k < len (lf S (kA k)) ∧ len (lf S (kA k)) ≤ kQ k + len (lf S (kB k)))) → ∀ (H : Heap) (locs : List Loc) (ls : Array Slot), va_P D vwCl (gOv cA Bo (nI (kA k)) (nI (kB k)) (nI (kQ k)) wd1 fn sn ++ gRu cA B L R LL RL TM (nI (S 1))) H → va_D AY (gOv cA Bo (nI (kA k)) (nI (kB k)) (nI (kQ k)) wd1 fn sn ++ gRu cA B L R LL RL TM (nI (S 1))) → va_S AY sY.heap H locs → lv_has ls 7 [(4, .int (nI (kQ k + (len (lf S (kB k)))))), (3, .int (nI (len (lf S (kA k))))), (0, .ref (Bo 0)), (1, .ref (B 0)), (2, .int (nI k))] → W pY lY eY { frames := 2, cells := 0, slots := 0, locals := 44 } sY mY aY bY tY cY H locs 0 0 QY (F0 mY 101 ls [.int (bI z)]) := by
        intro z hz H locs ls hP hD hS hl
        refine lv_istore (lv' := [(5, .int (bI z)), (4, .int (nI (kQ k + (len (lf S (kB k)))))), (3, .int (nI (len (lf S (kA k))))), (0, .ref (Bo 0)), (1, .ref (B 0)), (2, .int (nI k))]) hx hb dX1_isOverlap_101 hl (by decide) rfl (fun ls hl => ?_)
        have L125 :  ∀ (z2 : Bool), (z2 = (decide (kA k ≠ kB k) && decide (kQ k + len (lf S (kB k)) ≤ len (lf S (kA k))))) → ∀ (H : Heap) (locs : List Loc) (ls : Array Slot), va_P D vwCl (gOv cA Bo (nI (kA k)) (nI (kB k)) (nI (kQ k)) wd1 fn sn ++ gRu cA B L R LL RL TM (nI (S 1))) H → va_D AY (gOv cA Bo (nI (kA k)) (nI (kB k)) (nI (kQ k)) wd1 fn sn ++ gRu cA B L R LL RL TM (nI (S 1))) → va_S AY sY.heap H locs → lv_has ls 7 [(5, .int (bI z)), (4, .int (nI (kQ k + (len (lf S (kB k)))))), (3, .int (nI (len (lf S (kA k))))), (0, .ref (Bo 0)), (1, .ref (B 0)), (2, .int (nI k))] → W pY lY eY { frames := 2, cells := 0, slots := 0, locals := 44 } sY mY aY bY tY cY H locs 0 0 QY (F0 mY 125 ls [.int (bI z2)]) := by
          intro z2 hz2 H locs ls hP hD hS hl
          refine lv_istore (lv' := [(6, .int (bI z2)), (5, .int (bI z)), (4, .int (nI (kQ k + (len (lf S (kB k)))))), (3, .int (nI (len (lf S (kA k))))), (0, .ref (Bo 0)), (1, .ref (B 0)), (2, .int (nI k))]) hx hb dX1_isOverlap_125 hl (by decide) rfl (fun ls hl => ?_)
          have L139 :  (shp (lf S (kA k)) (lf S (kB k)) (kQ k) (decide (kA k ≠ kB k)) = true) → ∀ (H : Heap) (locs : List Loc) (ls : Array Slot), va_P D vwCl (gOv cA Bo (nI (kA k)) (nI (kB k)) (nI (kQ k)) wd1 fn sn ++ gRu cA B L R LL RL TM (nI (S 1))) H → va_D AY (gOv cA Bo (nI (kA k)) (nI (kB k)) (nI (kQ k)) wd1 fn sn ++ gRu cA B L R LL RL TM (nI (S 1))) → va_S AY sY.heap H locs → lv_has ls 7 [(0, .ref (Bo 0)), (1, .ref (B 0)), (2, .int (nI k)), (3, .int (nI (len (lf S (kA k))))), (4, .int (nI (kQ k + len (lf S (kB k)))))] → W pY lY eY { frames := 2, cells := 0, slots := 0, locals := 44 } sY mY aY bY tY cY H locs 0 0 QY (F0 mY 139 ls []) := by
            intro hsh H locs ls hP hD hS hl
            obtain ⟨e1, e2, e3, e4⟩ := ov_ok hI ha hb2 k3 hsh
            have e12 := e1.2
            refine lv_aload_n hx hb dX1_isOverlap_139 rfl (lv_at hl 0 rfl) ?_
            refine lv_aload_n hx hb dX1_isOverlap_140 rfl (lv_at hl 0 rfl) ?_
            refine lv_aload_n hx hb dX1_isOverlap_141 rfl (lv_at hl 1 rfl) ?_
            refine lv_iload hx hb dX1_isOverlap_142 (lv_at hl 4 rfl) ?_
            refine lv_iload_n hx hb dX1_isOverlap_144 rfl (lv_at hl 3 rfl) ?_
            refine lv_isub hx hb dX1_isOverlap_145 ?_
            refine xt (show (nI (kQ k + len (lf S (kB k)))) - (nI (len (lf S (kA k)))) = nI (kQ k + len (lf S (kB k))) - nI (len (lf S (kA k))) from rfl) ?_
            refine ci_V (As := [.ref (B 0), .int (nI (kQ k + len (lf S (kB k))) - nI (len (lf S (kA k))))]) (rest := [.ref (Bo 0)]) h0 hK hN hP hD hS hA hl.1 (k_X1_coveredWord lY D cA Bo B (nI (kQ k)) wd1 fn sn S L R LL RL TM (kA k) (kB k) (kQ k + len (lf S (kB k))) (len (lf S (kA k))) (hI) (hr) (ha) (hb2) (by omega) (by omega)) [0, 1, 2, 3, 4, 5, 6] rfl (by decide) (cwV 2 hts gX1_isOverlap_X1_coveredWord rfl rfl rfl (by decide +kernel) ⟨Nat.le_of_ble_eq_true rfl, Nat.le_of_ble_eq_true rfl⟩) (cl_recv (ci := 1) (q := (RX1, TX1, 6)) (q0 := 0) hP hK rfl rfl) rfl rfl (Nat.le_of_ble_eq_true rfl) dX1_isOverlap_146 ⟨Nat.zero_le _, Nat.zero_le _⟩ (fun rY wY H locs hwY hJ hS => ?_)
            obtain ⟨e1Y, e2Y⟩ := hwY
            have e3Y := e1Y.symm
            clear e1Y
            subst e3Y
            have e3Y := e2Y.symm
            clear e2Y
            subst e3Y
            obtain ⟨hP, hD⟩ := hJ rfl
            have hP : va_P D vwCl (gOv cA Bo (nI (kA k)) (nI (kB k)) (nI (kQ k)) wd1 fn sn ++ gRu cA B L R LL RL TM (nI (S 1))) H := hP
            have hD : va_D AY (gOv cA Bo (nI (kA k)) (nI (kB k)) (nI (kQ k)) wd1 fn sn ++ gRu cA B L R LL RL TM (nI (S 1))) := hD
            refine xt (show nI (ovx (lf S (kA k)) (lf S (kB k)) ((kQ k + len (lf S (kB k))) - (len (lf S (kA k))))) = nI (ovw S (kA k) (kB k) (kQ k)) from rfl) ?_
            refine va_put (D := D) (ci := 1) (v := .int (nI (ovw S (kA k) (kB k) (kQ k)))) (ty := .int) (C := RX1) (T := TX1) (N := 6) hx hb hts hi_X1_isOverlap_X1 tyX1 tyX1_ok nmX1 hown hK hP hD hS 0 rfl rfl 3 (by decide) (hts (.fieldLink RX1 49 "FallingWords$Overlaps" "word" "I") (by decide +kernel)) (fun _ h9 => h9) rfl (by decide +kernel) rfl rfl (Nat.le_of_ble_eq_true rfl) dX1_isOverlap_149 (fun H locs hP hD hS => ?_)
            have hP : va_P D vwCl (gOv cA Bo (nI (kA k)) (nI (kB k)) (nI (kQ k)) (nI (ovw S (kA k) (kB k) (kQ k))) fn sn ++ gRu cA B L R LL RL TM (nI (S 1))) H := hP
            have hD : va_D AY (gOv cA Bo (nI (kA k)) (nI (kB k)) (nI (kQ k)) (nI (ovw S (kA k) (kB k) (kQ k))) fn sn ++ gRu cA B L R LL RL TM (nI (S 1))) := hD
            refine lv_aload_n hx hb dX1_isOverlap_152 rfl (lv_at hl 1 rfl) ?_
            refine lv_aload_n hx hb dX1_isOverlap_153 rfl (lv_at hl 0 rfl) ?_
            refine va_get (D := D) (ci := 1) (v := .int (nI (ovw S (kA k) (kB k) (kQ k)))) (C := RX1) (T := TX1) (N := 6) hx hb hts hi_X1_isOverlap_X1 hown hK hP 0 rfl rfl 3 (by decide) (hts (.fieldLink RX1 49 "FallingWords$Overlaps" "word" "I") (by decide +kernel)) (fun _ h9 => h9) rfl dX1_isOverlap_154 ?_
            refine lv_aload_n hx hb dX1_isOverlap_157 rfl (lv_at hl 0 rfl) ?_
            refine va_get (D := D) (ci := 1) (v := .int (nI (ovw S (kA k) (kB k) (kQ k)))) (C := RX1) (T := TX1) (N := 6) hx hb hts hi_X1_isOverlap_X1 hown hK hP 0 rfl rfl 3 (by decide) (hts (.fieldLink RX1 49 "FallingWords$Overlaps" "word" "I") (by decide +kernel)) (fun _ h9 => h9) rfl dX1_isOverlap_158 ?_
            refine ci_SN (As := [.int (nI (ovw S (kA k) (kB k) (kQ k)))]) (rest := [.int (nI (ovw S (kA k) (kB k) (kQ k))), .ref (B 0)]) h0 hK hN hP hD hS hA hl.1 (k_X9_lengthOf lY D cA (ovw S (kA k) (kB k) (kQ k)) (e1.1) (by omega)) [] rfl (by decide) ⟨(va_cnB 1 hts gX1_isOverlap_X9_lengthOf_n52 rfl rfl rfl (hN (.methodLinkNest RX1 52 yX9_lengthOf "FallingWords") (by decide +kernel)) (hts (.initialized RX9) (by decide +kernel)) (by decide +kernel) ⟨Nat.le_of_ble_eq_true rfl, Nat.le_of_ble_eq_true rfl⟩), hts (.static yX9_lengthOf) (by decide +kernel), trivial⟩ rfl rfl (Nat.le_of_ble_eq_true rfl) dX1_isOverlap_161 ⟨Nat.zero_le _, Nat.zero_le _⟩ (fun rY wY H locs hwY hJ hS => ?_)
            obtain ⟨e1Y, e2Y⟩ := hwY
            have e3Y := e1Y.symm
            clear e1Y
            subst e3Y
            have e3Y := e2Y.symm
            clear e2Y
            subst e3Y
            obtain ⟨hP, hD⟩ := hJ rfl
            have hP : va_P D vwCl (gOv cA Bo (nI (kA k)) (nI (kB k)) (nI (kQ k)) (nI (ovw S (kA k) (kB k) (kQ k))) fn sn ++ gRu cA B L R LL RL TM (nI (S 1))) H := hP
            have hD : va_D AY (gOv cA Bo (nI (kA k)) (nI (kB k)) (nI (kQ k)) (nI (ovw S (kA k) (kB k) (kQ k))) fn sn ++ gRu cA B L R LL RL TM (nI (S 1))) := hD
            refine lv_aload_n hx hb dX1_isOverlap_164 rfl (lv_at hl 0 rfl) ?_
            refine va_get (D := D) (ci := 1) (v := .int (nI (kA k))) (C := RX1) (T := TX1) (N := 6) hx hb hts hi_X1_isOverlap_X1 hown hK hP 0 rfl rfl 0 (by decide) (hts (.fieldLink RX1 25 "FallingWords$Overlaps" "first" "I") (by decide +kernel)) (fun _ h9 => h9) rfl dX1_isOverlap_165 ?_
            refine lv_iconst (v := nI 0) hx hb dX1_isOverlap_168 (by decide +kernel) ?_
            refine ci_VN (As := [.int (nI (ovw S (kA k) (kB k) (kQ k))), .int (nI (len (ovw S (kA k) (kB k) (kQ k)))), .int (nI (kA k)), .int (nI 0)]) (rest := []) h0 hK hN hP hD hS hA hl.1 (k_X4_appliesAt lY D cA B S L R LL RL TM (ovw S (kA k) (kB k) (kQ k)) (kA k) 0 (hI) (hr) (e1) (ha) (by omega)) [1, 2, 3, 4, 5, 6] rfl (by decide) ⟨(va_cnB 4 hts gX1_isOverlap_X4_appliesAt_n58 rfl rfl rfl (hN (.methodLinkNest RX1 58 yX4_appliesAt "FallingWords") (by decide +kernel)) (hts (.initialized RX4) (by decide +kernel)) (by decide +kernel) ⟨Nat.le_of_ble_eq_true rfl, Nat.le_of_ble_eq_true rfl⟩), hts (.instanceMethod yX4_appliesAt) (by decide +kernel), hts (.selects RX4 yX4_appliesAt yX4_appliesAt) (by decide +kernel)⟩ (cl_recv (ci := 4) (q := (RX4, TX4, 6)) (q0 := 1) hP hK rfl rfl) rfl rfl (Nat.le_of_ble_eq_true rfl) dX1_isOverlap_169 ⟨Nat.zero_le _, Nat.zero_le _⟩ (fun rY wY H locs hwY hJ hS => ?_)
            obtain ⟨e1Y, e2Y⟩ := hwY
            have e3Y := e1Y.symm
            clear e1Y
            subst e3Y
            have e3Y := e2Y.symm
            clear e2Y
            subst e3Y
            obtain ⟨hP, hD⟩ := hJ rfl
            have hP : va_P D vwCl (gOv cA Bo (nI (kA k)) (nI (kB k)) (nI (kQ k)) (nI (ovw S (kA k) (kB k) (kQ k))) fn sn ++ gRu cA B L R LL RL TM (nI (S 1))) H := hP
            have hD : va_D AY (gOv cA Bo (nI (kA k)) (nI (kB k)) (nI (kQ k)) (nI (ovw S (kA k) (kB k) (kQ k))) fn sn ++ gRu cA B L R LL RL TM (nI (S 1))) := hD
            refine xb_eq (tgt := 205) hx hb dX1_isOverlap_172 (by decide) (fun c172 => ?_) (fun c172 => ?_)
            · exact absurd c172 (by rw [e3]; decide)
            · refine lv_aload_n hx hb dX1_isOverlap_175 rfl (lv_at hl 1 rfl) ?_
              refine lv_aload_n hx hb dX1_isOverlap_176 rfl (lv_at hl 0 rfl) ?_
              refine va_get (D := D) (ci := 1) (v := .int (nI (ovw S (kA k) (kB k) (kQ k)))) (C := RX1) (T := TX1) (N := 6) hx hb hts hi_X1_isOverlap_X1 hown hK hP 0 rfl rfl 3 (by decide) (hts (.fieldLink RX1 49 "FallingWords$Overlaps" "word" "I") (by decide +kernel)) (fun _ h9 => h9) rfl dX1_isOverlap_177 ?_
              refine lv_aload_n hx hb dX1_isOverlap_180 rfl (lv_at hl 0 rfl) ?_
              refine va_get (D := D) (ci := 1) (v := .int (nI (ovw S (kA k) (kB k) (kQ k)))) (C := RX1) (T := TX1) (N := 6) hx hb hts hi_X1_isOverlap_X1 hown hK hP 0 rfl rfl 3 (by decide) (hts (.fieldLink RX1 49 "FallingWords$Overlaps" "word" "I") (by decide +kernel)) (fun _ h9 => h9) rfl dX1_isOverlap_181 ?_
              refine ci_SN (As := [.int (nI (ovw S (kA k) (kB k) (kQ k)))]) (rest := [.int (nI (ovw S (kA k) (kB k) (kQ k))), .ref (B 0)]) h0 hK hN hP hD hS hA hl.1 (k_X9_lengthOf lY D cA (ovw S (kA k) (kB k) (kQ k)) (e1.1) (by omega)) [] rfl (by decide) ⟨(va_cnB 1 hts gX1_isOverlap_X9_lengthOf_n52 rfl rfl rfl (hN (.methodLinkNest RX1 52 yX9_lengthOf "FallingWords") (by decide +kernel)) (hts (.initialized RX9) (by decide +kernel)) (by decide +kernel) ⟨Nat.le_of_ble_eq_true rfl, Nat.le_of_ble_eq_true rfl⟩), hts (.static yX9_lengthOf) (by decide +kernel), trivial⟩ rfl rfl (Nat.le_of_ble_eq_true rfl) dX1_isOverlap_184 ⟨Nat.zero_le _, Nat.zero_le _⟩ (fun rY wY H locs hwY hJ hS => ?_)
              obtain ⟨e1Y, e2Y⟩ := hwY
              have e3Y := e1Y.symm
              clear e1Y
              subst e3Y
              have e3Y := e2Y.symm
              clear e2Y
              subst e3Y
              obtain ⟨hP, hD⟩ := hJ rfl
              have hP : va_P D vwCl (gOv cA Bo (nI (kA k)) (nI (kB k)) (nI (kQ k)) (nI (ovw S (kA k) (kB k) (kQ k))) fn sn ++ gRu cA B L R LL RL TM (nI (S 1))) H := hP
              have hD : va_D AY (gOv cA Bo (nI (kA k)) (nI (kB k)) (nI (kQ k)) (nI (ovw S (kA k) (kB k) (kQ k))) fn sn ++ gRu cA B L R LL RL TM (nI (S 1))) := hD
              refine lv_aload_n hx hb dX1_isOverlap_187 rfl (lv_at hl 0 rfl) ?_
              refine va_get (D := D) (ci := 1) (v := .int (nI (kB k))) (C := RX1) (T := TX1) (N := 6) hx hb hts hi_X1_isOverlap_X1 hown hK hP 0 rfl rfl 1 (by decide) (hts (.fieldLink RX1 29 "FallingWords$Overlaps" "second" "I") (by decide +kernel)) (fun _ h9 => h9) rfl dX1_isOverlap_188 ?_
              refine lv_aload_n hx hb dX1_isOverlap_191 rfl (lv_at hl 0 rfl) ?_
              refine va_get (D := D) (ci := 1) (v := .int (nI (kQ k))) (C := RX1) (T := TX1) (N := 6) hx hb hts hi_X1_isOverlap_X1 hown hK hP 0 rfl rfl 2 (by decide) (hts (.fieldLink RX1 32 "FallingWords$Overlaps" "place" "I") (by decide +kernel)) (fun _ h9 => h9) rfl dX1_isOverlap_192 ?_
              refine ci_VN (As := [.int (nI (ovw S (kA k) (kB k) (kQ k))), .int (nI (len (ovw S (kA k) (kB k) (kQ k)))), .int (nI (kB k)), .int (nI (kQ k))]) (rest := []) h0 hK hN hP hD hS hA hl.1 (k_X4_appliesAt lY D cA B S L R LL RL TM (ovw S (kA k) (kB k) (kQ k)) (kB k) (kQ k) (hI) (hr) (e1) (hb2) (by omega)) [1, 2, 3, 4, 5, 6] rfl (by decide) ⟨(va_cnB 4 hts gX1_isOverlap_X4_appliesAt_n58 rfl rfl rfl (hN (.methodLinkNest RX1 58 yX4_appliesAt "FallingWords") (by decide +kernel)) (hts (.initialized RX4) (by decide +kernel)) (by decide +kernel) ⟨Nat.le_of_ble_eq_true rfl, Nat.le_of_ble_eq_true rfl⟩), hts (.instanceMethod yX4_appliesAt) (by decide +kernel), hts (.selects RX4 yX4_appliesAt yX4_appliesAt) (by decide +kernel)⟩ (cl_recv (ci := 4) (q := (RX4, TX4, 6)) (q0 := 1) hP hK rfl rfl) rfl rfl (Nat.le_of_ble_eq_true rfl) dX1_isOverlap_195 ⟨Nat.zero_le _, Nat.zero_le _⟩ (fun rY wY H locs hwY hJ hS => ?_)
              obtain ⟨e1Y, e2Y⟩ := hwY
              have e3Y := e1Y.symm
              clear e1Y
              subst e3Y
              have e3Y := e2Y.symm
              clear e2Y
              subst e3Y
              obtain ⟨hP, hD⟩ := hJ rfl
              have hP : va_P D vwCl (gOv cA Bo (nI (kA k)) (nI (kB k)) (nI (kQ k)) (nI (ovw S (kA k) (kB k) (kQ k))) fn sn ++ gRu cA B L R LL RL TM (nI (S 1))) H := hP
              have hD : va_D AY (gOv cA Bo (nI (kA k)) (nI (kB k)) (nI (kQ k)) (nI (ovw S (kA k) (kB k) (kQ k))) fn sn ++ gRu cA B L R LL RL TM (nI (S 1))) := hD
              refine xb_eq (tgt := 205) hx hb dX1_isOverlap_198 (by decide) (fun c198 => ?_) (fun c198 => ?_)
              · refine lv_iconst (v := nI 0) hx hb dX1_isOverlap_205 (by decide +kernel) ?_
                have hz3 : ovk S k = false := by unfold ovk ovl; rw [c33, c44, hsh, ← e4, c198]; rfl
                exact hret _ _ _ _ _ _ dX1_isOverlap_206 ⟨nI (ovw S (kA k) (kB k) (kQ k)), by rw [hz3]; rfl, rfl, fun _ => rfl⟩ hP hD hS
              · refine lv_iconst (v := nI 1) hx hb dX1_isOverlap_201 (by decide +kernel) ?_
                refine lv_goto (tgt := 206) hx hb dX1_isOverlap_202 (by decide) ?_
                have hz3 : ovk S k = true := by unfold ovk ovl; rw [c33, c44, hsh, ← e4, c198]; rfl
                exact hret _ _ _ _ _ _ dX1_isOverlap_206 ⟨nI (ovw S (kA k) (kB k) (kQ k)), by rw [hz3]; rfl, rfl, fun _ => rfl⟩ hP hD hS
          refine lv_iload hx hb dX1_isOverlap_127 (lv_at hl 1 rfl) ?_
          refine xb_ne (tgt := 139) hx hb dX1_isOverlap_129 (by decide) (fun c129 => ?_) (fun c129 => ?_)
          · exact L139  (by unfold shp; rw [← hz, ← hz2, c129]; simp) _ _ _ hP hD hS (lv_sub hl [4, 5, 6, 3, 2] rfl)
          · refine lv_iload hx hb dX1_isOverlap_132 (lv_at hl 0 rfl) ?_
            refine xb_ne (tgt := 139) hx hb dX1_isOverlap_134 (by decide) (fun c134 => ?_) (fun c134 => ?_)
            · exact L139  (by unfold shp; rw [← hz, ← hz2, c134]; simp) _ _ _ hP hD hS (lv_sub hl [4, 5, 6, 3, 2] rfl)
            · refine lv_iconst (v := nI 0) hx hb dX1_isOverlap_137 (by decide +kernel) ?_
              have hz3 : ovk S k = false := by unfold ovk ovl shp; rw [← hz, ← hz2, c129, c134]; simp
              exact hret _ _ _ _ _ _ dX1_isOverlap_138 ⟨wd1, by rw [hz3]; rfl, rfl, fun h => by rw [hz3] at h; cases h⟩ hP hD hS
        refine lv_aload_n hx hb dX1_isOverlap_103 rfl (lv_at hl 3 rfl) ?_
        refine va_get (D := D) (ci := 1) (v := .int (nI (kA k))) (C := RX1) (T := TX1) (N := 6) hx hb hts hi_X1_isOverlap_X1 hown hK hP 0 rfl rfl 0 (by decide) (hts (.fieldLink RX1 25 "FallingWords$Overlaps" "first" "I") (by decide +kernel)) (fun _ h9 => h9) rfl dX1_isOverlap_104 ?_
        refine lv_aload_n hx hb dX1_isOverlap_107 rfl (lv_at hl 3 rfl) ?_
        refine va_get (D := D) (ci := 1) (v := .int (nI (kB k))) (C := RX1) (T := TX1) (N := 6) hx hb hts hi_X1_isOverlap_X1 hown hK hP 0 rfl rfl 1 (by decide) (hts (.fieldLink RX1 29 "FallingWords$Overlaps" "second" "I") (by decide +kernel)) (fun _ h9 => h9) rfl dX1_isOverlap_108 ?_
        refine xc_eq (tgt := 124) hx hb dX1_isOverlap_111 (by decide) (by omega) (by omega) (fun c111 => ?_) (fun c111 => ?_)
        · refine lv_iconst (v := nI 0) hx hb dX1_isOverlap_124 (by decide +kernel) ?_
          exact L125 false (by rw [decide_eq_false (by omega), Bool.false_and]) _ _ _ hP hD hS hl
        · refine lv_iload hx hb dX1_isOverlap_114 (lv_at hl 1 rfl) ?_
          refine lv_iload_n hx hb dX1_isOverlap_116 rfl (lv_at hl 2 rfl) ?_
          refine xc_gt (tgt := 124) hx hb dX1_isOverlap_117 (by decide) (by omega) (by omega) (fun c117 => ?_) (fun c117 => ?_)
          · refine lv_iconst (v := nI 0) hx hb dX1_isOverlap_124 (by decide +kernel) ?_
            exact L125 false (by rw [decide_eq_false (p := kQ k + len (lf S (kB k)) ≤ len (lf S (kA k))) (by omega), Bool.and_false]) _ _ _ hP hD hS hl
          · refine lv_iconst (v := nI 1) hx hb dX1_isOverlap_120 (by decide +kernel) ?_
            refine lv_goto (tgt := 125) hx hb dX1_isOverlap_121 (by decide) ?_
            exact L125 true (by rw [decide_eq_true c111, decide_eq_true (by omega)]; rfl) _ _ _ hP hD hS hl
      refine lv_aload_n hx hb dX1_isOverlap_75 rfl (lv_at hl 2 rfl) ?_
      refine va_get (D := D) (ci := 1) (v := .int (nI (kQ k))) (C := RX1) (T := TX1) (N := 6) hx hb hts hi_X1_isOverlap_X1 hown hK hP 0 rfl rfl 2 (by decide) (hts (.fieldLink RX1 32 "FallingWords$Overlaps" "place" "I") (by decide +kernel)) (fun _ h9 => h9) rfl dX1_isOverlap_76 ?_
      refine x0_le (tgt := 100) hx hb dX1_isOverlap_79 (by decide) (by omega) (fun c79 => ?_) (fun c79 => ?_)
      · refine lv_iconst (v := nI 0) hx hb dX1_isOverlap_100 (by decide +kernel) ?_
        exact L101 false (by rw [decide_eq_false (by omega)]) _ _ _ hP hD hS hl
      · refine lv_aload_n hx hb dX1_isOverlap_82 rfl (lv_at hl 2 rfl) ?_
        refine va_get (D := D) (ci := 1) (v := .int (nI (kQ k))) (C := RX1) (T := TX1) (N := 6) hx hb hts hi_X1_isOverlap_X1 hown hK hP 0 rfl rfl 2 (by decide) (hts (.fieldLink RX1 32 "FallingWords$Overlaps" "place" "I") (by decide +kernel)) (fun _ h9 => h9) rfl dX1_isOverlap_83 ?_
        refine lv_iload_n hx hb dX1_isOverlap_86 rfl (lv_at hl 1 rfl) ?_
        refine xc_ge (tgt := 100) hx hb dX1_isOverlap_87 (by decide) (by omega) (by omega) (fun c87 => ?_) (fun c87 => ?_)
        · refine lv_iconst (v := nI 0) hx hb dX1_isOverlap_100 (by decide +kernel) ?_
          exact L101 false (by rw [decide_eq_false (by omega)]) _ _ _ hP hD hS hl
        · refine lv_iload hx hb dX1_isOverlap_90 (lv_at hl 0 rfl) ?_
          refine lv_iload_n hx hb dX1_isOverlap_92 rfl (lv_at hl 1 rfl) ?_
          refine xc_lt (tgt := 100) hx hb dX1_isOverlap_93 (by decide) (by omega) (by omega) (fun c93 => ?_) (fun c93 => ?_)
          · refine lv_iconst (v := nI 0) hx hb dX1_isOverlap_100 (by decide +kernel) ?_
            exact L101 false (by rw [decide_eq_false (by omega)]) _ _ _ hP hD hS hl
          · refine lv_iconst (v := nI 1) hx hb dX1_isOverlap_96 (by decide +kernel) ?_
            refine lv_goto (tgt := 101) hx hb dX1_isOverlap_97 (by decide) ?_
            exact L101 true (by rw [decide_eq_true (by omega)]) _ _ _ hP hD hS hl
    · refine lv_iconst (v := nI 0) hx hb dX1_isOverlap_47 (by decide +kernel) ?_
      have hz : ovk S k = false := by unfold ovk; rw [c44, Bool.and_false]; rfl
      exact hret _ _ _ _ _ _ dX1_isOverlap_48 ⟨wd1, by rw [hz]; rfl, rfl, fun h => by rw [hz] at h; cases h⟩ hP hD hS

theorem hi_X1_firstWord_X1 : ∀ w ∈ u_ws RX1 TX1 6, w ∈ wsX1_firstWord := by decide +kernel
set_option maxHeartbeats 1000000 in
set_option maxRecDepth 100000 in
theorem k_X1_firstWord (lY : Launch) (D : va_G) (cA : Nat → ClassId) (Bo B : Nat → Nat) (fn sn : Int32) (S : St) (L R LL RL TM : Nat → Int32) (a b q : Nat) (hI : IR S) (hr : rRu S L R LL RL TM) (ha : a < S 1) (hb2 : b < S 1) (hq : q < 4) (ho : ovl S a b q = true) : MetI lY D cA yX1_firstWord wsX1_firstWord 2 50 [.ref (Bo 0), .ref (B 0)] (gOv cA Bo (nI a) (nI b) (nI q) (nI (ovw S a b q)) fn sn ++ gRu cA B L R LL RL TM (nI (S 1))) (fun rY wY => rY = nI (ow1 S a b q) ∧ wY = gOv cA Bo (nI a) (nI b) (nI q) (nI (ovw S a b q)) fn sn ++ gRu cA B L R LL RL TM (nI (S 1))) := by
  refine MetI.of (cc := cX1_firstWord) (maxL := 2) (ret := (some .int)) (by decide) rfl (Nat.le_of_ble_eq_true rfl) (Or.inl rfl) ?_
  intro pY eY sY mY aY bY tY cY QY AY ls h0 hP hK hN hD hA hS hl hret
  obtain ⟨hx, hb, hml, hown, hts⟩ := id h0
  have hl : lv_has ls 2 [(0, .ref (Bo 0)), (1, .ref (B 0))] := hl
  have hP : va_P D vwCl (gOv cA Bo (nI a) (nI b) (nI q) (nI (ovw S a b q)) fn sn ++ gRu cA B L R LL RL TM (nI (S 1))) sY.heap := hP
  have hD : va_D AY (gOv cA Bo (nI a) (nI b) (nI q) (nI (ovw S a b q)) fn sn ++ gRu cA B L R LL RL TM (nI (S 1))) := hD
  obtain ⟨e1, e2, e3, e4, e5⟩ := ov_w hI ha hb2 hq ho
  refine lv_aload_n hx hb dX1_firstWord_0 rfl (lv_at hl 1 rfl) ?_
  refine lv_aload_n hx hb dX1_firstWord_1 rfl (lv_at hl 0 rfl) ?_
  refine va_get (D := D) (ci := 1) (v := .int (nI (ovw S a b q))) (C := RX1) (T := TX1) (N := 6) hx hb hts hi_X1_firstWord_X1 hown hK hP 0 rfl rfl 3 (by decide) (hts (.fieldLink RX1 49 "FallingWords$Overlaps" "word" "I") (by decide +kernel)) (fun _ h9 => h9) rfl dX1_firstWord_2 ?_
  refine lv_aload_n hx hb dX1_firstWord_5 rfl (lv_at hl 0 rfl) ?_
  refine va_get (D := D) (ci := 1) (v := .int (nI a)) (C := RX1) (T := TX1) (N := 6) hx hb hts hi_X1_firstWord_X1 hown hK hP 0 rfl rfl 0 (by decide) (hts (.fieldLink RX1 25 "FallingWords$Overlaps" "first" "I") (by decide +kernel)) (fun _ h9 => h9) rfl dX1_firstWord_6 ?_
  refine lv_iconst (v := nI 0) hx hb dX1_firstWord_9 (by decide +kernel) ?_
  refine ci_VN (As := [.int (nI (ovw S a b q)), .int (nI a), .int (nI 0)]) (rest := []) h0 hK hN hP hD hS hA hl.1 (k_X4_applied lY D cA B S L R LL RL TM (ovw S a b q) a 0 (hI) (hr) (e1) (ha) (e2)) [1, 2, 3, 4, 5, 6] rfl (by decide) ⟨(va_cnB 3 hts gX1_firstWord_X4_applied_n69 rfl rfl rfl (hN (.methodLinkNest RX1 69 yX4_applied "FallingWords") (by decide +kernel)) (hts (.initialized RX4) (by decide +kernel)) (by decide +kernel) ⟨Nat.le_of_ble_eq_true rfl, Nat.le_of_ble_eq_true rfl⟩), hts (.instanceMethod yX4_applied) (by decide +kernel), hts (.selects RX4 yX4_applied yX4_applied) (by decide +kernel)⟩ (cl_recv (ci := 4) (q := (RX4, TX4, 6)) (q0 := 1) hP hK rfl rfl) rfl rfl (Nat.le_of_ble_eq_true rfl) dX1_firstWord_10 ⟨Nat.zero_le _, Nat.zero_le _⟩ (fun rY wY H locs hwY hJ hS => ?_)
  obtain ⟨e1Y, e2Y⟩ := hwY
  have e3Y := e1Y.symm
  clear e1Y
  subst e3Y
  have e3Y := e2Y.symm
  clear e2Y
  subst e3Y
  obtain ⟨hP, hD⟩ := hJ rfl
  have hP : va_P D vwCl (gOv cA Bo (nI a) (nI b) (nI q) (nI (ovw S a b q)) fn sn ++ gRu cA B L R LL RL TM (nI (S 1))) H := hP
  have hD : va_D AY (gOv cA Bo (nI a) (nI b) (nI q) (nI (ovw S a b q)) fn sn ++ gRu cA B L R LL RL TM (nI (S 1))) := hD
  refine xt (show nI (app (lf S a) (rt S a) (ovw S a b q) 0) = nI (ow1 S a b q) from rfl) ?_
  exact hret _ _ _ _ _ _ dX1_firstWord_13 ⟨rfl, rfl⟩ hP hD hS

theorem hi_X1_secondWord_X1 : ∀ w ∈ u_ws RX1 TX1 6, w ∈ wsX1_secondWord := by decide +kernel
set_option maxHeartbeats 1000000 in
set_option maxRecDepth 100000 in
theorem k_X1_secondWord (lY : Launch) (D : va_G) (cA : Nat → ClassId) (Bo B : Nat → Nat) (fn sn : Int32) (S : St) (L R LL RL TM : Nat → Int32) (a b q : Nat) (hI : IR S) (hr : rRu S L R LL RL TM) (ha : a < S 1) (hb2 : b < S 1) (hq : q < 4) (ho : ovl S a b q = true) : MetI lY D cA yX1_secondWord wsX1_secondWord 2 50 [.ref (Bo 0), .ref (B 0)] (gOv cA Bo (nI a) (nI b) (nI q) (nI (ovw S a b q)) fn sn ++ gRu cA B L R LL RL TM (nI (S 1))) (fun rY wY => rY = nI (ow2 S a b q) ∧ wY = gOv cA Bo (nI a) (nI b) (nI q) (nI (ovw S a b q)) fn sn ++ gRu cA B L R LL RL TM (nI (S 1))) := by
  refine MetI.of (cc := cX1_secondWord) (maxL := 2) (ret := (some .int)) (by decide) rfl (Nat.le_of_ble_eq_true rfl) (Or.inl rfl) ?_
  intro pY eY sY mY aY bY tY cY QY AY ls h0 hP hK hN hD hA hS hl hret
  obtain ⟨hx, hb, hml, hown, hts⟩ := id h0
  have hl : lv_has ls 2 [(0, .ref (Bo 0)), (1, .ref (B 0))] := hl
  have hP : va_P D vwCl (gOv cA Bo (nI a) (nI b) (nI q) (nI (ovw S a b q)) fn sn ++ gRu cA B L R LL RL TM (nI (S 1))) sY.heap := hP
  have hD : va_D AY (gOv cA Bo (nI a) (nI b) (nI q) (nI (ovw S a b q)) fn sn ++ gRu cA B L R LL RL TM (nI (S 1))) := hD
  obtain ⟨e1, e2, e3, e4, e5⟩ := ov_w hI ha hb2 hq ho
  refine lv_aload_n hx hb dX1_secondWord_0 rfl (lv_at hl 1 rfl) ?_
  refine lv_aload_n hx hb dX1_secondWord_1 rfl (lv_at hl 0 rfl) ?_
  refine va_get (D := D) (ci := 1) (v := .int (nI (ovw S a b q))) (C := RX1) (T := TX1) (N := 6) hx hb hts hi_X1_secondWord_X1 hown hK hP 0 rfl rfl 3 (by decide) (hts (.fieldLink RX1 49 "FallingWords$Overlaps" "word" "I") (by decide +kernel)) (fun _ h9 => h9) rfl dX1_secondWord_2 ?_
  refine lv_aload_n hx hb dX1_secondWord_5 rfl (lv_at hl 0 rfl) ?_
  refine va_get (D := D) (ci := 1) (v := .int (nI b)) (C := RX1) (T := TX1) (N := 6) hx hb hts hi_X1_secondWord_X1 hown hK hP 0 rfl rfl 1 (by decide) (hts (.fieldLink RX1 29 "FallingWords$Overlaps" "second" "I") (by decide +kernel)) (fun _ h9 => h9) rfl dX1_secondWord_6 ?_
  refine lv_aload_n hx hb dX1_secondWord_9 rfl (lv_at hl 0 rfl) ?_
  refine va_get (D := D) (ci := 1) (v := .int (nI q)) (C := RX1) (T := TX1) (N := 6) hx hb hts hi_X1_secondWord_X1 hown hK hP 0 rfl rfl 2 (by decide) (hts (.fieldLink RX1 32 "FallingWords$Overlaps" "place" "I") (by decide +kernel)) (fun _ h9 => h9) rfl dX1_secondWord_10 ?_
  refine ci_VN (As := [.int (nI (ovw S a b q)), .int (nI b), .int (nI q)]) (rest := []) h0 hK hN hP hD hS hA hl.1 (k_X4_applied lY D cA B S L R LL RL TM (ovw S a b q) b q (hI) (hr) (e1) (hb2) (e3)) [1, 2, 3, 4, 5, 6] rfl (by decide) ⟨(va_cnB 3 hts gX1_secondWord_X4_applied_n69 rfl rfl rfl (hN (.methodLinkNest RX1 69 yX4_applied "FallingWords") (by decide +kernel)) (hts (.initialized RX4) (by decide +kernel)) (by decide +kernel) ⟨Nat.le_of_ble_eq_true rfl, Nat.le_of_ble_eq_true rfl⟩), hts (.instanceMethod yX4_applied) (by decide +kernel), hts (.selects RX4 yX4_applied yX4_applied) (by decide +kernel)⟩ (cl_recv (ci := 4) (q := (RX4, TX4, 6)) (q0 := 1) hP hK rfl rfl) rfl rfl (Nat.le_of_ble_eq_true rfl) dX1_secondWord_13 ⟨Nat.zero_le _, Nat.zero_le _⟩ (fun rY wY H locs hwY hJ hS => ?_)
  obtain ⟨e1Y, e2Y⟩ := hwY
  have e3Y := e1Y.symm
  clear e1Y
  subst e3Y
  have e3Y := e2Y.symm
  clear e2Y
  subst e3Y
  obtain ⟨hP, hD⟩ := hJ rfl
  have hP : va_P D vwCl (gOv cA Bo (nI a) (nI b) (nI q) (nI (ovw S a b q)) fn sn ++ gRu cA B L R LL RL TM (nI (S 1))) H := hP
  have hD : va_D AY (gOv cA Bo (nI a) (nI b) (nI q) (nI (ovw S a b q)) fn sn ++ gRu cA B L R LL RL TM (nI (S 1))) := hD
  refine xt (show nI (app (lf S b) (rt S b) (ovw S a b q) q) = nI (ow2 S a b q) from rfl) ?_
  exact hret _ _ _ _ _ _ dX1_secondWord_16 ⟨rfl, rfl⟩ hP hD hS
