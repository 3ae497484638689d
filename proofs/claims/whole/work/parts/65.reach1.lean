/-! all words that can be reached -/
theorem fb_holes : ∀ (m n : Nat) (f : Nat → Nat), (∀ i, i < n → f i < m) → (∀ i j, i < j → j < n → f i ≠ f j) → n ≤ m := by
  intro m
  induction m with
  | zero =>
    intro n f h1 _
    rcases Nat.eq_zero_or_pos n with h | h
    · omega
    · exact absurd (h1 0 h) (Nat.not_lt_zero _)
  | succ m ih =>
    intro n f h1 h2
    by_cases hx : ∃ i, i < n ∧ f i = m
    · obtain ⟨a, ha, hfa⟩ := hx
      have hg := ih (n - 1) (fun i => if i < a then f i else f (i + 1)) (by
        intro i hi
        by_cases q : i < a
        · simp only [if_pos q]
          have b1 := h1 i (by omega)
          have b2 := h2 i a q ha
          omega
        · simp only [if_neg q]
          have b1 := h1 (i + 1) (by omega)
          have b2 := h2 a (i + 1) (by omega) (by omega)
          omega) (by
        intro i j hij hj
        by_cases q : i < a
        · by_cases r : j < a
          · simp only [if_pos q, if_pos r]
            exact h2 i j hij (by omega)
          · simp only [if_pos q, if_neg r]
            exact h2 i (j + 1) (by omega) (by omega)
        · have r : ¬ j < a := by omega
          simp only [if_neg q, if_neg r]
          exact h2 (i + 1) (j + 1) (by omega) (by omega))
      omega
    · have hg := ih n f (fun i hi => by
        have b1 := h1 i hi
        have b2 : f i ≠ m := fun e => hx ⟨i, hi, e⟩
        omega) h2
      omega
/-- two of them in one place -/

abbrev Acc : Type := (Nat → Nat) × Nat
def seen (f : Nat → Nat) (m w : Nat) : Bool := decide (ff (fun i => decide (f i = w)) m < m)
def addR (a : Acc) (w : Nat) : Acc := if 401 ≤ a.2 then a else if seen a.1 a.2 w then a else (upN a.1 a.2 w, a.2 + 1)
def gR (S : St) (w p : Nat) (a : Acc) : Nat → Acc
  | 0 => a
  | r + 1 => if stn (lf S r) w p then addR (gR S w p a r) (app (lf S r) (rt S r) w p) else gR S w p a r
def gP (S : St) (w : Nat) (a : Acc) : Nat → Acc
  | 0 => a
  | p + 1 => gR S w p (gP S w a p) (S 1)
def bfF (S : St) : Nat → Nat → Acc → Acc
  | 0, _, a => a
  | f + 1, k, a => if k < a.2 ∧ a.2 < 401 then bfF S f (k + 1) (gP S (a.1 k) a (len (a.1 k))) else a
noncomputable def bfs (S : St) (w : Nat) : Acc := sl (bfF S 402 0 (upN (fun _ => 0) 0 w, 1))
noncomputable def enF (S : St) (f : Nat → Nat) : Nat → Nat × Nat × Nat
  | 0 => (0, 0, 0)
  | k + 1 => if nrm S (f k) then ((enF S f k).1 + 1, if (enF S f k).1 = 0 then f k else min (enF S f k).2.1 (f k), if (enF S f k).1 = 0 then f k else max (enF S f k).2.2 (f k)) else enF S f k
theorem seen_t {f : Nat → Nat} {m w i : Nat} (hi : i < m) (h : f i = w) : seen f m w = true := by
  unfold seen
  refine decide_eq_true ?_
  rcases Nat.lt_or_ge (ff (fun i => decide (f i = w)) m) m with q | q
  · exact q
  · have := ff_no (fun i => decide (f i = w)) m i (by omega)
    rw [decide_eq_true h] at this; cases this
theorem seen_f {f : Nat → Nat} {m w : Nat} (h : ∀ i, i < m → f i ≠ w) : seen f m w = false := by
  unfold seen
  rw [ff_none (fun j hj => decide_eq_false (h j hj))]
  exact decide_eq_false (Nat.lt_irrefl m)
theorem addR_le {a : Acc} {w : Nat} (h : a.2 ≤ 401) : (addR a w).2 ≤ 401 ∧ a.2 ≤ (addR a w).2 ∧ ∀ j, j < a.2 → (addR a w).1 j = a.1 j := by
  unfold addR
  split
  · exact ⟨h, Nat.le_refl _, fun _ _ => rfl⟩
  · split
    · exact ⟨h, Nat.le_refl _, fun _ _ => rfl⟩
    · exact ⟨by show a.2 + 1 ≤ 401; omega, Nat.le_succ _, fun j hj => upN_n (by omega)⟩
theorem gR_le {S : St} {w p : Nat} {a : Acc} (h : a.2 ≤ 401) : ∀ r, (gR S w p a r).2 ≤ 401 ∧ a.2 ≤ (gR S w p a r).2 ∧ ∀ j, j < a.2 → (gR S w p a r).1 j = a.1 j
  | 0 => ⟨h, Nat.le_refl _, fun _ _ => rfl⟩
  | r + 1 => by
    obtain ⟨h1, h2, h3⟩ := gR_le (S := S) (w := w) (p := p) h r
    unfold gR
    split
    · obtain ⟨g1, g2, g3⟩ := addR_le (w := app (lf S r) (rt S r) w p) h1
      exact ⟨g1, by omega, fun j hj => (g3 j (by omega)).trans (h3 j hj)⟩
    · exact ⟨h1, h2, h3⟩
theorem gP_le {S : St} {w : Nat} {a : Acc} (h : a.2 ≤ 401) : ∀ p, (gP S w a p).2 ≤ 401 ∧ a.2 ≤ (gP S w a p).2 ∧ ∀ j, j < a.2 → (gP S w a p).1 j = a.1 j
  | 0 => ⟨h, Nat.le_refl _, fun _ _ => rfl⟩
  | p + 1 => by
    obtain ⟨h1, h2, h3⟩ := gP_le (S := S) (w := w) h p
    obtain ⟨g1, g2, g3⟩ := gR_le (S := S) (w := w) (p := p) h1 (S 1)
    unfold gP
    exact ⟨g1, by omega, fun j hj => (g3 j (by omega)).trans (h3 j hj)⟩
theorem enF_cong {S : St} {f g : Nat → Nat} : ∀ k, (∀ j, j < k → f j = g j) → enF S f k = enF S g k
  | 0, _ => rfl
  | k + 1, h => by
    have ih := enF_cong (S := S) (f := f) (g := g) k (fun j hj => h j (by omega))
    unfold enF
    rw [ih, h k (Nat.lt_succ_self k)]
theorem enF_le {S : St} {f : Nat → Nat} : ∀ k, (enF S f k).1 ≤ k
  | 0 => Nat.le_refl 0
  | k + 1 => by
    have := enF_le (S := S) (f := f) k
    unfold enF
    split
    · show _ + 1 ≤ _; omega
    · omega
/-! the seats -/
def hm (w : Nat) : Nat := ((nI w) * (-1640531535) : Int32).toBitVec.toNat / 2 ^ 22
theorem i32_tn {x : Int32} {k : Nat} (h : x.toBitVec.toNat = k) : x = nI k := by
  apply Int32.toBitVec_inj.mp
  apply BitVec.eq_of_toNat_eq
  rw [h]
  have hk : k < 2 ^ 32 := by rw [← h]; exact x.toBitVec.isLt
  exact (pk_tn hk).symm
theorem hm_eq (w : Nat) : (((nI w) * (-1640531535)).toUInt32 >>> ((nI 22).toUInt32 &&& Int32.toUInt32 31)).toInt32 = nI (hm w) := i32_tn (pk_ushr _ (nI 22) 22 (by decide +kernel))
theorem hm_lt (w : Nat) : hm w < 1024 := by
  have h := ((nI w) * (-1640531535) : Int32).toBitVec.isLt
  unfold hm
  omega
def HS (f : Nat → Nat) (m : Nat) (SE : Nat → Int32) : Prop := (∀ j, j < 1024 → SE j = 0 ∨ ∃ i, i < m ∧ SE j = nI (f i)) ∧ (∀ j k, j < 1024 → k < 1024 → SE j ≠ 0 → SE j = SE k → j = k) ∧ ∀ i, i < m → ∃ t, t < 1024 ∧ SE ((hm (f i) + t) % 1024) = nI (f i) ∧ ∀ u, u < t → SE ((hm (f i) + u) % 1024) ≠ 0
def rRe (a : Acc) (WR SE : Nat → Int32) : Prop := a.2 ≤ 401 ∧ (∀ i, i < min a.2 400 → WR i = nI (a.1 i)) ∧ (∀ i, i < a.2 → vw 12 (a.1 i)) ∧ HS a.1 (min a.2 400) SE
theorem nz0 {w : Nat} (h : vw 12 w) : nI w ≠ 0 := by
  have := vw_pos h
  have := vw_B h (by decide)
  exact nI_ne0 (by omega) (by omega)
theorem vw_inj {v w : Nat} (hv : vw 12 v) (hw : vw 12 w) (h : nI v = nI w) : v = w := by
  have := vw_B hv (by decide)
  have := vw_B hw (by decide)
  exact (nI_eq (by omega) (by omega)).mp h
/-- not all seats are taken -/
theorem hs_full {f : Nat → Nat} {m h : Nat} {SE : Nat → Int32} (hS2 : HS f m SE) (hm2 : m ≤ 400) (hall : ∀ u, u < 1024 → SE ((h + u) % 1024) ≠ 0) : False := by
  obtain ⟨s1, s2, -⟩ := hS2
  have key : ∀ j, j < 1024 → ∃ i, i < m ∧ SE j = nI (f i) := by
    intro j hj
    rcases s1 j hj with q | q
    · have := hall ((j + 1024 - h % 1024) % 1024) (Nat.mod_lt _ (by decide))
      rw [show (h + (j + 1024 - h % 1024) % 1024) % 1024 = j by omega] at this
      exact absurd q this
    · exact q
  have pick : ∀ j, ∃ i, j < 1024 → i < m ∧ SE j = nI (f i) := by
    intro j
    by_cases q : j < 1024
    · obtain ⟨i, hi⟩ := key j q
      exact ⟨i, fun _ => hi⟩
    · exact ⟨0, fun h => absurd h q⟩
  have hle := fb_holes m 1024 (fun j => Classical.choose (pick j)) (fun j hj => (Classical.choose_spec (pick j) hj).1) (fun i j hij hj e => by
    have a1 := (Classical.choose_spec (pick i) (by omega)).2
    have a2 := (Classical.choose_spec (pick j) hj).2
    have e2 : SE i = SE j := by rw [a1, a2]; exact congrArg (fun x => nI (f x)) e
    have hne : SE i ≠ 0 := by
      have := hall ((i + 1024 - h % 1024) % 1024) (Nat.mod_lt _ (by decide))
      rwa [show (h + (i + 1024 - h % 1024) % 1024) % 1024 = i by omega] at this
    have := s2 i j (by omega) hj hne e2
    omega)
  omega
theorem re_found {a : Acc} {WR SE : Nat → Int32} {w j : Nat} (h : rRe a WR SE) (hw : vw 12 w) (hj : j < 1024) (he : SE j = nI w) : addR a w = a := by
  obtain ⟨h1, h2, h3, h4⟩ := h
  unfold addR
  by_cases q : 401 ≤ a.2
  · rw [if_pos q]
  · rw [if_neg q]
    rcases h4.1 j hj with z | ⟨i, hi, e⟩
    · rw [he] at z; exact absurd z (nz0 hw)
    · rw [he] at e
      have := vw_inj hw (h3 i (by omega)) e
      rw [if_pos (seen_t (i := i) (by omega) this.symm)]
theorem re_not {f : Nat → Nat} {m w t : Nat} {SE : Nat → Int32} (hS2 : HS f m SE) (hf : ∀ i, i < m → vw 12 (f i)) (hw : vw 12 w) (hno : ∀ u, u < t → SE ((hm w + u) % 1024) ≠ nI w) (h0 : SE ((hm w + t) % 1024) = 0) : ∀ i, i < m → f i ≠ w := by
  intro i hi e
  obtain ⟨-, -, s3⟩ := hS2
  obtain ⟨u, hu, e2, e3⟩ := s3 i hi
  rw [e] at e2 e3
  rcases Nat.lt_trichotomy u t with q | q | q
  · exact hno u q e2
  · subst q; rw [h0] at e2; exact absurd e2.symm (nz0 hw)
  · exact e3 t q h0
theorem hs_cong {f g : Nat → Nat} {m : Nat} {SE : Nat → Int32} (h : HS f m SE) (e : ∀ i, i < m → g i = f i) : HS g m SE := by
  obtain ⟨s1, s2, s3⟩ := h
  refine ⟨fun j hj => ?_, s2, fun i hi => by rw [e i hi]; exact s3 i hi⟩
  rcases s1 j hj with q | ⟨i, hi, q⟩
  · exact Or.inl q
  · exact Or.inr ⟨i, hi, by rw [e i hi]; exact q⟩
theorem re_many {a : Acc} {WR SE : Nat → Int32} {w : Nat} (h : rRe a WR SE) (hw : vw 12 w) (h4 : min a.2 400 = 400) (hno : ∀ i, i < min a.2 400 → a.1 i ≠ w) : rRe (addR a w) WR SE ∧ (addR a w).2 = 401 := by
  obtain ⟨h1, h2, h3, h5⟩ := h
  unfold addR
  by_cases q : 401 ≤ a.2
  · rw [if_pos q]; exact ⟨⟨h1, h2, h3, h5⟩, by omega⟩
  · have e : a.2 = 400 := by omega
    rw [if_neg q, if_neg (by rw [seen_f (fun i hi => hno i (by omega))]; decide)]
    have m1 : min (a.2 + 1) 400 = min a.2 400 := by omega
    refine ⟨⟨by show a.2 + 1 ≤ 401; omega, fun i hi => ?_, fun i hi => ?_, ?_⟩, by show a.2 + 1 = 401; omega⟩
    · have hi2 : i < min (a.2 + 1) 400 := hi
      show WR i = nI (upN a.1 a.2 w i)
      rw [upN_n (by omega)]; exact h2 i (by omega)
    · have hi2 : i < a.2 + 1 := hi
      show vw 12 (upN a.1 a.2 w i)
      by_cases z : i = a.2
      · rw [z, upN_s]; exact hw
      · rw [upN_n z]; exact h3 i (by omega)
    · show HS (upN a.1 a.2 w) (min (a.2 + 1) 400) SE
      rw [m1]
      exact hs_cong h5 (fun i hi => upN_n (by omega))
theorem re_ins {a : Acc} {WR SE : Nat → Int32} {w t : Nat} (h : rRe a WR SE) (hw : vw 12 w) (h4 : min a.2 400 ≠ 400) (hno : ∀ i, i < min a.2 400 → a.1 i ≠ w) (ht : t < 1024) (h0 : SE ((hm w + t) % 1024) = 0) (hch : ∀ u, u < t → SE ((hm w + u) % 1024) ≠ 0) : rRe (addR a w) (upd WR (min a.2 400) (nI w)) (upd SE ((hm w + t) % 1024) (nI w)) ∧ (addR a w).2 = a.2 + 1 := by
  obtain ⟨h1, h2, h3, s1, s2, s3⟩ := h
  have e : min a.2 400 = a.2 := by omega
  rw [e] at h2 hno s1 s3 ⊢
  unfold addR
  rw [if_neg (by omega), if_neg (by rw [seen_f hno]; decide)]
  have m1 : min (a.2 + 1) 400 = a.2 + 1 := by omega
  have hj : (hm w + t) % 1024 < 1024 := Nat.mod_lt _ (by decide)
  refine ⟨⟨by show a.2 + 1 ≤ 401; omega, fun i hi => ?_, fun i hi => ?_, ?_⟩, rfl⟩
  · have hi2 : i < min (a.2 + 1) 400 := hi
    show upd WR a.2 (nI w) i = nI (upN a.1 a.2 w i)
    by_cases z : i = a.2
    · rw [z, upN_s, pk_us]
    · rw [upN_n z, pk_un z]; exact h2 i (by omega)
  · have hi2 : i < a.2 + 1 := hi
    show vw 12 (upN a.1 a.2 w i)
    by_cases z : i = a.2
    · rw [z, upN_s]; exact hw
    · rw [upN_n z]; exact h3 i (by omega)
  · show HS (upN a.1 a.2 w) (min (a.2 + 1) 400) _
    rw [m1]
    refine ⟨fun j hj2 => ?_, fun j k hj2 hk2 hne he => ?_, fun i hi => ?_⟩
    · by_cases z : j = (hm w + t) % 1024
      · exact Or.inr ⟨a.2, Nat.lt_succ_self _, by rw [z, pk_us, upN_s]⟩
      · rw [pk_un z]
        rcases s1 j hj2 with q | ⟨i, hi, q⟩
        · exact Or.inl q
        · exact Or.inr ⟨i, by omega, by rw [upN_n (by omega)]; exact q⟩
    · have nw1 : ∀ x, x < 1024 → SE x ≠ nI w := by
        intro x hx e1
        rcases s1 x hx with q | ⟨i, hi, q⟩
        · rw [e1] at q; exact absurd q (nz0 hw)
        · rw [e1] at q
          exact hno i hi (vw_inj hw (h3 i hi) q).symm
      by_cases z1 : j = (hm w + t) % 1024
      · by_cases z2 : k = (hm w + t) % 1024
        · rw [z1, z2]
        · rw [z1, pk_us, pk_un z2] at he
          exact absurd he.symm (nw1 k hk2)
      · by_cases z2 : k = (hm w + t) % 1024
        · rw [z2, pk_us, pk_un z1] at he
          exact absurd he (nw1 j hj2)
        · rw [pk_un z1] at hne he
          rw [pk_un z2] at he
          exact s2 j k hj2 hk2 hne he
    · by_cases z : i = a.2
      · rw [z, upN_s]
        refine ⟨t, ht, by rw [pk_us], fun u hu => ?_⟩
        by_cases y : (hm w + u) % 1024 = (hm w + t) % 1024
        · rw [y, pk_us]; exact nz0 hw
        · rw [pk_un y]; exact hch u hu
      · rw [upN_n z]
        obtain ⟨u, hu, e1, e2⟩ := s3 i (by omega)
        have hv := h3 i (by omega)
        refine ⟨u, hu, ?_, fun v hv2 => ?_⟩
        · by_cases y : (hm (a.1 i) + u) % 1024 = (hm w + t) % 1024
          · rw [y, h0] at e1; exact absurd e1.symm (nz0 hv)
          · rw [pk_un y]; exact e1
        · by_cases y : (hm (a.1 i) + v) % 1024 = (hm w + t) % 1024
          · rw [y, pk_us]; exact nz0 hw
          · rw [pk_un y]; exact e2 v hv2
theorem ch_all {S : St} {w : Nat} (hI : IR S) (hw : vw 12 w) (h : nrm S w = true) : ∀ r p, r < S 1 → p < len w → stn (lf S r) w p = false := by
  intro r p hr hp
  cases hs : stn (lf S r) w p with
  | false => rfl
  | true =>
    have hr10 : r < 10 := by have := hI.1; omega
    have hp12 : p ≤ 12 := by have := hw.2; omega
    obtain ⟨e1, e2, e3⟩ := rnk_un (way := S 2) hp12 hr10
    have h1 := of_decide_eq_true h
    rw [chk_eq] at h1
    have h2 := ff_no (okk S w) 130 (rnk (S 2) p r) (by omega)
    unfold okk at h2
    rw [e1, e2, hs] at h2
    simp [hr, hp] at h2

abbrev gRe (cA : Nat → ClassId) (B : Nat → Nat) (WR : Nat → Int32) (SE : Nat → Int32) (nz : Int32) (tm : Int32) (en : Int32) (fe : Int32) (le : Int32) : va_W := [(B 0, .inr (2, [.ref (B 1), .ref (B 2), .int nz, .int tm, .int en, .int fe, .int le])), (B 1, .inl (cA 0, 400, .inl WR)), (B 2, .inl (cA 0, 1024, .inl SE))]
abbrev gAr (cA : Nat → ClassId) (B : Nat → Nat) (SE : Nat → Int32) : va_W := [(B 0, .inl (cA 0, 1024, .inl SE))]
set_option maxHeartbeats 1000000 in
set_option maxRecDepth 100000 in
theorem k_J7_fill_53178 (lY : Launch) (D : va_G) (cA : Nat → ClassId) (Ba : Nat → Nat) (SE : Nat → Int32)  : MetV lY D cA yJ7_fill_53178 wsJ7_fill_53178 0 0 0 0 [.ref (Ba 0), .int (nI 0)] (gAr cA Ba SE) (fun wY => ∃ (SE' : Nat → Int32), wY = gAr cA Ba SE' ∧ (∀ j, j < 1024 → SE' j = 0)) := by
  refine MetV.of (cc := cJ7_fill_53178) (maxL := 4) (by decide) rfl (Nat.le_of_ble_eq_true rfl) ?_
  intro pY eY sY mY aY bY tY cY QY AY ls h0 hP hK hN hD hA hS hl hin hret
  obtain ⟨hx, hb, hml, hown, hts⟩ := id h0
  have hl : lv_has ls 4 [(0, .ref (Ba 0)), (1, .int (nI 0))] := hl
  have hP : va_P D vwCl (gAr cA Ba SE) sY.heap := hP
  have hD : va_D AY (gAr cA Ba SE) := hD
  refine lv_iconst (v := nI 0) hx hb dJ7_fill_53178_0 (by decide +kernel) ?_
  refine lv_istore_n (lv' := [(2, .int (nI 0)), (0, .ref (Ba 0)), (1, .int (nI 0))]) hx hb dJ7_fill_53178_1 rfl hl (by decide) rfl (fun ls hl => ?_)
  refine lv_aload_n hx hb dJ7_fill_53178_2 rfl (lv_at hl 1 rfl) ?_
  refine va_alen (x := (1024, .inl SE)) (ty := .int) (v := nI 1024) hx hb hK hP 0 0 rfl rfl rfl dJ7_fill_53178_3 ?_
  refine lv_istore_n (lv' := [(3, .int (nI 1024)), (2, .int (nI 0)), (0, .ref (Ba 0)), (1, .int (nI 0))]) hx hb dJ7_fill_53178_4 rfl hl (by decide) rfl (fun ls hl => ?_)
  have L5 : ∀ (nY : Nat), ∀ (i : Nat) (SE' : Nat → Int32), (i ≤ 1024) → (∀ j, j < i → SE' j = 0) → (1024 - i < nY) → ∀ (H : Heap) (locs : List Loc) (ls : Array Slot), va_P D vwCl (gAr cA Ba SE') H → va_D AY (gAr cA Ba SE') → va_S AY sY.heap H locs → lv_has ls 4 [(0, .ref (Ba 0)), (1, .int (nI 0)), (2, .int (nI i)), (3, .int (nI 1024))] → W pY lY eY { frames := 0, cells := 0, slots := 0, locals := 0 } sY mY aY bY tY cY H locs 0 0 QY (F0 mY 5 ls []) := by
    intro nY5
    induction nY5 with
    | zero => intro i SE' hi f1 hm5; exact absurd hm5 (Nat.not_lt_zero _)
    | succ nY5 ih5 =>
      intro i SE' hi f1 hm5 H locs ls hP hD hS hl
      refine lv_iload_n hx hb dJ7_fill_53178_5 rfl (lv_at hl 2 rfl) ?_
      refine lv_iload_n hx hb dJ7_fill_53178_6 rfl (lv_at hl 3 rfl) ?_
      refine xc_ge (tgt := 20) hx hb dJ7_fill_53178_7 (by decide) (by omega) (by omega) (fun c7 => ?_) (fun c7 => ?_)
      · exact hret _ _ _ _ _ dJ7_fill_53178_20 ⟨SE', rfl, (fun j hj => f1 j (by omega))⟩ hP hD hS
      · refine lv_aload_n hx hb dJ7_fill_53178_10 rfl (lv_at hl 0 rfl) ?_
        refine lv_iload_n hx hb dJ7_fill_53178_11 rfl (lv_at hl 2 rfl) ?_
        refine lv_iload_n hx hb dJ7_fill_53178_12 rfl (lv_at hl 1 rfl) ?_
        refine xa_st hx hb hK hP hD hS 0 rfl (by omega) (by decide) dJ7_fill_53178_13 (fun H locs hP hD hS => ?_)
        have hP : va_P D vwCl (gAr cA Ba (upd SE' i (nI 0))) H := hP
        have hD : va_D AY (gAr cA Ba (upd SE' i (nI 0))) := hD
        refine lv_iinc (v := nI (i + 1)) (lv' := [(2, .int (nI (i + 1))), (0, .ref (Ba 0)), (1, .int (nI 0)), (3, .int (nI 1024))]) hx hb dJ7_fill_53178_14 hl (k := 2) rfl (show nI i + Int32.ofInt 1 = nI (i + 1) from nI_add i 1) (by decide) rfl (fun ls hl => ?_)
        refine lv_goto (tgt := 5) hx hb dJ7_fill_53178_17 (by decide) ?_
        exact ih5 (i + 1) (upd SE' i (nI 0)) (by omega) (lt_s (fun j hj => (pk_un (by omega)).trans (f1 j hj)) pk_us) (by omega) _ _ _ hP hD hS (lv_sub hl [1, 2, 0, 3] rfl)
  exact L5 _ 0 SE (by omega) (fun j h => absurd h (Nat.not_lt_zero j)) (Nat.lt_succ_self _) _ _ _ hP hD hS (lv_sub hl [2, 3, 1, 0] rfl)

theorem hi_X2_add_X2 : ∀ w ∈ u_ws RX2 TX2 7, w ∈ wsX2_add := by decide +kernel
set_option maxHeartbeats 1000000 in
set_option maxRecDepth 100000 in
theorem k_X2_add (lY : Launch) (D : va_G) (cA : Nat → ClassId) (Br : Nat → Nat) (a : Acc) (WR SE : Nat → Int32) (en fe le : Int32) (w : Nat) (hr : rRe a WR SE) (hw : vw 12 w) : MetV lY D cA yX2_add wsX2_add 0 0 0 0 [.ref (Br 0), .int (nI w)] (gRe cA Br WR SE (nI (min a.2 400)) (bI (decide (a.2 = 401))) en fe le) (fun wY => ∃ (WR' : Nat → Int32) (SE' : Nat → Int32), wY = gRe cA Br WR' SE' (nI (min (addR a w).2 400)) (bI (decide ((addR a w).2 = 401))) en fe le ∧ (rRe (addR a w) WR' SE')) := by
  refine MetV.of (cc := cX2_add) (maxL := 4) (by decide) rfl (Nat.le_of_ble_eq_true rfl) ?_
  intro pY eY sY mY aY bY tY cY QY AY ls h0 hP hK hN hD hA hS hl hin hret
  obtain ⟨hx, hb, hml, hown, hts⟩ := id h0
  have hl : lv_has ls 4 [(0, .ref (Br 0)), (1, .int (nI w))] := hl
  have hP : va_P D vwCl (gRe cA Br WR SE (nI (min a.2 400)) (bI (decide (a.2 = 401))) en fe le) sY.heap := hP
  have hD : va_D AY (gRe cA Br WR SE (nI (min a.2 400)) (bI (decide (a.2 = 401))) en fe le) := hD
  have hB := vw_B hw (by decide)
  have hml2 := hm_lt w
  obtain ⟨r1, r2, r3, r4⟩ := id hr
  refine lv_iload_n hx hb dX2_add_0 rfl (lv_at hl 1 rfl) ?_
  refine lv_ldc (v := (-1640531535)) hx hb hown (hts (.constant RX2 78 (-1640531535)) (by decide +kernel)) dX2_add_1 ?_
  refine lv_imul hx hb dX2_add_3 ?_
  refine lv_bipush (v := nI 22) hx hb dX2_add_4 (by decide +kernel) ?_
  refine lv_iushr hx hb dX2_add_6 rfl ?_
  refine xt (show (((nI w) * (-1640531535)).toUInt32 >>> ((nI 22).toUInt32 &&& Int32.toUInt32 31)).toInt32 = nI (hm w) from hm_eq w) ?_
  refine lv_istore_n (lv' := [(2, .int (nI (hm w))), (0, .ref (Br 0)), (1, .int (nI w))]) hx hb dX2_add_7 rfl hl (by decide) rfl (fun ls hl => ?_)
  refine lv_iconst (v := nI 0) hx hb dX2_add_8 (by decide +kernel) ?_
  refine lv_istore_n (lv' := [(3, .int (nI 0)), (2, .int (nI (hm w))), (0, .ref (Br 0)), (1, .int (nI w))]) hx hb dX2_add_9 rfl hl (by decide) rfl (fun ls hl => ?_)
  have L10 : ∀ (nY : Nat), ∀ (t : Nat), (t ≤ 1024) → (∀ u, u < t → SE ((hm w + u) % 1024) ≠ 0) → (∀ u, u < t → SE ((hm w + u) % 1024) ≠ nI w) → (1025 - t < nY) → ∀ (H : Heap) (locs : List Loc) (ls : Array Slot), va_P D vwCl (gRe cA Br WR SE (nI (min a.2 400)) (bI (decide (a.2 = 401))) en fe le) H → va_D AY (gRe cA Br WR SE (nI (min a.2 400)) (bI (decide (a.2 = 401))) en fe le) → va_S AY sY.heap H locs → lv_has ls 4 [(0, .ref (Br 0)), (1, .int (nI w)), (2, .int (nI ((hm w + t) % 1024))), (3, .int (nI t))] → W pY lY eY { frames := 0, cells := 0, slots := 0, locals := 0 } sY mY aY bY tY cY H locs 0 0 QY (F0 mY 10 ls []) := by
    intro nY10
    induction nY10 with
    | zero => intro t ht hch hno hm10; exact absurd hm10 (Nat.not_lt_zero _)
    | succ nY10 ih10 =>
      intro t ht hch hno hm10 H locs ls hP hD hS hl
      refine lv_iload_n hx hb dX2_add_10 rfl (lv_at hl 3 rfl) ?_
      refine lv_sipush (v := nI 1024) hx hb dX2_add_11 (by decide +kernel) ?_
      refine xc_ge (tgt := 51) hx hb dX2_add_14 (by decide) (by omega) (by omega) (fun c14 => ?_) (fun c14 => ?_)
      · exact absurd (hs_full r4 (by omega) (fun u hu => hch u (by omega))) id
      · have hsl : (hm w + t) % 1024 < 1024 := Nat.mod_lt _ (by decide)
        refine lv_aload_n hx hb dX2_add_17 rfl (lv_at hl 0 rfl) ?_
        refine va_get (D := D) (ci := 2) (v := .ref (Br 2)) (C := RX2) (T := TX2) (N := 7) hx hb hts hi_X2_add_X2 hown hK hP 0 rfl rfl 1 (by decide) (hts (.fieldLink RX2 15 "FallingWords$Reach" "seats" "[I") (by decide +kernel)) (fun _ h9 => h9) rfl dX2_add_18 ?_
        refine lv_iload_n hx hb dX2_add_21 rfl (lv_at hl 2 rfl) ?_
        refine xa_ld (v := SE ((hm w + t) % 1024)) hx hb hK hP 2 rfl (by omega) (by decide) (rfl) dX2_add_22 ?_
        refine lv_if_eq (tgt := 51) hx hb dX2_add_23 (by decide) (fun c23 => ?_) (fun c23 => ?_)
        · have hno2 := re_not r4 (fun i hi => r3 i (by omega)) hw hno c23
          refine lv_aload_n hx hb dX2_add_51 rfl (lv_at hl 0 rfl) ?_
          refine va_get (D := D) (ci := 2) (v := .int (nI (min a.2 400))) (C := RX2) (T := TX2) (N := 7) hx hb hts hi_X2_add_X2 hown hK hP 0 rfl rfl 2 (by decide) (hts (.fieldLink RX2 24 "FallingWords$Reach" "size" "I") (by decide +kernel)) (fun _ h9 => h9) rfl dX2_add_52 ?_
          refine lv_sipush (v := nI 400) hx hb dX2_add_55 (by decide +kernel) ?_
          refine xc_ne (tgt := 67) hx hb dX2_add_58 (by decide) (by omega) (by omega) (fun c58 => ?_) (fun c58 => ?_)
          · obtain ⟨k1, k2⟩ := re_ins hr hw c58 hno2 (by omega) c23 hch
            refine lv_aload_n hx hb dX2_add_67 rfl (lv_at hl 0 rfl) ?_
            refine va_get (D := D) (ci := 2) (v := .ref (Br 2)) (C := RX2) (T := TX2) (N := 7) hx hb hts hi_X2_add_X2 hown hK hP 0 rfl rfl 1 (by decide) (hts (.fieldLink RX2 15 "FallingWords$Reach" "seats" "[I") (by decide +kernel)) (fun _ h9 => h9) rfl dX2_add_68 ?_
            refine lv_iload_n hx hb dX2_add_71 rfl (lv_at hl 2 rfl) ?_
            refine lv_iload_n hx hb dX2_add_72 rfl (lv_at hl 1 rfl) ?_
            refine xa_st hx hb hK hP hD hS 2 rfl (by omega) (by decide) dX2_add_73 (fun H locs hP hD hS => ?_)
            have hP : va_P D vwCl (gRe cA Br WR (upd SE ((hm w + t) % 1024) (nI w)) (nI (min a.2 400)) (bI (decide (a.2 = 401))) en fe le) H := hP
            have hD : va_D AY (gRe cA Br WR (upd SE ((hm w + t) % 1024) (nI w)) (nI (min a.2 400)) (bI (decide (a.2 = 401))) en fe le) := hD
            refine lv_aload_n hx hb dX2_add_74 rfl (lv_at hl 0 rfl) ?_
            refine va_get (D := D) (ci := 2) (v := .ref (Br 1)) (C := RX2) (T := TX2) (N := 7) hx hb hts hi_X2_add_X2 hown hK hP 0 rfl rfl 0 (by decide) (hts (.fieldLink RX2 9 "FallingWords$Reach" "words" "[I") (by decide +kernel)) (fun _ h9 => h9) rfl dX2_add_75 ?_
            refine lv_aload_n hx hb dX2_add_78 rfl (lv_at hl 0 rfl) ?_
            refine va_get (D := D) (ci := 2) (v := .int (nI (min a.2 400))) (C := RX2) (T := TX2) (N := 7) hx hb hts hi_X2_add_X2 hown hK hP 0 rfl rfl 2 (by decide) (hts (.fieldLink RX2 24 "FallingWords$Reach" "size" "I") (by decide +kernel)) (fun _ h9 => h9) rfl dX2_add_79 ?_
            refine lv_iload_n hx hb dX2_add_82 rfl (lv_at hl 1 rfl) ?_
            refine xa_st hx hb hK hP hD hS 1 rfl (by omega) (by decide) dX2_add_83 (fun H locs hP hD hS => ?_)
            have hP : va_P D vwCl (gRe cA Br (upd WR (min a.2 400) (nI w)) (upd SE ((hm w + t) % 1024) (nI w)) (nI (min a.2 400)) (bI (decide (a.2 = 401))) en fe le) H := hP
            have hD : va_D AY (gRe cA Br (upd WR (min a.2 400) (nI w)) (upd SE ((hm w + t) % 1024) (nI w)) (nI (min a.2 400)) (bI (decide (a.2 = 401))) en fe le) := hD
            refine lv_aload_n hx hb dX2_add_84 rfl (lv_at hl 0 rfl) ?_
            refine lv_dup hx hb dX2_add_85 rfl ?_
            refine va_get (D := D) (ci := 2) (v := .int (nI (min a.2 400))) (C := RX2) (T := TX2) (N := 7) hx hb hts hi_X2_add_X2 hown hK hP 0 rfl rfl 2 (by decide) (hts (.fieldLink RX2 24 "FallingWords$Reach" "size" "I") (by decide +kernel)) (fun _ h9 => h9) rfl dX2_add_86 ?_
            refine lv_iconst (v := nI 1) hx hb dX2_add_89 (by decide +kernel) ?_
            refine lv_iadd hx hb dX2_add_90 ?_
            refine xt (show (nI (min a.2 400)) + (nI 1) = nI (min a.2 400 + 1) from nI_add _ _) ?_
            refine va_put (D := D) (ci := 2) (v := .int (nI (min a.2 400 + 1))) (ty := .int) (C := RX2) (T := TX2) (N := 7) hx hb hts hi_X2_add_X2 tyX2 tyX2_ok nmX2 hown hK hP hD hS 0 rfl rfl 2 (by decide) (hts (.fieldLink RX2 24 "FallingWords$Reach" "size" "I") (by decide +kernel)) (fun _ h9 => h9) rfl (by decide +kernel) rfl rfl (Nat.le_of_ble_eq_true rfl) dX2_add_91 (fun H locs hP hD hS => ?_)
            have hP : va_P D vwCl (gRe cA Br (upd WR (min a.2 400) (nI w)) (upd SE ((hm w + t) % 1024) (nI w)) (nI (min a.2 400 + 1)) (bI (decide (a.2 = 401))) en fe le) H := hP
            have hD : va_D AY (gRe cA Br (upd WR (min a.2 400) (nI w)) (upd SE ((hm w + t) % 1024) (nI w)) (nI (min a.2 400 + 1)) (bI (decide (a.2 = 401))) en fe le) := hD
            exact hret _ _ _ _ _ dX2_add_94 ⟨_, _, (by rw [k2, show min (a.2 + 1) 400 = min a.2 400 + 1 by omega, decide_eq_false (show ¬ a.2 + 1 = 401 by omega), decide_eq_false (show ¬ a.2 = 401 by omega)]), k1⟩ hP hD hS
          · refine lv_aload_n hx hb dX2_add_61 rfl (lv_at hl 0 rfl) ?_
            refine lv_iconst (v := nI 1) hx hb dX2_add_62 (by decide +kernel) ?_
            refine va_put (D := D) (ci := 2) (v := .int (nI 1)) (ty := .boolean) (C := RX2) (T := TX2) (N := 7) hx hb hts hi_X2_add_X2 tyX2 tyX2_ok nmX2 hown hK hP hD hS 0 rfl rfl 3 (by decide) (hts (.fieldLink RX2 28 "FallingWords$Reach" "tooMany" "Z") (by decide +kernel)) (fun _ h9 => h9) rfl (by decide +kernel) rfl rfl (Nat.le_of_ble_eq_true rfl) dX2_add_63 (fun H locs hP hD hS => ?_)
            have hP : va_P D vwCl (gRe cA Br WR SE (nI (min a.2 400)) (nI 1) en fe le) H := hP
            have hD : va_D AY (gRe cA Br WR SE (nI (min a.2 400)) (nI 1) en fe le) := hD
            obtain ⟨k1, k2⟩ := re_many hr hw c58 hno2
            exact hret _ _ _ _ _ dX2_add_66 ⟨WR, SE, (by rw [k2, c58]; rfl), k1⟩ hP hD hS
        · refine lv_aload_n hx hb dX2_add_26 rfl (lv_at hl 0 rfl) ?_
          refine va_get (D := D) (ci := 2) (v := .ref (Br 2)) (C := RX2) (T := TX2) (N := 7) hx hb hts hi_X2_add_X2 hown hK hP 0 rfl rfl 1 (by decide) (hts (.fieldLink RX2 15 "FallingWords$Reach" "seats" "[I") (by decide +kernel)) (fun _ h9 => h9) rfl dX2_add_27 ?_
          refine lv_iload_n hx hb dX2_add_30 rfl (lv_at hl 2 rfl) ?_
          refine xa_ld (v := SE ((hm w + t) % 1024)) hx hb hK hP 2 rfl (by omega) (by decide) (rfl) dX2_add_31 ?_
          refine lv_iload_n hx hb dX2_add_32 rfl (lv_at hl 1 rfl) ?_
          refine lv_icmp_ne (tgt := 37) hx hb dX2_add_33 (by decide) (fun c33 => ?_) (fun c33 => ?_)
          · refine lv_iload_n hx hb dX2_add_37 rfl (lv_at hl 2 rfl) ?_
            refine lv_iconst (v := nI 1) hx hb dX2_add_38 (by decide +kernel) ?_
            refine lv_iadd hx hb dX2_add_39 ?_
            refine xt (show (nI ((hm w + t) % 1024)) + (nI 1) = nI ((hm w + t) % 1024 + 1) from nI_add _ _) ?_
            refine lv_sipush (v := nI 1024) hx hb dX2_add_40 (by decide +kernel) ?_
            refine lv_irem hx hb dX2_add_43 (by decide +kernel) ?_
            refine xt (show (nI ((hm w + t) % 1024 + 1)) - (nI ((hm w + t) % 1024 + 1)) / (nI 1024) * (nI 1024) = nI ((hm w + (t + 1)) % 1024) from (pk_rem (by omega) (by omega) (by omega)).trans (congrArg nI (by omega))) ?_
            refine lv_istore_n (lv' := [(2, .int (nI ((hm w + (t + 1)) % 1024))), (0, .ref (Br 0)), (1, .int (nI w)), (3, .int (nI t))]) hx hb dX2_add_44 rfl hl (by decide) rfl (fun ls hl => ?_)
            refine lv_iinc (v := nI (t + 1)) (lv' := [(3, .int (nI (t + 1))), (2, .int (nI ((hm w + (t + 1)) % 1024))), (0, .ref (Br 0)), (1, .int (nI w))]) hx hb dX2_add_45 hl (k := 3) rfl (show nI t + Int32.ofInt 1 = nI (t + 1) from nI_add t 1) (by decide) rfl (fun ls hl => ?_)
            refine lv_goto (tgt := 10) hx hb dX2_add_48 (by decide) ?_
            exact ih10 (t + 1) (by omega) (lt_s hch c23) (lt_s hno c33) (by omega) _ _ _ hP hD hS (lv_sub hl [2, 3, 1, 0] rfl)
          · have hR := re_found hr hw hsl c33
            exact hret _ _ _ _ _ dX2_add_36 ⟨WR, SE, (by rw [hR]), (by rw [hR]; exact hr)⟩ hP hD hS
  have hl : lv_has ls 4 [(3, .int (nI 0)), (2, .int (nI ((hm w + 0) % 1024))), (0, .ref (Br 0)), (1, .int (nI w))] := Eq.mp (congrArg (fun zY : Int32 => lv_has ls 4 [(3, .int (nI 0)), (2, .int zY), (0, .ref (Br 0)), (1, .int (nI w))]) (show nI (hm w) = nI ((hm w + 0) % 1024) from congrArg nI (by omega))) hl
  exact L10 _ 0 (by omega) (fun u h => absurd h (Nat.not_lt_zero u)) (fun u h => absurd h (Nat.not_lt_zero u)) (Nat.lt_succ_self _) _ _ _ hP hD hS (lv_sub hl [2, 3, 1, 0] rfl)
