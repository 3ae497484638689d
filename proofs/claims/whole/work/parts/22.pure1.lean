/-! words as numbers: a one, behind it two bits a letter -/
def upN (S : Nat → Nat) (k v : Nat) : Nat → Nat := fun j => if j = k then v else S j
theorem upN_s {S : Nat → Nat} {k v : Nat} : upN S k v k = v := if_pos rfl
theorem upN_n {S : Nat → Nat} {k v j : Nat} (h : j ≠ k) : upN S k v j = S j := if_neg h
/-- a row of numbers in the heap -/
def fN (S : Nat → Nat) : Nat → Int32 := fun k => nI (S k)
theorem fN_up {S : Nat → Nat} {k v : Nat} : upd (fN S) k (nI v) = fN (upN S k v) := by
  funext j
  unfold fN upN upd
  by_cases h : j = k
  · rw [if_pos h, if_pos h]
  · rw [if_neg h, if_neg h]
def wd (n w : Nat) : Prop := 4 ^ n ≤ w ∧ w < 2 * 4 ^ n
def len (w : Nat) : Nat := Nat.log2 w / 2
def vw (n w : Nat) : Prop := wd (len w) w ∧ len w ≤ n
def lt4 (w p : Nat) : Nat := w / 4 ^ (len w - 1 - p) % 4
def stn (part word place : Nat) : Bool := decide (place + len part ≤ len word) && decide (word / 4 ^ (len word - place - len part) % 4 ^ len part = part % 4 ^ len part)
def app (l r word place : Nat) : Nat := ((word / 4 ^ (len word - place)) * 4 ^ len r + r % 4 ^ len r) * 4 ^ (len word - place - len l) + word % 4 ^ (len word - place - len l)
theorem four_pos (k : Nat) : 0 < 4 ^ k := Nat.pos_of_ne_zero (by simp)
theorem four_le {a b : Nat} (h : a ≤ b) : 4 ^ a ≤ 4 ^ b := Nat.pow_le_pow_right (by decide) h
theorem len_wd {n w : Nat} (h : wd n w) : len w = n := by
  obtain ⟨h1, h2⟩ := h
  have h0 : w ≠ 0 := by have := four_pos n; omega
  rw [four_pow] at h1 h2
  have a1 : 2 * n ≤ w.log2 := (Nat.le_log2 h0).mpr h1
  have a2 : w.log2 < 2 * n + 1 := (Nat.log2_lt h0).mpr (by rw [Nat.pow_succ]; omega)
  unfold len
  omega
theorem wd_vw {n m w : Nat} (h : wd n w) (hm : n ≤ m) : vw m w := by
  unfold vw
  rw [len_wd h]
  exact ⟨h, hm⟩
theorem vw_up {n m w : Nat} (h : vw n w) (hm : n ≤ m) : vw m w := ⟨h.1, Nat.le_trans h.2 hm⟩
theorem wd_lt {n m w : Nat} (h : wd n w) (hm : n ≤ m) : w < 2 * 4 ^ m := Nat.lt_of_lt_of_le h.2 (Nat.mul_le_mul_left 2 (four_le hm))
theorem vw_lt {n w : Nat} (h : vw n w) : w < 2 * 4 ^ n := wd_lt h.1 h.2
theorem wd_pos {n w : Nat} (h : wd n w) : 0 < w := Nat.lt_of_lt_of_le (four_pos n) h.1
theorem vw_pos {n w : Nat} (h : vw n w) : 0 < w := wd_pos h.1
theorem wd_div {n w k : Nat} (h : wd n w) (hk : k ≤ n) : wd (n - k) (w / 4 ^ k) := by
  obtain ⟨h1, h2⟩ := h
  have e : 4 ^ n = 4 ^ (n - k) * 4 ^ k := by rw [← Nat.pow_add]; congr 1; omega
  constructor
  · rw [Nat.le_div_iff_mul_le (four_pos k), ← e]; exact h1
  · rw [Nat.div_lt_iff_lt_mul (four_pos k)]
    rw [e] at h2
    rw [Nat.mul_assoc]; exact h2
theorem wd_app {n w k b : Nat} (h : wd n w) (hb : b < 4 ^ k) : wd (n + k) (w * 4 ^ k + b) := by
  obtain ⟨h1, h2⟩ := h
  constructor
  · rw [Nat.pow_add]
    exact Nat.le_trans (Nat.mul_le_mul_right _ h1) (Nat.le_add_right _ _)
  · rw [Nat.pow_add, ← Nat.mul_assoc]
    have : (w + 1) * 4 ^ k ≤ 2 * 4 ^ n * 4 ^ k := Nat.mul_le_mul_right _ h2
    rw [Nat.add_mul, Nat.one_mul] at this
    omega
theorem wd_one : wd 0 1 := ⟨by decide, by decide⟩
theorem wd_0 {w : Nat} (h : wd 0 w) : w = 1 := by
  obtain ⟨h1, h2⟩ := h
  simp at h1 h2
  omega
theorem vw_app {w l r p : Nat} (hw : vw 12 w) (hl : vw 4 l) (hr : vw 4 r) (hrl : len r ≤ len l) (hp : p + len l ≤ len w) : vw 12 (app l r w p) ∧ len (app l r w p) = len w - len l + len r := by
  have h1 : wd p (w / 4 ^ (len w - p)) := by
    have := wd_div hw.1 (k := len w - p) (by omega)
    rwa [show len w - (len w - p) = p by omega] at this
  have h2 : wd (p + len r) (w / 4 ^ (len w - p) * 4 ^ len r + r % 4 ^ len r) := wd_app h1 (Nat.mod_lt _ (four_pos _))
  have h3 : wd (p + len r + (len w - p - len l)) (app l r w p) := wd_app h2 (Nat.mod_lt _ (four_pos _))
  have h4 := len_wd h3
  exact ⟨wd_vw h3 (by have := hw.2; omega), by omega⟩
/-- the first place at which something holds -/
def ff (p : Nat → Bool) : Nat → Nat
  | 0 => 0
  | n + 1 => if ff p n < n then ff p n else if p n then n else n + 1
theorem ff_le (p : Nat → Bool) : ∀ n, ff p n ≤ n
  | 0 => Nat.le_refl 0
  | n + 1 => by
    have ih := ff_le p n
    unfold ff
    split
    · omega
    · split <;> omega
theorem ff_no (p : Nat → Bool) : ∀ n k, k < ff p n → p k = false
  | 0, k, h => absurd h (Nat.not_lt_zero k)
  | n + 1, k, h => by
    have ih := ff_no p n
    have il := ff_le p n
    unfold ff at h
    split at h
    · exact ih k h
    · split at h
      · exact ih k (by omega)
      · rename_i h1 h2
        rcases Nat.lt_or_ge k n with q | q
        · exact ih k (by omega)
        · have e : k = n := by omega
          subst e
          exact Bool.not_eq_true _ |>.mp h2
theorem ff_yes (p : Nat → Bool) : ∀ n, ff p n < n → p (ff p n) = true
  | 0, h => absurd h (Nat.not_lt_zero _)
  | n + 1, h => by
    have ih := ff_yes p n
    have il := ff_le p n
    unfold ff at h ⊢
    by_cases h1 : ff p n < n
    · rw [if_pos h1]; exact ih h1
    · rw [if_neg h1] at h ⊢
      by_cases h2 : p n = true
      · rw [if_pos h2]; exact h2
      · rw [if_neg h2] at h; omega
theorem ff_is {p : Nat → Bool} {n k : Nat} (hk : k < n) (hp : p k = true) (hn : ∀ j, j < k → p j = false) : ff p n = k := by
  rcases Nat.lt_trichotomy (ff p n) k with h | h | h
  · have := ff_yes p n (by omega)
    rw [hn _ h] at this; cases this
  · exact h
  · have := ff_no p n k h
    rw [hp] at this; cases this
theorem ff_none {p : Nat → Bool} {n : Nat} (hn : ∀ j, j < n → p j = false) : ff p n = n := by
  have := ff_le p n
  rcases Nat.lt_or_ge (ff p n) n with h | h
  · have h2 := ff_yes p n h
    rw [hn _ h] at h2; cases h2
  · omega
theorem ff_cong {p q : Nat → Bool} {n : Nat} (h : ∀ j, j < n → p j = q j) : ff p n = ff q n := by
  rcases Nat.lt_or_ge (ff q n) n with h1 | h1
  · exact ff_is h1 (by rw [h _ h1]; exact ff_yes q n h1) (fun j hj => by rw [h j (by omega)]; exact ff_no q n j hj)
  · have := ff_le q n
    have e : ff q n = n := by omega
    rw [e]
    exact ff_none (fun j hj => by rw [h j hj]; exact ff_no q n j (by omega))
/-! the rules of a state: s[1] of them from s[6] on -/
abbrev St : Type := Nat → Nat
def lf (S : St) (r : Nat) : Nat := S (6 + 3 * r)
def rt (S : St) (r : Nat) : Nat := S (6 + 3 * r + 1)
def tms (S : St) (r : Nat) : Nat := S (6 + 3 * r + 2)
def unp (way k : Nat) : Nat := if way = 1 then 12 - k / 10 else if way = 2 then k % 13 else k / 10
def unr (way k : Nat) : Nat := if way = 2 then k / 13 else k % 10
def rnk (way p r : Nat) : Nat := if way = 1 then (12 - p) * 10 + r else if way = 2 then r * 13 + p else p * 10 + r
def okk (S : St) (w k : Nat) : Bool := decide (unr (S 2) k < S 1) && decide (unp (S 2) k < len w) && stn (lf S (unr (S 2) k)) w (unp (S 2) k)
/-- closed up, so that nothing computes it -/
noncomputable def chk (S : St) (w : Nat) : Nat := Classical.choose (⟨ff (okk S w) 130, rfl⟩ : ∃ x, x = ff (okk S w) 130)
theorem chk_eq (S : St) (w : Nat) : chk S w = ff (okk S w) 130 := Classical.choose_spec (⟨ff (okk S w) 130, rfl⟩ : ∃ x, x = ff (okk S w) 130)
noncomputable def nrm (S : St) (w : Nat) : Bool := decide (chk S w = 130)
noncomputable def chr (S : St) (w : Nat) : Nat := unr (S 2) (chk S w)
noncomputable def chp (S : St) (w : Nat) : Nat := unp (S 2) (chk S w)
noncomputable def nxt (S : St) (w : Nat) : Nat := app (lf S (chr S w)) (rt S (chr S w)) w (chp S w)
/-- the rules and the way are as the document has them -/
def IR (S : St) : Prop := S 1 ≤ 10 ∧ S 2 ≤ 2 ∧ ∀ r, r < S 1 → vw 4 (lf S r) ∧ vw 4 (rt S r) ∧ 1 ≤ len (lf S r) ∧ len (rt S r) ≤ len (lf S r)
theorem rnk_un {way p r : Nat} (hp : p ≤ 12) (hr : r < 10) : unp way (rnk way p r) = p ∧ unr way (rnk way p r) = r ∧ rnk way p r < 130 := by
  unfold unp unr rnk
  by_cases h1 : way = 1
  · simp only [h1, if_true]
    have : ¬ (1 = 2) := by decide
    simp only [this, if_false]
    omega
  · by_cases h2 : way = 2
    · simp only [h2]
      have : ¬ (2 = 1) := by decide
      simp only [this, if_false, if_true]
      omega
    · simp only [h1, h2, if_false]
      omega
theorem un_rnk {way k : Nat} (hk : k < 130) : rnk way (unp way k) (unr way k) = k ∧ unp way k ≤ 12 ∧ unr way k < 10 := by
  unfold unp unr rnk
  by_cases h1 : way = 1
  · simp only [h1, if_true]
    have : ¬ (1 = 2) := by decide
    simp only [this, if_false]
    omega
  · by_cases h2 : way = 2
    · simp only [h2]
      have : ¬ (2 = 1) := by decide
      simp only [this, if_false, if_true]
      omega
    · simp only [h1, h2, if_false]
      omega
theorem ch_is {S : St} {w p r : Nat} (hI : IR S) (hw : vw 12 w) (hr : r < S 1) (hp : p < len w) (h : stn (lf S r) w p = true) (hb : ∀ r' p', r' < S 1 → p' < len w → stn (lf S r') w p' = true → rnk (S 2) p r ≤ rnk (S 2) p' r') : chr S w = r ∧ chp S w = p ∧ nrm S w = false := by
  have hr10 : r < 10 := by have := hI.1; omega
  have hp12 : p ≤ 12 := by have := hw.2; omega
  obtain ⟨e1, e2, e3⟩ := rnk_un (way := S 2) hp12 hr10
  have e : chk S w = rnk (S 2) p r := by
    rw [chk_eq]
    refine ff_is e3 ?_ ?_
    · unfold okk
      rw [e1, e2, h]
      simp [hr, hp]
    · intro j hj
      obtain ⟨f1, f2, f3⟩ := un_rnk (way := S 2) (k := j) (by omega)
      cases ho : okk S w j with
      | false => rfl
      | true =>
        unfold okk at ho
        simp only [Bool.and_eq_true, decide_eq_true_eq] at ho
        have := hb _ _ ho.1.1 ho.1.2 ho.2
        rw [f1] at this
        omega
  refine ⟨by unfold chr; rw [e, e2], by unfold chp; rw [e, e1], ?_⟩
  unfold nrm
  rw [e]
  exact decide_eq_false (by omega)
theorem ch_no {S : St} {w : Nat} (h : ∀ r p, r < S 1 → p < len w → stn (lf S r) w p = false) : nrm S w = true := by
  unfold nrm
  rw [chk_eq]
  refine decide_eq_true (ff_none (fun k _ => ?_))
  unfold okk
  cases h1 : decide (unr (S 2) k < S 1) with
  | false => rfl
  | true =>
    cases h2 : decide (unp (S 2) k < len w) with
    | false => rfl
    | true => rw [h _ _ (of_decide_eq_true h1) (of_decide_eq_true h2)]; rfl
theorem ch_yes {S : St} {w : Nat} (h : nrm S w = false) : chr S w < S 1 ∧ chp S w < len w ∧ stn (lf S (chr S w)) w (chp S w) = true ∧ ∀ r' p', r' < 10 → p' ≤ 12 → r' < S 1 → p' < len w → stn (lf S r') w p' = true → rnk (S 2) (chp S w) (chr S w) ≤ rnk (S 2) p' r' := by
  have h1 : chk S w ≠ 130 := of_decide_eq_false h
  have h2 : chk S w < 130 := by have := ff_le (okk S w) 130; rw [← chk_eq] at this; omega
  have h3 : okk S w (chk S w) = true := by rw [chk_eq]; exact ff_yes _ _ (by rw [← chk_eq]; exact h2)
  unfold okk at h3
  simp only [Bool.and_eq_true, decide_eq_true_eq] at h3
  refine ⟨h3.1.1, h3.1.2, h3.2, fun r' p' a1 a2 a3 a4 a5 => ?_⟩
  obtain ⟨e1, e2, e3⟩ := rnk_un (way := S 2) a2 a1
  have hk : rnk (S 2) (chp S w) (chr S w) = chk S w := (un_rnk h2).1
  rw [hk]
  rcases Nat.lt_or_ge (rnk (S 2) p' r') (chk S w) with q | q
  · have := ff_no (okk S w) 130 _ (by rw [← chk_eq]; exact q)
    unfold okk at this
    rw [e1, e2, a5] at this
    simp [a3, a4] at this
  · exact q
theorem stn_le {part word place : Nat} (h : stn part word place = true) : place + len part ≤ len word := by
  unfold stn at h
  simp only [Bool.and_eq_true, decide_eq_true_eq] at h
  exact h.1
theorem ap_vw {S : St} {w r p : Nat} (hI : IR S) (hw : vw 12 w) (hr : r < S 1) (h : stn (lf S r) w p = true) : vw 12 (app (lf S r) (rt S r) w p) := by
  obtain ⟨a, b, c, d⟩ := hI.2.2 r hr
  exact (vw_app hw a b d (stn_le h)).1
theorem nxt_vw {S : St} {w : Nat} (hI : IR S) (hw : vw 12 w) (h : nrm S w = false) : vw 12 (nxt S w) := by
  obtain ⟨a, -, b, -⟩ := ch_yes h
  exact ap_vw hI hw a b
/-! a row of steps -/
noncomputable def xs (S : St) (w : Nat) : Nat → Nat
  | 0 => w
  | i + 1 => nxt S (xs S w i)
noncomputable def fst (S : St) (w k : Nat) : Nat := ff (fun i => decide (xs S w i = xs S w k)) k
noncomputable def redF (S : St) (w : Nat) : Nat → Nat → Nat × Nat × Nat
  | 0, k => (2, k, 0)
  | f + 1, k => if fst S w k < k then (1, k, fst S w k) else if nrm S (xs S w k) then (0, k, 0) else if k = 100 then (2, 100, 0) else redF S w f (k + 1)
noncomputable def red (S : St) (w : Nat) : Nat × Nat × Nat := Classical.choose (⟨redF S w 101 0, rfl⟩ : ∃ x, x = redF S w 101 0)
theorem red_eq (S : St) (w : Nat) : red S w = redF S w 101 0 := Classical.choose_spec (⟨redF S w 101 0, rfl⟩ : ∃ x, x = redF S w 101 0)
/-- what is known of the end of a reducing -/
theorem redF_ok {S : St} {w : Nat} (hI : IR S) (hw : vw 12 w) : ∀ (f k : Nat), f + k = 101 → k ≤ 100 → vw 12 (xs S w k) → (∀ i, i < k → nrm S (xs S w i) = false ∧ vw 12 (xs S w i)) →
    (redF S w f k).2.1 ≤ 100 ∧ (∀ i, i < (redF S w f k).2.1 → nrm S (xs S w i) = false ∧ vw 12 (xs S w i)) ∧ vw 12 (xs S w (redF S w f k).2.1) ∧ (redF S w f k).1 ≤ 2 ∧ k ≤ (redF S w f k).2.1 ∧ ((redF S w f k).1 = 0 → nrm S (xs S w (redF S w f k).2.1) = true) ∧ ((redF S w f k).1 = 1 → (redF S w f k).2.2 < (redF S w f k).2.1)
  | 0, k, hk, hk2, hv, ha => by omega
  | f + 1, k, hk, hk2, hv, ha => by
    unfold redF
    split
    · rename_i h
      exact ⟨hk2, ha, hv, Nat.le_succ 1, Nat.le_refl _, (fun q => by cases q), fun _ => h⟩
    · split
      · rename_i h
        exact ⟨hk2, ha, hv, Nat.zero_le 2, Nat.le_refl _, fun _ => h, (fun q => by cases q)⟩
      · split
        · rename_i h
          subst h
          exact ⟨Nat.le_refl _, ha, hv, Nat.le_refl 2, Nat.le_refl _, (fun q => by cases q), (fun q => by cases q)⟩
        · rename_i h1 h2 h3
          have hn : nrm S (xs S w k) = false := Bool.not_eq_true _ |>.mp h2
          obtain ⟨a, b, c, d, e, g, z⟩ := redF_ok hI hw f (k + 1) (by omega) (by omega) (nxt_vw hI hv hn) (fun i hi => by
            rcases Nat.lt_or_ge i k with q | q
            · exact ha i q
            · have e : i = k := by omega
              subst e; exact ⟨hn, hv⟩)
          exact ⟨a, b, c, d, by omega, g, z⟩
theorem red_ok {S : St} {w : Nat} (hI : IR S) (hw : vw 12 w) : (red S w).2.1 ≤ 100 ∧ (∀ i, i < (red S w).2.1 → nrm S (xs S w i) = false ∧ vw 12 (xs S w i)) ∧ vw 12 (xs S w (red S w).2.1) ∧ (red S w).1 ≤ 2 ∧ ((red S w).1 = 0 → nrm S (xs S w (red S w).2.1) = true) ∧ ((red S w).1 = 1 → (red S w).2.2 < (red S w).2.1) := by
  rw [red_eq]
  obtain ⟨a, b, c, d, -, g, z⟩ := redF_ok hI hw 101 0 rfl (Nat.zero_le _) hw (fun i h => absurd h (Nat.not_lt_zero i))
  exact ⟨a, b, c, d, g, z⟩
