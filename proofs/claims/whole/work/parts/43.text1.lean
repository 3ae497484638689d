/-! texts -/
def rTx (txt : Nat → Nat) (n : Nat) (CH : Nat → Int32) : Prop := n ≤ 80 ∧ ∀ i, i < n → CH i = nI (txt i) ∧ txt i < 127
def sgI (txt : Nat → Nat) (n a : Nat) : Int32 := if a < n then nI (txt a) else (-1)
def psB (txt : Nat → Nat) (n a c : Nat) : Bool := decide (a < n ∧ txt a = c)
def psA (txt : Nat → Nat) (n a c : Nat) : Nat := if a < n ∧ txt a = c then a + 1 else a
def dgB (txt : Nat → Nat) (n a : Nat) : Bool := decide (a < n ∧ 48 ≤ txt a ∧ txt a ≤ 57)
def dgA (txt : Nat → Nat) (n a : Nat) : Nat := if a < n ∧ 48 ≤ txt a ∧ txt a ≤ 57 then a + 1 else a
def rdF (txt : Nat → Nat) (n lim : Nat) : Nat → Nat → Nat → Nat → Nat × Nat × Nat
  | 0, a, w, c => (w, c, a)
  | f + 1, a, w, c => if a < n ∧ 97 ≤ txt a ∧ txt a ≤ 100 then rdF txt n lim f (a + 1) (if c < lim then w * 4 + (txt a - 97) else w) (c + 1) else (w, c, a)
noncomputable def rd (txt : Nat → Nat) (n lim a : Nat) : Nat × Nat × Nat := sl (rdF txt n lim 81 a 1 0)
theorem rdF_ok {txt : Nat → Nat} {n lim : Nat} : ∀ (f a w c : Nat), a ≤ n → wd (min c lim) w → a ≤ (rdF txt n lim f a w c).2.2 ∧ (rdF txt n lim f a w c).2.2 ≤ n ∧ wd (min (rdF txt n lim f a w c).2.1 lim) (rdF txt n lim f a w c).1 ∧ (rdF txt n lim f a w c).2.1 + a = c + (rdF txt n lim f a w c).2.2
  | 0, a, w, c, ha, hw => ⟨Nat.le_refl _, ha, hw, rfl⟩
  | f + 1, a, w, c, ha, hw => by
    unfold rdF
    split
    · rename_i h
      obtain ⟨q1, q2, q3, q4⟩ := rdF_ok (txt := txt) (n := n) (lim := lim) f (a + 1) (if c < lim then w * 4 + (txt a - 97) else w) (c + 1) (by omega) (by
        split
        · rename_i h1
          rw [show min (c + 1) lim = min c lim + 1 by omega]
          exact wd_app (k := 1) hw (by omega)
        · rename_i h1
          rw [show min (c + 1) lim = min c lim by omega]
          exact hw)
      exact ⟨by omega, q2, q3, by omega⟩
    · exact ⟨Nat.le_refl _, ha, hw, rfl⟩
theorem rd_ok {txt : Nat → Nat} {n lim a : Nat} (ha : a ≤ n) : a ≤ (rd txt n lim a).2.2 ∧ (rd txt n lim a).2.2 ≤ n ∧ wd (min (rd txt n lim a).2.1 lim) (rd txt n lim a).1 ∧ (rd txt n lim a).2.1 + a = (rd txt n lim a).2.2 := by
  unfold rd
  rw [sl_eq]
  obtain ⟨q1, q2, q3, q4⟩ := rdF_ok (txt := txt) (n := n) (lim := lim) 81 a 1 0 ha (by rw [Nat.zero_min]; exact wd_one)
  exact ⟨q1, q2, q3, by omega⟩
theorem rd_vw {txt : Nat → Nat} {n a : Nat} (ha : a ≤ n) : vw 13 (rd txt n 13 a).1 := wd_vw (rd_ok ha).2.2.1 (by omega)
theorem ps_le {txt : Nat → Nat} {n a c : Nat} (ha : a ≤ n) : psA txt n a c ≤ n ∧ a ≤ psA txt n a c := by unfold psA; split <;> omega
/-- a command is of its form, and where reading stops -/
noncomputable def okP (txt : Nat → Nat) (n a : Nat) : Bool × Nat := sl (
  if txt a = 43 then (if psB txt n (rd txt n 13 (a + 1)).2.2 62 then (psB txt n (rd txt n 13 ((rd txt n 13 (a + 1)).2.2 + 1)).2.2 59, psA txt n (rd txt n 13 ((rd txt n 13 (a + 1)).2.2 + 1)).2.2 59) else (false, (rd txt n 13 (a + 1)).2.2))
  else if txt a = 61 then (psB txt n (rd txt n 13 (a + 1)).2.2 59, psA txt n (rd txt n 13 (a + 1)).2.2 59)
  else if txt a = 45 ∨ txt a = 119 then (if dgB txt n (a + 1) then (psB txt n (a + 2) 59, psA txt n (a + 2) 59) else (false, a + 1))
  else if txt a = 115 ∨ txt a = 110 then (psB txt n (a + 1) 59, psA txt n (a + 1) 59)
  else (false, a))
noncomputable def rW1 (txt : Nat → Nat) (n a : Nat) : Nat := (rd txt n 13 (a + 1)).1
noncomputable def rW2 (txt : Nat → Nat) (n a : Nat) : Nat := (rd txt n 13 ((rd txt n 13 (a + 1)).2.2 + 1)).1
theorem okP_43 {txt : Nat → Nat} {n a : Nat} (h : txt a = 43) : okP txt n a = if psB txt n (rd txt n 13 (a + 1)).2.2 62 then (psB txt n (rd txt n 13 ((rd txt n 13 (a + 1)).2.2 + 1)).2.2 59, psA txt n (rd txt n 13 ((rd txt n 13 (a + 1)).2.2 + 1)).2.2 59) else (false, (rd txt n 13 (a + 1)).2.2) := by
  unfold okP; rw [sl_eq, if_pos h]
theorem okP_61 {txt : Nat → Nat} {n a : Nat} (h : txt a = 61) : okP txt n a = (psB txt n (rd txt n 13 (a + 1)).2.2 59, psA txt n (rd txt n 13 (a + 1)).2.2 59) := by
  unfold okP; rw [sl_eq, if_neg (by omega), if_pos h]
theorem okP_d {txt : Nat → Nat} {n a : Nat} (h : txt a = 45 ∨ txt a = 119) : okP txt n a = if dgB txt n (a + 1) then (psB txt n (a + 2) 59, psA txt n (a + 2) 59) else (false, a + 1) := by
  unfold okP; rw [sl_eq, if_neg (by omega), if_neg (by omega), if_pos h]
theorem okP_s {txt : Nat → Nat} {n a : Nat} (h : txt a = 115 ∨ txt a = 110) : okP txt n a = (psB txt n (a + 1) 59, psA txt n (a + 1) 59) := by
  unfold okP; rw [sl_eq, if_neg (by omega), if_neg (by omega), if_neg (by omega), if_pos h]
theorem okP_n {txt : Nat → Nat} {n a : Nat} (h : ¬ (txt a = 43 ∨ txt a = 61 ∨ txt a = 45 ∨ txt a = 119 ∨ txt a = 115 ∨ txt a = 110)) : okP txt n a = (false, a) := by
  unfold okP; rw [sl_eq, if_neg (by omega), if_neg (by omega), if_neg (by omega), if_neg (by omega)]
theorem psA_t {txt : Nat → Nat} {n a c : Nat} (h : psB txt n a c = true) : psA txt n a c = a + 1 := if_pos (of_decide_eq_true h)
theorem psA_f {txt : Nat → Nat} {n a c : Nat} (h : psB txt n a c = false) : psA txt n a c = a := if_neg (of_decide_eq_false h)
theorem dgA_t {txt : Nat → Nat} {n a : Nat} (h : dgB txt n a = true) : dgA txt n a = a + 1 := if_pos (of_decide_eq_true h)
theorem dgA_f {txt : Nat → Nat} {n a : Nat} (h : dgB txt n a = false) : dgA txt n a = a := if_neg (of_decide_eq_false h)
theorem okP_le {txt : Nat → Nat} {n a : Nat} (ha : a < n) : (okP txt n a).2 ≤ n ∧ a ≤ (okP txt n a).2 ∧ ((okP txt n a).1 = true → a < (okP txt n a).2) := by
  obtain ⟨r1, r2, -, -⟩ := rd_ok (txt := txt) (n := n) (lim := 13) (a := a + 1) (by omega)
  by_cases h : txt a = 43
  · rw [okP_43 h]
    cases hp : psB txt n (rd txt n 13 (a + 1)).2.2 62 with
    | true =>
      have hp2 := (of_decide_eq_true hp).1
      obtain ⟨s1, s2, -, -⟩ := rd_ok (txt := txt) (n := n) (lim := 13) (a := (rd txt n 13 (a + 1)).2.2 + 1) (by omega)
      have := ps_le (txt := txt) (c := 59) s2
      exact ⟨this.1, by show a ≤ psA _ _ _ _; omega, fun _ => by show a < psA _ _ _ _; omega⟩
    | false => exact ⟨r2, by show a ≤ (rd txt n 13 (a + 1)).2.2; omega, fun h => by cases h⟩
  · by_cases h1 : txt a = 61
    · rw [okP_61 h1]
      have := ps_le (txt := txt) (c := 59) r2
      exact ⟨this.1, by show a ≤ psA _ _ _ _; omega, fun _ => by show a < psA _ _ _ _; omega⟩
    · by_cases h2 : txt a = 45 ∨ txt a = 119
      · rw [okP_d h2]
        cases hp : dgB txt n (a + 1) with
        | true =>
          have hp2 := (of_decide_eq_true hp).1
          have := ps_le (txt := txt) (n := n) (a := a + 2) (c := 59) (by omega)
          exact ⟨this.1, by show a ≤ psA _ _ _ _; omega, fun _ => by show a < psA _ _ _ _; omega⟩
        | false => exact ⟨by show a + 1 ≤ n; omega, by show a ≤ a + 1; omega, fun h => by cases h⟩
      · by_cases h3 : txt a = 115 ∨ txt a = 110
        · rw [okP_s h3]
          have := ps_le (txt := txt) (n := n) (a := a + 1) (c := 59) (by omega)
          exact ⟨this.1, by show a ≤ psA _ _ _ _; omega, fun _ => by show a < psA _ _ _ _; omega⟩
        · rw [okP_n (by omega)]
          exact ⟨by show a ≤ n; omega, Nat.le_refl _, fun h => by cases h⟩
/-- what a command does: its reason, its cause, the state behind it -/
def addC (S : St) (a b : Nat) : Nat × Nat × St := if len a = 0 ∨ 4 < len a ∨ 4 < len b then (2, 0, S) else if len a < len b ∨ a = b then (3, 1, S) else if hsd S a b then (3, 2, S) else if 10 ≤ S 1 then (3, 3, S) else (0, 0, addS S a b)
noncomputable def prf (k a b d : Nat) (S : St) : Nat × Nat × St := sl (
  if k = 43 then addC S a b
  else if k = 45 then (if d < S 1 then (0, 0, dropS S d) else (2, 0, S))
  else if k = 61 then (if len a ≤ 12 then (0, 0, upN S 0 a) else (2, 0, S))
  else if k = 115 then (if nrm S (S 0) then (3, 4, S) else (0, 0, (stepR S).2))
  else if k = 110 then (if (normR S).1.toInt < 0 then (3, 5, S) else (0, 0, (normR S).2))
  else (if d ≤ 2 then (0, 0, wayS S d) else (2, 0, S)))
noncomputable def doC (txt : Nat → Nat) (n a : Nat) (S : St) : Nat × Nat × St := if (okP txt n a).1 then prf (txt a) (rW1 txt n a) (rW2 txt n a) (txt (a + 1) - 48) S else (1, (okP txt n a).2 - a, S)
noncomputable def runF (txt : Nat → Nat) (n : Nat) : Nat → Nat → St → Nat → Nat × Nat × Nat × Nat × St
  | 0, a, S, c => (0, 0, a, c, S)
  | f + 1, a, S, c => if a < n then (if (doC txt n a S).1 = 0 then runF txt n f (okP txt n a).2 (doC txt n a S).2.2 (c + 1) else ((doC txt n a S).1, (doC txt n a S).2.1, a, c, (doC txt n a S).2.2)) else (0, 0, a, c, S)
noncomputable def runT (txt : Nat → Nat) (n : Nat) (S : St) : Nat × Nat × Nat × Nat × St := sl (runF txt n 81 0 S 0)
/-! the document's conditions stay -/
theorem vw_up2 {n w : Nat} (h : vw n w) (h2 : len w ≤ 12) : vw 12 w := ⟨h.1, h2⟩
theorem IV_add {S : St} {a b : Nat} (h : IV S) (h10 : S 1 < 10) (ha : vw 4 a) (hb2 : vw 4 b) (h1 : 1 ≤ len a) (h2 : len b ≤ len a) : IV (addS S a b) := by
  obtain ⟨⟨i1, i2, i3⟩, i4, i5, i6⟩ := h
  have q1 : addS S a b 1 = S 1 + 1 := by unfold addS upN; rw [if_neg (by decide), if_pos rfl]
  have q2 : addS S a b 2 = S 2 := by unfold addS upN; repeat rw [if_neg (by omega)]
  have q3 : addS S a b 3 = 0 := by unfold addS upN; rw [if_pos rfl]
  have q0 : addS S a b 0 = S 0 := by unfold addS upN; repeat rw [if_neg (by omega)]
  refine ⟨⟨by omega, by omega, fun r hr => ?_⟩, by omega, by rw [q0]; exact i5, fun k hk => by omega⟩
  rw [q1] at hr
  rcases Nat.lt_or_ge r (S 1) with q | q
  · have e1 : lf (addS S a b) r = lf S r := by unfold lf addS upN; repeat rw [if_neg (by omega)]
    have e2 : rt (addS S a b) r = rt S r := by unfold rt addS upN; repeat rw [if_neg (by omega)]
    rw [e1, e2]; exact i3 r q
  · have e : r = S 1 := by omega
    subst e
    have e1 : lf (addS S a b) (S 1) = a := by unfold lf addS upN; rw [if_neg (by omega), if_neg (by omega), if_neg (by omega), if_neg (by omega), if_pos rfl]
    have e2 : rt (addS S a b) (S 1) = b := by unfold rt addS upN; rw [if_neg (by omega), if_neg (by omega), if_neg (by omega), if_pos rfl]
    rw [e1, e2]; exact ⟨ha, hb2, h1, h2⟩
theorem IV_drop {S : St} {g : Nat} (h : IV S) (hg : g < S 1) : IV (dropS S g) := by
  obtain ⟨⟨i1, i2, i3⟩, i4, i5, i6⟩ := h
  have q1 : dropS S g 1 = S 1 - 1 := by unfold dropS upN; dsimp only; rw [if_neg (by decide), if_neg (by omega), if_pos rfl]
  have q2 : dropS S g 2 = S 2 := by unfold dropS upN; dsimp only; rw [if_neg (by decide), if_neg (by omega), if_neg (by omega)]
  have q3 : dropS S g 3 = 0 := by unfold dropS upN; rw [if_pos rfl]
  have q0 : dropS S g 0 = S 0 := by unfold dropS upN; dsimp only; rw [if_neg (by decide), if_neg (by omega), if_neg (by omega)]
  refine ⟨⟨by omega, by omega, fun r hr => ?_⟩, by omega, by rw [q0]; exact i5, fun k hk => by omega⟩
  rw [q1] at hr
  by_cases q : g ≤ r
  · have f1 : lf (dropS S g) r = lf S (r + 1) := by unfold lf dropS upN; dsimp only; rw [if_neg (by omega), if_pos (by omega)]; congr 1
    have f2 : rt (dropS S g) r = rt S (r + 1) := by unfold rt dropS upN; dsimp only; rw [if_neg (by omega), if_pos (by omega)]; congr 1
    rw [f1, f2]; exact i3 _ (by omega)
  · have f1 : lf (dropS S g) r = lf S r := by unfold lf dropS upN; dsimp only; rw [if_neg (by omega), if_neg (by omega), if_neg (by omega)]
    have f2 : rt (dropS S g) r = rt S r := by unfold rt dropS upN; dsimp only; rw [if_neg (by omega), if_neg (by omega), if_neg (by omega)]
    rw [f1, f2]; exact i3 _ (by omega)
theorem IV_way {S : St} {v : Nat} (h : IV S) (hv : v ≤ 2) : IV (wayS S v) := by
  obtain ⟨⟨i1, i2, i3⟩, i4, i5, i6⟩ := h
  have qj : ∀ j, j ≠ 2 → j ≠ 3 → wayS S v j = S j := fun j h1 h2 => by unfold wayS; rw [upN_n h2, upN_n h1]
  have q2 : wayS S v 2 = v := by unfold wayS; rw [upN_n (by decide), upN_s]
  have q3 : wayS S v 3 = 0 := by unfold wayS; rw [upN_s]
  refine ⟨⟨by rw [qj 1 (by decide) (by decide)]; exact i1, by omega, fun r hr => ?_⟩, by omega, by rw [qj 0 (by decide) (by decide)]; exact i5, fun k hk => by omega⟩
  rw [qj 1 (by decide) (by decide)] at hr
  have e1 : lf (wayS S v) r = lf S r := qj _ (by omega) (by omega)
  have e2 : rt (wayS S v) r = rt S r := qj _ (by omega) (by omega)
  rw [e1, e2]; exact i3 r hr
theorem IV_set {S : St} {w : Nat} (h : IV S) (hw : vw 12 w) : IV (upN S 0 w) := by
  obtain ⟨⟨i1, i2, i3⟩, i4, i5, i6⟩ := h
  refine ⟨⟨by rw [upN_n (by decide)]; exact i1, by rw [upN_n (by decide)]; exact i2, fun r hr => ?_⟩, by rw [upN_n (by decide)]; exact i4, by rw [upN_s]; exact hw, fun k hk => ?_⟩
  · rw [upN_n (by decide)] at hr
    have e1 : lf (upN S 0 w) r = lf S r := upN_n (by omega)
    have e2 : rt (upN S 0 w) r = rt S r := upN_n (by omega)
    rw [e1, e2]; exact i3 r hr
  · rw [upN_n (by decide)] at hk
    rw [upN_n (by omega), upN_n (by omega)]
    exact i6 k hk
theorem IV_to {S S2 : St} (h : IV S) (e1 : S2 1 = S 1) (e2 : S2 2 = S 2) (e3 : S2 3 ≤ 8) (e0 : vw 12 (S2 0)) (er : ∀ r, r < S 1 → lf S2 r = lf S r ∧ rt S2 r = rt S r) (es : ∀ k, k < S2 3 → vw 12 (S2 (36 + 2 * k)) ∧ vw 12 (S2 (37 + 2 * k))) : IV S2 := by
  obtain ⟨⟨i1, i2, i3⟩, i4, i5, i6⟩ := h
  refine ⟨⟨by omega, by omega, fun r hr => ?_⟩, e3, e0, es⟩
  rw [e1] at hr
  obtain ⟨a, b⟩ := er r hr
  rw [a, b]; exact i3 r hr
theorem IV_step {S : St} (h : IV S) : IV (stepR S).2 := by
  cases hn : nrm S (S 0) with
  | true => rw [show stepR S = ((-1000002), S) from if_pos hn]; exact h
  | false =>
    rw [show stepR S = (nI (chr S (S 0)), stpS S) from if_neg (by rw [hn]; decide)]
    obtain ⟨g1, -, g3, -, -⟩ := ch_lt h.1 h.2.2.1 hn
    have qj : ∀ j, j ≠ 0 → j ≠ 5 → j ≠ 6 + 3 * chr S (S 0) + 2 → stpS S j = S j := fun j h1 h2 h3 => by unfold stpS; rw [upN_n h2, upN_n h3, upN_n h1]
    have q0 : stpS S 0 = nxt S (S 0) := by unfold stpS; rw [upN_n (by omega), upN_n (by omega), upN_s]
    refine IV_to (S2 := stpS S) h (qj 1 (by omega) (by omega) (by omega)) (qj 2 (by omega) (by omega) (by omega)) (by rw [qj 3 (by omega) (by omega) (by omega)]; exact h.2.1) (by show vw 12 (stpS S 0); rw [q0]; exact nxt_vw h.1 h.2.2.1 hn) (fun r hr => ⟨qj _ (by omega) (by omega) (by omega), qj _ (by omega) (by omega) (by omega)⟩) (fun k hk => ?_)
    rw [qj 3 (by omega) (by omega) (by omega)] at hk
    rw [qj _ (by omega) (by omega) (by omega), qj _ (by omega) (by omega) (by omega)]
    exact h.2.2.2 k hk
theorem cfs_vw {S : St} {w v p m : Nat} (hw : vw 12 w) (hv : vw 12 v) (h : ∀ k, k < m → vw 12 (S (36 + 2 * k)) ∧ vw 12 (S (37 + 2 * k))) (hp : p ≤ m) : ∀ k, k < m ∨ k ≤ p → vw 12 (cfs S w v p (36 + 2 * k)) ∧ vw 12 (cfs S w v p (37 + 2 * k)) := by
  intro k hk
  by_cases e : k = 0
  · subst e
    exact ⟨hw, hv⟩
  · rw [cfs_ev (by omega), cfs_od (by omega)]
    by_cases q : k ≤ p
    · rw [if_pos q, if_pos q]; exact h _ (by omega)
    · rw [if_neg q, if_neg q]; exact h _ (by omega)
theorem IV_norm {S : St} (h : IV S) : IV (normR S).2 := by
  unfold normR
  by_cases h1 : fs S (S 0) < S 3
  · rw [if_pos h1]
    obtain ⟨v1, v2⟩ := h.2.2.2 _ h1
    have ql : ∀ j, j < 36 → j ≠ 0 → j ≠ 4 → tkS S (fs S (S 0)) j = S j := fun j a b c => by unfold tkS; rw [upN_n c, upN_n b, cfs_lo a]
    have qh : ∀ j, 36 ≤ j → tkS S (fs S (S 0)) j = cfs S (S 0) (S (37 + 2 * fs S (S 0))) (fs S (S 0)) j := fun j a => by unfold tkS; rw [upN_n (by omega), upN_n (by omega)]
    have q0 : tkS S (fs S (S 0)) 0 = S (37 + 2 * fs S (S 0)) := by unfold tkS; rw [upN_n (by decide), upN_s]
    refine IV_to (S2 := tkS S (fs S (S 0))) h (ql 1 (by decide) (by decide) (by decide)) (ql 2 (by decide) (by decide) (by decide)) (by rw [ql 3 (by decide) (by decide) (by decide)]; exact h.2.1) (by show vw 12 (tkS S (fs S (S 0)) 0); rw [q0]; exact v2) (fun r hr => ⟨ql _ (by have := h.1.1; omega) (by omega) (by omega), ql _ (by have := h.1.1; omega) (by omega) (by omega)⟩) (fun k hk => ?_)
    rw [ql 3 (by decide) (by decide) (by decide)] at hk
    rw [qh _ (by omega), qh _ (by omega)]
    exact cfs_vw h.2.2.1 v2 h.2.2.2 (Nat.le_of_lt h1) k (Or.inl hk)
  · rw [if_neg h1]
    obtain ⟨z1, z2, z3, z4, z5, z6⟩ := red_ok h.1 h.2.2.1
    by_cases h2 : (red S (S 0)).1 = 0
    · rw [if_pos h2]
      have hc : ∀ i, i < (red S (S 0)).2.1 → chr S (xs S (S 0) i) < 10 := fun i hi => (ch_lt h.1 (z2 i hi).2 (z2 i hi).1).2.2.1
      have hu : ∀ j, j ≠ 0 → j ≠ 5 → upN (upN (bmp S (S 0) (red S (S 0)).2.1) 5 (S 5 + (red S (S 0)).2.1)) 0 (xs S (S 0) (red S (S 0)).2.1) j = bmp S (S 0) (red S (S 0)).2.1 j := fun j a b => by rw [upN_n a, upN_n b]
      have h3 : upN (upN (bmp S (S 0) (red S (S 0)).2.1) 5 (S 5 + (red S (S 0)).2.1)) 0 (xs S (S 0) (red S (S 0)).2.1) 3 = S 3 := by rw [hu 3 (by decide) (by decide), bmp_lo (by decide)]
      have ql : ∀ j, j < 36 → j ≠ 3 → nmS S j = upN (upN (bmp S (S 0) (red S (S 0)).2.1) 5 (S 5 + (red S (S 0)).2.1)) 0 (xs S (S 0) (red S (S 0)).2.1) j := fun j a b => by unfold nmS putS; rw [cfs_lo a, upN_n b]
      have q3 : nmS S 3 = min (S 3 + 1) 8 := by unfold nmS putS; rw [cfs_lo (by decide), upN_s, h3]
      have q0 : nmS S 0 = xs S (S 0) (red S (S 0)).2.1 := by rw [ql 0 (by decide) (by decide), upN_s]
      have i4 := h.2.1
      refine IV_to (S2 := nmS S) h (by show nmS S 1 = _; rw [ql 1 (by decide) (by decide), hu 1 (by decide) (by decide), bmp_lo (by decide)]) (by show nmS S 2 = _; rw [ql 2 (by decide) (by decide), hu 2 (by decide) (by decide), bmp_lo (by decide)]) (by show nmS S 3 ≤ 8; rw [q3]; omega) (by show vw 12 (nmS S 0); rw [q0]; exact z3) (fun r hr => ?_) (fun k hk => ?_)
      · have i1 := h.1.1
        refine ⟨?_, ?_⟩
        · show nmS S _ = _
          rw [ql _ (by omega) (by omega), hu _ (by omega) (by omega)]; exact bmp_lf
        · show nmS S _ = _
          rw [ql _ (by omega) (by omega), hu _ (by omega) (by omega)]; exact bmp_rt
      · have hk2 : k < min (S 3 + 1) 8 := by rw [← q3]; exact hk
        show vw 12 (nmS S _) ∧ vw 12 (nmS S _)
        unfold nmS putS
        rw [h3]
        have e36 : ∀ j, 36 ≤ j → upN (upN (upN (bmp S (S 0) (red S (S 0)).2.1) 5 (S 5 + (red S (S 0)).2.1)) 0 (xs S (S 0) (red S (S 0)).2.1)) 3 (min (S 3 + 1) 8) j = S j := fun j hj => by rw [upN_n (by omega), hu j (by omega) (by omega), bmp_hi hc hj]
        refine cfs_vw (m := S 3) h.2.2.1 z3 (fun i hi => ?_) (by omega) k (by omega)
        rw [e36 _ (by omega), e36 _ (by omega)]
        exact h.2.2.2 i hi
    · rw [if_neg h2]
      split <;> exact h
theorem IV_addC {S : St} {a b : Nat} (h : IV S) (ha : vw 13 a) (hb2 : vw 13 b) : IV (addC S a b).2.2 := by
  unfold addC
  by_cases h1 : len a = 0 ∨ 4 < len a ∨ 4 < len b
  · rw [if_pos h1]; exact h
  · rw [if_neg h1]
    by_cases h2 : len a < len b ∨ a = b
    · rw [if_pos h2]; exact h
    · rw [if_neg h2]
      split
      · exact h
      · split
        · exact h
        · exact IV_add h (by omega) ⟨ha.1, by omega⟩ ⟨hb2.1, by omega⟩ (by omega) (by omega)
theorem IV_prf {S : St} {k a b d : Nat} (h : IV S) (ha : k = 43 ∨ k = 61 → vw 13 a) (hb2 : k = 43 → vw 13 b) : IV (prf k a b d S).2.2 := by
  unfold prf
  rw [sl_eq]
  by_cases h1 : k = 43
  · rw [if_pos h1]; exact IV_addC h (ha (Or.inl h1)) (hb2 h1)
  rw [if_neg h1]
  by_cases h2 : k = 45
  · rw [if_pos h2]
    split
    · rename_i q; exact IV_drop h q
    · exact h
  rw [if_neg h2]
  by_cases h3 : k = 61
  · rw [if_pos h3]
    split
    · rename_i q; exact IV_set h ⟨(ha (Or.inr h3)).1, q⟩
    · exact h
  rw [if_neg h3]
  by_cases h4 : k = 115
  · rw [if_pos h4]
    split
    · exact h
    · exact IV_step h
  rw [if_neg h4]
  by_cases h5 : k = 110
  · rw [if_pos h5]
    split
    · exact h
    · exact IV_norm h
  rw [if_neg h5]
  split
  · rename_i q; exact IV_way h q
  · exact h
theorem IV_doC {S : St} {txt : Nat → Nat} {n a : Nat} (h : IV S) (ha : a < n) : IV (doC txt n a S).2.2 := by
  unfold doC
  split
  · rename_i q
    refine IV_prf h (fun _ => rd_vw (by omega)) (fun hk => rd_vw ?_)
    rw [okP_43 hk] at q
    cases hp : psB txt n (rd txt n 13 (a + 1)).2.2 62 with
    | true => have := (of_decide_eq_true hp).1; omega
    | false => rw [hp] at q; cases q
  · exact h
theorem IV_runF {txt : Nat → Nat} {n : Nat} : ∀ (f a : Nat) (S : St) (c : Nat), IV S → IV (runF txt n f a S c).2.2.2.2
  | 0, _, _, _, h => h
  | f + 1, a, S, c, h => by
    unfold runF
    split
    · rename_i h1
      split
      · exact IV_runF f _ _ _ (IV_doC h h1)
      · exact IV_doC h h1
    · exact h
theorem IV_runT {txt : Nat → Nat} {n : Nat} {S : St} (h : IV S) : IV (runT txt n S).2.2.2.2 := by unfold runT; rw [sl_eq]; exact IV_runF _ _ _ _ h
theorem hsd_b {S : St} (h : IR S) : ∀ r, r < S 1 → lf S r < 2147483648 ∧ rt S r < 2147483648 := fun r hr => by
  obtain ⟨a, b, -, -⟩ := h.2.2 r hr
  have := vw_B a (by decide)
  have := vw_B b (by decide)
  omega
theorem prf_43 {k a b d : Nat} {S : St} (h : k = 43) : prf k a b d S = addC S a b := by unfold prf; rw [sl_eq, if_pos h]
theorem prf_45 {k a b d : Nat} {S : St} (h : k = 45) : prf k a b d S = if d < S 1 then (0, 0, dropS S d) else (2, 0, S) := by unfold prf; rw [sl_eq, if_neg (by omega), if_pos h]
theorem prf_61 {k a b d : Nat} {S : St} (h : k = 61) : prf k a b d S = if len a ≤ 12 then (0, 0, upN S 0 a) else (2, 0, S) := by unfold prf; rw [sl_eq, if_neg (by omega), if_neg (by omega), if_pos h]
theorem prf_115 {k a b d : Nat} {S : St} (h : k = 115) : prf k a b d S = if nrm S (S 0) then (3, 4, S) else (0, 0, (stepR S).2) := by unfold prf; rw [sl_eq, if_neg (by omega), if_neg (by omega), if_neg (by omega), if_pos h]
theorem prf_110 {k a b d : Nat} {S : St} (h : k = 110) : prf k a b d S = if (normR S).1.toInt < 0 then (3, 5, S) else (0, 0, (normR S).2) := by unfold prf; rw [sl_eq, if_neg (by omega), if_neg (by omega), if_neg (by omega), if_neg (by omega), if_pos h]
theorem prf_119 {k a b d : Nat} {S : St} (h : k = 119) : prf k a b d S = if d ≤ 2 then (0, 0, wayS S d) else (2, 0, S) := by unfold prf; rw [sl_eq, if_neg (by omega), if_neg (by omega), if_neg (by omega), if_neg (by omega), if_neg (by omega)]
theorem normR_er {S : St} (hI : IV S) (h : (normR S).1.toInt < 0) : (normR S).2 = S := by
  unfold normR at h ⊢
  by_cases h1 : fs S (S 0) < S 3
  · rw [if_pos h1] at h; exact absurd h (by show ¬ (0 : Int32).toInt < 0; decide)
  · rw [if_neg h1] at h ⊢
    by_cases h2 : (red S (S 0)).1 = 0
    · rw [if_pos h2] at h ⊢
      have h3 := (red_ok hI.1 hI.2.2.1).1
      rw [nI_toInt (by omega)] at h; omega
    · rw [if_neg h2]
      split <;> rfl

abbrev gTx (cA : Nat → ClassId) (B : Nat → Nat) (CH : Nat → Int32) (sz : Int32) (at1 : Int32) (kd : Int32) (fw : Int32) (sw : Int32) (dg : Int32) : va_W := [(B 0, .inr (8, [.ref (B 1), .int sz, .int at1, .int kd, .int fw, .int sw, .int dg])), (B 1, .inl (cA 1, 80, .inl CH))]
abbrev gSc (cA : Nat → ClassId) (B : Nat → Nat) (dn : Int32) (ps : Int32) (rn : Int32) (cs : Int32) : va_W := [(B 0, .inr (5, [.int dn, .int ps, .int rn, .int cs]))]
theorem hi_X8_isFull_X8 : ∀ w ∈ u_ws RX8 TX8 7, w ∈ wsX8_isFull := by decide +kernel
set_option maxHeartbeats 1000000 in
set_option maxRecDepth 100000 in
theorem k_X8_isFull (lY : Launch) (D : va_G) (cA : Nat → ClassId) (Bt : Nat → Nat) (n : Nat) (CH : Nat → Int32) (at1 kd fw sw dg : Int32) (hn : n ≤ 80) : MetI lY D cA yX8_isFull wsX8_isFull 0 0 [.ref (Bt 0)] (gTx cA Bt CH (nI n) at1 kd fw sw dg) (fun rY wY => rY = bI (decide (80 ≤ n)) ∧ wY = gTx cA Bt CH (nI n) at1 kd fw sw dg) := by
  refine MetI.of (cc := cX8_isFull) (maxL := 1) (ret := (some .boolean)) (by decide) rfl (Nat.le_of_ble_eq_true rfl) (Or.inr ⟨rfl, fun r w' h => by obtain ⟨h, -⟩ := h; rw [h]; exact bI_nar _⟩) ?_
  intro pY eY sY mY aY bY tY cY QY AY ls h0 hP hK hN hD hA hS hl hret
  obtain ⟨hx, hb, hml, hown, hts⟩ := id h0
  have hl : lv_has ls 1 [(0, .ref (Bt 0))] := hl
  have hP : va_P D vwCl (gTx cA Bt CH (nI n) at1 kd fw sw dg) sY.heap := hP
  have hD : va_D AY (gTx cA Bt CH (nI n) at1 kd fw sw dg) := hD
  refine lv_aload_n hx hb dX8_isFull_0 rfl (lv_at hl 0 rfl) ?_
  refine va_get (D := D) (ci := 8) (v := .int (nI n)) (C := RX8) (T := TX8) (N := 7) hx hb hts hi_X8_isFull_X8 hown hK hP 0 rfl rfl 1 (by decide) (hts (.fieldLink RX8 15 "FallingWords$Text" "size" "I") (by decide +kernel)) (fun _ h9 => h9) rfl dX8_isFull_1 ?_
  refine lv_bipush (v := nI 80) hx hb dX8_isFull_4 (by decide +kernel) ?_
  refine xc_lt (tgt := 13) hx hb dX8_isFull_6 (by decide) (by omega) (by omega) (fun c6 => ?_) (fun c6 => ?_)
  · refine lv_iconst (v := nI 0) hx hb dX8_isFull_13 (by decide +kernel) ?_
    exact hret _ _ _ _ _ _ dX8_isFull_14 ⟨(by rw [decide_eq_false (by omega)]; rfl), rfl⟩ hP hD hS
  · refine lv_iconst (v := nI 1) hx hb dX8_isFull_9 (by decide +kernel) ?_
    refine lv_goto (tgt := 14) hx hb dX8_isFull_10 (by decide) ?_
    exact hret _ _ _ _ _ _ dX8_isFull_14 ⟨(by rw [decide_eq_true (by omega)]; rfl), rfl⟩ hP hD hS

theorem hi_X8_append_X8 : ∀ w ∈ u_ws RX8 TX8 7, w ∈ wsX8_append := by decide +kernel
set_option maxHeartbeats 1000000 in
set_option maxRecDepth 100000 in
theorem k_X8_append (lY : Launch) (D : va_G) (cA : Nat → ClassId) (Bt : Nat → Nat) (n k : Nat) (CH : Nat → Int32) (at1 kd fw sw dg : Int32) (hn : n < 80) (hk : k < 127) : MetV lY D cA yX8_append wsX8_append 1 20 0 0 [.ref (Bt 0), .int (nI k)] (gTx cA Bt CH (nI n) at1 kd fw sw dg) (fun wY => wY = gTx cA Bt (upd CH n (nI k)) (nI (n + 1)) at1 kd fw sw dg) := by
  refine MetV.of (cc := cX8_append) (maxL := 2) (by decide) rfl (Nat.le_of_ble_eq_true rfl) ?_
  intro pY eY sY mY aY bY tY cY QY AY ls h0 hP hK hN hD hA hS hl hin hret
  obtain ⟨hx, hb, hml, hown, hts⟩ := id h0
  have hl : lv_has ls 2 [(0, .ref (Bt 0)), (1, .int (nI k))] := hl
  have hP : va_P D vwCl (gTx cA Bt CH (nI n) at1 kd fw sw dg) sY.heap := hP
  have hD : va_D AY (gTx cA Bt CH (nI n) at1 kd fw sw dg) := hD
  refine lv_aload_n hx hb dX8_append_0 rfl (lv_at hl 0 rfl) ?_
  refine ci_V (As := []) (rest := []) h0 hK hN hP hD hS hA hl.1 (k_X8_isFull lY D cA Bt n CH at1 kd fw sw dg (by omega)) [0, 1] rfl (by decide) (cwV 0 hts gX8_append_X8_isFull rfl rfl rfl (by decide +kernel) ⟨Nat.le_of_ble_eq_true rfl, Nat.le_of_ble_eq_true rfl⟩) (cl_recv (ci := 8) (q := (RX8, TX8, 7)) (q0 := 0) hP hK rfl rfl) rfl rfl (Nat.le_of_ble_eq_true rfl) dX8_append_1 ⟨Nat.zero_le _, Nat.zero_le _⟩ (fun rY wY H locs hwY hJ hS => ?_)
  obtain ⟨e1Y, e2Y⟩ := hwY
  have e3Y := e1Y.symm
  clear e1Y
  subst e3Y
  have e3Y := e2Y.symm
  clear e2Y
  subst e3Y
  obtain ⟨hP, hD⟩ := hJ rfl
  have hP : va_P D vwCl (gTx cA Bt CH (nI n) at1 kd fw sw dg) H := hP
  have hD : va_D AY (gTx cA Bt CH (nI n) at1 kd fw sw dg) := hD
  refine xb_ne (tgt := 28) hx hb dX8_append_4 (by decide) (fun c4 => ?_) (fun c4 => ?_)
  · exact absurd (of_decide_eq_true c4) (by omega)
  · refine lv_aload_n hx hb dX8_append_7 rfl (lv_at hl 0 rfl) ?_
    refine va_get (D := D) (ci := 8) (v := .ref (Bt 1)) (C := RX8) (T := TX8) (N := 7) hx hb hts hi_X8_append_X8 hown hK hP 0 rfl rfl 0 (by decide) (hts (.fieldLink RX8 9 "FallingWords$Text" "characters" "[C") (by decide +kernel)) (fun _ h9 => h9) rfl dX8_append_8 ?_
    refine lv_aload_n hx hb dX8_append_11 rfl (lv_at hl 0 rfl) ?_
    refine va_get (D := D) (ci := 8) (v := .int (nI n)) (C := RX8) (T := TX8) (N := 7) hx hb hts hi_X8_append_X8 hown hK hP 0 rfl rfl 1 (by decide) (hts (.fieldLink RX8 15 "FallingWords$Text" "size" "I") (by decide +kernel)) (fun _ h9 => h9) rfl dX8_append_12 ?_
    refine lv_iload_n hx hb dX8_append_15 rfl (lv_at hl 1 rfl) ?_
    refine lv_i2c (v := nI k) hx hb dX8_append_16 (c16 (by omega)) ?_
    refine xa_cst hx hb hK hP hD hS 1 rfl (by omega) (by decide) (by omega) dX8_append_17 (fun H locs hP hD hS => ?_)
    have hP : va_P D vwCl (gTx cA Bt (upd CH n (nI k)) (nI n) at1 kd fw sw dg) H := hP
    have hD : va_D AY (gTx cA Bt (upd CH n (nI k)) (nI n) at1 kd fw sw dg) := hD
    refine lv_aload_n hx hb dX8_append_18 rfl (lv_at hl 0 rfl) ?_
    refine lv_dup hx hb dX8_append_19 rfl ?_
    refine va_get (D := D) (ci := 8) (v := .int (nI n)) (C := RX8) (T := TX8) (N := 7) hx hb hts hi_X8_append_X8 hown hK hP 0 rfl rfl 1 (by decide) (hts (.fieldLink RX8 15 "FallingWords$Text" "size" "I") (by decide +kernel)) (fun _ h9 => h9) rfl dX8_append_20 ?_
    refine lv_iconst (v := nI 1) hx hb dX8_append_23 (by decide +kernel) ?_
    refine lv_iadd hx hb dX8_append_24 ?_
    refine xt (show (nI n) + (nI 1) = nI (n + 1) from nI_add _ _) ?_
    refine va_put (D := D) (ci := 8) (v := .int (nI (n + 1))) (ty := .int) (C := RX8) (T := TX8) (N := 7) hx hb hts hi_X8_append_X8 tyX8 tyX8_ok nmX8 hown hK hP hD hS 0 rfl rfl 1 (by decide) (hts (.fieldLink RX8 15 "FallingWords$Text" "size" "I") (by decide +kernel)) (fun _ h9 => h9) rfl (by decide +kernel) rfl rfl (Nat.le_of_ble_eq_true rfl) dX8_append_25 (fun H locs hP hD hS => ?_)
    have hP : va_P D vwCl (gTx cA Bt (upd CH n (nI k)) (nI (n + 1)) at1 kd fw sw dg) H := hP
    have hD : va_D AY (gTx cA Bt (upd CH n (nI k)) (nI (n + 1)) at1 kd fw sw dg) := hD
    exact hret _ _ _ _ _ dX8_append_28 rfl hP hD hS

theorem hi_X8_here_X8 : ∀ w ∈ u_ws RX8 TX8 7, w ∈ wsX8_here := by decide +kernel
set_option maxHeartbeats 1000000 in
set_option maxRecDepth 100000 in
theorem k_X8_here (lY : Launch) (D : va_G) (cA : Nat → ClassId) (Bt : Nat → Nat) (txt : Nat → Nat) (n a : Nat) (CH : Nat → Int32) (kd fw sw dg : Int32) (ht : rTx txt n CH) (ha : a ≤ 200) : MetI lY D cA yX8_here wsX8_here 0 0 [.ref (Bt 0)] (gTx cA Bt CH (nI n) (nI a) kd fw sw dg) (fun rY wY => rY = sgI txt n a ∧ wY = gTx cA Bt CH (nI n) (nI a) kd fw sw dg) := by
  refine MetI.of (cc := cX8_here) (maxL := 1) (ret := (some .int)) (by decide) rfl (Nat.le_of_ble_eq_true rfl) (Or.inl rfl) ?_
  intro pY eY sY mY aY bY tY cY QY AY ls h0 hP hK hN hD hA hS hl hret
  obtain ⟨hx, hb, hml, hown, hts⟩ := id h0
  have hl : lv_has ls 1 [(0, .ref (Bt 0))] := hl
  have hP : va_P D vwCl (gTx cA Bt CH (nI n) (nI a) kd fw sw dg) sY.heap := hP
  have hD : va_D AY (gTx cA Bt CH (nI n) (nI a) kd fw sw dg) := hD
  have hn80 := ht.1
  refine lv_aload_n hx hb dX8_here_0 rfl (lv_at hl 0 rfl) ?_
  refine va_get (D := D) (ci := 8) (v := .int (nI a)) (C := RX8) (T := TX8) (N := 7) hx hb hts hi_X8_here_X8 hown hK hP 0 rfl rfl 2 (by decide) (hts (.fieldLink RX8 23 "FallingWords$Text" "at" "I") (by decide +kernel)) (fun _ h9 => h9) rfl dX8_here_1 ?_
  refine x0_lt (tgt := 30) hx hb dX8_here_4 (by decide) (by omega) ?_
  refine lv_aload_n hx hb dX8_here_7 rfl (lv_at hl 0 rfl) ?_
  refine va_get (D := D) (ci := 8) (v := .int (nI a)) (C := RX8) (T := TX8) (N := 7) hx hb hts hi_X8_here_X8 hown hK hP 0 rfl rfl 2 (by decide) (hts (.fieldLink RX8 23 "FallingWords$Text" "at" "I") (by decide +kernel)) (fun _ h9 => h9) rfl dX8_here_8 ?_
  refine lv_aload_n hx hb dX8_here_11 rfl (lv_at hl 0 rfl) ?_
  refine va_get (D := D) (ci := 8) (v := .int (nI n)) (C := RX8) (T := TX8) (N := 7) hx hb hts hi_X8_here_X8 hown hK hP 0 rfl rfl 1 (by decide) (hts (.fieldLink RX8 15 "FallingWords$Text" "size" "I") (by decide +kernel)) (fun _ h9 => h9) rfl dX8_here_12 ?_
  refine xc_ge (tgt := 30) hx hb dX8_here_15 (by decide) (by omega) (by omega) (fun c15 => ?_) (fun c15 => ?_)
  · refine lv_iconst (v := (-1)) hx hb dX8_here_30 (by decide +kernel) ?_
    exact hret _ _ _ _ _ _ dX8_here_31 ⟨((if_neg (by omega)).symm), rfl⟩ hP hD hS
  · obtain ⟨g1, g2⟩ := ht.2 a (by omega)
    refine lv_aload_n hx hb dX8_here_18 rfl (lv_at hl 0 rfl) ?_
    refine va_get (D := D) (ci := 8) (v := .ref (Bt 1)) (C := RX8) (T := TX8) (N := 7) hx hb hts hi_X8_here_X8 hown hK hP 0 rfl rfl 0 (by decide) (hts (.fieldLink RX8 9 "FallingWords$Text" "characters" "[C") (by decide +kernel)) (fun _ h9 => h9) rfl dX8_here_19 ?_
    refine lv_aload_n hx hb dX8_here_22 rfl (lv_at hl 0 rfl) ?_
    refine va_get (D := D) (ci := 8) (v := .int (nI a)) (C := RX8) (T := TX8) (N := 7) hx hb hts hi_X8_here_X8 hown hK hP 0 rfl rfl 2 (by decide) (hts (.fieldLink RX8 23 "FallingWords$Text" "at" "I") (by decide +kernel)) (fun _ h9 => h9) rfl dX8_here_23 ?_
    refine xa_cld (v := nI (txt a)) hx hb hK hP 1 rfl (by omega) (by decide) (g1) dX8_here_26 ?_
    refine lv_goto (tgt := 31) hx hb dX8_here_27 (by decide) ?_
    exact hret _ _ _ _ _ _ dX8_here_31 ⟨((if_pos c15).symm), rfl⟩ hP hD hS

theorem hi_X8_passes_X8 : ∀ w ∈ u_ws RX8 TX8 7, w ∈ wsX8_passes := by decide +kernel
set_option maxHeartbeats 1000000 in
set_option maxRecDepth 100000 in
theorem k_X8_passes (lY : Launch) (D : va_G) (cA : Nat → ClassId) (Bt : Nat → Nat) (txt : Nat → Nat) (n a : Nat) (CH : Nat → Int32) (kd fw sw dg : Int32) (k : Nat) (ht : rTx txt n CH) (ha : a ≤ 100) (hk : k < 1000) : MetI lY D cA yX8_passes wsX8_passes 1 20 [.ref (Bt 0), .int (nI k)] (gTx cA Bt CH (nI n) (nI a) kd fw sw dg) (fun rY wY => rY = bI (psB txt n a k) ∧ wY = gTx cA Bt CH (nI n) (nI (psA txt n a k)) kd fw sw dg) := by
  refine MetI.of (cc := cX8_passes) (maxL := 2) (ret := (some .boolean)) (by decide) rfl (Nat.le_of_ble_eq_true rfl) (Or.inr ⟨rfl, fun r w' h => by obtain ⟨h, -⟩ := h; rw [h]; exact bI_nar _⟩) ?_
  intro pY eY sY mY aY bY tY cY QY AY ls h0 hP hK hN hD hA hS hl hret
  obtain ⟨hx, hb, hml, hown, hts⟩ := id h0
  have hl : lv_has ls 2 [(0, .ref (Bt 0)), (1, .int (nI k))] := hl
  have hP : va_P D vwCl (gTx cA Bt CH (nI n) (nI a) kd fw sw dg) sY.heap := hP
  have hD : va_D AY (gTx cA Bt CH (nI n) (nI a) kd fw sw dg) := hD
  refine lv_aload_n hx hb dX8_passes_0 rfl (lv_at hl 0 rfl) ?_
  refine ci_V (As := []) (rest := []) h0 hK hN hP hD hS hA hl.1 (k_X8_here lY D cA Bt txt n a CH kd fw sw dg (by first | assumption | omega) (by omega)) [0, 1] rfl (by decide) (cwV 0 hts gX8_passes_X8_here rfl rfl rfl (by decide +kernel) ⟨Nat.le_of_ble_eq_true rfl, Nat.le_of_ble_eq_true rfl⟩) (cl_recv (ci := 8) (q := (RX8, TX8, 7)) (q0 := 0) hP hK rfl rfl) rfl rfl (Nat.le_of_ble_eq_true rfl) dX8_passes_1 ⟨Nat.zero_le _, Nat.zero_le _⟩ (fun rY wY H locs hwY hJ hS => ?_)
  obtain ⟨e1Y, e2Y⟩ := hwY
  have e3Y := e1Y.symm
  clear e1Y
  subst e3Y
  have e3Y := e2Y.symm
  clear e2Y
  subst e3Y
  obtain ⟨hP, hD⟩ := hJ rfl
  have hP : va_P D vwCl (gTx cA Bt CH (nI n) (nI a) kd fw sw dg) H := hP
  have hD : va_D AY (gTx cA Bt CH (nI n) (nI a) kd fw sw dg) := hD
  have hn80 := ht.1
  refine lv_iload_n hx hb dX8_passes_4 rfl (lv_at hl 1 rfl) ?_
  refine lv_icmp_eq (tgt := 10) hx hb dX8_passes_5 (by decide) (fun c5 => ?_) (fun c5 => ?_)
  · have hz : psB txt n a k = true := by
      unfold sgI at c5
      by_cases q : a < n
      · rw [if_pos q] at c5; have h2 := (ht.2 a q).2; exact decide_eq_true ⟨q, (nI_eq (by omega) (by omega)).mp c5⟩
      · rw [if_neg q] at c5; exact absurd (congrArg Int32.toInt c5) (by rw [nI_toInt (by omega)]; have e : (-1 : Int32).toInt = -1 := rfl; omega)
    refine lv_aload_n hx hb dX8_passes_10 rfl (lv_at hl 0 rfl) ?_
    refine lv_dup hx hb dX8_passes_11 rfl ?_
    refine va_get (D := D) (ci := 8) (v := .int (nI a)) (C := RX8) (T := TX8) (N := 7) hx hb hts hi_X8_passes_X8 hown hK hP 0 rfl rfl 2 (by decide) (hts (.fieldLink RX8 23 "FallingWords$Text" "at" "I") (by decide +kernel)) (fun _ h9 => h9) rfl dX8_passes_12 ?_
    refine lv_iconst (v := nI 1) hx hb dX8_passes_15 (by decide +kernel) ?_
    refine lv_iadd hx hb dX8_passes_16 ?_
    refine xt (show (nI a) + (nI 1) = nI (a + 1) from nI_add _ _) ?_
    refine va_put (D := D) (ci := 8) (v := .int (nI (a + 1))) (ty := .int) (C := RX8) (T := TX8) (N := 7) hx hb hts hi_X8_passes_X8 tyX8 tyX8_ok nmX8 hown hK hP hD hS 0 rfl rfl 2 (by decide) (hts (.fieldLink RX8 23 "FallingWords$Text" "at" "I") (by decide +kernel)) (fun _ h9 => h9) rfl (by decide +kernel) rfl rfl (Nat.le_of_ble_eq_true rfl) dX8_passes_17 (fun H locs hP hD hS => ?_)
    have hP : va_P D vwCl (gTx cA Bt CH (nI n) (nI (a + 1)) kd fw sw dg) H := hP
    have hD : va_D AY (gTx cA Bt CH (nI n) (nI (a + 1)) kd fw sw dg) := hD
    refine lv_iconst (v := nI 1) hx hb dX8_passes_20 (by decide +kernel) ?_
    exact hret _ _ _ _ _ _ dX8_passes_21 ⟨(by rw [hz]; rfl), (by rw [psA_t hz])⟩ hP hD hS
  · have hz : psB txt n a k = false := decide_eq_false (fun q => c5 (by unfold sgI; rw [if_pos q.1, q.2]))
    refine lv_iconst (v := nI 0) hx hb dX8_passes_8 (by decide +kernel) ?_
    exact hret _ _ _ _ _ _ dX8_passes_9 ⟨(by rw [hz]; rfl), (by rw [psA_f hz])⟩ hP hD hS

theorem hi_X8_readDigit_X8 : ∀ w ∈ u_ws RX8 TX8 7, w ∈ wsX8_readDigit := by decide +kernel
set_option maxHeartbeats 1000000 in
set_option maxRecDepth 100000 in
theorem k_X8_readDigit (lY : Launch) (D : va_G) (cA : Nat → ClassId) (Bt : Nat → Nat) (txt : Nat → Nat) (n a : Nat) (CH : Nat → Int32) (kd fw sw dg : Int32) (ht : rTx txt n CH) (ha : a ≤ 100) : MetI lY D cA yX8_readDigit wsX8_readDigit 1 20 [.ref (Bt 0)] (gTx cA Bt CH (nI n) (nI a) kd fw sw dg) (fun rY wY => ∃ (dg2 : Int32), rY = bI (dgB txt n a) ∧ wY = gTx cA Bt CH (nI n) (nI (dgA txt n a)) kd fw sw dg2 ∧ (dgB txt n a = true → dg2 = nI (txt a - 48))) := by
  refine MetI.of (cc := cX8_readDigit) (maxL := 2) (ret := (some .boolean)) (by decide) rfl (Nat.le_of_ble_eq_true rfl) (Or.inr ⟨rfl, fun r w' h => by obtain ⟨_, h, -⟩ := h; rw [h]; exact bI_nar _⟩) ?_
  intro pY eY sY mY aY bY tY cY QY AY ls h0 hP hK hN hD hA hS hl hret
  obtain ⟨hx, hb, hml, hown, hts⟩ := id h0
  have hl : lv_has ls 2 [(0, .ref (Bt 0))] := hl
  have hP : va_P D vwCl (gTx cA Bt CH (nI n) (nI a) kd fw sw dg) sY.heap := hP
  have hD : va_D AY (gTx cA Bt CH (nI n) (nI a) kd fw sw dg) := hD
  refine lv_aload_n hx hb dX8_readDigit_0 rfl (lv_at hl 0 rfl) ?_
  refine ci_V (As := []) (rest := []) h0 hK hN hP hD hS hA hl.1 (k_X8_here lY D cA Bt txt n a CH kd fw sw dg (by first | assumption | omega) (by omega)) [0, 1] rfl (by decide) (cwV 0 hts gX8_readDigit_X8_here rfl rfl rfl (by decide +kernel) ⟨Nat.le_of_ble_eq_true rfl, Nat.le_of_ble_eq_true rfl⟩) (cl_recv (ci := 8) (q := (RX8, TX8, 7)) (q0 := 0) hP hK rfl rfl) rfl rfl (Nat.le_of_ble_eq_true rfl) dX8_readDigit_1 ⟨Nat.zero_le _, Nat.zero_le _⟩ (fun rY wY H locs hwY hJ hS => ?_)
  obtain ⟨e1Y, e2Y⟩ := hwY
  have e3Y := e1Y.symm
  clear e1Y
  subst e3Y
  have e3Y := e2Y.symm
  clear e2Y
  subst e3Y
  obtain ⟨hP, hD⟩ := hJ rfl
  have hP : va_P D vwCl (gTx cA Bt CH (nI n) (nI a) kd fw sw dg) H := hP
  have hD : va_D AY (gTx cA Bt CH (nI n) (nI a) kd fw sw dg) := hD
  have hn80 := ht.1
  refine lv_istore_n (lv' := [(1, .int (sgI txt n a)), (0, .ref (Bt 0))]) hx hb dX8_readDigit_4 rfl hl (by decide) rfl (fun ls hl => ?_)
  refine lv_iload_n hx hb dX8_readDigit_5 rfl (lv_at hl 0 rfl) ?_
  refine lv_bipush (v := nI 48) hx hb dX8_readDigit_6 (by decide +kernel) ?_
  refine xr_lt (tgt := 17) hx hb dX8_readDigit_8 (by decide) (fun c8 => ?_) (fun c8 => ?_)
  · have e48 : (nI 48).toInt = 48 := rfl
    have e57 : (nI 57).toInt = 57 := rfl
    have em1 : (-1 : Int32).toInt = -1 := rfl
    have hz : dgB txt n a = false := decide_eq_false (fun q => by have hv : sgI txt n a = nI (txt a) := if_pos q.1; have hv2 : (sgI txt n a).toInt = (txt a : Int) := by { rw [hv]; exact nI_toInt (by omega) }; omega)
    refine lv_iconst (v := nI 0) hx hb dX8_readDigit_17 (by decide +kernel) ?_
    exact hret _ _ _ _ _ _ dX8_readDigit_18 ⟨dg, (by rw [hz]; rfl), (by rw [dgA_f hz]), (fun h => by rw [hz] at h; cases h)⟩ hP hD hS
  · refine lv_iload_n hx hb dX8_readDigit_11 rfl (lv_at hl 0 rfl) ?_
    refine lv_bipush (v := nI 57) hx hb dX8_readDigit_12 (by decide +kernel) ?_
    refine xr_le (tgt := 19) hx hb dX8_readDigit_14 (by decide) (fun c14 => ?_) (fun c14 => ?_)
    · have e48 : (nI 48).toInt = 48 := rfl
      have e57 : (nI 57).toInt = 57 := rfl
      have em1 : (-1 : Int32).toInt = -1 := rfl
      have hlt : a < n := by
        rcases Nat.lt_or_ge a n with q | q
        · exact q
        · have hv : sgI txt n a = (-1) := if_neg (by omega)
          rw [hv] at c8; omega
      have hv : sgI txt n a = nI (txt a) := if_pos hlt
      have h127 := (ht.2 a hlt).2
      have hv2 : (sgI txt n a).toInt = (txt a : Int) := by rw [hv]; exact nI_toInt (by omega)
      have hz : dgB txt n a = true := decide_eq_true ⟨hlt, by omega, by omega⟩
      have h48 : 48 ≤ txt a := by omega
      have hl : lv_has ls 2 [(1, .int (nI (txt a))), (0, .ref (Bt 0))] := Eq.mp (congrArg (fun zY : Int32 => lv_has ls 2 [(1, .int zY), (0, .ref (Bt 0))]) (show sgI txt n a = nI (txt a) from hv)) hl
      refine lv_aload_n hx hb dX8_readDigit_19 rfl (lv_at hl 1 rfl) ?_
      refine lv_iload_n hx hb dX8_readDigit_20 rfl (lv_at hl 0 rfl) ?_
      refine lv_bipush (v := nI 48) hx hb dX8_readDigit_21 (by decide +kernel) ?_
      refine lv_isub hx hb dX8_readDigit_23 ?_
      refine xt (show (nI (txt a)) - (nI 48) = nI ((txt a) - 48) from pk_sub (by omega)) ?_
      refine va_put (D := D) (ci := 8) (v := .int (nI ((txt a) - 48))) (ty := .int) (C := RX8) (T := TX8) (N := 7) hx hb hts hi_X8_readDigit_X8 tyX8 tyX8_ok nmX8 hown hK hP hD hS 0 rfl rfl 6 (by decide) (hts (.fieldLink RX8 49 "FallingWords$Text" "digit" "I") (by decide +kernel)) (fun _ h9 => h9) rfl (by decide +kernel) rfl rfl (Nat.le_of_ble_eq_true rfl) dX8_readDigit_24 (fun H locs hP hD hS => ?_)
      have hP : va_P D vwCl (gTx cA Bt CH (nI n) (nI a) kd fw sw (nI ((txt a) - 48))) H := hP
      have hD : va_D AY (gTx cA Bt CH (nI n) (nI a) kd fw sw (nI ((txt a) - 48))) := hD
      refine lv_aload_n hx hb dX8_readDigit_27 rfl (lv_at hl 1 rfl) ?_
      refine lv_dup hx hb dX8_readDigit_28 rfl ?_
      refine va_get (D := D) (ci := 8) (v := .int (nI a)) (C := RX8) (T := TX8) (N := 7) hx hb hts hi_X8_readDigit_X8 hown hK hP 0 rfl rfl 2 (by decide) (hts (.fieldLink RX8 23 "FallingWords$Text" "at" "I") (by decide +kernel)) (fun _ h9 => h9) rfl dX8_readDigit_29 ?_
      refine lv_iconst (v := nI 1) hx hb dX8_readDigit_32 (by decide +kernel) ?_
      refine lv_iadd hx hb dX8_readDigit_33 ?_
      refine xt (show (nI a) + (nI 1) = nI (a + 1) from nI_add _ _) ?_
      refine va_put (D := D) (ci := 8) (v := .int (nI (a + 1))) (ty := .int) (C := RX8) (T := TX8) (N := 7) hx hb hts hi_X8_readDigit_X8 tyX8 tyX8_ok nmX8 hown hK hP hD hS 0 rfl rfl 2 (by decide) (hts (.fieldLink RX8 23 "FallingWords$Text" "at" "I") (by decide +kernel)) (fun _ h9 => h9) rfl (by decide +kernel) rfl rfl (Nat.le_of_ble_eq_true rfl) dX8_readDigit_34 (fun H locs hP hD hS => ?_)
      have hP : va_P D vwCl (gTx cA Bt CH (nI n) (nI (a + 1)) kd fw sw (nI ((txt a) - 48))) H := hP
      have hD : va_D AY (gTx cA Bt CH (nI n) (nI (a + 1)) kd fw sw (nI ((txt a) - 48))) := hD
      refine lv_iconst (v := nI 1) hx hb dX8_readDigit_37 (by decide +kernel) ?_
      exact hret _ _ _ _ _ _ dX8_readDigit_38 ⟨(nI (txt a - 48)), (by rw [hz]; rfl), (by rw [dgA_t hz]), (fun _ => rfl)⟩ hP hD hS
    · have e48 : (nI 48).toInt = 48 := rfl
      have e57 : (nI 57).toInt = 57 := rfl
      have em1 : (-1 : Int32).toInt = -1 := rfl
      have hz : dgB txt n a = false := decide_eq_false (fun q => by have hv : sgI txt n a = nI (txt a) := if_pos q.1; have hv2 : (sgI txt n a).toInt = (txt a : Int) := by { rw [hv]; exact nI_toInt (by omega) }; omega)
      refine lv_iconst (v := nI 0) hx hb dX8_readDigit_17 (by decide +kernel) ?_
      exact hret _ _ _ _ _ _ dX8_readDigit_18 ⟨dg, (by rw [hz]; rfl), (by rw [dgA_f hz]), (fun h => by rw [hz] at h; cases h)⟩ hP hD hS

theorem hi_X8_readWord_X8 : ∀ w ∈ u_ws RX8 TX8 7, w ∈ wsX8_readWord := by decide +kernel
set_option maxHeartbeats 1000000 in
set_option maxRecDepth 100000 in
theorem k_X8_readWord (lY : Launch) (D : va_G) (cA : Nat → ClassId) (Bt : Nat → Nat) (txt : Nat → Nat) (n a : Nat) (CH : Nat → Int32) (kd fw sw dg : Int32) (ht : rTx txt n CH) (ha : a ≤ n) : MetI lY D cA yX8_readWord wsX8_readWord 1 21 [.ref (Bt 0)] (gTx cA Bt CH (nI n) (nI a) kd fw sw dg) (fun rY wY => rY = nI ((rd txt n 13 a).1) ∧ wY = gTx cA Bt CH (nI n) (nI ((rd txt n 13 a).2.2)) kd fw sw dg) := by
  refine MetI.of (cc := cX8_readWord) (maxL := 3) (ret := (some .int)) (by decide) rfl (Nat.le_of_ble_eq_true rfl) (Or.inl rfl) ?_
  intro pY eY sY mY aY bY tY cY QY AY ls h0 hP hK hN hD hA hS hl hret
  obtain ⟨hx, hb, hml, hown, hts⟩ := id h0
  have hl : lv_has ls 3 [(0, .ref (Bt 0))] := hl
  have hP : va_P D vwCl (gTx cA Bt CH (nI n) (nI a) kd fw sw dg) sY.heap := hP
  have hD : va_D AY (gTx cA Bt CH (nI n) (nI a) kd fw sw dg) := hD
  have hn80 := ht.1
  refine lv_iconst (v := nI 1) hx hb dX8_readWord_0 (by decide +kernel) ?_
  refine lv_istore_n (lv' := [(1, .int (nI 1)), (0, .ref (Bt 0))]) hx hb dX8_readWord_1 rfl hl (by decide) rfl (fun ls hl => ?_)
  refine lv_iconst (v := nI 0) hx hb dX8_readWord_2 (by decide +kernel) ?_
  refine lv_istore_n (lv' := [(2, .int (nI 0)), (1, .int (nI 1)), (0, .ref (Bt 0))]) hx hb dX8_readWord_3 rfl hl (by decide) rfl (fun ls hl => ?_)
  have L4 : ∀ (nY : Nat), ∀ (a1 : Nat) (w : Nat) (c : Nat) (f : Nat), (n - a1 < f) → (a1 ≤ n) → (c ≤ a1) → (wd (min c 13) w) → (rdF txt n 13 f a1 w c = rd txt n 13 a) → (n - a1 < nY) → ∀ (H : Heap) (locs : List Loc) (ls : Array Slot), va_P D vwCl (gTx cA Bt CH (nI n) (nI a1) kd fw sw dg) H → va_D AY (gTx cA Bt CH (nI n) (nI a1) kd fw sw dg) → va_S AY sY.heap H locs → lv_has ls 3 [(0, .ref (Bt 0)), (1, .int (nI w)), (2, .int (nI c))] → W pY lY eY { frames := 1, cells := 0, slots := 0, locals := 21 } sY mY aY bY tY cY H locs 0 0 QY (F0 mY 4 ls []) := by
    intro nY4
    induction nY4 with
    | zero => intro a1 w c f hf ha1 hca hw1 hrd hm4; exact absurd hm4 (Nat.not_lt_zero _)
    | succ nY4 ih4 =>
      intro a1 w c f hf ha1 hca hw1 hrd hm4 H locs ls hP hD hS hl
      have hwB := wd_lt hw1 (m := 13) (by omega)
      have e13 : 2 * 4 ^ 13 = 134217728 := by decide
      refine lv_aload_n hx hb dX8_readWord_4 rfl (lv_at hl 0 rfl) ?_
      refine va_get (D := D) (ci := 8) (v := .int (nI a1)) (C := RX8) (T := TX8) (N := 7) hx hb hts hi_X8_readWord_X8 hown hK hP 0 rfl rfl 2 (by decide) (hts (.fieldLink RX8 23 "FallingWords$Text" "at" "I") (by decide +kernel)) (fun _ h9 => h9) rfl dX8_readWord_5 ?_
      refine lv_aload_n hx hb dX8_readWord_8 rfl (lv_at hl 0 rfl) ?_
      refine va_get (D := D) (ci := 8) (v := .int (nI n)) (C := RX8) (T := TX8) (N := 7) hx hb hts hi_X8_readWord_X8 hown hK hP 0 rfl rfl 1 (by decide) (hts (.fieldLink RX8 15 "FallingWords$Text" "size" "I") (by decide +kernel)) (fun _ h9 => h9) rfl dX8_readWord_9 ?_
      refine xc_ge (tgt := 67) hx hb dX8_readWord_12 (by decide) (by omega) (by omega) (fun c12 => ?_) (fun c12 => ?_)
      · have hfin : rd txt n 13 a = (w, c, a1) := by rw [← hrd, show f = (f - 1) + 1 by omega, rdF, if_neg (by omega)]
        refine lv_iload_n hx hb dX8_readWord_67 rfl (lv_at hl 1 rfl) ?_
        exact hret _ _ _ _ _ _ dX8_readWord_68 ⟨(by rw [hfin]), (by rw [hfin])⟩ hP hD hS
      · obtain ⟨g1, g2⟩ := ht.2 a1 (by omega)
        have hsg : sgI txt n a1 = nI (txt a1) := if_pos (by omega)
        refine lv_aload_n hx hb dX8_readWord_15 rfl (lv_at hl 0 rfl) ?_
        refine ci_V (As := []) (rest := []) h0 hK hN hP hD hS hA hl.1 (k_X8_here lY D cA Bt txt n a1 CH kd fw sw dg (by first | assumption | omega) (by omega)) [0, 1] rfl (by decide) (cwV 0 hts gX8_readWord_X8_here rfl rfl rfl (by decide +kernel) ⟨Nat.le_of_ble_eq_true rfl, Nat.le_of_ble_eq_true rfl⟩) (cl_recv (ci := 8) (q := (RX8, TX8, 7)) (q0 := 0) hP hK rfl rfl) rfl rfl (Nat.le_of_ble_eq_true rfl) dX8_readWord_16 ⟨Nat.zero_le _, Nat.zero_le _⟩ (fun rY wY H locs hwY hJ hS => ?_)
        obtain ⟨e1Y, e2Y⟩ := hwY
        have e3Y := e1Y.symm
        clear e1Y
        subst e3Y
        have e3Y := e2Y.symm
        clear e2Y
        subst e3Y
        obtain ⟨hP, hD⟩ := hJ rfl
        have hP : va_P D vwCl (gTx cA Bt CH (nI n) (nI a1) kd fw sw dg) H := hP
        have hD : va_D AY (gTx cA Bt CH (nI n) (nI a1) kd fw sw dg) := hD
        refine xt (show sgI txt n a1 = nI (txt a1) from hsg) ?_
        refine lv_bipush (v := nI 97) hx hb dX8_readWord_19 (by decide +kernel) ?_
        refine xc_lt (tgt := 67) hx hb dX8_readWord_21 (by decide) (by omega) (by omega) (fun c21 => ?_) (fun c21 => ?_)
        · have hfin : rd txt n 13 a = (w, c, a1) := by rw [← hrd, show f = (f - 1) + 1 by omega, rdF, if_neg (by omega)]
          refine lv_iload_n hx hb dX8_readWord_67 rfl (lv_at hl 1 rfl) ?_
          exact hret _ _ _ _ _ _ dX8_readWord_68 ⟨(by rw [hfin]), (by rw [hfin])⟩ hP hD hS
        · refine lv_aload_n hx hb dX8_readWord_24 rfl (lv_at hl 0 rfl) ?_
          refine ci_V (As := []) (rest := []) h0 hK hN hP hD hS hA hl.1 (k_X8_here lY D cA Bt txt n a1 CH kd fw sw dg (by first | assumption | omega) (by omega)) [0, 1] rfl (by decide) (cwV 0 hts gX8_readWord_X8_here rfl rfl rfl (by decide +kernel) ⟨Nat.le_of_ble_eq_true rfl, Nat.le_of_ble_eq_true rfl⟩) (cl_recv (ci := 8) (q := (RX8, TX8, 7)) (q0 := 0) hP hK rfl rfl) rfl rfl (Nat.le_of_ble_eq_true rfl) dX8_readWord_25 ⟨Nat.zero_le _, Nat.zero_le _⟩ (fun rY wY H locs hwY hJ hS => ?_)
          obtain ⟨e1Y, e2Y⟩ := hwY
          have e3Y := e1Y.symm
          clear e1Y
          subst e3Y
          have e3Y := e2Y.symm
          clear e2Y
          subst e3Y
          obtain ⟨hP, hD⟩ := hJ rfl
          have hP : va_P D vwCl (gTx cA Bt CH (nI n) (nI a1) kd fw sw dg) H := hP
          have hD : va_D AY (gTx cA Bt CH (nI n) (nI a1) kd fw sw dg) := hD
          refine xt (show sgI txt n a1 = nI (txt a1) from hsg) ?_
          refine lv_bipush (v := nI 100) hx hb dX8_readWord_28 (by decide +kernel) ?_
          refine xc_gt (tgt := 67) hx hb dX8_readWord_30 (by decide) (by omega) (by omega) (fun c30 => ?_) (fun c30 => ?_)
          · have hfin : rd txt n 13 a = (w, c, a1) := by rw [← hrd, show f = (f - 1) + 1 by omega, rdF, if_neg (by omega)]
            refine lv_iload_n hx hb dX8_readWord_67 rfl (lv_at hl 1 rfl) ?_
            exact hret _ _ _ _ _ _ dX8_readWord_68 ⟨(by rw [hfin]), (by rw [hfin])⟩ hP hD hS
          · refine lv_iload_n hx hb dX8_readWord_33 rfl (lv_at hl 2 rfl) ?_
            refine lv_bipush (v := nI 12) hx hb dX8_readWord_34 (by decide +kernel) ?_
            refine xc_gt (tgt := 51) hx hb dX8_readWord_36 (by decide) (by omega) (by omega) (fun c36 => ?_) (fun c36 => ?_)
            · refine lv_aload_n hx hb dX8_readWord_51 rfl (lv_at hl 0 rfl) ?_
              refine lv_dup hx hb dX8_readWord_52 rfl ?_
              refine va_get (D := D) (ci := 8) (v := .int (nI a1)) (C := RX8) (T := TX8) (N := 7) hx hb hts hi_X8_readWord_X8 hown hK hP 0 rfl rfl 2 (by decide) (hts (.fieldLink RX8 23 "FallingWords$Text" "at" "I") (by decide +kernel)) (fun _ h9 => h9) rfl dX8_readWord_53 ?_
              refine lv_iconst (v := nI 1) hx hb dX8_readWord_56 (by decide +kernel) ?_
              refine lv_iadd hx hb dX8_readWord_57 ?_
              refine xt (show (nI a1) + (nI 1) = nI (a1 + 1) from nI_add _ _) ?_
              refine va_put (D := D) (ci := 8) (v := .int (nI (a1 + 1))) (ty := .int) (C := RX8) (T := TX8) (N := 7) hx hb hts hi_X8_readWord_X8 tyX8 tyX8_ok nmX8 hown hK hP hD hS 0 rfl rfl 2 (by decide) (hts (.fieldLink RX8 23 "FallingWords$Text" "at" "I") (by decide +kernel)) (fun _ h9 => h9) rfl (by decide +kernel) rfl rfl (Nat.le_of_ble_eq_true rfl) dX8_readWord_58 (fun H locs hP hD hS => ?_)
              have hP : va_P D vwCl (gTx cA Bt CH (nI n) (nI (a1 + 1)) kd fw sw dg) H := hP
              have hD : va_D AY (gTx cA Bt CH (nI n) (nI (a1 + 1)) kd fw sw dg) := hD
              refine lv_iinc (v := nI (c + 1)) (lv' := [(2, .int (nI (c + 1))), (0, .ref (Bt 0)), (1, .int (nI w))]) hx hb dX8_readWord_61 hl (k := 2) rfl (show nI c + Int32.ofInt 1 = nI (c + 1) from nI_add c 1) (by decide) rfl (fun ls hl => ?_)
              refine lv_goto (tgt := 4) hx hb dX8_readWord_64 (by decide) ?_
              exact ih4 (a1 + 1) w (c + 1) (f - 1) (by omega) (by omega) (by omega) (by rw [show min (c + 1) 13 = min c 13 by omega]; exact hw1) (by rw [← hrd, show f = (f - 1) + 1 by omega, rdF, if_pos ⟨by omega, by omega, by omega⟩, if_neg (by omega), show f - 1 + 1 - 1 = f - 1 by omega]) (by omega) _ _ _ hP hD hS (lv_sub hl [1, 2, 0] rfl)
            · have hw12 : w < 33554432 := by have h := wd_lt hw1 (m := 12) (by omega); have e12 : 2 * 4 ^ 12 = 33554432 := by { decide }; omega
              refine lv_iload_n hx hb dX8_readWord_39 rfl (lv_at hl 1 rfl) ?_
              refine lv_aload_n hx hb dX8_readWord_40 rfl (lv_at hl 0 rfl) ?_
              refine ci_V (As := []) (rest := [.int (nI w)]) h0 hK hN hP hD hS hA hl.1 (k_X8_here lY D cA Bt txt n a1 CH kd fw sw dg (by first | assumption | omega) (by omega)) [0, 1] rfl (by decide) (cwV 0 hts gX8_readWord_X8_here rfl rfl rfl (by decide +kernel) ⟨Nat.le_of_ble_eq_true rfl, Nat.le_of_ble_eq_true rfl⟩) (cl_recv (ci := 8) (q := (RX8, TX8, 7)) (q0 := 0) hP hK rfl rfl) rfl rfl (Nat.le_of_ble_eq_true rfl) dX8_readWord_41 ⟨Nat.zero_le _, Nat.zero_le _⟩ (fun rY wY H locs hwY hJ hS => ?_)
              obtain ⟨e1Y, e2Y⟩ := hwY
              have e3Y := e1Y.symm
              clear e1Y
              subst e3Y
              have e3Y := e2Y.symm
              clear e2Y
              subst e3Y
              obtain ⟨hP, hD⟩ := hJ rfl
              have hP : va_P D vwCl (gTx cA Bt CH (nI n) (nI a1) kd fw sw dg) H := hP
              have hD : va_D AY (gTx cA Bt CH (nI n) (nI a1) kd fw sw dg) := hD
              refine xt (show sgI txt n a1 = nI (txt a1) from hsg) ?_
              refine lv_bipush (v := nI 97) hx hb dX8_readWord_44 (by decide +kernel) ?_
              refine lv_isub hx hb dX8_readWord_46 ?_
              refine xt (show (nI (txt a1)) - (nI 97) = nI ((txt a1) - 97) from pk_sub (by omega)) ?_
              refine ci_SN (As := [.int (nI w), .int (nI ((txt a1) - 97))]) (rest := []) h0 hK hN hP hD hS hA hl.1 (k_X9_withLetter lY D cA w ((txt a1) - 97) (by omega) (by omega)) [] rfl (by decide) ⟨(va_cnB 2 hts gX8_readWord_X9_withLetter_n54 rfl rfl rfl (hN (.methodLinkNest RX8 54 yX9_withLetter "FallingWords") (by decide +kernel)) (hts (.initialized RX9) (by decide +kernel)) (by decide +kernel) ⟨Nat.le_of_ble_eq_true rfl, Nat.le_of_ble_eq_true rfl⟩), hts (.static yX9_withLetter) (by decide +kernel), trivial⟩ rfl rfl (Nat.le_of_ble_eq_true rfl) dX8_readWord_47 ⟨Nat.zero_le _, Nat.zero_le _⟩ (fun rY wY H locs hwY hJ hS => ?_)
              obtain ⟨e1Y, e2Y⟩ := hwY
              have e3Y := e1Y.symm
              clear e1Y
              subst e3Y
              have e3Y := e2Y.symm
              clear e2Y
              subst e3Y
              obtain ⟨hP, hD⟩ := hJ rfl
              have hP : va_P D vwCl (gTx cA Bt CH (nI n) (nI a1) kd fw sw dg) H := hP
              have hD : va_D AY (gTx cA Bt CH (nI n) (nI a1) kd fw sw dg) := hD
              refine lv_istore_n (lv' := [(1, .int (nI (w * 4 + ((txt a1) - 97)))), (0, .ref (Bt 0)), (2, .int (nI c))]) hx hb dX8_readWord_50 rfl hl (by decide) rfl (fun ls hl => ?_)
              refine lv_aload_n hx hb dX8_readWord_51 rfl (lv_at hl 1 rfl) ?_
              refine lv_dup hx hb dX8_readWord_52 rfl ?_
              refine va_get (D := D) (ci := 8) (v := .int (nI a1)) (C := RX8) (T := TX8) (N := 7) hx hb hts hi_X8_readWord_X8 hown hK hP 0 rfl rfl 2 (by decide) (hts (.fieldLink RX8 23 "FallingWords$Text" "at" "I") (by decide +kernel)) (fun _ h9 => h9) rfl dX8_readWord_53 ?_
              refine lv_iconst (v := nI 1) hx hb dX8_readWord_56 (by decide +kernel) ?_
              refine lv_iadd hx hb dX8_readWord_57 ?_
              refine xt (show (nI a1) + (nI 1) = nI (a1 + 1) from nI_add _ _) ?_
              refine va_put (D := D) (ci := 8) (v := .int (nI (a1 + 1))) (ty := .int) (C := RX8) (T := TX8) (N := 7) hx hb hts hi_X8_readWord_X8 tyX8 tyX8_ok nmX8 hown hK hP hD hS 0 rfl rfl 2 (by decide) (hts (.fieldLink RX8 23 "FallingWords$Text" "at" "I") (by decide +kernel)) (fun _ h9 => h9) rfl (by decide +kernel) rfl rfl (Nat.le_of_ble_eq_true rfl) dX8_readWord_58 (fun H locs hP hD hS => ?_)
              have hP : va_P D vwCl (gTx cA Bt CH (nI n) (nI (a1 + 1)) kd fw sw dg) H := hP
              have hD : va_D AY (gTx cA Bt CH (nI n) (nI (a1 + 1)) kd fw sw dg) := hD
              refine lv_iinc (v := nI (c + 1)) (lv' := [(2, .int (nI (c + 1))), (1, .int (nI (w * 4 + ((txt a1) - 97)))), (0, .ref (Bt 0))]) hx hb dX8_readWord_61 hl (k := 2) rfl (show nI c + Int32.ofInt 1 = nI (c + 1) from nI_add c 1) (by decide) rfl (fun ls hl => ?_)
              refine lv_goto (tgt := 4) hx hb dX8_readWord_64 (by decide) ?_
              exact ih4 (a1 + 1) (w * 4 + ((txt a1) - 97)) (c + 1) (f - 1) (by omega) (by omega) (by omega) (by rw [show min (c + 1) 13 = min c 13 + 1 by omega]; exact wd_app (k := 1) hw1 (by omega)) (by rw [← hrd, show f = (f - 1) + 1 by omega, rdF, if_pos ⟨by omega, by omega, by omega⟩, if_pos (by omega), show f - 1 + 1 - 1 = f - 1 by omega]) (by omega) _ _ _ hP hD hS (lv_sub hl [2, 1, 0] rfl)
  exact L4 _ a 1 0 81 (by omega) (ha) (by omega) (wd_one) (by unfold rd; rw [sl_eq]) (Nat.lt_succ_self _) _ _ _ hP hD hS (lv_sub hl [2, 1, 0] rfl)

theorem hi_X8_readCommand_X8 : ∀ w ∈ u_ws RX8 TX8 7, w ∈ wsX8_readCommand := by decide +kernel
set_option maxHeartbeats 1000000 in
set_option maxRecDepth 100000 in
theorem k_X8_readCommand (lY : Launch) (D : va_G) (cA : Nat → ClassId) (Bt : Nat → Nat) (txt : Nat → Nat) (n a : Nat) (CH : Nat → Int32) (at1 kd fw sw dg : Int32) (ht : rTx txt n CH) (ha : a < n) : MetI lY D cA yX8_readCommand wsX8_readCommand 2 43 [.ref (Bt 0), .int (nI a)] (gTx cA Bt CH (nI n) at1 kd fw sw dg) (fun rY wY => ∃ (fw2 : Int32) (sw2 : Int32) (dg2 : Int32), rY = bI ((okP txt n a).1) ∧ wY = gTx cA Bt CH (nI n) (nI ((okP txt n a).2)) (nI (txt a)) fw2 sw2 dg2 ∧ (txt a = 43 → (okP txt n a).1 = true → fw2 = nI (rW1 txt n a) ∧ sw2 = nI (rW2 txt n a)) ∧ (txt a = 61 → fw2 = nI (rW1 txt n a)) ∧ ((txt a = 45 ∨ txt a = 119) → (okP txt n a).1 = true → dg2 = nI (txt (a + 1) - 48) ∧ txt (a + 1) - 48 < 10) ∧ ((okP txt n a).1 = true → txt a = 43 ∨ txt a = 45 ∨ txt a = 61 ∨ txt a = 110 ∨ txt a = 115 ∨ txt a = 119)) := by
  refine MetI.of (cc := cX8_readCommand) (maxL := 2) (ret := (some .boolean)) (by decide) rfl (Nat.le_of_ble_eq_true rfl) (Or.inr ⟨rfl, fun r w' h => by obtain ⟨_, _, _, h, -⟩ := h; rw [h]; exact bI_nar _⟩) ?_
  intro pY eY sY mY aY bY tY cY QY AY ls h0 hP hK hN hD hA hS hl hret
  obtain ⟨hx, hb, hml, hown, hts⟩ := id h0
  have hl : lv_has ls 2 [(0, .ref (Bt 0)), (1, .int (nI a))] := hl
  have hP : va_P D vwCl (gTx cA Bt CH (nI n) at1 kd fw sw dg) sY.heap := hP
  have hD : va_D AY (gTx cA Bt CH (nI n) at1 kd fw sw dg) := hD
  have hn80 := ht.1
  obtain ⟨h1t, h127⟩ := ht.2 a ha
  obtain ⟨r1, r2, r3, -⟩ := rd_ok (txt := txt) (n := n) (lim := 13) (a := a + 1) (by omega)
  refine lv_aload_n hx hb dX8_readCommand_0 rfl (lv_at hl 0 rfl) ?_
  refine lv_iload_n hx hb dX8_readCommand_1 rfl (lv_at hl 1 rfl) ?_
  refine va_put (D := D) (ci := 8) (v := .int (nI a)) (ty := .int) (C := RX8) (T := TX8) (N := 7) hx hb hts hi_X8_readCommand_X8 tyX8 tyX8_ok nmX8 hown hK hP hD hS 0 rfl rfl 2 (by decide) (hts (.fieldLink RX8 23 "FallingWords$Text" "at" "I") (by decide +kernel)) (fun _ h9 => h9) rfl (by decide +kernel) rfl rfl (Nat.le_of_ble_eq_true rfl) dX8_readCommand_2 (fun H locs hP hD hS => ?_)
  have hP : va_P D vwCl (gTx cA Bt CH (nI n) (nI a) kd fw sw dg) H := hP
  have hD : va_D AY (gTx cA Bt CH (nI n) (nI a) kd fw sw dg) := hD
  refine lv_aload_n hx hb dX8_readCommand_5 rfl (lv_at hl 0 rfl) ?_
  refine lv_aload_n hx hb dX8_readCommand_6 rfl (lv_at hl 0 rfl) ?_
  refine ci_V (As := []) (rest := [.ref (Bt 0)]) h0 hK hN hP hD hS hA hl.1 (k_X8_here lY D cA Bt txt n a CH kd fw sw dg (by first | assumption | omega) (by omega)) [0, 1] rfl (by decide) (cwV 0 hts gX8_readCommand_X8_here rfl rfl rfl (by decide +kernel) ⟨Nat.le_of_ble_eq_true rfl, Nat.le_of_ble_eq_true rfl⟩) (cl_recv (ci := 8) (q := (RX8, TX8, 7)) (q0 := 0) hP hK rfl rfl) rfl rfl (Nat.le_of_ble_eq_true rfl) dX8_readCommand_7 ⟨Nat.zero_le _, Nat.zero_le _⟩ (fun rY wY H locs hwY hJ hS => ?_)
  obtain ⟨e1Y, e2Y⟩ := hwY
  have e3Y := e1Y.symm
  clear e1Y
  subst e3Y
  have e3Y := e2Y.symm
  clear e2Y
  subst e3Y
  obtain ⟨hP, hD⟩ := hJ rfl
  have hP : va_P D vwCl (gTx cA Bt CH (nI n) (nI a) kd fw sw dg) H := hP
  have hD : va_D AY (gTx cA Bt CH (nI n) (nI a) kd fw sw dg) := hD
  refine xt (show sgI txt n a = nI (txt a) from if_pos ha) ?_
  refine va_put (D := D) (ci := 8) (v := .int (nI (txt a))) (ty := .int) (C := RX8) (T := TX8) (N := 7) hx hb hts hi_X8_readCommand_X8 tyX8 tyX8_ok nmX8 hown hK hP hD hS 0 rfl rfl 3 (by decide) (hts (.fieldLink RX8 30 "FallingWords$Text" "kind" "I") (by decide +kernel)) (fun _ h9 => h9) rfl (by decide +kernel) rfl rfl (Nat.le_of_ble_eq_true rfl) dX8_readCommand_10 (fun H locs hP hD hS => ?_)
  have hP : va_P D vwCl (gTx cA Bt CH (nI n) (nI a) (nI (txt a)) fw sw dg) H := hP
  have hD : va_D AY (gTx cA Bt CH (nI n) (nI a) (nI (txt a)) fw sw dg) := hD
  refine lv_aload_n hx hb dX8_readCommand_13 rfl (lv_at hl 0 rfl) ?_
  refine va_get (D := D) (ci := 8) (v := .int (nI (txt a))) (C := RX8) (T := TX8) (N := 7) hx hb hts hi_X8_readCommand_X8 hown hK hP 0 rfl rfl 3 (by decide) (hts (.fieldLink RX8 30 "FallingWords$Text" "kind" "I") (by decide +kernel)) (fun _ h9 => h9) rfl dX8_readCommand_14 ?_
  by_cases s17_43 : txt a = 43
  · have e17 : (nI (txt a) : Int32).toInt = 43 := by rw [s17_43]; rfl
    refine lv_lookup (off := 59) (tgt := 76) hx hb dX8_readCommand_17 (by decide) (by rw [e17]; decide) (by decide) ?_
    refine lv_aload_n hx hb dX8_readCommand_76 rfl (lv_at hl 0 rfl) ?_
    refine lv_dup hx hb dX8_readCommand_77 rfl ?_
    refine va_get (D := D) (ci := 8) (v := .int (nI a)) (C := RX8) (T := TX8) (N := 7) hx hb hts hi_X8_readCommand_X8 hown hK hP 0 rfl rfl 2 (by decide) (hts (.fieldLink RX8 23 "FallingWords$Text" "at" "I") (by decide +kernel)) (fun _ h9 => h9) rfl dX8_readCommand_78 ?_
    refine lv_iconst (v := nI 1) hx hb dX8_readCommand_81 (by decide +kernel) ?_
    refine lv_iadd hx hb dX8_readCommand_82 ?_
    refine xt (show (nI a) + (nI 1) = nI (a + 1) from nI_add _ _) ?_
    refine va_put (D := D) (ci := 8) (v := .int (nI (a + 1))) (ty := .int) (C := RX8) (T := TX8) (N := 7) hx hb hts hi_X8_readCommand_X8 tyX8 tyX8_ok nmX8 hown hK hP hD hS 0 rfl rfl 2 (by decide) (hts (.fieldLink RX8 23 "FallingWords$Text" "at" "I") (by decide +kernel)) (fun _ h9 => h9) rfl (by decide +kernel) rfl rfl (Nat.le_of_ble_eq_true rfl) dX8_readCommand_83 (fun H locs hP hD hS => ?_)
    have hP : va_P D vwCl (gTx cA Bt CH (nI n) (nI (a + 1)) (nI (txt a)) fw sw dg) H := hP
    have hD : va_D AY (gTx cA Bt CH (nI n) (nI (a + 1)) (nI (txt a)) fw sw dg) := hD
    refine lv_aload_n hx hb dX8_readCommand_86 rfl (lv_at hl 0 rfl) ?_
    refine lv_aload_n hx hb dX8_readCommand_87 rfl (lv_at hl 0 rfl) ?_
    refine ci_V (As := []) (rest := [.ref (Bt 0)]) h0 hK hN hP hD hS hA hl.1 (k_X8_readWord lY D cA Bt txt n (a + 1) CH (nI (txt a)) fw sw dg (by first | assumption | omega) (by omega)) [0, 1] rfl (by decide) (cwV 0 hts gX8_readCommand_X8_readWord rfl rfl rfl (by decide +kernel) ⟨Nat.le_of_ble_eq_true rfl, Nat.le_of_ble_eq_true rfl⟩) (cl_recv (ci := 8) (q := (RX8, TX8, 7)) (q0 := 0) hP hK rfl rfl) rfl rfl (Nat.le_of_ble_eq_true rfl) dX8_readCommand_88 ⟨Nat.zero_le _, Nat.zero_le _⟩ (fun rY wY H locs hwY hJ hS => ?_)
    obtain ⟨e1Y, e2Y⟩ := hwY
    have e3Y := e1Y.symm
    clear e1Y
    subst e3Y
    have e3Y := e2Y.symm
    clear e2Y
    subst e3Y
    obtain ⟨hP, hD⟩ := hJ rfl
    have hP : va_P D vwCl (gTx cA Bt CH (nI n) (nI ((rd txt n 13 (a + 1)).2.2)) (nI (txt a)) fw sw dg) H := hP
    have hD : va_D AY (gTx cA Bt CH (nI n) (nI ((rd txt n 13 (a + 1)).2.2)) (nI (txt a)) fw sw dg) := hD
    refine va_put (D := D) (ci := 8) (v := .int (nI ((rd txt n 13 (a + 1)).1))) (ty := .int) (C := RX8) (T := TX8) (N := 7) hx hb hts hi_X8_readCommand_X8 tyX8 tyX8_ok nmX8 hown hK hP hD hS 0 rfl rfl 4 (by decide) (hts (.fieldLink RX8 36 "FallingWords$Text" "firstWord" "I") (by decide +kernel)) (fun _ h9 => h9) rfl (by decide +kernel) rfl rfl (Nat.le_of_ble_eq_true rfl) dX8_readCommand_91 (fun H locs hP hD hS => ?_)
    have hP : va_P D vwCl (gTx cA Bt CH (nI n) (nI ((rd txt n 13 (a + 1)).2.2)) (nI (txt a)) (nI ((rd txt n 13 (a + 1)).1)) sw dg) H := hP
    have hD : va_D AY (gTx cA Bt CH (nI n) (nI ((rd txt n 13 (a + 1)).2.2)) (nI (txt a)) (nI ((rd txt n 13 (a + 1)).1)) sw dg) := hD
    refine lv_aload_n hx hb dX8_readCommand_94 rfl (lv_at hl 0 rfl) ?_
    refine lv_bipush (v := nI 62) hx hb dX8_readCommand_95 (by decide +kernel) ?_
    refine ci_V (As := [.int (nI 62)]) (rest := []) h0 hK hN hP hD hS hA hl.1 (k_X8_passes lY D cA Bt txt n ((rd txt n 13 (a + 1)).2.2) CH (nI (txt a)) (nI ((rd txt n 13 (a + 1)).1)) sw dg 62 (by first | assumption | omega) (by omega) (by omega)) [0, 1] rfl (by decide) (cwV 1 hts gX8_readCommand_X8_passes rfl rfl rfl (by decide +kernel) ⟨Nat.le_of_ble_eq_true rfl, Nat.le_of_ble_eq_true rfl⟩) (cl_recv (ci := 8) (q := (RX8, TX8, 7)) (q0 := 0) hP hK rfl rfl) rfl rfl (Nat.le_of_ble_eq_true rfl) dX8_readCommand_97 ⟨Nat.zero_le _, Nat.zero_le _⟩ (fun rY wY H locs hwY hJ hS => ?_)
    obtain ⟨e1Y, e2Y⟩ := hwY
    have e3Y := e1Y.symm
    clear e1Y
    subst e3Y
    have e3Y := e2Y.symm
    clear e2Y
    subst e3Y
    obtain ⟨hP, hD⟩ := hJ rfl
    have hP : va_P D vwCl (gTx cA Bt CH (nI n) (nI (psA txt n ((rd txt n 13 (a + 1)).2.2) 62)) (nI (txt a)) (nI ((rd txt n 13 (a + 1)).1)) sw dg) H := hP
    have hD : va_D AY (gTx cA Bt CH (nI n) (nI (psA txt n ((rd txt n 13 (a + 1)).2.2) 62)) (nI (txt a)) (nI ((rd txt n 13 (a + 1)).1)) sw dg) := hD
    refine xb_ne (tgt := 105) hx hb dX8_readCommand_100 (by decide) (fun c100 => ?_) (fun c100 => ?_)
    · have h62 := (of_decide_eq_true c100).1
      obtain ⟨t1, t2, t3, -⟩ := rd_ok (txt := txt) (n := n) (lim := 13) (a := (rd txt n 13 (a + 1)).2.2 + 1) (by omega)
      rw [psA_t c100] at hP hD
      have hP : va_P D vwCl (gTx cA Bt CH (nI n) (nI ((rd txt n 13 (a + 1)).2.2 + 1)) (nI (txt a)) (nI ((rd txt n 13 (a + 1)).1)) sw dg) H := hP
      have hD : va_D AY (gTx cA Bt CH (nI n) (nI ((rd txt n 13 (a + 1)).2.2 + 1)) (nI (txt a)) (nI ((rd txt n 13 (a + 1)).1)) sw dg) := hD
      refine lv_aload_n hx hb dX8_readCommand_105 rfl (lv_at hl 0 rfl) ?_
      refine lv_aload_n hx hb dX8_readCommand_106 rfl (lv_at hl 0 rfl) ?_
      refine ci_V (As := []) (rest := [.ref (Bt 0)]) h0 hK hN hP hD hS hA hl.1 (k_X8_readWord lY D cA Bt txt n ((rd txt n 13 (a + 1)).2.2 + 1) CH (nI (txt a)) (nI ((rd txt n 13 (a + 1)).1)) sw dg (by first | assumption | omega) (by omega)) [0, 1] rfl (by decide) (cwV 0 hts gX8_readCommand_X8_readWord rfl rfl rfl (by decide +kernel) ⟨Nat.le_of_ble_eq_true rfl, Nat.le_of_ble_eq_true rfl⟩) (cl_recv (ci := 8) (q := (RX8, TX8, 7)) (q0 := 0) hP hK rfl rfl) rfl rfl (Nat.le_of_ble_eq_true rfl) dX8_readCommand_107 ⟨Nat.zero_le _, Nat.zero_le _⟩ (fun rY wY H locs hwY hJ hS => ?_)
      obtain ⟨e1Y, e2Y⟩ := hwY
      have e3Y := e1Y.symm
      clear e1Y
      subst e3Y
      have e3Y := e2Y.symm
      clear e2Y
      subst e3Y
      obtain ⟨hP, hD⟩ := hJ rfl
      have hP : va_P D vwCl (gTx cA Bt CH (nI n) (nI ((rd txt n 13 ((rd txt n 13 (a + 1)).2.2 + 1)).2.2)) (nI (txt a)) (nI ((rd txt n 13 (a + 1)).1)) sw dg) H := hP
      have hD : va_D AY (gTx cA Bt CH (nI n) (nI ((rd txt n 13 ((rd txt n 13 (a + 1)).2.2 + 1)).2.2)) (nI (txt a)) (nI ((rd txt n 13 (a + 1)).1)) sw dg) := hD
      refine va_put (D := D) (ci := 8) (v := .int (nI ((rd txt n 13 ((rd txt n 13 (a + 1)).2.2 + 1)).1))) (ty := .int) (C := RX8) (T := TX8) (N := 7) hx hb hts hi_X8_readCommand_X8 tyX8 tyX8_ok nmX8 hown hK hP hD hS 0 rfl rfl 5 (by decide) (hts (.fieldLink RX8 43 "FallingWords$Text" "secondWord" "I") (by decide +kernel)) (fun _ h9 => h9) rfl (by decide +kernel) rfl rfl (Nat.le_of_ble_eq_true rfl) dX8_readCommand_110 (fun H locs hP hD hS => ?_)
      have hP : va_P D vwCl (gTx cA Bt CH (nI n) (nI ((rd txt n 13 ((rd txt n 13 (a + 1)).2.2 + 1)).2.2)) (nI (txt a)) (nI ((rd txt n 13 (a + 1)).1)) (nI ((rd txt n 13 ((rd txt n 13 (a + 1)).2.2 + 1)).1)) dg) H := hP
      have hD : va_D AY (gTx cA Bt CH (nI n) (nI ((rd txt n 13 ((rd txt n 13 (a + 1)).2.2 + 1)).2.2)) (nI (txt a)) (nI ((rd txt n 13 (a + 1)).1)) (nI ((rd txt n 13 ((rd txt n 13 (a + 1)).2.2 + 1)).1)) dg) := hD
      refine lv_aload_n hx hb dX8_readCommand_113 rfl (lv_at hl 0 rfl) ?_
      refine lv_bipush (v := nI 59) hx hb dX8_readCommand_114 (by decide +kernel) ?_
      refine ci_V (As := [.int (nI 59)]) (rest := []) h0 hK hN hP hD hS hA hl.1 (k_X8_passes lY D cA Bt txt n ((rd txt n 13 ((rd txt n 13 (a + 1)).2.2 + 1)).2.2) CH (nI (txt a)) (nI ((rd txt n 13 (a + 1)).1)) (nI ((rd txt n 13 ((rd txt n 13 (a + 1)).2.2 + 1)).1)) dg 59 (by first | assumption | omega) (by omega) (by omega)) [0, 1] rfl (by decide) (cwV 1 hts gX8_readCommand_X8_passes rfl rfl rfl (by decide +kernel) ⟨Nat.le_of_ble_eq_true rfl, Nat.le_of_ble_eq_true rfl⟩) (cl_recv (ci := 8) (q := (RX8, TX8, 7)) (q0 := 0) hP hK rfl rfl) rfl rfl (Nat.le_of_ble_eq_true rfl) dX8_readCommand_116 ⟨Nat.zero_le _, Nat.zero_le _⟩ (fun rY wY H locs hwY hJ hS => ?_)
      obtain ⟨e1Y, e2Y⟩ := hwY
      have e3Y := e1Y.symm
      clear e1Y
      subst e3Y
      have e3Y := e2Y.symm
      clear e2Y
      subst e3Y
      obtain ⟨hP, hD⟩ := hJ rfl
      have hP : va_P D vwCl (gTx cA Bt CH (nI n) (nI (psA txt n ((rd txt n 13 ((rd txt n 13 (a + 1)).2.2 + 1)).2.2) 59)) (nI (txt a)) (nI ((rd txt n 13 (a + 1)).1)) (nI ((rd txt n 13 ((rd txt n 13 (a + 1)).2.2 + 1)).1)) dg) H := hP
      have hD : va_D AY (gTx cA Bt CH (nI n) (nI (psA txt n ((rd txt n 13 ((rd txt n 13 (a + 1)).2.2 + 1)).2.2) 59)) (nI (txt a)) (nI ((rd txt n 13 (a + 1)).1)) (nI ((rd txt n 13 ((rd txt n 13 (a + 1)).2.2 + 1)).1)) dg) := hD
      have hO := okP_43 (n := n) s17_43
      rw [c100] at hO
      have hO2 : okP txt n a = (psB txt n (rd txt n 13 ((rd txt n 13 (a + 1)).2.2 + 1)).2.2 59, psA txt n (rd txt n 13 ((rd txt n 13 (a + 1)).2.2 + 1)).2.2 59) := hO
      exact hret _ _ _ _ _ _ dX8_readCommand_119 ⟨((nI ((rd txt n 13 (a + 1)).1))), ((nI ((rd txt n 13 ((rd txt n 13 (a + 1)).2.2 + 1)).1))), dg, (by rw [hO2]), (by rw [hO2]), (fun _ _ => ⟨rfl, rfl⟩), (fun h => by omega), (fun h => by omega), (fun _ => by omega)⟩ hP hD hS
    · refine lv_iconst (v := nI 0) hx hb dX8_readCommand_103 (by decide +kernel) ?_
      have hO := okP_43 (n := n) s17_43
      rw [c100] at hO
      have hO2 : okP txt n a = (false, (rd txt n 13 (a + 1)).2.2) := hO
      exact hret _ _ _ _ _ _ dX8_readCommand_104 ⟨((nI ((rd txt n 13 (a + 1)).1))), sw, dg, (by rw [hO2]; rfl), (by rw [hO2, psA_f c100]), (fun _ h => by rw [hO2] at h; cases h), (fun h => by omega), (fun h => by omega), (fun h => by rw [hO2] at h; cases h)⟩ hP hD hS
  by_cases s17_45 : txt a = 45
  · have e17 : (nI (txt a) : Int32).toInt = 45 := by rw [s17_45]; rfl
    refine lv_lookup (off := 128) (tgt := 145) hx hb dX8_readCommand_17 (by decide) (by rw [e17]; decide) (by decide) ?_
    refine lv_aload_n hx hb dX8_readCommand_145 rfl (lv_at hl 0 rfl) ?_
    refine lv_dup hx hb dX8_readCommand_146 rfl ?_
    refine va_get (D := D) (ci := 8) (v := .int (nI a)) (C := RX8) (T := TX8) (N := 7) hx hb hts hi_X8_readCommand_X8 hown hK hP 0 rfl rfl 2 (by decide) (hts (.fieldLink RX8 23 "FallingWords$Text" "at" "I") (by decide +kernel)) (fun _ h9 => h9) rfl dX8_readCommand_147 ?_
    refine lv_iconst (v := nI 1) hx hb dX8_readCommand_150 (by decide +kernel) ?_
    refine lv_iadd hx hb dX8_readCommand_151 ?_
    refine xt (show (nI a) + (nI 1) = nI (a + 1) from nI_add _ _) ?_
    refine va_put (D := D) (ci := 8) (v := .int (nI (a + 1))) (ty := .int) (C := RX8) (T := TX8) (N := 7) hx hb hts hi_X8_readCommand_X8 tyX8 tyX8_ok nmX8 hown hK hP hD hS 0 rfl rfl 2 (by decide) (hts (.fieldLink RX8 23 "FallingWords$Text" "at" "I") (by decide +kernel)) (fun _ h9 => h9) rfl (by decide +kernel) rfl rfl (Nat.le_of_ble_eq_true rfl) dX8_readCommand_152 (fun H locs hP hD hS => ?_)
    have hP : va_P D vwCl (gTx cA Bt CH (nI n) (nI (a + 1)) (nI (txt a)) fw sw dg) H := hP
    have hD : va_D AY (gTx cA Bt CH (nI n) (nI (a + 1)) (nI (txt a)) fw sw dg) := hD
    refine lv_aload_n hx hb dX8_readCommand_155 rfl (lv_at hl 0 rfl) ?_
    refine ci_V (As := []) (rest := []) h0 hK hN hP hD hS hA hl.1 (k_X8_readDigit lY D cA Bt txt n (a + 1) CH (nI (txt a)) fw sw dg (by first | assumption | omega) (by omega)) [0, 1] rfl (by decide) (cwV 0 hts gX8_readCommand_X8_readDigit rfl rfl rfl (by decide +kernel) ⟨Nat.le_of_ble_eq_true rfl, Nat.le_of_ble_eq_true rfl⟩) (cl_recv (ci := 8) (q := (RX8, TX8, 7)) (q0 := 0) hP hK rfl rfl) rfl rfl (Nat.le_of_ble_eq_true rfl) dX8_readCommand_156 ⟨Nat.zero_le _, Nat.zero_le _⟩ (fun rY wY H locs hwY hJ hS => ?_)
    obtain ⟨dg2_156, e1Y, e2Y, fd_156⟩ := hwY
    have e3Y := e1Y.symm
    clear e1Y
    subst e3Y
    have e3Y := e2Y.symm
    clear e2Y
    subst e3Y
    obtain ⟨hP, hD⟩ := hJ rfl
    have hP : va_P D vwCl (gTx cA Bt CH (nI n) (nI (dgA txt n (a + 1))) (nI (txt a)) fw sw dg2_156) H := hP
    have hD : va_D AY (gTx cA Bt CH (nI n) (nI (dgA txt n (a + 1))) (nI (txt a)) fw sw dg2_156) := hD
    refine xb_eq (tgt := 175) hx hb dX8_readCommand_159 (by decide) (fun c159 => ?_) (fun c159 => ?_)
    · refine lv_iconst (v := nI 0) hx hb dX8_readCommand_175 (by decide +kernel) ?_
      have hO := okP_d (n := n) (Or.inl s17_45)
      rw [c159] at hO
      have hO2 : okP txt n a = (false, a + 1) := hO
      exact hret _ _ _ _ _ _ dX8_readCommand_176 ⟨fw, sw, dg2_156, (by rw [hO2]; rfl), (by rw [hO2, dgA_f c159]), (fun h => by omega), (fun h => by omega), (fun _ h => by rw [hO2] at h; cases h), (fun h => by rw [hO2] at h; cases h)⟩ hP hD hS
    · have hdg := of_decide_eq_true c159
      rw [dgA_t c159] at hP hD
      have hP : va_P D vwCl (gTx cA Bt CH (nI n) (nI (a + 2)) (nI (txt a)) fw sw dg2_156) H := hP
      have hD : va_D AY (gTx cA Bt CH (nI n) (nI (a + 2)) (nI (txt a)) fw sw dg2_156) := hD
      refine lv_aload_n hx hb dX8_readCommand_162 rfl (lv_at hl 0 rfl) ?_
      refine lv_bipush (v := nI 59) hx hb dX8_readCommand_163 (by decide +kernel) ?_
      refine ci_V (As := [.int (nI 59)]) (rest := []) h0 hK hN hP hD hS hA hl.1 (k_X8_passes lY D cA Bt txt n (a + 2) CH (nI (txt a)) fw sw dg2_156 59 (by first | assumption | omega) (by omega) (by omega)) [0, 1] rfl (by decide) (cwV 1 hts gX8_readCommand_X8_passes rfl rfl rfl (by decide +kernel) ⟨Nat.le_of_ble_eq_true rfl, Nat.le_of_ble_eq_true rfl⟩) (cl_recv (ci := 8) (q := (RX8, TX8, 7)) (q0 := 0) hP hK rfl rfl) rfl rfl (Nat.le_of_ble_eq_true rfl) dX8_readCommand_165 ⟨Nat.zero_le _, Nat.zero_le _⟩ (fun rY wY H locs hwY hJ hS => ?_)
      obtain ⟨e1Y, e2Y⟩ := hwY
      have e3Y := e1Y.symm
      clear e1Y
      subst e3Y
      have e3Y := e2Y.symm
      clear e2Y
      subst e3Y
      obtain ⟨hP, hD⟩ := hJ rfl
      have hP : va_P D vwCl (gTx cA Bt CH (nI n) (nI (psA txt n (a + 2) 59)) (nI (txt a)) fw sw dg2_156) H := hP
      have hD : va_D AY (gTx cA Bt CH (nI n) (nI (psA txt n (a + 2) 59)) (nI (txt a)) fw sw dg2_156) := hD
      refine xb_eq (tgt := 175) hx hb dX8_readCommand_168 (by decide) (fun c168 => ?_) (fun c168 => ?_)
      · refine lv_iconst (v := nI 0) hx hb dX8_readCommand_175 (by decide +kernel) ?_
        have hO := okP_d (n := n) (Or.inl s17_45)
        rw [c159] at hO
        have hO2 : okP txt n a = (psB txt n (a + 2) 59, psA txt n (a + 2) 59) := hO
        exact hret _ _ _ _ _ _ dX8_readCommand_176 ⟨fw, sw, dg2_156, (by rw [hO2]; dsimp only; rw [c168]; rfl), (by rw [hO2]), (fun h => by omega), (fun h => by omega), (fun _ _ => ⟨fd_156 c159, by omega⟩), (fun _ => by omega)⟩ hP hD hS
      · refine lv_iconst (v := nI 1) hx hb dX8_readCommand_171 (by decide +kernel) ?_
        refine lv_goto (tgt := 176) hx hb dX8_readCommand_172 (by decide) ?_
        have hO := okP_d (n := n) (Or.inl s17_45)
        rw [c159] at hO
        have hO2 : okP txt n a = (psB txt n (a + 2) 59, psA txt n (a + 2) 59) := hO
        exact hret _ _ _ _ _ _ dX8_readCommand_176 ⟨fw, sw, dg2_156, (by rw [hO2]; dsimp only; rw [c168]; rfl), (by rw [hO2]), (fun h => by omega), (fun h => by omega), (fun _ _ => ⟨fd_156 c159, by omega⟩), (fun _ => by omega)⟩ hP hD hS
  by_cases s17_61 : txt a = 61
  · have e17 : (nI (txt a) : Int32).toInt = 61 := by rw [s17_61]; rfl
    refine lv_lookup (off := 103) (tgt := 120) hx hb dX8_readCommand_17 (by decide) (by rw [e17]; decide) (by decide) ?_
    refine lv_aload_n hx hb dX8_readCommand_120 rfl (lv_at hl 0 rfl) ?_
    refine lv_dup hx hb dX8_readCommand_121 rfl ?_
    refine va_get (D := D) (ci := 8) (v := .int (nI a)) (C := RX8) (T := TX8) (N := 7) hx hb hts hi_X8_readCommand_X8 hown hK hP 0 rfl rfl 2 (by decide) (hts (.fieldLink RX8 23 "FallingWords$Text" "at" "I") (by decide +kernel)) (fun _ h9 => h9) rfl dX8_readCommand_122 ?_
    refine lv_iconst (v := nI 1) hx hb dX8_readCommand_125 (by decide +kernel) ?_
    refine lv_iadd hx hb dX8_readCommand_126 ?_
    refine xt (show (nI a) + (nI 1) = nI (a + 1) from nI_add _ _) ?_
    refine va_put (D := D) (ci := 8) (v := .int (nI (a + 1))) (ty := .int) (C := RX8) (T := TX8) (N := 7) hx hb hts hi_X8_readCommand_X8 tyX8 tyX8_ok nmX8 hown hK hP hD hS 0 rfl rfl 2 (by decide) (hts (.fieldLink RX8 23 "FallingWords$Text" "at" "I") (by decide +kernel)) (fun _ h9 => h9) rfl (by decide +kernel) rfl rfl (Nat.le_of_ble_eq_true rfl) dX8_readCommand_127 (fun H locs hP hD hS => ?_)
    have hP : va_P D vwCl (gTx cA Bt CH (nI n) (nI (a + 1)) (nI (txt a)) fw sw dg) H := hP
    have hD : va_D AY (gTx cA Bt CH (nI n) (nI (a + 1)) (nI (txt a)) fw sw dg) := hD
    refine lv_aload_n hx hb dX8_readCommand_130 rfl (lv_at hl 0 rfl) ?_
    refine lv_aload_n hx hb dX8_readCommand_131 rfl (lv_at hl 0 rfl) ?_
    refine ci_V (As := []) (rest := [.ref (Bt 0)]) h0 hK hN hP hD hS hA hl.1 (k_X8_readWord lY D cA Bt txt n (a + 1) CH (nI (txt a)) fw sw dg (by first | assumption | omega) (by omega)) [0, 1] rfl (by decide) (cwV 0 hts gX8_readCommand_X8_readWord rfl rfl rfl (by decide +kernel) ⟨Nat.le_of_ble_eq_true rfl, Nat.le_of_ble_eq_true rfl⟩) (cl_recv (ci := 8) (q := (RX8, TX8, 7)) (q0 := 0) hP hK rfl rfl) rfl rfl (Nat.le_of_ble_eq_true rfl) dX8_readCommand_132 ⟨Nat.zero_le _, Nat.zero_le _⟩ (fun rY wY H locs hwY hJ hS => ?_)
    obtain ⟨e1Y, e2Y⟩ := hwY
    have e3Y := e1Y.symm
    clear e1Y
    subst e3Y
    have e3Y := e2Y.symm
    clear e2Y
    subst e3Y
    obtain ⟨hP, hD⟩ := hJ rfl
    have hP : va_P D vwCl (gTx cA Bt CH (nI n) (nI ((rd txt n 13 (a + 1)).2.2)) (nI (txt a)) fw sw dg) H := hP
    have hD : va_D AY (gTx cA Bt CH (nI n) (nI ((rd txt n 13 (a + 1)).2.2)) (nI (txt a)) fw sw dg) := hD
    refine va_put (D := D) (ci := 8) (v := .int (nI ((rd txt n 13 (a + 1)).1))) (ty := .int) (C := RX8) (T := TX8) (N := 7) hx hb hts hi_X8_readCommand_X8 tyX8 tyX8_ok nmX8 hown hK hP hD hS 0 rfl rfl 4 (by decide) (hts (.fieldLink RX8 36 "FallingWords$Text" "firstWord" "I") (by decide +kernel)) (fun _ h9 => h9) rfl (by decide +kernel) rfl rfl (Nat.le_of_ble_eq_true rfl) dX8_readCommand_135 (fun H locs hP hD hS => ?_)
    have hP : va_P D vwCl (gTx cA Bt CH (nI n) (nI ((rd txt n 13 (a + 1)).2.2)) (nI (txt a)) (nI ((rd txt n 13 (a + 1)).1)) sw dg) H := hP
    have hD : va_D AY (gTx cA Bt CH (nI n) (nI ((rd txt n 13 (a + 1)).2.2)) (nI (txt a)) (nI ((rd txt n 13 (a + 1)).1)) sw dg) := hD
    refine lv_aload_n hx hb dX8_readCommand_138 rfl (lv_at hl 0 rfl) ?_
    refine lv_bipush (v := nI 59) hx hb dX8_readCommand_139 (by decide +kernel) ?_
    refine ci_V (As := [.int (nI 59)]) (rest := []) h0 hK hN hP hD hS hA hl.1 (k_X8_passes lY D cA Bt txt n ((rd txt n 13 (a + 1)).2.2) CH (nI (txt a)) (nI ((rd txt n 13 (a + 1)).1)) sw dg 59 (by first | assumption | omega) (by omega) (by omega)) [0, 1] rfl (by decide) (cwV 1 hts gX8_readCommand_X8_passes rfl rfl rfl (by decide +kernel) ⟨Nat.le_of_ble_eq_true rfl, Nat.le_of_ble_eq_true rfl⟩) (cl_recv (ci := 8) (q := (RX8, TX8, 7)) (q0 := 0) hP hK rfl rfl) rfl rfl (Nat.le_of_ble_eq_true rfl) dX8_readCommand_141 ⟨Nat.zero_le _, Nat.zero_le _⟩ (fun rY wY H locs hwY hJ hS => ?_)
    obtain ⟨e1Y, e2Y⟩ := hwY
    have e3Y := e1Y.symm
    clear e1Y
    subst e3Y
    have e3Y := e2Y.symm
    clear e2Y
    subst e3Y
    obtain ⟨hP, hD⟩ := hJ rfl
    have hP : va_P D vwCl (gTx cA Bt CH (nI n) (nI (psA txt n ((rd txt n 13 (a + 1)).2.2) 59)) (nI (txt a)) (nI ((rd txt n 13 (a + 1)).1)) sw dg) H := hP
    have hD : va_D AY (gTx cA Bt CH (nI n) (nI (psA txt n ((rd txt n 13 (a + 1)).2.2) 59)) (nI (txt a)) (nI ((rd txt n 13 (a + 1)).1)) sw dg) := hD
    have hO2 := okP_61 (n := n) s17_61
    exact hret _ _ _ _ _ _ dX8_readCommand_144 ⟨((nI ((rd txt n 13 (a + 1)).1))), sw, dg, (by rw [hO2]), (by rw [hO2]), (fun h => by omega), (fun _ => rfl), (fun h => by omega), (fun _ => by omega)⟩ hP hD hS
  by_cases s17_110 : txt a = 110
  · have e17 : (nI (txt a) : Int32).toInt = 110 := by rw [s17_110]; rfl
    refine lv_lookup (off := 160) (tgt := 177) hx hb dX8_readCommand_17 (by decide) (by rw [e17]; decide) (by decide) ?_
    refine lv_aload_n hx hb dX8_readCommand_177 rfl (lv_at hl 0 rfl) ?_
    refine lv_dup hx hb dX8_readCommand_178 rfl ?_
    refine va_get (D := D) (ci := 8) (v := .int (nI a)) (C := RX8) (T := TX8) (N := 7) hx hb hts hi_X8_readCommand_X8 hown hK hP 0 rfl rfl 2 (by decide) (hts (.fieldLink RX8 23 "FallingWords$Text" "at" "I") (by decide +kernel)) (fun _ h9 => h9) rfl dX8_readCommand_179 ?_
    refine lv_iconst (v := nI 1) hx hb dX8_readCommand_182 (by decide +kernel) ?_
    refine lv_iadd hx hb dX8_readCommand_183 ?_
    refine xt (show (nI a) + (nI 1) = nI (a + 1) from nI_add _ _) ?_
    refine va_put (D := D) (ci := 8) (v := .int (nI (a + 1))) (ty := .int) (C := RX8) (T := TX8) (N := 7) hx hb hts hi_X8_readCommand_X8 tyX8 tyX8_ok nmX8 hown hK hP hD hS 0 rfl rfl 2 (by decide) (hts (.fieldLink RX8 23 "FallingWords$Text" "at" "I") (by decide +kernel)) (fun _ h9 => h9) rfl (by decide +kernel) rfl rfl (Nat.le_of_ble_eq_true rfl) dX8_readCommand_184 (fun H locs hP hD hS => ?_)
    have hP : va_P D vwCl (gTx cA Bt CH (nI n) (nI (a + 1)) (nI (txt a)) fw sw dg) H := hP
    have hD : va_D AY (gTx cA Bt CH (nI n) (nI (a + 1)) (nI (txt a)) fw sw dg) := hD
    refine lv_aload_n hx hb dX8_readCommand_187 rfl (lv_at hl 0 rfl) ?_
    refine lv_bipush (v := nI 59) hx hb dX8_readCommand_188 (by decide +kernel) ?_
    refine ci_V (As := [.int (nI 59)]) (rest := []) h0 hK hN hP hD hS hA hl.1 (k_X8_passes lY D cA Bt txt n (a + 1) CH (nI (txt a)) fw sw dg 59 (by first | assumption | omega) (by omega) (by omega)) [0, 1] rfl (by decide) (cwV 1 hts gX8_readCommand_X8_passes rfl rfl rfl (by decide +kernel) ⟨Nat.le_of_ble_eq_true rfl, Nat.le_of_ble_eq_true rfl⟩) (cl_recv (ci := 8) (q := (RX8, TX8, 7)) (q0 := 0) hP hK rfl rfl) rfl rfl (Nat.le_of_ble_eq_true rfl) dX8_readCommand_190 ⟨Nat.zero_le _, Nat.zero_le _⟩ (fun rY wY H locs hwY hJ hS => ?_)
    obtain ⟨e1Y, e2Y⟩ := hwY
    have e3Y := e1Y.symm
    clear e1Y
    subst e3Y
    have e3Y := e2Y.symm
    clear e2Y
    subst e3Y
    obtain ⟨hP, hD⟩ := hJ rfl
    have hP : va_P D vwCl (gTx cA Bt CH (nI n) (nI (psA txt n (a + 1) 59)) (nI (txt a)) fw sw dg) H := hP
    have hD : va_D AY (gTx cA Bt CH (nI n) (nI (psA txt n (a + 1) 59)) (nI (txt a)) fw sw dg) := hD
    have hO2 := okP_s (n := n) (Or.inr s17_110)
    exact hret _ _ _ _ _ _ dX8_readCommand_193 ⟨fw, sw, dg, (by rw [hO2]), (by rw [hO2]), (fun h => by omega), (fun h => by omega), (fun h => by omega), (fun _ => by omega)⟩ hP hD hS
  by_cases s17_115 : txt a = 115
  · have e17 : (nI (txt a) : Int32).toInt = 115 := by rw [s17_115]; rfl
    refine lv_lookup (off := 160) (tgt := 177) hx hb dX8_readCommand_17 (by decide) (by rw [e17]; decide) (by decide) ?_
    refine lv_aload_n hx hb dX8_readCommand_177 rfl (lv_at hl 0 rfl) ?_
    refine lv_dup hx hb dX8_readCommand_178 rfl ?_
    refine va_get (D := D) (ci := 8) (v := .int (nI a)) (C := RX8) (T := TX8) (N := 7) hx hb hts hi_X8_readCommand_X8 hown hK hP 0 rfl rfl 2 (by decide) (hts (.fieldLink RX8 23 "FallingWords$Text" "at" "I") (by decide +kernel)) (fun _ h9 => h9) rfl dX8_readCommand_179 ?_
    refine lv_iconst (v := nI 1) hx hb dX8_readCommand_182 (by decide +kernel) ?_
    refine lv_iadd hx hb dX8_readCommand_183 ?_
    refine xt (show (nI a) + (nI 1) = nI (a + 1) from nI_add _ _) ?_
    refine va_put (D := D) (ci := 8) (v := .int (nI (a + 1))) (ty := .int) (C := RX8) (T := TX8) (N := 7) hx hb hts hi_X8_readCommand_X8 tyX8 tyX8_ok nmX8 hown hK hP hD hS 0 rfl rfl 2 (by decide) (hts (.fieldLink RX8 23 "FallingWords$Text" "at" "I") (by decide +kernel)) (fun _ h9 => h9) rfl (by decide +kernel) rfl rfl (Nat.le_of_ble_eq_true rfl) dX8_readCommand_184 (fun H locs hP hD hS => ?_)
    have hP : va_P D vwCl (gTx cA Bt CH (nI n) (nI (a + 1)) (nI (txt a)) fw sw dg) H := hP
    have hD : va_D AY (gTx cA Bt CH (nI n) (nI (a + 1)) (nI (txt a)) fw sw dg) := hD
    refine lv_aload_n hx hb dX8_readCommand_187 rfl (lv_at hl 0 rfl) ?_
    refine lv_bipush (v := nI 59) hx hb dX8_readCommand_188 (by decide +kernel) ?_
    refine ci_V (As := [.int (nI 59)]) (rest := []) h0 hK hN hP hD hS hA hl.1 (k_X8_passes lY D cA Bt txt n (a + 1) CH (nI (txt a)) fw sw dg 59 (by first | assumption | omega) (by omega) (by omega)) [0, 1] rfl (by decide) (cwV 1 hts gX8_readCommand_X8_passes rfl rfl rfl (by decide +kernel) ⟨Nat.le_of_ble_eq_true rfl, Nat.le_of_ble_eq_true rfl⟩) (cl_recv (ci := 8) (q := (RX8, TX8, 7)) (q0 := 0) hP hK rfl rfl) rfl rfl (Nat.le_of_ble_eq_true rfl) dX8_readCommand_190 ⟨Nat.zero_le _, Nat.zero_le _⟩ (fun rY wY H locs hwY hJ hS => ?_)
    obtain ⟨e1Y, e2Y⟩ := hwY
    have e3Y := e1Y.symm
    clear e1Y
    subst e3Y
    have e3Y := e2Y.symm
    clear e2Y
    subst e3Y
    obtain ⟨hP, hD⟩ := hJ rfl
    have hP : va_P D vwCl (gTx cA Bt CH (nI n) (nI (psA txt n (a + 1) 59)) (nI (txt a)) fw sw dg) H := hP
    have hD : va_D AY (gTx cA Bt CH (nI n) (nI (psA txt n (a + 1) 59)) (nI (txt a)) fw sw dg) := hD
    have hO2 := okP_s (n := n) (Or.inl s17_115)
    exact hret _ _ _ _ _ _ dX8_readCommand_193 ⟨fw, sw, dg, (by rw [hO2]), (by rw [hO2]), (fun h => by omega), (fun h => by omega), (fun h => by omega), (fun _ => by omega)⟩ hP hD hS
  by_cases s17_119 : txt a = 119
  · have e17 : (nI (txt a) : Int32).toInt = 119 := by rw [s17_119]; rfl
    refine lv_lookup (off := 128) (tgt := 145) hx hb dX8_readCommand_17 (by decide) (by rw [e17]; decide) (by decide) ?_
    refine lv_aload_n hx hb dX8_readCommand_145 rfl (lv_at hl 0 rfl) ?_
    refine lv_dup hx hb dX8_readCommand_146 rfl ?_
    refine va_get (D := D) (ci := 8) (v := .int (nI a)) (C := RX8) (T := TX8) (N := 7) hx hb hts hi_X8_readCommand_X8 hown hK hP 0 rfl rfl 2 (by decide) (hts (.fieldLink RX8 23 "FallingWords$Text" "at" "I") (by decide +kernel)) (fun _ h9 => h9) rfl dX8_readCommand_147 ?_
    refine lv_iconst (v := nI 1) hx hb dX8_readCommand_150 (by decide +kernel) ?_
    refine lv_iadd hx hb dX8_readCommand_151 ?_
    refine xt (show (nI a) + (nI 1) = nI (a + 1) from nI_add _ _) ?_
    refine va_put (D := D) (ci := 8) (v := .int (nI (a + 1))) (ty := .int) (C := RX8) (T := TX8) (N := 7) hx hb hts hi_X8_readCommand_X8 tyX8 tyX8_ok nmX8 hown hK hP hD hS 0 rfl rfl 2 (by decide) (hts (.fieldLink RX8 23 "FallingWords$Text" "at" "I") (by decide +kernel)) (fun _ h9 => h9) rfl (by decide +kernel) rfl rfl (Nat.le_of_ble_eq_true rfl) dX8_readCommand_152 (fun H locs hP hD hS => ?_)
    have hP : va_P D vwCl (gTx cA Bt CH (nI n) (nI (a + 1)) (nI (txt a)) fw sw dg) H := hP
    have hD : va_D AY (gTx cA Bt CH (nI n) (nI (a + 1)) (nI (txt a)) fw sw dg) := hD
    refine lv_aload_n hx hb dX8_readCommand_155 rfl (lv_at hl 0 rfl) ?_
    refine ci_V (As := []) (rest := []) h0 hK hN hP hD hS hA hl.1 (k_X8_readDigit lY D cA Bt txt n (a + 1) CH (nI (txt a)) fw sw dg (by first | assumption | omega) (by omega)) [0, 1] rfl (by decide) (cwV 0 hts gX8_readCommand_X8_readDigit rfl rfl rfl (by decide +kernel) ⟨Nat.le_of_ble_eq_true rfl, Nat.le_of_ble_eq_true rfl⟩) (cl_recv (ci := 8) (q := (RX8, TX8, 7)) (q0 := 0) hP hK rfl rfl) rfl rfl (Nat.le_of_ble_eq_true rfl) dX8_readCommand_156 ⟨Nat.zero_le _, Nat.zero_le _⟩ (fun rY wY H locs hwY hJ hS => ?_)
    obtain ⟨dg2_156, e1Y, e2Y, fd_156⟩ := hwY
    have e3Y := e1Y.symm
    clear e1Y
    subst e3Y
    have e3Y := e2Y.symm
    clear e2Y
    subst e3Y
    obtain ⟨hP, hD⟩ := hJ rfl
    have hP : va_P D vwCl (gTx cA Bt CH (nI n) (nI (dgA txt n (a + 1))) (nI (txt a)) fw sw dg2_156) H := hP
    have hD : va_D AY (gTx cA Bt CH (nI n) (nI (dgA txt n (a + 1))) (nI (txt a)) fw sw dg2_156) := hD
    refine xb_eq (tgt := 175) hx hb dX8_readCommand_159 (by decide) (fun c159 => ?_) (fun c159 => ?_)
    · refine lv_iconst (v := nI 0) hx hb dX8_readCommand_175 (by decide +kernel) ?_
      have hO := okP_d (n := n) (Or.inr s17_119)
      rw [c159] at hO
      have hO2 : okP txt n a = (false, a + 1) := hO
      exact hret _ _ _ _ _ _ dX8_readCommand_176 ⟨fw, sw, dg2_156, (by rw [hO2]; rfl), (by rw [hO2, dgA_f c159]), (fun h => by omega), (fun h => by omega), (fun _ h => by rw [hO2] at h; cases h), (fun h => by rw [hO2] at h; cases h)⟩ hP hD hS
    · have hdg := of_decide_eq_true c159
      rw [dgA_t c159] at hP hD
      have hP : va_P D vwCl (gTx cA Bt CH (nI n) (nI (a + 2)) (nI (txt a)) fw sw dg2_156) H := hP
      have hD : va_D AY (gTx cA Bt CH (nI n) (nI (a + 2)) (nI (txt a)) fw sw dg2_156) := hD
      refine lv_aload_n hx hb dX8_readCommand_162 rfl (lv_at hl 0 rfl) ?_
      refine lv_bipush (v := nI 59) hx hb dX8_readCommand_163 (by decide +kernel) ?_
      refine ci_V (As := [.int (nI 59)]) (rest := []) h0 hK hN hP hD hS hA hl.1 (k_X8_passes lY D cA Bt txt n (a + 2) CH (nI (txt a)) fw sw dg2_156 59 (by first | assumption | omega) (by omega) (by omega)) [0, 1] rfl (by decide) (cwV 1 hts gX8_readCommand_X8_passes rfl rfl rfl (by decide +kernel) ⟨Nat.le_of_ble_eq_true rfl, Nat.le_of_ble_eq_true rfl⟩) (cl_recv (ci := 8) (q := (RX8, TX8, 7)) (q0 := 0) hP hK rfl rfl) rfl rfl (Nat.le_of_ble_eq_true rfl) dX8_readCommand_165 ⟨Nat.zero_le _, Nat.zero_le _⟩ (fun rY wY H locs hwY hJ hS => ?_)
      obtain ⟨e1Y, e2Y⟩ := hwY
      have e3Y := e1Y.symm
      clear e1Y
      subst e3Y
      have e3Y := e2Y.symm
      clear e2Y
      subst e3Y
      obtain ⟨hP, hD⟩ := hJ rfl
      have hP : va_P D vwCl (gTx cA Bt CH (nI n) (nI (psA txt n (a + 2) 59)) (nI (txt a)) fw sw dg2_156) H := hP
      have hD : va_D AY (gTx cA Bt CH (nI n) (nI (psA txt n (a + 2) 59)) (nI (txt a)) fw sw dg2_156) := hD
      refine xb_eq (tgt := 175) hx hb dX8_readCommand_168 (by decide) (fun c168 => ?_) (fun c168 => ?_)
      · refine lv_iconst (v := nI 0) hx hb dX8_readCommand_175 (by decide +kernel) ?_
        have hO := okP_d (n := n) (Or.inr s17_119)
        rw [c159] at hO
        have hO2 : okP txt n a = (psB txt n (a + 2) 59, psA txt n (a + 2) 59) := hO
        exact hret _ _ _ _ _ _ dX8_readCommand_176 ⟨fw, sw, dg2_156, (by rw [hO2]; dsimp only; rw [c168]; rfl), (by rw [hO2]), (fun h => by omega), (fun h => by omega), (fun _ _ => ⟨fd_156 c159, by omega⟩), (fun _ => by omega)⟩ hP hD hS
      · refine lv_iconst (v := nI 1) hx hb dX8_readCommand_171 (by decide +kernel) ?_
        refine lv_goto (tgt := 176) hx hb dX8_readCommand_172 (by decide) ?_
        have hO := okP_d (n := n) (Or.inr s17_119)
        rw [c159] at hO
        have hO2 : okP txt n a = (psB txt n (a + 2) 59, psA txt n (a + 2) 59) := hO
        exact hret _ _ _ _ _ _ dX8_readCommand_176 ⟨fw, sw, dg2_156, (by rw [hO2]; dsimp only; rw [c168]; rfl), (by rw [hO2]), (fun h => by omega), (fun h => by omega), (fun _ _ => ⟨fd_156 c159, by omega⟩), (fun _ => by omega)⟩ hP hD hS
  have e17 : (nI (txt a) : Int32).toInt = (txt a : Nat) := nI_toInt (by omega)
  refine lv_lookup (off := 177) (tgt := 194) hx hb dX8_readCommand_17 (by decide) (by show Op.lookupswitch.offset [(43, 59), (45, 128), (61, 103), (110, 160), (115, 160), (119, 128)] _ _ = _; rw [Op.lookupswitch.offset_cons, if_neg (by rw [e17]; omega)]; rw [Op.lookupswitch.offset_cons, if_neg (by rw [e17]; omega)]; rw [Op.lookupswitch.offset_cons, if_neg (by rw [e17]; omega)]; rw [Op.lookupswitch.offset_cons, if_neg (by rw [e17]; omega)]; rw [Op.lookupswitch.offset_cons, if_neg (by rw [e17]; omega)]; rw [Op.lookupswitch.offset_cons, if_neg (by rw [e17]; omega)]; rfl) (by decide) ?_
  refine lv_iconst (v := nI 0) hx hb dX8_readCommand_194 (by decide +kernel) ?_
  have hO2 := okP_n (txt := txt) (n := n) (a := a) (by omega)
  exact hret _ _ _ _ _ _ dX8_readCommand_195 ⟨fw, sw, dg, (by rw [hO2]; rfl), (by rw [hO2]), (fun h => by omega), (fun h => by omega), (fun h => by omega), (fun h => by rw [hO2] at h; cases h)⟩ hP hD hS
