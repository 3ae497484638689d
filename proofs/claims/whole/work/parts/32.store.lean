/-! the store, reducing, a state -/
def rSo (S : St) (WW NN : Nat → Int32) : Prop := ∀ k, k < S 3 → WW k = nI (S (36 + 2 * k)) ∧ NN k = nI (S (37 + 2 * k))
def IV (S : St) : Prop := IR S ∧ S 3 ≤ 8 ∧ vw 12 (S 0) ∧ ∀ k, k < S 3 → vw 12 (S (36 + 2 * k)) ∧ vw 12 (S (37 + 2 * k))
def fs (S : St) (w : Nat) : Nat := ff (fun k => decide (S (36 + 2 * k) = w)) (S 3)
def ixI (S : St) (w : Nat) : Int32 := if fs S w < S 3 then nI (fs S w) else (-1)
/-- a word with its normal word comes first; the places up to p move -/
def cfs (S : St) (w v p : Nat) : St := fun j => if j = 36 then w else if j = 37 then v else if 38 ≤ j ∧ j < 38 + 2 * p then S (j - 2) else S j
def mv (w : Int32) (p : Nat) (W W' : Nat → Int32) : Prop := ∀ k, W' k = if k = 0 then w else if k ≤ p then W (k - 1) else W k
theorem cfs_ev {S : St} {w v p k : Nat} (h : 0 < k) : cfs S w v p (36 + 2 * k) = if k ≤ p then S (36 + 2 * (k - 1)) else S (36 + 2 * k) := by
  unfold cfs
  rw [if_neg (by omega), if_neg (by omega)]
  by_cases q : k ≤ p
  · rw [if_pos q, if_pos (by omega)]; congr 1; omega
  · rw [if_neg q, if_neg (by omega)]
theorem cfs_od {S : St} {w v p k : Nat} (h : 0 < k) : cfs S w v p (37 + 2 * k) = if k ≤ p then S (37 + 2 * (k - 1)) else S (37 + 2 * k) := by
  unfold cfs
  rw [if_neg (by omega), if_neg (by omega)]
  by_cases q : k ≤ p
  · rw [if_pos q, if_pos (by omega)]; congr 1; omega
  · rw [if_neg q, if_neg (by omega)]
theorem rSo_cfs {S S2 : St} {WW NN WW' NN' : Nat → Int32} {w v p : Nat} (h : rSo S WW NN) (h1 : mv (nI w) p WW WW') (h2 : mv (nI v) p NN NN') (hp : p ≤ S 3) (h3 : ∀ j, 36 ≤ j → S2 j = S j) (hn : S2 3 ≤ S 3 ∨ (p + 1 = S2 3)) (hq : cfs S2 w v p 3 = S2 3) : rSo (cfs S2 w v p) WW' NN' := by
  intro k hk
  rw [hq] at hk
  rw [h1 k, h2 k]
  by_cases e : k = 0
  · subst e
    exact ⟨rfl, rfl⟩
  · rw [if_neg e, if_neg e, cfs_ev (by omega), cfs_od (by omega)]
    by_cases q : k ≤ p
    · obtain ⟨a, b⟩ := h (k - 1) (by omega)
      rw [if_pos q, if_pos q, if_pos q, if_pos q, h3 _ (by omega), h3 _ (by omega), a, b]
      exact ⟨rfl, rfl⟩
    · obtain ⟨a, b⟩ := h k (by omega)
      rw [if_neg q, if_neg q, if_neg q, if_neg q, h3 _ (by omega), h3 _ (by omega), a, b]
      exact ⟨rfl, rfl⟩
theorem cfs_lo {S : St} {w v p j : Nat} (h : j < 36) : cfs S w v p j = S j := by
  unfold cfs
  rw [if_neg (by omega), if_neg (by omega), if_neg (by omega)]
def putS (S : St) (w v : Nat) : St := cfs (upN S 3 (min (S 3 + 1) 8)) w v (min (S 3 + 1) 8 - 1)
def mvi (i p : Nat) (W W' : Nat → Int32) : Prop := ∀ k, W' k = if i < k ∧ k ≤ p then W (k - 1) else W k
theorem mvi_0 {p : Nat} {W : Nat → Int32} : mvi p p W W := fun k => by rw [if_neg (by omega)]
theorem mvi_s {i p : Nat} {W W' : Nat → Int32} (h : mvi i p W W') (hi : 0 < i) (hp : i ≤ p) : mvi (i - 1) p W (upd W' i (W' (i - 1))) := by
  intro k
  by_cases e : k = i
  · subst e
    rw [pk_us, if_pos (by omega), h (k - 1), if_neg (by omega)]
  · rw [pk_un e, h k]
    by_cases q : i < k ∧ k ≤ p
    · rw [if_pos q, if_pos (by omega)]
    · rw [if_neg q, if_neg (by omega)]
theorem mvi_end {p : Nat} {W W' : Nat → Int32} {w : Int32} (h : mvi 0 p W W') : mv w p W (upd W' 0 w) := by
  intro k
  by_cases e : k = 0
  · subst e; rw [pk_us, if_pos rfl]
  · rw [pk_un e, h k, if_neg e]
    by_cases q : k ≤ p
    · rw [if_pos q, if_pos (by omega)]
    · rw [if_neg q, if_neg (by omega)]
theorem rnk_lt {way n i j p q r t : Nat} (h1 : way ≤ 2) (h2 : n ≤ 12) (h3 : p < n) (h4 : q < n) (h5 : r < 10) (h6 : t < 10) (h : rnk way p r < rnk way q t) (hc : way = 2 ∧ t = i ∧ q = j ∨ way = 1 ∧ q = n - 1 - i ∧ t = j ∧ i < n ∨ way = 0 ∧ q = i ∧ t = j) : way = 2 ∧ (r < i ∨ r = i ∧ p < j) ∨ way = 1 ∧ (n - 1 - p < i ∨ n - 1 - p = i ∧ r < j) ∨ way = 0 ∧ (p < i ∨ p = i ∧ r < j) := by
  unfold rnk at h
  rcases hc with ⟨rfl, rfl, rfl⟩ | ⟨rfl, rfl, rfl, h7⟩ | ⟨rfl, rfl, rfl⟩
  · have e : ¬ (2 = 1) := by decide
    simp only [e, if_false, if_true] at h
    omega
  · simp only [if_true] at h
    omega
  · have e : ¬ (0 = 1) := by decide
    have e2 : ¬ (0 = 2) := by decide
    simp only [e, e2, if_false] at h
    omega
theorem chI_ge {S : St} {w : Nat} (h : 0 ≤ (chI S w).toInt) : nrm S w = false := by
  cases hn : nrm S w with
  | false => rfl
  | true => rw [chI_no hn] at h; exact absurd h (by decide)
theorem ch_lt {S : St} {w : Nat} (hI : IR S) (hw : vw 12 w) (hn : nrm S w = false) : chr S w < S 1 ∧ chp S w < len w ∧ chr S w < 10 ∧ chp S w < 12 ∧ chp S w + len (lf S (chr S w)) ≤ len w := by
  obtain ⟨a, b, c, -⟩ := ch_yes hn
  have := stn_le c
  have := hI.1
  have := hw.2
  exact ⟨a, b, by omega, by omega, by omega⟩
theorem chI_lt {S : St} {w : Nat} (hI : IR S) (hw : vw 12 w) (h : (chI S w).toInt < 0) : nrm S w = true := by
  cases hn : nrm S w with
  | true => rfl
  | false =>
    obtain ⟨-, -, a, b, -⟩ := ch_lt hI hw hn
    rw [chI_yes hn, nI_toInt (by omega)] at h
    omega
/-- how often the rules were applied on a row of steps -/
noncomputable def bmp (S : St) (w : Nat) : Nat → St
  | 0 => S
  | k + 1 => upN (bmp S w k) (6 + 3 * chr S (xs S w k) + 2) (bmp S w k (6 + 3 * chr S (xs S w k) + 2) + 1)
theorem bmp_n {S : St} {w j : Nat} : ∀ {k : Nat}, (∀ i, i < k → j ≠ 6 + 3 * chr S (xs S w i) + 2) → bmp S w k j = S j
  | 0, _ => rfl
  | k + 1, h => by
    show upN _ _ _ j = _
    rw [upN_n (h k (Nat.lt_succ_self k))]
    exact bmp_n (fun i hi => h i (by omega))
theorem bmp_lo {S : St} {w j k : Nat} (h : j < 6) : bmp S w k j = S j := bmp_n (fun i _ => by omega)
theorem bmp_hi {S : St} {w j k : Nat} (hc : ∀ i, i < k → chr S (xs S w i) < 10) (h : 36 ≤ j) : bmp S w k j = S j := bmp_n (fun i hi => by have := hc i hi; omega)
theorem bmp_lf {S : St} {w r k : Nat} : lf (bmp S w k) r = lf S r := bmp_n (fun i _ => by omega)
theorem bmp_rt {S : St} {w r k : Nat} : rt (bmp S w k) r = rt S r := bmp_n (fun i _ => by omega)
theorem rRu_tm {S : St} {L R LL RL TM : Nat → Int32} (h : rRu S L R LL RL TM) {c : Nat} : rRu (upN S (6 + 3 * c + 2) (S (6 + 3 * c + 2) + 1)) L R LL RL (upd TM c (nI (tms S c) + 1)) := by
  intro r hr
  rw [upN_n (by omega)] at hr
  obtain ⟨a1, a2, a3, a4, a5⟩ := h r hr
  have e1 : lf (upN S (6 + 3 * c + 2) (S (6 + 3 * c + 2) + 1)) r = lf S r := upN_n (by omega)
  have e2 : rt (upN S (6 + 3 * c + 2) (S (6 + 3 * c + 2) + 1)) r = rt S r := upN_n (by omega)
  rw [e1, e2]
  refine ⟨a1, a2, a3, a4, ?_⟩
  by_cases e : r = c
  · subst e
    rw [pk_us]
    unfold tms
    rw [upN_s, nI_1]
  · rw [pk_un e, a5]
    unfold tms
    rw [upN_n (by omega)]
theorem rRu_to {S S2 : St} {L R LL RL TM : Nat → Int32} (h : rRu S L R LL RL TM) (e : ∀ j, 6 ≤ j → j < 36 → S2 j = S j) (e1 : S2 1 = S 1) (h10 : S 1 ≤ 10) : rRu S2 L R LL RL TM := by
  intro r hr
  rw [e1] at hr
  have a := h r hr
  unfold lf rt tms at a ⊢
  rw [e _ (by omega) (by omega), e _ (by omega) (by omega), e _ (by omega) (by omega)]
  exact a
theorem rSo_to {S S2 : St} {WW NN : Nat → Int32} (h : rSo S WW NN) (e : ∀ j, 36 ≤ j → S2 j = S j) (e1 : S2 3 = S 3) : rSo S2 WW NN := by
  intro k hk
  rw [e1] at hk
  rw [e _ (by omega), e _ (by omega)]
  exact h k hk
theorem rSo_0 {S : St} {WW NN : Nat → Int32} (h : S 3 = 0) : rSo S WW NN := fun k hk => by omega
def cN (n : Nat) (f g : Nat → Int32) : Prop := ∀ k, k < n → f k = g k
theorem cN_cpy {n : Nat} {f g : Nat → Int32} : cN n (va_cpy f g 0 0 n) f := fun k hk => by
  unfold va_cpy
  rw [if_pos ⟨Nat.zero_le _, by omega⟩]
  congr 1; omega
theorem rRu_cN {S : St} {L R LL RL TM L' R' LL' RL' TM' : Nat → Int32} (h : rRu S L R LL RL TM) (h10 : S 1 ≤ 10) (h1 : cN 10 L' L) (h2 : cN 10 R' R) (h3 : cN 10 LL' LL) (h4 : cN 10 RL' RL) (h5 : cN 10 TM' TM) : rRu S L' R' LL' RL' TM' := by
  intro r hr
  have q : r < 10 := by omega
  rw [h1 r q, h2 r q, h3 r q, h4 r q, h5 r q]
  exact h r hr
theorem rSo_cN {S : St} {WW NN WW' NN' : Nat → Int32} (h : rSo S WW NN) (h8 : S 3 ≤ 8) (h1 : cN 8 WW' WW) (h2 : cN 8 NN' NN) : rSo S WW' NN' := by
  intro r hr
  rw [h1 r (by omega), h2 r (by omega)]
  exact h r hr
def wayS (S : St) (v : Nat) : St := upN (upN S 2 v) 3 0
noncomputable def stpS (S : St) : St := upN (upN (upN S 0 (nxt S (S 0))) (6 + 3 * chr S (S 0) + 2) (S (6 + 3 * chr S (S 0) + 2) + 1)) 5 (S 5 + 1)
noncomputable def stepR (S : St) : Int32 × St := if nrm S (S 0) then ((-1000002), S) else (nI (chr S (S 0)), stpS S)
/-- the word is taken from the store -/
def tkS (S : St) (k : Nat) : St := upN (upN (cfs S (S 0) (S (37 + 2 * k)) k) 0 (S (37 + 2 * k))) 4 (S 4 + 1)
/-- the word is reduced to its normal word -/
noncomputable def nmS (S : St) : St := putS (upN (upN (bmp S (S 0) (red S (S 0)).2.1) 5 (S 5 + (red S (S 0)).2.1)) 0 (xs S (S 0) (red S (S 0)).2.1)) (S 0) (xs S (S 0) (red S (S 0)).2.1)
noncomputable def normR (S : St) : Int32 × St := if fs S (S 0) < S 3 then (0, tkS S (fs S (S 0))) else if (red S (S 0)).1 = 0 then (nI (red S (S 0)).2.1, nmS S) else if (red S (S 0)).1 = 1 then ((-1000002), S) else ((-1000003), S)

abbrev gSo (cA : Nat → ClassId) (B : Nat → Nat) (WW : Nat → Int32) (NN : Nat → Int32) (zs : Int32) : va_W := [(B 0, .inr (7, [.ref (B 1), .ref (B 2), .int zs])), (B 1, .inl (cA 0, 8, .inl WW)), (B 2, .inl (cA 0, 8, .inl NN))]
abbrev gSa (cA : Nat → ClassId) (B : Nat → Nat) (wo : Int32) (cho : Int32) (tak : Int32) (stp : Int32) (L : Nat → Int32) (R : Nat → Int32) (LL : Nat → Int32) (RL : Nat → Int32) (TM : Nat → Int32) (z : Int32) (WW : Nat → Int32) (NN : Nat → Int32) (zs : Int32) : va_W := [(B 0, .inr (6, [.ref (B 1), .ref (B 7), .int wo, .int cho, .int tak, .int stp])), (B 1, .inr (4, [.ref (B 2), .ref (B 3), .ref (B 4), .ref (B 5), .ref (B 6), .int z])), (B 2, .inl (cA 0, 10, .inl L)), (B 3, .inl (cA 0, 10, .inl R)), (B 4, .inl (cA 0, 10, .inl LL)), (B 5, .inl (cA 0, 10, .inl RL)), (B 6, .inl (cA 0, 10, .inl TM)), (B 7, .inr (7, [.ref (B 8), .ref (B 9), .int zs])), (B 8, .inl (cA 0, 8, .inl WW)), (B 9, .inl (cA 0, 8, .inl NN))]
abbrev gRd (cA : Nat → ClassId) (B : Nat → Nat) (WD : Nat → Int32) (RD : Nat → Int32) (oc : Int32) (ns : Int32) (rs : Int32) : va_W := [(B 0, .inr (3, [.ref (B 1), .ref (B 2), .int oc, .int ns, .int rs])), (B 1, .inl (cA 0, 101, .inl WD)), (B 2, .inl (cA 0, 100, .inl RD))]
theorem hi_X7_takeOver_X7 : ∀ w ∈ u_ws RX7 TX7 3, w ∈ wsX7_takeOver := by decide +kernel
set_option maxHeartbeats 1000000 in
set_option maxRecDepth 100000 in
theorem k_X7_takeOver (lY : Launch) (D : va_G) (cA : Nat → ClassId) (B B2 : Nat → Nat) (WW NN WW2 NN2 : Nat → Int32) (zs zs2 : Int32)  : MetV lY D cA yX7_takeOver wsX7_takeOver 1 20 0 0 [.ref (B 0), .ref (B2 0)] (gSo cA B WW NN zs ++ gSo cA B2 WW2 NN2 zs2) (fun wY => ∃ (WW' : Nat → Int32) (NN' : Nat → Int32), wY = gSo cA B WW' NN' zs2 ++ gSo cA B2 WW2 NN2 zs2 ∧ (cN 8 WW' WW2) ∧ (cN 8 NN' NN2)) := by
  refine MetV.of (cc := cX7_takeOver) (maxL := 2) (by decide) rfl (Nat.le_of_ble_eq_true rfl) ?_
  intro pY eY sY mY aY bY tY cY QY AY ls h0 hP hK hN hD hA hS hl hin hret
  obtain ⟨hx, hb, hml, hown, hts⟩ := id h0
  have hl : lv_has ls 2 [(0, .ref (B 0)), (1, .ref (B2 0))] := hl
  have hP : va_P D vwCl (gSo cA B WW NN zs ++ gSo cA B2 WW2 NN2 zs2) sY.heap := hP
  have hD : va_D AY (gSo cA B WW NN zs ++ gSo cA B2 WW2 NN2 zs2) := hD
  refine lv_aload_n hx hb dX7_takeOver_0 rfl (lv_at hl 1 rfl) ?_
  refine va_get (D := D) (ci := 7) (v := .ref (B2 1)) (C := RX7) (T := TX7) (N := 3) hx hb hts hi_X7_takeOver_X7 hown hK hP 3 rfl rfl 0 (by decide) (hts (.fieldLink RX7 9 "FallingWords$Store" "words" "[I") (by decide +kernel)) (fun _ h9 => h9) rfl dX7_takeOver_1 ?_
  refine lv_iconst (v := nI 0) hx hb dX7_takeOver_4 (by decide +kernel) ?_
  refine lv_aload_n hx hb dX7_takeOver_5 rfl (lv_at hl 0 rfl) ?_
  refine va_get (D := D) (ci := 7) (v := .ref (B 1)) (C := RX7) (T := TX7) (N := 3) hx hb hts hi_X7_takeOver_X7 hown hK hP 0 rfl rfl 0 (by decide) (hts (.fieldLink RX7 9 "FallingWords$Store" "words" "[I") (by decide +kernel)) (fun _ h9 => h9) rfl dX7_takeOver_6 ?_
  refine lv_iconst (v := nI 0) hx hb dX7_takeOver_9 (by decide +kernel) ?_
  refine lv_bipush (v := nI 8) hx hb dX7_takeOver_10 (by decide +kernel) ?_
  refine va_copyi hx hb (hml.trans hl.1.symm) hown (hts (.methodLink RX7 18 arraycopyName) (by decide +kernel)) (hts (.native arraycopyName) (by decide +kernel)) (hts (.static arraycopyName) (by decide +kernel)) (hts (.initialized "java/lang/System") (by decide +kernel)) hK hP hD hS 4 1 0 0 rfl rfl rfl rfl rfl (by decide +kernel) (by decide +kernel) (by decide +kernel) (by decide +kernel) (by decide +kernel) (fun _ _ => rfl) (Nat.le_of_ble_eq_true rfl) (Nat.le_of_ble_eq_true rfl) dX7_takeOver_12 (fun H locs hP hD hS => ?_)
  have hP : va_P D vwCl (gSo cA B (va_cpy WW2 WW 0 0 8) NN zs ++ gSo cA B2 WW2 NN2 zs2) H := hP
  have hD : va_D AY (gSo cA B (va_cpy WW2 WW 0 0 8) NN zs ++ gSo cA B2 WW2 NN2 zs2) := hD
  refine lv_aload_n hx hb dX7_takeOver_15 rfl (lv_at hl 1 rfl) ?_
  refine va_get (D := D) (ci := 7) (v := .ref (B2 2)) (C := RX7) (T := TX7) (N := 3) hx hb hts hi_X7_takeOver_X7 hown hK hP 3 rfl rfl 1 (by decide) (hts (.fieldLink RX7 15 "FallingWords$Store" "normals" "[I") (by decide +kernel)) (fun _ h9 => h9) rfl dX7_takeOver_16 ?_
  refine lv_iconst (v := nI 0) hx hb dX7_takeOver_19 (by decide +kernel) ?_
  refine lv_aload_n hx hb dX7_takeOver_20 rfl (lv_at hl 0 rfl) ?_
  refine va_get (D := D) (ci := 7) (v := .ref (B 2)) (C := RX7) (T := TX7) (N := 3) hx hb hts hi_X7_takeOver_X7 hown hK hP 0 rfl rfl 1 (by decide) (hts (.fieldLink RX7 15 "FallingWords$Store" "normals" "[I") (by decide +kernel)) (fun _ h9 => h9) rfl dX7_takeOver_21 ?_
  refine lv_iconst (v := nI 0) hx hb dX7_takeOver_24 (by decide +kernel) ?_
  refine lv_bipush (v := nI 8) hx hb dX7_takeOver_25 (by decide +kernel) ?_
  refine va_copyi hx hb (hml.trans hl.1.symm) hown (hts (.methodLink RX7 18 arraycopyName) (by decide +kernel)) (hts (.native arraycopyName) (by decide +kernel)) (hts (.static arraycopyName) (by decide +kernel)) (hts (.initialized "java/lang/System") (by decide +kernel)) hK hP hD hS 5 2 0 0 rfl rfl rfl rfl rfl (by decide +kernel) (by decide +kernel) (by decide +kernel) (by decide +kernel) (by decide +kernel) (fun _ _ => rfl) (Nat.le_of_ble_eq_true rfl) (Nat.le_of_ble_eq_true rfl) dX7_takeOver_27 (fun H locs hP hD hS => ?_)
  have hP : va_P D vwCl (gSo cA B (va_cpy WW2 WW 0 0 8) (va_cpy NN2 NN 0 0 8) zs ++ gSo cA B2 WW2 NN2 zs2) H := hP
  have hD : va_D AY (gSo cA B (va_cpy WW2 WW 0 0 8) (va_cpy NN2 NN 0 0 8) zs ++ gSo cA B2 WW2 NN2 zs2) := hD
  refine lv_aload_n hx hb dX7_takeOver_30 rfl (lv_at hl 0 rfl) ?_
  refine lv_aload_n hx hb dX7_takeOver_31 rfl (lv_at hl 1 rfl) ?_
  refine va_get (D := D) (ci := 7) (v := .int zs2) (C := RX7) (T := TX7) (N := 3) hx hb hts hi_X7_takeOver_X7 hown hK hP 3 rfl rfl 2 (by decide) (hts (.fieldLink RX7 24 "FallingWords$Store" "size" "I") (by decide +kernel)) (fun _ h9 => h9) rfl dX7_takeOver_32 ?_
  refine va_put (D := D) (ci := 7) (v := .int zs2) (ty := .int) (C := RX7) (T := TX7) (N := 3) hx hb hts hi_X7_takeOver_X7 tyX7 tyX7_ok nmX7 hown hK hP hD hS 0 rfl rfl 2 (by decide) (hts (.fieldLink RX7 24 "FallingWords$Store" "size" "I") (by decide +kernel)) (fun _ h9 => h9) rfl (by decide +kernel) rfl rfl (Nat.le_of_ble_eq_true rfl) dX7_takeOver_35 (fun H locs hP hD hS => ?_)
  have hP : va_P D vwCl (gSo cA B (va_cpy WW2 WW 0 0 8) (va_cpy NN2 NN 0 0 8) zs2 ++ gSo cA B2 WW2 NN2 zs2) H := hP
  have hD : va_D AY (gSo cA B (va_cpy WW2 WW 0 0 8) (va_cpy NN2 NN 0 0 8) zs2 ++ gSo cA B2 WW2 NN2 zs2) := hD
  exact hret _ _ _ _ _ dX7_takeOver_38 ⟨(va_cpy WW2 WW 0 0 8), (va_cpy NN2 NN 0 0 8), rfl, cN_cpy, cN_cpy⟩ hP hD hS

theorem hi_X7_indexOf_X7 : ∀ w ∈ u_ws RX7 TX7 3, w ∈ wsX7_indexOf := by decide +kernel
set_option maxHeartbeats 1000000 in
set_option maxRecDepth 100000 in
theorem k_X7_indexOf (lY : Launch) (D : va_G) (cA : Nat → ClassId) (B : Nat → Nat) (S : St) (WW NN : Nat → Int32) (w : Nat) (h8 : S 3 ≤ 8) (hr : rSo S WW NN) (hw : w < 2147483648) (hBd : ∀ k, k < S 3 → S (36 + 2 * k) < 2147483648) : MetI lY D cA yX7_indexOf wsX7_indexOf 0 0 [.ref (B 0), .int (nI w)] (gSo cA B WW NN (nI (S 3))) (fun rY wY => rY = ixI S w ∧ wY = gSo cA B WW NN (nI (S 3))) := by
  refine MetI.of (cc := cX7_indexOf) (maxL := 3) (ret := (some .int)) (by decide) rfl (Nat.le_of_ble_eq_true rfl) (Or.inl rfl) ?_
  intro pY eY sY mY aY bY tY cY QY AY ls h0 hP hK hN hD hA hS hl hret
  obtain ⟨hx, hb, hml, hown, hts⟩ := id h0
  have hl : lv_has ls 3 [(0, .ref (B 0)), (1, .int (nI w))] := hl
  have hP : va_P D vwCl (gSo cA B WW NN (nI (S 3))) sY.heap := hP
  have hD : va_D AY (gSo cA B WW NN (nI (S 3))) := hD
  refine lv_iconst (v := nI 0) hx hb dX7_indexOf_0 (by decide +kernel) ?_
  refine lv_istore_n (lv' := [(2, .int (nI 0)), (0, .ref (B 0)), (1, .int (nI w))]) hx hb dX7_indexOf_1 rfl hl (by decide) rfl (fun ls hl => ?_)
  have L2 : ∀ (nY : Nat), ∀ (i : Nat), (i ≤ S 3) → (∀ k, k < i → decide (S (36 + 2 * k) = w) = false) → (S 3 - i < nY) → ∀ (H : Heap) (locs : List Loc) (ls : Array Slot), va_P D vwCl (gSo cA B WW NN (nI (S 3))) H → va_D AY (gSo cA B WW NN (nI (S 3))) → va_S AY sY.heap H locs → lv_has ls 3 [(0, .ref (B 0)), (1, .int (nI w)), (2, .int (nI i))] → W pY lY eY { frames := 0, cells := 0, slots := 0, locals := 0 } sY mY aY bY tY cY H locs 0 0 QY (F0 mY 2 ls []) := by
    intro nY2
    induction nY2 with
    | zero => intro i hi hno hm2; exact absurd hm2 (Nat.not_lt_zero _)
    | succ nY2 ih2 =>
      intro i hi hno hm2 H locs ls hP hD hS hl
      refine lv_iload_n hx hb dX7_indexOf_2 rfl (lv_at hl 2 rfl) ?_
      refine lv_aload_n hx hb dX7_indexOf_3 rfl (lv_at hl 0 rfl) ?_
      refine va_get (D := D) (ci := 7) (v := .int (nI (S 3))) (C := RX7) (T := TX7) (N := 3) hx hb hts hi_X7_indexOf_X7 hown hK hP 0 rfl rfl 2 (by decide) (hts (.fieldLink RX7 24 "FallingWords$Store" "size" "I") (by decide +kernel)) (fun _ h9 => h9) rfl dX7_indexOf_4 ?_
      refine xc_ge (tgt := 28) hx hb dX7_indexOf_7 (by decide) (by omega) (by omega) (fun c7 => ?_) (fun c7 => ?_)
      · refine lv_iconst (v := (-1)) hx hb dX7_indexOf_28 (by decide +kernel) ?_
        exact hret _ _ _ _ _ _ dX7_indexOf_29 ⟨by rw [ixI, show fs S w = S 3 from ff_none (fun j hj => hno j (by omega)), if_neg (by omega)], rfl⟩ hP hD hS
      · have g1 := hBd i (by omega)
        obtain ⟨f1, -⟩ := hr i (by omega)
        refine lv_aload_n hx hb dX7_indexOf_10 rfl (lv_at hl 0 rfl) ?_
        refine va_get (D := D) (ci := 7) (v := .ref (B 1)) (C := RX7) (T := TX7) (N := 3) hx hb hts hi_X7_indexOf_X7 hown hK hP 0 rfl rfl 0 (by decide) (hts (.fieldLink RX7 9 "FallingWords$Store" "words" "[I") (by decide +kernel)) (fun _ h9 => h9) rfl dX7_indexOf_11 ?_
        refine lv_iload_n hx hb dX7_indexOf_14 rfl (lv_at hl 2 rfl) ?_
        refine xa_ld (v := nI (S (36 + 2 * i))) hx hb hK hP 1 rfl (by omega) (by decide) (f1) dX7_indexOf_15 ?_
        refine lv_iload_n hx hb dX7_indexOf_16 rfl (lv_at hl 1 rfl) ?_
        refine xc_ne (tgt := 22) hx hb dX7_indexOf_17 (by decide) (by omega) (by omega) (fun c17 => ?_) (fun c17 => ?_)
        · refine lv_iinc (v := nI (i + 1)) (lv' := [(2, .int (nI (i + 1))), (0, .ref (B 0)), (1, .int (nI w))]) hx hb dX7_indexOf_22 hl (k := 2) rfl (show nI i + Int32.ofInt 1 = nI (i + 1) from nI_add i 1) (by decide) rfl (fun ls hl => ?_)
          refine lv_goto (tgt := 2) hx hb dX7_indexOf_25 (by decide) ?_
          exact ih2 (i + 1) (by omega) (lt_s hno (decide_eq_false c17)) (by omega) _ _ _ hP hD hS (lv_sub hl [1, 2, 0] rfl)
        · refine lv_iload_n hx hb dX7_indexOf_20 rfl (lv_at hl 2 rfl) ?_
          exact hret _ _ _ _ _ _ dX7_indexOf_21 ⟨by rw [ixI, show fs S w = i from ff_is (by omega) (decide_eq_true c17) hno, if_pos (by omega)], rfl⟩ hP hD hS
  exact L2 _ 0 (by omega) (fun k h => absurd h (Nat.not_lt_zero k)) (Nat.lt_succ_self _) _ _ _ hP hD hS (lv_sub hl [1, 2, 0] rfl)

theorem hi_X7_setAhead_X7 : ∀ w ∈ u_ws RX7 TX7 3, w ∈ wsX7_setAhead := by decide +kernel
set_option maxHeartbeats 1000000 in
set_option maxRecDepth 100000 in
theorem k_X7_setAhead (lY : Launch) (D : va_G) (cA : Nat → ClassId) (B : Nat → Nat) (WW NN : Nat → Int32) (zs : Int32) (p w v : Nat) (hp : p < 8) : MetV lY D cA yX7_setAhead wsX7_setAhead 0 0 0 0 [.ref (B 0), .int (nI p), .int (nI w), .int (nI v)] (gSo cA B WW NN zs) (fun wY => ∃ (WW' : Nat → Int32) (NN' : Nat → Int32), wY = gSo cA B WW' NN' zs ∧ (mv (nI w) p WW WW') ∧ (mv (nI v) p NN NN')) := by
  refine MetV.of (cc := cX7_setAhead) (maxL := 5) (by decide) rfl (Nat.le_of_ble_eq_true rfl) ?_
  intro pY eY sY mY aY bY tY cY QY AY ls h0 hP hK hN hD hA hS hl hin hret
  obtain ⟨hx, hb, hml, hown, hts⟩ := id h0
  have hl : lv_has ls 5 [(0, .ref (B 0)), (1, .int (nI p)), (2, .int (nI w)), (3, .int (nI v))] := hl
  have hP : va_P D vwCl (gSo cA B WW NN zs) sY.heap := hP
  have hD : va_D AY (gSo cA B WW NN zs) := hD
  refine lv_iload_n hx hb dX7_setAhead_0 rfl (lv_at hl 1 rfl) ?_
  refine lv_istore (lv' := [(4, .int (nI p)), (0, .ref (B 0)), (1, .int (nI p)), (2, .int (nI w)), (3, .int (nI v))]) hx hb dX7_setAhead_1 hl (by decide) rfl (fun ls hl => ?_)
  have L3 : ∀ (nY : Nat), ∀ (i : Nat) (WW' : Nat → Int32) (NN' : Nat → Int32), (i ≤ p) → (mvi i p WW WW') → (mvi i p NN NN') → (i < nY) → ∀ (H : Heap) (locs : List Loc) (ls : Array Slot), va_P D vwCl (gSo cA B WW' NN' zs) H → va_D AY (gSo cA B WW' NN' zs) → va_S AY sY.heap H locs → lv_has ls 5 [(0, .ref (B 0)), (1, .int (nI p)), (2, .int (nI w)), (3, .int (nI v)), (4, .int (nI i))] → W pY lY eY { frames := 0, cells := 0, slots := 0, locals := 0 } sY mY aY bY tY cY H locs 0 0 QY (F0 mY 3 ls []) := by
    intro nY3
    induction nY3 with
    | zero => intro i WW' NN' hi f1 f2 hm3; exact absurd hm3 (Nat.not_lt_zero _)
    | succ nY3 ih3 =>
      intro i WW' NN' hi f1 f2 hm3 H locs ls hP hD hS hl
      refine lv_iload hx hb dX7_setAhead_3 (lv_at hl 4 rfl) ?_
      refine x0_le (tgt := 46) hx hb dX7_setAhead_5 (by decide) (by omega) (fun c5 => ?_) (fun c5 => ?_)
      · subst c5
        refine lv_aload_n hx hb dX7_setAhead_46 rfl (lv_at hl 0 rfl) ?_
        refine va_get (D := D) (ci := 7) (v := .ref (B 1)) (C := RX7) (T := TX7) (N := 3) hx hb hts hi_X7_setAhead_X7 hown hK hP 0 rfl rfl 0 (by decide) (hts (.fieldLink RX7 9 "FallingWords$Store" "words" "[I") (by decide +kernel)) (fun _ h9 => h9) rfl dX7_setAhead_47 ?_
        refine lv_iconst (v := nI 0) hx hb dX7_setAhead_50 (by decide +kernel) ?_
        refine lv_iload_n hx hb dX7_setAhead_51 rfl (lv_at hl 2 rfl) ?_
        refine xa_st hx hb hK hP hD hS 1 rfl (by omega) (by decide) dX7_setAhead_52 (fun H locs hP hD hS => ?_)
        have hP : va_P D vwCl (gSo cA B (upd WW' 0 (nI w)) NN' zs) H := hP
        have hD : va_D AY (gSo cA B (upd WW' 0 (nI w)) NN' zs) := hD
        refine lv_aload_n hx hb dX7_setAhead_53 rfl (lv_at hl 0 rfl) ?_
        refine va_get (D := D) (ci := 7) (v := .ref (B 2)) (C := RX7) (T := TX7) (N := 3) hx hb hts hi_X7_setAhead_X7 hown hK hP 0 rfl rfl 1 (by decide) (hts (.fieldLink RX7 15 "FallingWords$Store" "normals" "[I") (by decide +kernel)) (fun _ h9 => h9) rfl dX7_setAhead_54 ?_
        refine lv_iconst (v := nI 0) hx hb dX7_setAhead_57 (by decide +kernel) ?_
        refine lv_iload_n hx hb dX7_setAhead_58 rfl (lv_at hl 3 rfl) ?_
        refine xa_st hx hb hK hP hD hS 2 rfl (by omega) (by decide) dX7_setAhead_59 (fun H locs hP hD hS => ?_)
        have hP : va_P D vwCl (gSo cA B (upd WW' 0 (nI w)) (upd NN' 0 (nI v)) zs) H := hP
        have hD : va_D AY (gSo cA B (upd WW' 0 (nI w)) (upd NN' 0 (nI v)) zs) := hD
        exact hret _ _ _ _ _ dX7_setAhead_60 ⟨(upd WW' 0 (nI w)), (upd NN' 0 (nI v)), rfl, mvi_end f1, mvi_end f2⟩ hP hD hS
      · refine lv_aload_n hx hb dX7_setAhead_8 rfl (lv_at hl 0 rfl) ?_
        refine va_get (D := D) (ci := 7) (v := .ref (B 1)) (C := RX7) (T := TX7) (N := 3) hx hb hts hi_X7_setAhead_X7 hown hK hP 0 rfl rfl 0 (by decide) (hts (.fieldLink RX7 9 "FallingWords$Store" "words" "[I") (by decide +kernel)) (fun _ h9 => h9) rfl dX7_setAhead_9 ?_
        refine lv_iload hx hb dX7_setAhead_12 (lv_at hl 4 rfl) ?_
        refine lv_aload_n hx hb dX7_setAhead_14 rfl (lv_at hl 0 rfl) ?_
        refine va_get (D := D) (ci := 7) (v := .ref (B 1)) (C := RX7) (T := TX7) (N := 3) hx hb hts hi_X7_setAhead_X7 hown hK hP 0 rfl rfl 0 (by decide) (hts (.fieldLink RX7 9 "FallingWords$Store" "words" "[I") (by decide +kernel)) (fun _ h9 => h9) rfl dX7_setAhead_15 ?_
        refine lv_iload hx hb dX7_setAhead_18 (lv_at hl 4 rfl) ?_
        refine lv_iconst (v := nI 1) hx hb dX7_setAhead_20 (by decide +kernel) ?_
        refine lv_isub hx hb dX7_setAhead_21 ?_
        refine xt (show (nI i) - (nI 1) = nI (i - 1) from pk_sub (by omega)) ?_
        refine xa_ld (v := WW' (i - 1)) hx hb hK hP 1 rfl (by omega) (by decide) (rfl) dX7_setAhead_22 ?_
        refine xa_st hx hb hK hP hD hS 1 rfl (by omega) (by decide) dX7_setAhead_23 (fun H locs hP hD hS => ?_)
        have hP : va_P D vwCl (gSo cA B (upd WW' i (WW' (i - 1))) NN' zs) H := hP
        have hD : va_D AY (gSo cA B (upd WW' i (WW' (i - 1))) NN' zs) := hD
        refine lv_aload_n hx hb dX7_setAhead_24 rfl (lv_at hl 0 rfl) ?_
        refine va_get (D := D) (ci := 7) (v := .ref (B 2)) (C := RX7) (T := TX7) (N := 3) hx hb hts hi_X7_setAhead_X7 hown hK hP 0 rfl rfl 1 (by decide) (hts (.fieldLink RX7 15 "FallingWords$Store" "normals" "[I") (by decide +kernel)) (fun _ h9 => h9) rfl dX7_setAhead_25 ?_
        refine lv_iload hx hb dX7_setAhead_28 (lv_at hl 4 rfl) ?_
        refine lv_aload_n hx hb dX7_setAhead_30 rfl (lv_at hl 0 rfl) ?_
        refine va_get (D := D) (ci := 7) (v := .ref (B 2)) (C := RX7) (T := TX7) (N := 3) hx hb hts hi_X7_setAhead_X7 hown hK hP 0 rfl rfl 1 (by decide) (hts (.fieldLink RX7 15 "FallingWords$Store" "normals" "[I") (by decide +kernel)) (fun _ h9 => h9) rfl dX7_setAhead_31 ?_
        refine lv_iload hx hb dX7_setAhead_34 (lv_at hl 4 rfl) ?_
        refine lv_iconst (v := nI 1) hx hb dX7_setAhead_36 (by decide +kernel) ?_
        refine lv_isub hx hb dX7_setAhead_37 ?_
        refine xt (show (nI i) - (nI 1) = nI (i - 1) from pk_sub (by omega)) ?_
        refine xa_ld (v := NN' (i - 1)) hx hb hK hP 2 rfl (by omega) (by decide) (rfl) dX7_setAhead_38 ?_
        refine xa_st hx hb hK hP hD hS 2 rfl (by omega) (by decide) dX7_setAhead_39 (fun H locs hP hD hS => ?_)
        have hP : va_P D vwCl (gSo cA B (upd WW' i (WW' (i - 1))) (upd NN' i (NN' (i - 1))) zs) H := hP
        have hD : va_D AY (gSo cA B (upd WW' i (WW' (i - 1))) (upd NN' i (NN' (i - 1))) zs) := hD
        refine lv_iinc (v := nI (i - 1)) (lv' := [(4, .int (nI (i - 1))), (0, .ref (B 0)), (1, .int (nI p)), (2, .int (nI w)), (3, .int (nI v))]) hx hb dX7_setAhead_40 hl (k := 4) rfl (show nI i + Int32.ofInt (-1) = nI (i - 1) from sb_m1 c5) (by decide) rfl (fun ls hl => ?_)
        refine lv_goto (tgt := 3) hx hb dX7_setAhead_43 (by decide) ?_
        exact ih3 (i - 1) (upd WW' i (WW' (i - 1))) (upd NN' i (NN' (i - 1))) (by omega) (mvi_s f1 c5 hi) (mvi_s f2 c5 hi) (by omega) _ _ _ hP hD hS (lv_sub hl [1, 2, 3, 4, 0] rfl)
  exact L3 _ p WW NN (by omega) (mvi_0) (mvi_0) (Nat.lt_succ_self _) _ _ _ hP hD hS (lv_sub hl [1, 2, 3, 4, 0] rfl)

theorem hi_X7_put_X7 : ∀ w ∈ u_ws RX7 TX7 3, w ∈ wsX7_put := by decide +kernel
set_option maxHeartbeats 1000000 in
set_option maxRecDepth 100000 in
theorem k_X7_put (lY : Launch) (D : va_G) (cA : Nat → ClassId) (B : Nat → Nat) (S : St) (WW NN : Nat → Int32) (w v : Nat) (h8 : S 3 ≤ 8) (hr : rSo S WW NN) : MetV lY D cA yX7_put wsX7_put 1 24 0 0 [.ref (B 0), .int (nI w), .int (nI v)] (gSo cA B WW NN (nI (S 3))) (fun wY => ∃ (WW' : Nat → Int32) (NN' : Nat → Int32), wY = gSo cA B WW' NN' (nI (min (S 3 + 1) 8)) ∧ (mv (nI w) (min (S 3 + 1) 8 - 1) WW WW') ∧ (mv (nI v) (min (S 3 + 1) 8 - 1) NN NN')) := by
  refine MetV.of (cc := cX7_put) (maxL := 3) (by decide) rfl (Nat.le_of_ble_eq_true rfl) ?_
  intro pY eY sY mY aY bY tY cY QY AY ls h0 hP hK hN hD hA hS hl hin hret
  obtain ⟨hx, hb, hml, hown, hts⟩ := id h0
  have hl : lv_has ls 3 [(0, .ref (B 0)), (1, .int (nI w)), (2, .int (nI v))] := hl
  have hP : va_P D vwCl (gSo cA B WW NN (nI (S 3))) sY.heap := hP
  have hD : va_D AY (gSo cA B WW NN (nI (S 3))) := hD
  refine lv_aload_n hx hb dX7_put_0 rfl (lv_at hl 0 rfl) ?_
  refine va_get (D := D) (ci := 7) (v := .int (nI (S 3))) (C := RX7) (T := TX7) (N := 3) hx hb hts hi_X7_put_X7 hown hK hP 0 rfl rfl 2 (by decide) (hts (.fieldLink RX7 24 "FallingWords$Store" "size" "I") (by decide +kernel)) (fun _ h9 => h9) rfl dX7_put_1 ?_
  refine lv_bipush (v := nI 8) hx hb dX7_put_4 (by decide +kernel) ?_
  refine xc_ge (tgt := 19) hx hb dX7_put_6 (by decide) (by omega) (by omega) (fun c6 => ?_) (fun c6 => ?_)
  · refine lv_aload_n hx hb dX7_put_19 rfl (lv_at hl 0 rfl) ?_
    refine lv_aload_n hx hb dX7_put_20 rfl (lv_at hl 0 rfl) ?_
    refine va_get (D := D) (ci := 7) (v := .int (nI (S 3))) (C := RX7) (T := TX7) (N := 3) hx hb hts hi_X7_put_X7 hown hK hP 0 rfl rfl 2 (by decide) (hts (.fieldLink RX7 24 "FallingWords$Store" "size" "I") (by decide +kernel)) (fun _ h9 => h9) rfl dX7_put_21 ?_
    refine lv_iconst (v := nI 1) hx hb dX7_put_24 (by decide +kernel) ?_
    refine lv_isub hx hb dX7_put_25 ?_
    refine xt (show (nI (S 3)) - (nI 1) = nI ((S 3) - 1) from pk_sub (by omega)) ?_
    refine lv_iload_n hx hb dX7_put_26 rfl (lv_at hl 1 rfl) ?_
    refine lv_iload_n hx hb dX7_put_27 rfl (lv_at hl 2 rfl) ?_
    refine cv_V (As := [.int (nI ((S 3) - 1)), .int (nI w), .int (nI v)]) (rest := []) h0 hK hN hP hD hS hA hl.1 (k_X7_setAhead lY D cA B WW NN (nI (S 3)) ((S 3) - 1) w v (by first | assumption | omega)) [0, 1, 2] rfl (by decide) (cwV 3 hts gX7_put_X7_setAhead rfl rfl rfl (by decide +kernel) ⟨Nat.le_of_ble_eq_true rfl, Nat.le_of_ble_eq_true rfl⟩) (cl_recv (ci := 7) (q := (RX7, TX7, 3)) (q0 := 0) hP hK rfl rfl) rfl rfl (Nat.le_of_ble_eq_true rfl) dX7_put_28 ⟨Nat.zero_le _, Nat.zero_le _⟩ (fun wY H locs hwY hJ hS => ?_)
    obtain ⟨WW'_28, NN'_28, e2Y, f1_28, f2_28⟩ := hwY
    have e3Y := e2Y.symm
    clear e2Y
    subst e3Y
    obtain ⟨hP, hD⟩ := hJ rfl
    have hP : va_P D vwCl (gSo cA B WW'_28 NN'_28 (nI (S 3))) H := hP
    have hD : va_D AY (gSo cA B WW'_28 NN'_28 (nI (S 3))) := hD
    exact hret _ _ _ _ _ dX7_put_31 ⟨WW'_28, NN'_28, by rw [show min (S 3 + 1) 8 = S 3 by omega], by rw [show min (S 3 + 1) 8 - 1 = S 3 - 1 by omega]; exact f1_28, by rw [show min (S 3 + 1) 8 - 1 = S 3 - 1 by omega]; exact f2_28⟩ hP hD hS
  · refine lv_aload_n hx hb dX7_put_9 rfl (lv_at hl 0 rfl) ?_
    refine lv_dup hx hb dX7_put_10 rfl ?_
    refine va_get (D := D) (ci := 7) (v := .int (nI (S 3))) (C := RX7) (T := TX7) (N := 3) hx hb hts hi_X7_put_X7 hown hK hP 0 rfl rfl 2 (by decide) (hts (.fieldLink RX7 24 "FallingWords$Store" "size" "I") (by decide +kernel)) (fun _ h9 => h9) rfl dX7_put_11 ?_
    refine lv_iconst (v := nI 1) hx hb dX7_put_14 (by decide +kernel) ?_
    refine lv_iadd hx hb dX7_put_15 ?_
    refine xt (show (nI (S 3)) + (nI 1) = nI (S 3 + 1) from nI_add _ _) ?_
    refine va_put (D := D) (ci := 7) (v := .int (nI (S 3 + 1))) (ty := .int) (C := RX7) (T := TX7) (N := 3) hx hb hts hi_X7_put_X7 tyX7 tyX7_ok nmX7 hown hK hP hD hS 0 rfl rfl 2 (by decide) (hts (.fieldLink RX7 24 "FallingWords$Store" "size" "I") (by decide +kernel)) (fun _ h9 => h9) rfl (by decide +kernel) rfl rfl (Nat.le_of_ble_eq_true rfl) dX7_put_16 (fun H locs hP hD hS => ?_)
    have hP : va_P D vwCl (gSo cA B WW NN (nI (S 3 + 1))) H := hP
    have hD : va_D AY (gSo cA B WW NN (nI (S 3 + 1))) := hD
    refine lv_aload_n hx hb dX7_put_19 rfl (lv_at hl 0 rfl) ?_
    refine lv_aload_n hx hb dX7_put_20 rfl (lv_at hl 0 rfl) ?_
    refine va_get (D := D) (ci := 7) (v := .int (nI (S 3 + 1))) (C := RX7) (T := TX7) (N := 3) hx hb hts hi_X7_put_X7 hown hK hP 0 rfl rfl 2 (by decide) (hts (.fieldLink RX7 24 "FallingWords$Store" "size" "I") (by decide +kernel)) (fun _ h9 => h9) rfl dX7_put_21 ?_
    refine lv_iconst (v := nI 1) hx hb dX7_put_24 (by decide +kernel) ?_
    refine lv_isub hx hb dX7_put_25 ?_
    refine xt (show (nI (S 3 + 1)) - (nI 1) = nI ((S 3 + 1) - 1) from pk_sub (by omega)) ?_
    refine lv_iload_n hx hb dX7_put_26 rfl (lv_at hl 1 rfl) ?_
    refine lv_iload_n hx hb dX7_put_27 rfl (lv_at hl 2 rfl) ?_
    refine cv_V (As := [.int (nI ((S 3 + 1) - 1)), .int (nI w), .int (nI v)]) (rest := []) h0 hK hN hP hD hS hA hl.1 (k_X7_setAhead lY D cA B WW NN (nI (S 3 + 1)) ((S 3 + 1) - 1) w v (by first | assumption | omega)) [0, 1, 2] rfl (by decide) (cwV 3 hts gX7_put_X7_setAhead rfl rfl rfl (by decide +kernel) ⟨Nat.le_of_ble_eq_true rfl, Nat.le_of_ble_eq_true rfl⟩) (cl_recv (ci := 7) (q := (RX7, TX7, 3)) (q0 := 0) hP hK rfl rfl) rfl rfl (Nat.le_of_ble_eq_true rfl) dX7_put_28 ⟨Nat.zero_le _, Nat.zero_le _⟩ (fun wY H locs hwY hJ hS => ?_)
    obtain ⟨WW'_28, NN'_28, e2Y, f1_28, f2_28⟩ := hwY
    have e3Y := e2Y.symm
    clear e2Y
    subst e3Y
    obtain ⟨hP, hD⟩ := hJ rfl
    have hP : va_P D vwCl (gSo cA B WW'_28 NN'_28 (nI (S 3 + 1))) H := hP
    have hD : va_D AY (gSo cA B WW'_28 NN'_28 (nI (S 3 + 1))) := hD
    exact hret _ _ _ _ _ dX7_put_31 ⟨WW'_28, NN'_28, by rw [show min (S 3 + 1) 8 = S 3 + 1 by omega], by rw [show min (S 3 + 1) 8 - 1 = S 3 + 1 - 1 by omega]; exact f1_28, by rw [show min (S 3 + 1) 8 - 1 = S 3 + 1 - 1 by omega]; exact f2_28⟩ hP hD hS

theorem hi_X7_use_X7 : ∀ w ∈ u_ws RX7 TX7 3, w ∈ wsX7_use := by decide +kernel
set_option maxHeartbeats 1000000 in
set_option maxRecDepth 100000 in
theorem k_X7_use (lY : Launch) (D : va_G) (cA : Nat → ClassId) (B : Nat → Nat) (S : St) (WW NN : Nat → Int32) (k : Nat) (h8 : S 3 ≤ 8) (hr : rSo S WW NN) (hk : k < S 3) : MetI lY D cA yX7_use wsX7_use 1 24 [.ref (B 0), .int (nI k)] (gSo cA B WW NN (nI (S 3))) (fun rY wY => ∃ (WW' : Nat → Int32) (NN' : Nat → Int32), rY = nI (S (37 + 2 * k)) ∧ wY = gSo cA B WW' NN' (nI (S 3)) ∧ (mv (nI (S (36 + 2 * k))) k WW WW') ∧ (mv (nI (S (37 + 2 * k))) k NN NN')) := by
  refine MetI.of (cc := cX7_use) (maxL := 3) (ret := (some .int)) (by decide) rfl (Nat.le_of_ble_eq_true rfl) (Or.inl rfl) ?_
  intro pY eY sY mY aY bY tY cY QY AY ls h0 hP hK hN hD hA hS hl hret
  obtain ⟨hx, hb, hml, hown, hts⟩ := id h0
  have hl : lv_has ls 3 [(0, .ref (B 0)), (1, .int (nI k))] := hl
  have hP : va_P D vwCl (gSo cA B WW NN (nI (S 3))) sY.heap := hP
  have hD : va_D AY (gSo cA B WW NN (nI (S 3))) := hD
  obtain ⟨g1, g2⟩ := hr k hk
  refine lv_aload_n hx hb dX7_use_0 rfl (lv_at hl 0 rfl) ?_
  refine va_get (D := D) (ci := 7) (v := .ref (B 2)) (C := RX7) (T := TX7) (N := 3) hx hb hts hi_X7_use_X7 hown hK hP 0 rfl rfl 1 (by decide) (hts (.fieldLink RX7 15 "FallingWords$Store" "normals" "[I") (by decide +kernel)) (fun _ h9 => h9) rfl dX7_use_1 ?_
  refine lv_iload_n hx hb dX7_use_4 rfl (lv_at hl 1 rfl) ?_
  refine xa_ld (v := nI (S (37 + 2 * k))) hx hb hK hP 2 rfl (by omega) (by decide) (g2) dX7_use_5 ?_
  refine lv_istore_n (lv' := [(2, .int (nI (S (37 + 2 * k)))), (0, .ref (B 0)), (1, .int (nI k))]) hx hb dX7_use_6 rfl hl (by decide) rfl (fun ls hl => ?_)
  refine lv_aload_n hx hb dX7_use_7 rfl (lv_at hl 1 rfl) ?_
  refine lv_iload_n hx hb dX7_use_8 rfl (lv_at hl 2 rfl) ?_
  refine lv_aload_n hx hb dX7_use_9 rfl (lv_at hl 1 rfl) ?_
  refine va_get (D := D) (ci := 7) (v := .ref (B 1)) (C := RX7) (T := TX7) (N := 3) hx hb hts hi_X7_use_X7 hown hK hP 0 rfl rfl 0 (by decide) (hts (.fieldLink RX7 9 "FallingWords$Store" "words" "[I") (by decide +kernel)) (fun _ h9 => h9) rfl dX7_use_10 ?_
  refine lv_iload_n hx hb dX7_use_13 rfl (lv_at hl 2 rfl) ?_
  refine xa_ld (v := nI (S (36 + 2 * k))) hx hb hK hP 1 rfl (by omega) (by decide) (g1) dX7_use_14 ?_
  refine lv_iload_n hx hb dX7_use_15 rfl (lv_at hl 0 rfl) ?_
  refine cv_V (As := [.int (nI k), .int (nI (S (36 + 2 * k))), .int (nI (S (37 + 2 * k)))]) (rest := []) h0 hK hN hP hD hS hA hl.1 (k_X7_setAhead lY D cA B WW NN (nI (S 3)) k (S (36 + 2 * k)) (S (37 + 2 * k)) (by first | assumption | omega)) [0, 1, 2] rfl (by decide) (cwV 3 hts gX7_use_X7_setAhead rfl rfl rfl (by decide +kernel) ⟨Nat.le_of_ble_eq_true rfl, Nat.le_of_ble_eq_true rfl⟩) (cl_recv (ci := 7) (q := (RX7, TX7, 3)) (q0 := 0) hP hK rfl rfl) rfl rfl (Nat.le_of_ble_eq_true rfl) dX7_use_16 ⟨Nat.zero_le _, Nat.zero_le _⟩ (fun wY H locs hwY hJ hS => ?_)
  obtain ⟨WW'_16, NN'_16, e2Y, f1_16, f2_16⟩ := hwY
  have e3Y := e2Y.symm
  clear e2Y
  subst e3Y
  obtain ⟨hP, hD⟩ := hJ rfl
  have hP : va_P D vwCl (gSo cA B WW'_16 NN'_16 (nI (S 3))) H := hP
  have hD : va_D AY (gSo cA B WW'_16 NN'_16 (nI (S 3))) := hD
  refine lv_iload_n hx hb dX7_use_19 rfl (lv_at hl 0 rfl) ?_
  exact hret _ _ _ _ _ _ dX7_use_20 ⟨WW'_16, NN'_16, rfl, rfl, f1_16, f2_16⟩ hP hD hS
