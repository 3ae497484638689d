/-! rows of numbers and words over the machine -/
theorem sub_sub_nI (a b c : Nat) : nI a - nI b - nI c = nI a - nI (b + c) := by
  rw [← nI_add]
  apply Int32.toBitVec_inj.mp
  show (nI a).toBitVec - (nI b).toBitVec - (nI c).toBitVec = (nI a).toBitVec - ((nI b).toBitVec + (nI c).toBitVec)
  apply BitVec.eq_of_toNat_eq
  simp only [BitVec.toNat_sub, BitVec.toNat_add]
  omega
theorem bI_fit (b : Bool) : fits .boolean (.int (bI b)) = true := by cases b <;> rfl
theorem mmax_nI {a b : Nat} (ha : a < 2147483648) (hb : b < 2147483648) : (if nI a < nI b then nI b else nI a) = nI (max a b) := by
  by_cases h : a < b
  · rw [if_pos ((nI_ltI ha hb).mpr h), Nat.max_eq_right (Nat.le_of_lt h)]
  · rw [if_neg (fun q => h ((nI_ltI ha hb).mp q)), Nat.max_eq_left (Nat.not_lt.mp h)]
theorem mmin_nI {a b : Nat} (ha : a < 2147483648) (hb : b < 2147483648) : (if nI a < nI b then nI a else nI b) = nI (min a b) := by
  by_cases h : a < b
  · rw [if_pos ((nI_ltI ha hb).mpr h), Nat.min_eq_left (Nat.le_of_lt h)]
  · rw [if_neg (fun q => h ((nI_ltI ha hb).mp q)), Nat.min_eq_right (Nat.not_lt.mp h)]
theorem sh_1 {k : Nat} (hk : k < 16) : nI 1 <<< (nI (2 * k) &&& 31) = nI (4 ^ k) := by
  have h : (4 : Nat) ^ k ≤ 4 ^ 15 := four_le (by omega)
  have := sh_l (w := 1) hk (by rw [Nat.one_mul]; exact Nat.lt_of_le_of_lt h (by decide))
  rwa [Nat.one_mul] at this
theorem sh_r1 {w : Nat} (hw : w < 2147483648) : nI w >>> (nI 2 &&& 31) = nI (w / 4) := sh_r (k := 1) hw (by decide)
theorem sh_l1 {w : Nat} (hw : w < 1073741824) : nI w <<< (nI 2 &&& 31) = nI (w * 4) := sh_l (k := 1) (by decide) (by omega)
theorem dv4 (w i : Nat) : w / 4 ^ i / 4 = w / 4 ^ (i + 1) := by rw [Nat.div_div_eq_div_mul, ← Nat.pow_succ]
theorem wd_gt {n w : Nat} (h : wd n w) : 1 < w ↔ 0 < n := by
  constructor
  · intro q
    rcases Nat.eq_zero_or_pos n with e | e
    · subst e; have := wd_0 h; omega
    · exact e
  · intro q
    have h1 : (4 : Nat) ^ 1 ≤ 4 ^ n := four_le q
    have := h.1
    omega
theorem vw_B {w n : Nat} (h : vw n w) (hn : n ≤ 13) : w < 134217728 := Nat.lt_of_lt_of_le (wd_lt h.1 (Nat.le_trans h.2 hn)) (by decide)
theorem i32_of {x : Int32} {n : Nat} (h0 : 0 ≤ x.toInt) (h : x.toInt < n) : ∃ j : Nat, j < n ∧ x = nI j := by
  refine ⟨x.toInt.toNat, by omega, Int32.toInt_inj.mp ?_⟩
  have h2 : x.toInt < 2147483648 := Int32.toInt_lt x
  have := nI_toInt (n := x.toInt.toNat) (by omega)
  omega
/-- a letter by a number of the machine -/
def ltI (w : Nat) (x : Int32) : Int32 := if 0 ≤ x.toInt ∧ x.toInt < (len w : Int) then nI (lt4 w x.toInt.toNat) else (-1000004)
theorem ltI_in {w j : Nat} (hw : vw 13 w) (h : j < len w) : ltI w (nI j) = nI (lt4 w j) := by
  unfold ltI
  have h1 : (nI j).toInt = (j : Int) := nI_toInt (by have := hw.2; omega)
  rw [h1, if_pos ⟨by omega, by omega⟩, Int.toNat_natCast]
theorem ltI_out {w : Nat} {x : Int32} (h : x.toInt < 0 ∨ (len w : Int) ≤ x.toInt) : ltI w x = (-1000004) := by
  unfold ltI
  rw [if_neg (by omega)]
theorem stn_T {part word place : Nat} (h : place + len part ≤ len word) (h2 : word / 4 ^ (len word - (place + len part)) % 4 ^ len part = part % 4 ^ len part) : stn part word place = true := by
  unfold stn
  rw [Nat.sub_sub, decide_eq_true h, decide_eq_true h2]; rfl
theorem stn_F {part word place : Nat} (h : len word < place + len part) : stn part word place = false := by
  unfold stn
  rw [decide_eq_false (by omega)]; rfl
theorem stn_F2 {part word place : Nat} (h2 : word / 4 ^ (len word - (place + len part)) % 4 ^ len part ≠ part % 4 ^ len part) : stn part word place = false := by
  unfold stn
  rw [Nat.sub_sub, decide_eq_false h2, Bool.and_false]
def inR (S : St) (x : Int32) : Bool := decide (0 ≤ x.toInt ∧ x.toInt < (S 1 : Int))
def rRu (S : St) (L R LL RL TM : Nat → Int32) : Prop := ∀ r, r < S 1 → L r = nI (lf S r) ∧ R r = nI (rt S r) ∧ LL r = nI (len (lf S r)) ∧ RL r = nI (len (rt S r)) ∧ TM r = nI (tms S r)
def addS (S : St) (a b : Nat) : St := upN (upN (upN (upN (upN S (6 + 3 * S 1) a) (6 + 3 * S 1 + 1) b) (6 + 3 * S 1 + 2) 0) 1 (S 1 + 1)) 3 0
def dropS (S : St) (g : Nat) : St := upN (fun j => if 6 + 3 * g ≤ j ∧ j < 6 + 3 * (S 1 - 1) then S (j + 3) else if j = 1 then S 1 - 1 else S j) 3 0
theorem rRu_add {S : St} {L R LL RL TM : Nat → Int32} (h : rRu S L R LL RL TM) (a b : Nat) : rRu (addS S a b) (upd L (S 1) (nI a)) (upd R (S 1) (nI b)) (upd LL (S 1) (nI (len a))) (upd RL (S 1) (nI (len b))) (upd TM (S 1) (nI 0)) := by
  intro r hr
  have h1 : addS S a b 1 = S 1 + 1 := by unfold addS upN; rw [if_neg (by decide), if_pos rfl]
  rw [h1] at hr
  rcases Nat.lt_or_ge r (S 1) with q | q
  · obtain ⟨a1, a2, a3, a4, a5⟩ := h r q
    have e1 : lf (addS S a b) r = lf S r := by unfold lf addS upN; repeat rw [if_neg (by omega)]
    have e2 : rt (addS S a b) r = rt S r := by unfold rt addS upN; repeat rw [if_neg (by omega)]
    have e3 : tms (addS S a b) r = tms S r := by unfold tms addS upN; repeat rw [if_neg (by omega)]
    rw [e1, e2, e3, pk_un (by omega), pk_un (by omega), pk_un (by omega), pk_un (by omega), pk_un (by omega)]
    exact ⟨a1, a2, a3, a4, a5⟩
  · have e : r = S 1 := by omega
    subst e
    have e1 : lf (addS S a b) (S 1) = a := by
      unfold lf addS upN
      rw [if_neg (by omega), if_neg (by omega), if_neg (by omega), if_neg (by omega), if_pos rfl]
    have e2 : rt (addS S a b) (S 1) = b := by
      unfold rt addS upN
      rw [if_neg (by omega), if_neg (by omega), if_neg (by omega), if_pos rfl]
    have e3 : tms (addS S a b) (S 1) = 0 := by
      unfold tms addS upN
      rw [if_neg (by omega), if_neg (by omega), if_pos rfl]
    rw [e1, e2, e3, pk_us, pk_us, pk_us, pk_us, pk_us]
    exact ⟨rfl, rfl, rfl, rfl, rfl⟩
def shf (g i : Nat) (L L' : Nat → Int32) : Prop := ∀ k, L' k = if g ≤ k ∧ k < i then L (k + 1) else L k
theorem shf_0 {g : Nat} {L : Nat → Int32} : shf g g L L := fun k => by rw [if_neg (by omega)]
theorem shf_s {g i : Nat} {L L' : Nat → Int32} (h : shf g i L L') (hi : g ≤ i) : shf g (i + 1) L (upd L' i (L' (i + 1))) := by
  intro k
  by_cases e : k = i
  · subst e
    rw [pk_us, if_pos (by omega), h (k + 1), if_neg (by omega)]
  · rw [pk_un e, h k]
    by_cases q : g ≤ k ∧ k < i
    · rw [if_pos q, if_pos (by omega)]
    · rw [if_neg q, if_neg (by omega)]
theorem rRu_drop {S : St} {L R LL RL TM L' R' LL' RL' TM' : Nat → Int32} {g i : Nat} (h : rRu S L R LL RL TM) (hg : g < S 1) (hi : S 1 ≤ i + 1) (h1 : shf g i L L') (h2 : shf g i R R') (h3 : shf g i LL LL') (h4 : shf g i RL RL') (h5 : shf g i TM TM') : rRu (dropS S g) L' R' LL' RL' TM' := by
  intro r hr
  have e1 : dropS S g 1 = S 1 - 1 := by unfold dropS upN; dsimp only; rw [if_neg (by decide), if_neg (by omega), if_pos rfl]
  rw [e1] at hr
  rw [h1 r, h2 r, h3 r, h4 r, h5 r]
  by_cases q : g ≤ r
  · obtain ⟨a1, a2, a3, a4, a5⟩ := h (r + 1) (by omega)
    have f1 : lf (dropS S g) r = lf S (r + 1) := by unfold lf dropS upN; dsimp only; rw [if_neg (by omega), if_pos (by omega)]; congr 1
    have f2 : rt (dropS S g) r = rt S (r + 1) := by unfold rt dropS upN; dsimp only; rw [if_neg (by omega), if_pos (by omega)]; congr 1
    have f3 : tms (dropS S g) r = tms S (r + 1) := by unfold tms dropS upN; dsimp only; rw [if_neg (by omega), if_pos (by omega)]; congr 1
    rw [f1, f2, f3, if_pos (by omega), if_pos (by omega), if_pos (by omega), if_pos (by omega), if_pos (by omega)]
    exact ⟨a1, a2, a3, a4, a5⟩
  · obtain ⟨a1, a2, a3, a4, a5⟩ := h r (by omega)
    have f1 : lf (dropS S g) r = lf S r := by unfold lf dropS upN; dsimp only; rw [if_neg (by omega), if_neg (by omega), if_neg (by omega)]
    have f2 : rt (dropS S g) r = rt S r := by unfold rt dropS upN; dsimp only; rw [if_neg (by omega), if_neg (by omega), if_neg (by omega)]
    have f3 : tms (dropS S g) r = tms S r := by unfold tms dropS upN; dsimp only; rw [if_neg (by omega), if_neg (by omega), if_neg (by omega)]
    rw [f1, f2, f3, if_neg (by omega), if_neg (by omega), if_neg (by omega), if_neg (by omega), if_neg (by omega)]
    exact ⟨a1, a2, a3, a4, a5⟩
def hsd (S : St) (a b : Nat) : Bool := decide (ff (fun k => decide (lf S k = a ∧ rt S k = b)) (S 1) < S 1)
def cn (p : Nat → Bool) : Nat → Nat
  | 0 => 0
  | n + 1 => cn p n + if p n then 1 else 0
theorem cn_t {p : Nat → Bool} {n : Nat} (h : p n = true) : cn p (n + 1) = cn p n + 1 := by show cn p n + _ = _; rw [if_pos h]
theorem cn_f {p : Nat → Bool} {n : Nat} (h : p n = false) : cn p (n + 1) = cn p n := by show cn p n + _ = _; rw [h]; rfl
theorem cn_le (p : Nat → Bool) : ∀ n, cn p n ≤ n
  | 0 => Nat.le_refl 0
  | n + 1 => by have := cn_le p n; show cn p n + _ ≤ _; split <;> omega
noncomputable def chI (S : St) (w : Nat) : Int32 := if nrm S w then (-1) else nI (chp S w * 10 + chr S w)
theorem chI_no {S : St} {w : Nat} (h : nrm S w = true) : chI S w = (-1) := if_pos h
theorem chI_yes {S : St} {w : Nat} (h : nrm S w = false) : chI S w = nI (chp S w * 10 + chr S w) := by unfold chI; rw [h]; rfl
/-- the head of an applied word, and the word before its end comes behind -/
theorem app_ok {w a b p : Nat} (hw : vw 12 w) (ha : vw 4 a) (hb : vw 4 b) (hba : len b ≤ len a) (hp : p + len a ≤ len w) : w / 4 ^ (len w - p) * 4 ^ len b < 134217728 ∧ (w / 4 ^ (len w - p) * 4 ^ len b + b % 4 ^ len b) * 4 ^ (len w - p - len a) < 134217728 ∧ b % 4 ^ len b < 4 ^ len b ∧ w % 4 ^ (len w - p - len a) < 4 ^ (len w - p - len a) := by
  have h1 : wd p (w / 4 ^ (len w - p)) := by
    have := wd_div hw.1 (k := len w - p) (by omega)
    rwa [show len w - (len w - p) = p by omega] at this
  have h12 := hw.2
  have h2 := wd_app h1 (k := len b) (b := 0) (four_pos _)
  have h3 := wd_app h1 (k := len b) (b := b % 4 ^ len b) (Nat.mod_lt _ (four_pos _))
  have h4 := wd_app h3 (k := len w - p - len a) (b := 0) (four_pos _)
  have b2 := wd_lt h2 (m := 13) (by omega)
  have b4 := wd_lt h4 (m := 13) (by omega)
  refine ⟨?_, ?_, Nat.mod_lt _ (four_pos _), Nat.mod_lt _ (four_pos _)⟩
  · have : 2 * 4 ^ 13 = 134217728 := by decide
    omega
  · have : 2 * 4 ^ 13 = 134217728 := by decide
    omega

abbrev gRu (cA : Nat → ClassId) (B : Nat → Nat) (L : Nat → Int32) (R : Nat → Int32) (LL : Nat → Int32) (RL : Nat → Int32) (TM : Nat → Int32) (z : Int32) : va_W := [(B 0, .inr (4, [.ref (B 1), .ref (B 2), .ref (B 3), .ref (B 4), .ref (B 5), .int z])), (B 1, .inl (cA 0, 10, .inl L)), (B 2, .inl (cA 0, 10, .inl R)), (B 3, .inl (cA 0, 10, .inl LL)), (B 4, .inl (cA 0, 10, .inl RL)), (B 5, .inl (cA 0, 10, .inl TM))]
set_option maxHeartbeats 1000000 in
set_option maxRecDepth 100000 in
theorem k_X9_lengthOf (lY : Launch) (D : va_G) (cA : Nat → ClassId) (w : Nat) (hw : wd (len w) w) (hn : len w ≤ 13) : MetI lY D cA yX9_lengthOf wsX9_lengthOf 0 0 [.int (nI w)] ([]) (fun rY wY => rY = nI (len w) ∧ wY = []) := by
  refine MetI.of (cc := cX9_lengthOf) (maxL := 3) (ret := (some .int)) (by decide) rfl (Nat.le_of_ble_eq_true rfl) (Or.inl rfl) ?_
  intro pY eY sY mY aY bY tY cY QY AY ls h0 hP hK hN hD hA hS hl hret
  obtain ⟨hx, hb, hml, hown, hts⟩ := id h0
  have hl : lv_has ls 3 [(0, .int (nI w))] := hl
  have hP : va_P D vwCl ([]) sY.heap := hP
  have hD : va_D AY ([]) := hD
  have hB : w < 134217728 := vw_B ⟨hw, hn⟩ (Nat.le_refl _)
  refine lv_iconst (v := nI 0) hx hb dX9_lengthOf_0 (by decide +kernel) ?_
  refine lv_istore_n (lv' := [(1, .int (nI 0)), (0, .int (nI w))]) hx hb dX9_lengthOf_1 rfl hl (by decide) rfl (fun ls hl => ?_)
  refine lv_iload_n hx hb dX9_lengthOf_2 rfl (lv_at hl 1 rfl) ?_
  refine lv_istore_n (lv' := [(2, .int (nI w)), (1, .int (nI 0)), (0, .int (nI w))]) hx hb dX9_lengthOf_3 rfl hl (by decide) rfl (fun ls hl => ?_)
  have L4 : ∀ (nY : Nat), ∀ (i : Nat), (i ≤ len w) → (len w - i < nY) → ∀ (H : Heap) (locs : List Loc) (ls : Array Slot), va_P D vwCl ([]) H → va_D AY ([]) → va_S AY sY.heap H locs → lv_has ls 3 [(0, .int (nI w)), (1, .int (nI i)), (2, .int (nI (w / 4 ^ i)))] → W pY lY eY { frames := 0, cells := 0, slots := 0, locals := 0 } sY mY aY bY tY cY H locs 0 0 QY (F0 mY 4 ls []) := by
    intro nY4
    induction nY4 with
    | zero => intro i hi hm4; exact absurd hm4 (Nat.not_lt_zero _)
    | succ nY4 ih4 =>
      intro i hi hm4 H locs ls hP hD hS hl
      have hq : w / 4 ^ i ≤ w := Nat.div_le_self _ _
      have hg := wd_gt (wd_div hw hi)
      refine lv_iload_n hx hb dX9_lengthOf_4 rfl (lv_at hl 2 rfl) ?_
      refine lv_iconst (v := nI 1) hx hb dX9_lengthOf_5 (by decide +kernel) ?_
      refine xc_le (tgt := 19) hx hb dX9_lengthOf_6 (by decide) (by omega) (by omega) (fun c6 => ?_) (fun c6 => ?_)
      · refine lv_iload_n hx hb dX9_lengthOf_19 rfl (lv_at hl 1 rfl) ?_
        exact hret _ _ _ _ _ _ dX9_lengthOf_20 ⟨congrArg nI (by omega), rfl⟩ hP hD hS
      · refine lv_iinc (v := nI (i + 1)) (lv' := [(1, .int (nI (i + 1))), (0, .int (nI w)), (2, .int (nI (w / 4 ^ i)))]) hx hb dX9_lengthOf_9 hl (k := 1) rfl (show nI i + Int32.ofInt 1 = nI (i + 1) from nI_add i 1) (by decide) rfl (fun ls hl => ?_)
        refine lv_iload_n hx hb dX9_lengthOf_12 rfl (lv_at hl 2 rfl) ?_
        refine lv_iconst (v := nI 2) hx hb dX9_lengthOf_13 (by decide +kernel) ?_
        refine lv_ishr hx hb dX9_lengthOf_14 ?_
        refine xt (show (nI (w / 4 ^ i)) >>> ((nI 2) &&& 31) = nI (w / 4 ^ (i + 1)) from (sh_r1 (by omega)).trans (congrArg nI (dv4 w i))) ?_
        refine lv_istore_n (lv' := [(2, .int (nI (w / 4 ^ (i + 1)))), (1, .int (nI (i + 1))), (0, .int (nI w))]) hx hb dX9_lengthOf_15 rfl hl (by decide) rfl (fun ls hl => ?_)
        refine lv_goto (tgt := 4) hx hb dX9_lengthOf_16 (by decide) ?_
        exact ih4 (i + 1) (by omega) (by omega) _ _ _ hP hD hS (lv_sub hl [2, 1, 0] rfl)
  have hl : lv_has ls 3 [(2, .int (nI (w / 4 ^ 0))), (1, .int (nI 0)), (0, .int (nI w))] := Eq.mp (congrArg (fun zY : Int32 => lv_has ls 3 [(2, .int zY), (1, .int (nI 0)), (0, .int (nI w))]) (show nI w = nI (w / 4 ^ 0) from by rw [Nat.pow_zero, Nat.div_one])) hl
  exact L4 _ 0 (by omega) (Nat.lt_succ_self _) _ _ _ hP hD hS (lv_sub hl [2, 1, 0] rfl)

set_option maxHeartbeats 1000000 in
set_option maxRecDepth 100000 in
theorem k_X9_letterOf (lY : Launch) (D : va_G) (cA : Nat → ClassId) (w : Nat) (x : Int32) (hw : vw 12 w) : MetI lY D cA yX9_letterOf wsX9_letterOf 1 22 [.int (nI w), .int x] ([]) (fun rY wY => rY = ltI w x ∧ wY = []) := by
  refine MetI.of (cc := cX9_letterOf) (maxL := 3) (ret := (some .int)) (by decide) rfl (Nat.le_of_ble_eq_true rfl) (Or.inl rfl) ?_
  intro pY eY sY mY aY bY tY cY QY AY ls h0 hP hK hN hD hA hS hl hret
  obtain ⟨hx, hb, hml, hown, hts⟩ := id h0
  have hl : lv_has ls 3 [(0, .int (nI w)), (1, .int x)] := hl
  have hP : va_P D vwCl ([]) sY.heap := hP
  have hD : va_D AY ([]) := hD
  have hB : w < 134217728 := vw_B hw (by decide)
  have h12 := hw.2
  refine lv_iload_n hx hb dX9_letterOf_0 rfl (lv_at hl 0 rfl) ?_
  refine ci_S (As := [.int (nI w)]) (rest := []) h0 hK hN hP hD hS hA hl.1 (k_X9_lengthOf lY D cA w (hw.1) (by omega)) [] rfl (by decide) (va_cwS 1 hts gX9_letterOf_X9_lengthOf rfl rfl rfl (by decide +kernel) ⟨Nat.le_of_ble_eq_true rfl, Nat.le_of_ble_eq_true rfl⟩) rfl rfl (Nat.le_of_ble_eq_true rfl) dX9_letterOf_1 ⟨Nat.zero_le _, Nat.zero_le _⟩ (fun rY wY H locs hwY hJ hS => ?_)
  obtain ⟨e1Y, e2Y⟩ := hwY
  have e3Y := e1Y.symm
  clear e1Y
  subst e3Y
  have e3Y := e2Y.symm
  clear e2Y
  subst e3Y
  obtain ⟨hP, hD⟩ := hJ rfl
  have hP : va_P D vwCl [] H := hP
  have hD : va_D AY [] := hD
  refine lv_istore_n (lv' := [(2, .int (nI (len w))), (0, .int (nI w)), (1, .int x)]) hx hb dX9_letterOf_4 rfl hl (by decide) rfl (fun ls hl => ?_)
  refine lv_iload_n hx hb dX9_letterOf_5 rfl (lv_at hl 2 rfl) ?_
  refine xz_lt (tgt := 14) hx hb dX9_letterOf_6 (by decide) (fun c6 => ?_) (fun c6 => ?_)
  · have e2 : (nI (len w)).toInt = (len w : Int) := nI_toInt (by omega)
    refine lv_ldc (v := (-1000004)) hx hb hown (hts (.constant RX9 15 (-1000004)) (by decide +kernel)) dX9_letterOf_14 ?_
    exact hret _ _ _ _ _ _ dX9_letterOf_16 ⟨(ltI_out (by omega)).symm, rfl⟩ hP hD hS
  · refine lv_iload_n hx hb dX9_letterOf_9 rfl (lv_at hl 2 rfl) ?_
    refine lv_iload_n hx hb dX9_letterOf_10 rfl (lv_at hl 0 rfl) ?_
    refine xr_lt (tgt := 17) hx hb dX9_letterOf_11 (by decide) (fun c11 => ?_) (fun c11 => ?_)
    · have e2 : (nI (len w)).toInt = (len w : Int) := nI_toInt (by omega)
      obtain ⟨j, hj, rfl⟩ : ∃ j : Nat, j < len w ∧ x = nI j := i32_of (by omega) (by omega)
      refine lv_iload_n hx hb dX9_letterOf_17 rfl (lv_at hl 1 rfl) ?_
      refine lv_iconst (v := nI 2) hx hb dX9_letterOf_18 (by decide +kernel) ?_
      refine lv_iload_n hx hb dX9_letterOf_19 rfl (lv_at hl 0 rfl) ?_
      refine lv_iconst (v := nI 1) hx hb dX9_letterOf_20 (by decide +kernel) ?_
      refine lv_isub hx hb dX9_letterOf_21 ?_
      refine xt (show (nI (len w)) - (nI 1) = nI ((len w) - 1) from pk_sub (by omega)) ?_
      refine lv_iload_n hx hb dX9_letterOf_22 rfl (lv_at hl 2 rfl) ?_
      refine lv_isub hx hb dX9_letterOf_23 ?_
      refine xt (show (nI ((len w) - 1)) - (nI j) = nI (((len w) - 1) - j) from pk_sub (by omega)) ?_
      refine lv_imul hx hb dX9_letterOf_24 ?_
      refine xt (show (nI 2) * (nI (((len w) - 1) - j)) = nI (2 * (((len w) - 1) - j)) from pk_mul _ _) ?_
      refine lv_ishr hx hb dX9_letterOf_25 ?_
      refine xt (show (nI w) >>> ((nI (2 * (((len w) - 1) - j))) &&& 31) = nI (w / 4 ^ (len w - 1 - j)) from sh_r (by omega) (by omega)) ?_
      refine lv_iconst (v := nI 3) hx hb dX9_letterOf_26 (by decide +kernel) ?_
      refine lv_iand hx hb dX9_letterOf_27 ?_
      refine xt (show (nI (w / 4 ^ (len w - 1 - j))) &&& (nI 3) = nI (lt4 w j) from sh_m (k := 1) (by decide)) ?_
      exact hret _ _ _ _ _ _ dX9_letterOf_28 ⟨(ltI_in (vw_up hw (by decide)) hj).symm, rfl⟩ hP hD hS
    · have e2 : (nI (len w)).toInt = (len w : Int) := nI_toInt (by omega)
      refine lv_ldc (v := (-1000004)) hx hb hown (hts (.constant RX9 15 (-1000004)) (by decide +kernel)) dX9_letterOf_14 ?_
      exact hret _ _ _ _ _ _ dX9_letterOf_16 ⟨(ltI_out (by omega)).symm, rfl⟩ hP hD hS

set_option maxHeartbeats 1000000 in
set_option maxRecDepth 100000 in
theorem k_X9_withLetter (lY : Launch) (D : va_G) (cA : Nat → ClassId) (w c : Nat) (hw : w < 134217728) (hc : c < 4) : MetI lY D cA yX9_withLetter wsX9_withLetter 0 0 [.int (nI w), .int (nI c)] ([]) (fun rY wY => rY = nI (w * 4 + c) ∧ wY = []) := by
  refine MetI.of (cc := cX9_withLetter) (maxL := 2) (ret := (some .int)) (by decide) rfl (Nat.le_of_ble_eq_true rfl) (Or.inl rfl) ?_
  intro pY eY sY mY aY bY tY cY QY AY ls h0 hP hK hN hD hA hS hl hret
  obtain ⟨hx, hb, hml, hown, hts⟩ := id h0
  have hl : lv_has ls 2 [(0, .int (nI w)), (1, .int (nI c))] := hl
  have hP : va_P D vwCl ([]) sY.heap := hP
  have hD : va_D AY ([]) := hD
  refine lv_iload_n hx hb dX9_withLetter_0 rfl (lv_at hl 0 rfl) ?_
  refine lv_iconst (v := nI 2) hx hb dX9_withLetter_1 (by decide +kernel) ?_
  refine lv_ishl hx hb dX9_withLetter_2 ?_
  refine xt (show (nI w) <<< ((nI 2) &&& 31) = nI (w * 4) from sh_l1 (by omega)) ?_
  refine lv_iload_n hx hb dX9_withLetter_3 rfl (lv_at hl 1 rfl) ?_
  refine lv_ior hx hb dX9_withLetter_4 ?_
  refine xt (show (nI (w * 4)) ||| (nI c) = nI (w * 4 + c) from sh_o (k := 1) (by omega)) ?_
  exact hret _ _ _ _ _ _ dX9_withLetter_5 ⟨rfl, rfl⟩ hP hD hS

set_option maxHeartbeats 1000000 in
set_option maxRecDepth 100000 in
theorem k_X9_lastBits (lY : Launch) (D : va_G) (cA : Nat → ClassId) (w k : Nat) (hk : k < 15) : MetI lY D cA yX9_lastBits wsX9_lastBits 0 0 [.int (nI w), .int (nI k)] ([]) (fun rY wY => rY = nI (w % 4 ^ k) ∧ wY = []) := by
  refine MetI.of (cc := cX9_lastBits) (maxL := 2) (ret := (some .int)) (by decide) rfl (Nat.le_of_ble_eq_true rfl) (Or.inl rfl) ?_
  intro pY eY sY mY aY bY tY cY QY AY ls h0 hP hK hN hD hA hS hl hret
  obtain ⟨hx, hb, hml, hown, hts⟩ := id h0
  have hl : lv_has ls 2 [(0, .int (nI w)), (1, .int (nI k))] := hl
  have hP : va_P D vwCl ([]) sY.heap := hP
  have hD : va_D AY ([]) := hD
  refine lv_iload_n hx hb dX9_lastBits_0 rfl (lv_at hl 0 rfl) ?_
  refine lv_iconst (v := nI 1) hx hb dX9_lastBits_1 (by decide +kernel) ?_
  refine lv_iconst (v := nI 2) hx hb dX9_lastBits_2 (by decide +kernel) ?_
  refine lv_iload_n hx hb dX9_lastBits_3 rfl (lv_at hl 1 rfl) ?_
  refine lv_imul hx hb dX9_lastBits_4 ?_
  refine xt (show (nI 2) * (nI k) = nI (2 * k) from pk_mul _ _) ?_
  refine lv_ishl hx hb dX9_lastBits_5 ?_
  refine xt (show (nI 1) <<< ((nI (2 * k)) &&& 31) = nI (4 ^ k) from sh_1 (by omega)) ?_
  refine lv_iconst (v := nI 1) hx hb dX9_lastBits_6 (by decide +kernel) ?_
  refine lv_isub hx hb dX9_lastBits_7 ?_
  refine xt (show (nI (4 ^ k)) - (nI 1) = nI (4 ^ k - 1) from pk_sub (four_pos _)) ?_
  refine lv_iand hx hb dX9_lastBits_8 ?_
  refine xt (show (nI w) &&& (nI (4 ^ k - 1)) = nI (w % 4 ^ k) from sh_m hk) ?_
  exact hret _ _ _ _ _ _ dX9_lastBits_9 ⟨rfl, rfl⟩ hP hD hS

theorem hi_X4_contains_X4 : ∀ w ∈ u_ws RX4 TX4 6, w ∈ wsX4_contains := by decide +kernel
set_option maxHeartbeats 1000000 in
set_option maxRecDepth 100000 in
theorem k_X4_contains (lY : Launch) (D : va_G) (cA : Nat → ClassId) (B : Nat → Nat) (S : St) (L R LL RL TM : Nat → Int32) (x : Int32) (h10 : S 1 ≤ 10) : MetI lY D cA yX4_contains wsX4_contains 0 0 [.ref (B 0), .int x] (gRu cA B L R LL RL TM (nI (S 1))) (fun rY wY => rY = bI (inR S x) ∧ wY = gRu cA B L R LL RL TM (nI (S 1))) := by
  refine MetI.of (cc := cX4_contains) (maxL := 2) (ret := (some .boolean)) (by decide) rfl (Nat.le_of_ble_eq_true rfl) (Or.inr ⟨rfl, fun r w' h => by obtain ⟨h, -⟩ := h; rw [h]; exact bI_nar _⟩) ?_
  intro pY eY sY mY aY bY tY cY QY AY ls h0 hP hK hN hD hA hS hl hret
  obtain ⟨hx, hb, hml, hown, hts⟩ := id h0
  have hl : lv_has ls 2 [(0, .ref (B 0)), (1, .int x)] := hl
  have hP : va_P D vwCl (gRu cA B L R LL RL TM (nI (S 1))) sY.heap := hP
  have hD : va_D AY (gRu cA B L R LL RL TM (nI (S 1))) := hD
  have e2 : (nI (S 1)).toInt = (S 1 : Int) := nI_toInt (by omega)
  refine lv_iload_n hx hb dX4_contains_0 rfl (lv_at hl 1 rfl) ?_
  refine xz_lt (tgt := 16) hx hb dX4_contains_1 (by decide) (fun c1 => ?_) (fun c1 => ?_)
  · refine lv_iconst (v := nI 0) hx hb dX4_contains_16 (by decide +kernel) ?_
    exact hret _ _ _ _ _ _ dX4_contains_17 ⟨by rw [show inR S x = false from decide_eq_false (by omega)]; rfl, rfl⟩ hP hD hS
  · refine lv_iload_n hx hb dX4_contains_4 rfl (lv_at hl 1 rfl) ?_
    refine lv_aload_n hx hb dX4_contains_5 rfl (lv_at hl 0 rfl) ?_
    refine va_get (D := D) (ci := 4) (v := .int (nI (S 1))) (C := RX4) (T := TX4) (N := 6) hx hb hts hi_X4_contains_X4 hown hK hP 0 rfl rfl 5 (by decide) (hts (.fieldLink RX4 33 "FallingWords$Rules" "size" "I") (by decide +kernel)) (fun _ h9 => h9) rfl dX4_contains_6 ?_
    refine xr_ge (tgt := 16) hx hb dX4_contains_9 (by decide) (fun c9 => ?_) (fun c9 => ?_)
    · refine lv_iconst (v := nI 0) hx hb dX4_contains_16 (by decide +kernel) ?_
      exact hret _ _ _ _ _ _ dX4_contains_17 ⟨by rw [show inR S x = false from decide_eq_false (by omega)]; rfl, rfl⟩ hP hD hS
    · refine lv_iconst (v := nI 1) hx hb dX4_contains_12 (by decide +kernel) ?_
      refine lv_goto (tgt := 17) hx hb dX4_contains_13 (by decide) ?_
      exact hret _ _ _ _ _ _ dX4_contains_17 ⟨by rw [show inR S x = true from decide_eq_true (by omega)]; rfl, rfl⟩ hP hD hS

theorem hi_X4_isFull_X4 : ∀ w ∈ u_ws RX4 TX4 6, w ∈ wsX4_isFull := by decide +kernel
set_option maxHeartbeats 1000000 in
set_option maxRecDepth 100000 in
theorem k_X4_isFull (lY : Launch) (D : va_G) (cA : Nat → ClassId) (B : Nat → Nat) (S : St) (L R LL RL TM : Nat → Int32) (h10 : S 1 ≤ 10) : MetI lY D cA yX4_isFull wsX4_isFull 0 0 [.ref (B 0)] (gRu cA B L R LL RL TM (nI (S 1))) (fun rY wY => rY = bI (decide (10 ≤ S 1)) ∧ wY = gRu cA B L R LL RL TM (nI (S 1))) := by
  refine MetI.of (cc := cX4_isFull) (maxL := 1) (ret := (some .boolean)) (by decide) rfl (Nat.le_of_ble_eq_true rfl) (Or.inr ⟨rfl, fun r w' h => by obtain ⟨h, -⟩ := h; rw [h]; exact bI_nar _⟩) ?_
  intro pY eY sY mY aY bY tY cY QY AY ls h0 hP hK hN hD hA hS hl hret
  obtain ⟨hx, hb, hml, hown, hts⟩ := id h0
  have hl : lv_has ls 1 [(0, .ref (B 0))] := hl
  have hP : va_P D vwCl (gRu cA B L R LL RL TM (nI (S 1))) sY.heap := hP
  have hD : va_D AY (gRu cA B L R LL RL TM (nI (S 1))) := hD
  refine lv_aload_n hx hb dX4_isFull_0 rfl (lv_at hl 0 rfl) ?_
  refine va_get (D := D) (ci := 4) (v := .int (nI (S 1))) (C := RX4) (T := TX4) (N := 6) hx hb hts hi_X4_isFull_X4 hown hK hP 0 rfl rfl 5 (by decide) (hts (.fieldLink RX4 33 "FallingWords$Rules" "size" "I") (by decide +kernel)) (fun _ h9 => h9) rfl dX4_isFull_1 ?_
  refine lv_bipush (v := nI 10) hx hb dX4_isFull_4 (by decide +kernel) ?_
  refine xc_lt (tgt := 13) hx hb dX4_isFull_6 (by decide) (by omega) (by omega) (fun c6 => ?_) (fun c6 => ?_)
  · refine lv_iconst (v := nI 0) hx hb dX4_isFull_13 (by decide +kernel) ?_
    exact hret _ _ _ _ _ _ dX4_isFull_14 ⟨by rw [decide_eq_false (by omega)]; rfl, rfl⟩ hP hD hS
  · refine lv_iconst (v := nI 1) hx hb dX4_isFull_9 (by decide +kernel) ?_
    refine lv_goto (tgt := 14) hx hb dX4_isFull_10 (by decide) ?_
    exact hret _ _ _ _ _ _ dX4_isFull_14 ⟨by rw [decide_eq_true (by omega)]; rfl, rfl⟩ hP hD hS

theorem hi_X4_hasSides_X4 : ∀ w ∈ u_ws RX4 TX4 6, w ∈ wsX4_hasSides := by decide +kernel
set_option maxHeartbeats 1000000 in
set_option maxRecDepth 100000 in
theorem k_X4_hasSides (lY : Launch) (D : va_G) (cA : Nat → ClassId) (B : Nat → Nat) (S : St) (L R LL RL TM : Nat → Int32) (a b : Nat) (h10 : S 1 ≤ 10) (hr : rRu S L R LL RL TM) (ha : a < 2147483648) (hb2 : b < 2147483648) (hBd : ∀ r, r < S 1 → lf S r < 2147483648 ∧ rt S r < 2147483648) : MetI lY D cA yX4_hasSides wsX4_hasSides 0 0 [.ref (B 0), .int (nI a), .int (nI b)] (gRu cA B L R LL RL TM (nI (S 1))) (fun rY wY => rY = bI (hsd S a b) ∧ wY = gRu cA B L R LL RL TM (nI (S 1))) := by
  refine MetI.of (cc := cX4_hasSides) (maxL := 4) (ret := (some .boolean)) (by decide) rfl (Nat.le_of_ble_eq_true rfl) (Or.inr ⟨rfl, fun r w' h => by obtain ⟨h, -⟩ := h; rw [h]; exact bI_nar _⟩) ?_
  intro pY eY sY mY aY bY tY cY QY AY ls h0 hP hK hN hD hA hS hl hret
  obtain ⟨hx, hb, hml, hown, hts⟩ := id h0
  have hl : lv_has ls 4 [(0, .ref (B 0)), (1, .int (nI a)), (2, .int (nI b))] := hl
  have hP : va_P D vwCl (gRu cA B L R LL RL TM (nI (S 1))) sY.heap := hP
  have hD : va_D AY (gRu cA B L R LL RL TM (nI (S 1))) := hD
  refine lv_iconst (v := nI 0) hx hb dX4_hasSides_0 (by decide +kernel) ?_
  refine lv_istore_n (lv' := [(3, .int (nI 0)), (0, .ref (B 0)), (1, .int (nI a)), (2, .int (nI b))]) hx hb dX4_hasSides_1 rfl hl (by decide) rfl (fun ls hl => ?_)
  have L2 : ∀ (nY : Nat), ∀ (i : Nat), (i ≤ S 1) → (∀ k, k < i → decide (lf S k = a ∧ rt S k = b) = false) → (S 1 - i < nY) → ∀ (H : Heap) (locs : List Loc) (ls : Array Slot), va_P D vwCl (gRu cA B L R LL RL TM (nI (S 1))) H → va_D AY (gRu cA B L R LL RL TM (nI (S 1))) → va_S AY sY.heap H locs → lv_has ls 4 [(0, .ref (B 0)), (1, .int (nI a)), (2, .int (nI b)), (3, .int (nI i))] → W pY lY eY { frames := 0, cells := 0, slots := 0, locals := 0 } sY mY aY bY tY cY H locs 0 0 QY (F0 mY 2 ls []) := by
    intro nY2
    induction nY2 with
    | zero => intro i hi hno hm2; exact absurd hm2 (Nat.not_lt_zero _)
    | succ nY2 ih2 =>
      intro i hi hno hm2 H locs ls hP hD hS hl
      refine lv_iload_n hx hb dX4_hasSides_2 rfl (lv_at hl 3 rfl) ?_
      refine lv_aload_n hx hb dX4_hasSides_3 rfl (lv_at hl 0 rfl) ?_
      refine va_get (D := D) (ci := 4) (v := .int (nI (S 1))) (C := RX4) (T := TX4) (N := 6) hx hb hts hi_X4_hasSides_X4 hown hK hP 0 rfl rfl 5 (by decide) (hts (.fieldLink RX4 33 "FallingWords$Rules" "size" "I") (by decide +kernel)) (fun _ h9 => h9) rfl dX4_hasSides_4 ?_
      refine xc_ge (tgt := 38) hx hb dX4_hasSides_7 (by decide) (by omega) (by omega) (fun c7 => ?_) (fun c7 => ?_)
      · refine lv_iconst (v := nI 0) hx hb dX4_hasSides_38 (by decide +kernel) ?_
        exact hret _ _ _ _ _ _ dX4_hasSides_39 ⟨by rw [show hsd S a b = false from decide_eq_false (by rw [ff_none (fun j hj => hno j (by omega))]; omega)]; rfl, rfl⟩ hP hD hS
      · obtain ⟨g1, g2⟩ := hBd i (by omega)
        obtain ⟨f1, f2, -, -, -⟩ := hr i (by omega)
        refine lv_aload_n hx hb dX4_hasSides_10 rfl (lv_at hl 0 rfl) ?_
        refine va_get (D := D) (ci := 4) (v := .ref (B 1)) (C := RX4) (T := TX4) (N := 6) hx hb hts hi_X4_hasSides_X4 hown hK hP 0 rfl rfl 0 (by decide) (hts (.fieldLink RX4 9 "FallingWords$Rules" "left" "[I") (by decide +kernel)) (fun _ h9 => h9) rfl dX4_hasSides_11 ?_
        refine lv_iload_n hx hb dX4_hasSides_14 rfl (lv_at hl 3 rfl) ?_
        refine xa_ld (v := nI (lf S i)) hx hb hK hP 1 rfl (by omega) (by decide) (f1) dX4_hasSides_15 ?_
        refine lv_iload_n hx hb dX4_hasSides_16 rfl (lv_at hl 1 rfl) ?_
        refine xc_ne (tgt := 32) hx hb dX4_hasSides_17 (by decide) (by omega) (by omega) (fun c17 => ?_) (fun c17 => ?_)
        · refine lv_iinc (v := nI (i + 1)) (lv' := [(3, .int (nI (i + 1))), (0, .ref (B 0)), (1, .int (nI a)), (2, .int (nI b))]) hx hb dX4_hasSides_32 hl (k := 3) rfl (show nI i + Int32.ofInt 1 = nI (i + 1) from nI_add i 1) (by decide) rfl (fun ls hl => ?_)
          refine lv_goto (tgt := 2) hx hb dX4_hasSides_35 (by decide) ?_
          exact ih2 (i + 1) (by omega) (lt_s hno (decide_eq_false (fun z => c17 z.1))) (by omega) _ _ _ hP hD hS (lv_sub hl [1, 2, 3, 0] rfl)
        · refine lv_aload_n hx hb dX4_hasSides_20 rfl (lv_at hl 0 rfl) ?_
          refine va_get (D := D) (ci := 4) (v := .ref (B 2)) (C := RX4) (T := TX4) (N := 6) hx hb hts hi_X4_hasSides_X4 hown hK hP 0 rfl rfl 1 (by decide) (hts (.fieldLink RX4 15 "FallingWords$Rules" "right" "[I") (by decide +kernel)) (fun _ h9 => h9) rfl dX4_hasSides_21 ?_
          refine lv_iload_n hx hb dX4_hasSides_24 rfl (lv_at hl 3 rfl) ?_
          refine xa_ld (v := nI (rt S i)) hx hb hK hP 2 rfl (by omega) (by decide) (f2) dX4_hasSides_25 ?_
          refine lv_iload_n hx hb dX4_hasSides_26 rfl (lv_at hl 2 rfl) ?_
          refine xc_ne (tgt := 32) hx hb dX4_hasSides_27 (by decide) (by omega) (by omega) (fun c27 => ?_) (fun c27 => ?_)
          · refine lv_iinc (v := nI (i + 1)) (lv' := [(3, .int (nI (i + 1))), (0, .ref (B 0)), (1, .int (nI a)), (2, .int (nI b))]) hx hb dX4_hasSides_32 hl (k := 3) rfl (show nI i + Int32.ofInt 1 = nI (i + 1) from nI_add i 1) (by decide) rfl (fun ls hl => ?_)
            refine lv_goto (tgt := 2) hx hb dX4_hasSides_35 (by decide) ?_
            exact ih2 (i + 1) (by omega) (lt_s hno (decide_eq_false (fun z => c27 z.2))) (by omega) _ _ _ hP hD hS (lv_sub hl [1, 2, 3, 0] rfl)
          · refine lv_iconst (v := nI 1) hx hb dX4_hasSides_30 (by decide +kernel) ?_
            exact hret _ _ _ _ _ _ dX4_hasSides_31 ⟨by rw [show hsd S a b = true from decide_eq_true (by rw [ff_is (k := i) (by omega) (decide_eq_true ⟨c17, c27⟩) hno]; omega)]; rfl, rfl⟩ hP hD hS
  exact L2 _ 0 (by omega) (fun k h => absurd h (Nat.not_lt_zero k)) (Nat.lt_succ_self _) _ _ _ hP hD hS (lv_sub hl [1, 2, 3, 0] rfl)

theorem hi_X4_add_X4 : ∀ w ∈ u_ws RX4 TX4 6, w ∈ wsX4_add := by decide +kernel
set_option maxHeartbeats 1000000 in
set_option maxRecDepth 100000 in
theorem k_X4_add (lY : Launch) (D : va_G) (cA : Nat → ClassId) (B : Nat → Nat) (S : St) (L R LL RL TM : Nat → Int32) (a b : Nat) (h10 : S 1 < 10) (hr : rRu S L R LL RL TM) (ha : vw 4 a) (hb2 : vw 4 b) : MetV lY D cA yX4_add wsX4_add 1 22 0 0 [.ref (B 0), .int (nI a), .int (nI b)] (gRu cA B L R LL RL TM (nI (S 1))) (fun wY => ∃ (L' : Nat → Int32) (R' : Nat → Int32) (LL' : Nat → Int32) (RL' : Nat → Int32) (TM' : Nat → Int32), wY = gRu cA B L' R' LL' RL' TM' (nI (S 1 + 1)) ∧ (rRu (addS S a b) L' R' LL' RL' TM')) := by
  refine MetV.of (cc := cX4_add) (maxL := 3) (by decide) rfl (Nat.le_of_ble_eq_true rfl) ?_
  intro pY eY sY mY aY bY tY cY QY AY ls h0 hP hK hN hD hA hS hl hin hret
  obtain ⟨hx, hb, hml, hown, hts⟩ := id h0
  have hl : lv_has ls 3 [(0, .ref (B 0)), (1, .int (nI a)), (2, .int (nI b))] := hl
  have hP : va_P D vwCl (gRu cA B L R LL RL TM (nI (S 1))) sY.heap := hP
  have hD : va_D AY (gRu cA B L R LL RL TM (nI (S 1))) := hD
  refine lv_aload_n hx hb dX4_add_0 rfl (lv_at hl 0 rfl) ?_
  refine ci_V (As := []) (rest := []) h0 hK hN hP hD hS hA hl.1 (k_X4_isFull lY D cA B S L R LL RL TM (by first | assumption | omega)) [0, 1, 2, 3, 4, 5] rfl (by decide) (cwV 0 hts gX4_add_X4_isFull rfl rfl rfl (by decide +kernel) ⟨Nat.le_of_ble_eq_true rfl, Nat.le_of_ble_eq_true rfl⟩) (cl_recv (ci := 4) (q := (RX4, TX4, 6)) (q0 := 0) hP hK rfl rfl) rfl rfl (Nat.le_of_ble_eq_true rfl) dX4_add_1 ⟨Nat.zero_le _, Nat.zero_le _⟩ (fun rY wY H locs hwY hJ hS => ?_)
  obtain ⟨e1Y, e2Y⟩ := hwY
  have e3Y := e1Y.symm
  clear e1Y
  subst e3Y
  have e3Y := e2Y.symm
  clear e2Y
  subst e3Y
  obtain ⟨hP, hD⟩ := hJ rfl
  have hP : va_P D vwCl (gRu cA B L R LL RL TM (nI (S 1))) H := hP
  have hD : va_D AY (gRu cA B L R LL RL TM (nI (S 1))) := hD
  refine xb_eq (tgt := 8) hx hb dX4_add_4 (by decide) (fun c4 => ?_) (fun c4 => ?_)
  · refine lv_aload_n hx hb dX4_add_8 rfl (lv_at hl 0 rfl) ?_
    refine va_get (D := D) (ci := 4) (v := .ref (B 1)) (C := RX4) (T := TX4) (N := 6) hx hb hts hi_X4_add_X4 hown hK hP 0 rfl rfl 0 (by decide) (hts (.fieldLink RX4 9 "FallingWords$Rules" "left" "[I") (by decide +kernel)) (fun _ h9 => h9) rfl dX4_add_9 ?_
    refine lv_aload_n hx hb dX4_add_12 rfl (lv_at hl 0 rfl) ?_
    refine va_get (D := D) (ci := 4) (v := .int (nI (S 1))) (C := RX4) (T := TX4) (N := 6) hx hb hts hi_X4_add_X4 hown hK hP 0 rfl rfl 5 (by decide) (hts (.fieldLink RX4 33 "FallingWords$Rules" "size" "I") (by decide +kernel)) (fun _ h9 => h9) rfl dX4_add_13 ?_
    refine lv_iload_n hx hb dX4_add_16 rfl (lv_at hl 1 rfl) ?_
    refine xa_st hx hb hK hP hD hS 1 rfl (by omega) (by decide) dX4_add_17 (fun H locs hP hD hS => ?_)
    have hP : va_P D vwCl (gRu cA B (upd L (S 1) (nI a)) R LL RL TM (nI (S 1))) H := hP
    have hD : va_D AY (gRu cA B (upd L (S 1) (nI a)) R LL RL TM (nI (S 1))) := hD
    refine lv_aload_n hx hb dX4_add_18 rfl (lv_at hl 0 rfl) ?_
    refine va_get (D := D) (ci := 4) (v := .ref (B 2)) (C := RX4) (T := TX4) (N := 6) hx hb hts hi_X4_add_X4 hown hK hP 0 rfl rfl 1 (by decide) (hts (.fieldLink RX4 15 "FallingWords$Rules" "right" "[I") (by decide +kernel)) (fun _ h9 => h9) rfl dX4_add_19 ?_
    refine lv_aload_n hx hb dX4_add_22 rfl (lv_at hl 0 rfl) ?_
    refine va_get (D := D) (ci := 4) (v := .int (nI (S 1))) (C := RX4) (T := TX4) (N := 6) hx hb hts hi_X4_add_X4 hown hK hP 0 rfl rfl 5 (by decide) (hts (.fieldLink RX4 33 "FallingWords$Rules" "size" "I") (by decide +kernel)) (fun _ h9 => h9) rfl dX4_add_23 ?_
    refine lv_iload_n hx hb dX4_add_26 rfl (lv_at hl 2 rfl) ?_
    refine xa_st hx hb hK hP hD hS 2 rfl (by omega) (by decide) dX4_add_27 (fun H locs hP hD hS => ?_)
    have hP : va_P D vwCl (gRu cA B (upd L (S 1) (nI a)) (upd R (S 1) (nI b)) LL RL TM (nI (S 1))) H := hP
    have hD : va_D AY (gRu cA B (upd L (S 1) (nI a)) (upd R (S 1) (nI b)) LL RL TM (nI (S 1))) := hD
    refine lv_aload_n hx hb dX4_add_28 rfl (lv_at hl 0 rfl) ?_
    refine va_get (D := D) (ci := 4) (v := .ref (B 3)) (C := RX4) (T := TX4) (N := 6) hx hb hts hi_X4_add_X4 hown hK hP 0 rfl rfl 2 (by decide) (hts (.fieldLink RX4 18 "FallingWords$Rules" "leftLength" "[I") (by decide +kernel)) (fun _ h9 => h9) rfl dX4_add_29 ?_
    refine lv_aload_n hx hb dX4_add_32 rfl (lv_at hl 0 rfl) ?_
    refine va_get (D := D) (ci := 4) (v := .int (nI (S 1))) (C := RX4) (T := TX4) (N := 6) hx hb hts hi_X4_add_X4 hown hK hP 0 rfl rfl 5 (by decide) (hts (.fieldLink RX4 33 "FallingWords$Rules" "size" "I") (by decide +kernel)) (fun _ h9 => h9) rfl dX4_add_33 ?_
    refine lv_iload_n hx hb dX4_add_36 rfl (lv_at hl 1 rfl) ?_
    refine ci_SN (As := [.int (nI a)]) (rest := [.int (nI (S 1)), .ref (B 3)]) h0 hK hN hP hD hS hA hl.1 (k_X9_lengthOf lY D cA a (ha.1) (by have := ha.2; omega)) [] rfl (by decide) ⟨(va_cnB 1 hts gX4_add_X9_lengthOf_n41 rfl rfl rfl (hN (.methodLinkNest RX4 41 yX9_lengthOf "FallingWords") (by decide +kernel)) (hts (.initialized RX9) (by decide +kernel)) (by decide +kernel) ⟨Nat.le_of_ble_eq_true rfl, Nat.le_of_ble_eq_true rfl⟩), hts (.static yX9_lengthOf) (by decide +kernel), trivial⟩ rfl rfl (Nat.le_of_ble_eq_true rfl) dX4_add_37 ⟨Nat.zero_le _, Nat.zero_le _⟩ (fun rY wY H locs hwY hJ hS => ?_)
    obtain ⟨e1Y, e2Y⟩ := hwY
    have e3Y := e1Y.symm
    clear e1Y
    subst e3Y
    have e3Y := e2Y.symm
    clear e2Y
    subst e3Y
    obtain ⟨hP, hD⟩ := hJ rfl
    have hP : va_P D vwCl (gRu cA B (upd L (S 1) (nI a)) (upd R (S 1) (nI b)) LL RL TM (nI (S 1))) H := hP
    have hD : va_D AY (gRu cA B (upd L (S 1) (nI a)) (upd R (S 1) (nI b)) LL RL TM (nI (S 1))) := hD
    refine xa_st hx hb hK hP hD hS 3 rfl (by omega) (by decide) dX4_add_40 (fun H locs hP hD hS => ?_)
    have hP : va_P D vwCl (gRu cA B (upd L (S 1) (nI a)) (upd R (S 1) (nI b)) (upd LL (S 1) (nI (len a))) RL TM (nI (S 1))) H := hP
    have hD : va_D AY (gRu cA B (upd L (S 1) (nI a)) (upd R (S 1) (nI b)) (upd LL (S 1) (nI (len a))) RL TM (nI (S 1))) := hD
    refine lv_aload_n hx hb dX4_add_41 rfl (lv_at hl 0 rfl) ?_
    refine va_get (D := D) (ci := 4) (v := .ref (B 4)) (C := RX4) (T := TX4) (N := 6) hx hb hts hi_X4_add_X4 hown hK hP 0 rfl rfl 3 (by decide) (hts (.fieldLink RX4 21 "FallingWords$Rules" "rightLength" "[I") (by decide +kernel)) (fun _ h9 => h9) rfl dX4_add_42 ?_
    refine lv_aload_n hx hb dX4_add_45 rfl (lv_at hl 0 rfl) ?_
    refine va_get (D := D) (ci := 4) (v := .int (nI (S 1))) (C := RX4) (T := TX4) (N := 6) hx hb hts hi_X4_add_X4 hown hK hP 0 rfl rfl 5 (by decide) (hts (.fieldLink RX4 33 "FallingWords$Rules" "size" "I") (by decide +kernel)) (fun _ h9 => h9) rfl dX4_add_46 ?_
    refine lv_iload_n hx hb dX4_add_49 rfl (lv_at hl 2 rfl) ?_
    refine ci_SN (As := [.int (nI b)]) (rest := [.int (nI (S 1)), .ref (B 4)]) h0 hK hN hP hD hS hA hl.1 (k_X9_lengthOf lY D cA b (hb2.1) (by have := hb2.2; omega)) [] rfl (by decide) ⟨(va_cnB 1 hts gX4_add_X9_lengthOf_n41 rfl rfl rfl (hN (.methodLinkNest RX4 41 yX9_lengthOf "FallingWords") (by decide +kernel)) (hts (.initialized RX9) (by decide +kernel)) (by decide +kernel) ⟨Nat.le_of_ble_eq_true rfl, Nat.le_of_ble_eq_true rfl⟩), hts (.static yX9_lengthOf) (by decide +kernel), trivial⟩ rfl rfl (Nat.le_of_ble_eq_true rfl) dX4_add_50 ⟨Nat.zero_le _, Nat.zero_le _⟩ (fun rY wY H locs hwY hJ hS => ?_)
    obtain ⟨e1Y, e2Y⟩ := hwY
    have e3Y := e1Y.symm
    clear e1Y
    subst e3Y
    have e3Y := e2Y.symm
    clear e2Y
    subst e3Y
    obtain ⟨hP, hD⟩ := hJ rfl
    have hP : va_P D vwCl (gRu cA B (upd L (S 1) (nI a)) (upd R (S 1) (nI b)) (upd LL (S 1) (nI (len a))) RL TM (nI (S 1))) H := hP
    have hD : va_D AY (gRu cA B (upd L (S 1) (nI a)) (upd R (S 1) (nI b)) (upd LL (S 1) (nI (len a))) RL TM (nI (S 1))) := hD
    refine xa_st hx hb hK hP hD hS 4 rfl (by omega) (by decide) dX4_add_53 (fun H locs hP hD hS => ?_)
    have hP : va_P D vwCl (gRu cA B (upd L (S 1) (nI a)) (upd R (S 1) (nI b)) (upd LL (S 1) (nI (len a))) (upd RL (S 1) (nI (len b))) TM (nI (S 1))) H := hP
    have hD : va_D AY (gRu cA B (upd L (S 1) (nI a)) (upd R (S 1) (nI b)) (upd LL (S 1) (nI (len a))) (upd RL (S 1) (nI (len b))) TM (nI (S 1))) := hD
    refine lv_aload_n hx hb dX4_add_54 rfl (lv_at hl 0 rfl) ?_
    refine va_get (D := D) (ci := 4) (v := .ref (B 5)) (C := RX4) (T := TX4) (N := 6) hx hb hts hi_X4_add_X4 hown hK hP 0 rfl rfl 4 (by decide) (hts (.fieldLink RX4 24 "FallingWords$Rules" "times" "[I") (by decide +kernel)) (fun _ h9 => h9) rfl dX4_add_55 ?_
    refine lv_aload_n hx hb dX4_add_58 rfl (lv_at hl 0 rfl) ?_
    refine va_get (D := D) (ci := 4) (v := .int (nI (S 1))) (C := RX4) (T := TX4) (N := 6) hx hb hts hi_X4_add_X4 hown hK hP 0 rfl rfl 5 (by decide) (hts (.fieldLink RX4 33 "FallingWords$Rules" "size" "I") (by decide +kernel)) (fun _ h9 => h9) rfl dX4_add_59 ?_
    refine lv_iconst (v := nI 0) hx hb dX4_add_62 (by decide +kernel) ?_
    refine xa_st hx hb hK hP hD hS 5 rfl (by omega) (by decide) dX4_add_63 (fun H locs hP hD hS => ?_)
    have hP : va_P D vwCl (gRu cA B (upd L (S 1) (nI a)) (upd R (S 1) (nI b)) (upd LL (S 1) (nI (len a))) (upd RL (S 1) (nI (len b))) (upd TM (S 1) (nI 0)) (nI (S 1))) H := hP
    have hD : va_D AY (gRu cA B (upd L (S 1) (nI a)) (upd R (S 1) (nI b)) (upd LL (S 1) (nI (len a))) (upd RL (S 1) (nI (len b))) (upd TM (S 1) (nI 0)) (nI (S 1))) := hD
    refine lv_aload_n hx hb dX4_add_64 rfl (lv_at hl 0 rfl) ?_
    refine lv_dup hx hb dX4_add_65 rfl ?_
    refine va_get (D := D) (ci := 4) (v := .int (nI (S 1))) (C := RX4) (T := TX4) (N := 6) hx hb hts hi_X4_add_X4 hown hK hP 0 rfl rfl 5 (by decide) (hts (.fieldLink RX4 33 "FallingWords$Rules" "size" "I") (by decide +kernel)) (fun _ h9 => h9) rfl dX4_add_66 ?_
    refine lv_iconst (v := nI 1) hx hb dX4_add_69 (by decide +kernel) ?_
    refine lv_iadd hx hb dX4_add_70 ?_
    refine xt (show (nI (S 1)) + (nI 1) = nI (S 1 + 1) from nI_add _ _) ?_
    refine va_put (D := D) (ci := 4) (v := .int (nI (S 1 + 1))) (ty := .int) (C := RX4) (T := TX4) (N := 6) hx hb hts hi_X4_add_X4 tyX4 tyX4_ok nmX4 hown hK hP hD hS 0 rfl rfl 5 (by decide) (hts (.fieldLink RX4 33 "FallingWords$Rules" "size" "I") (by decide +kernel)) (fun _ h9 => h9) rfl (by decide +kernel) rfl rfl (Nat.le_of_ble_eq_true rfl) dX4_add_71 (fun H locs hP hD hS => ?_)
    have hP : va_P D vwCl (gRu cA B (upd L (S 1) (nI a)) (upd R (S 1) (nI b)) (upd LL (S 1) (nI (len a))) (upd RL (S 1) (nI (len b))) (upd TM (S 1) (nI 0)) (nI (S 1 + 1))) H := hP
    have hD : va_D AY (gRu cA B (upd L (S 1) (nI a)) (upd R (S 1) (nI b)) (upd LL (S 1) (nI (len a))) (upd RL (S 1) (nI (len b))) (upd TM (S 1) (nI 0)) (nI (S 1 + 1))) := hD
    exact hret _ _ _ _ _ dX4_add_74 ⟨(upd L (S 1) (nI a)), (upd R (S 1) (nI b)), (upd LL (S 1) (nI (len a))), (upd RL (S 1) (nI (len b))), (upd TM (S 1) (nI 0)), rfl, rRu_add hr a b⟩ hP hD hS
  · exact absurd c4 (by rw [decide_eq_false (by omega)]; decide)

theorem hi_X4_remove_X4 : ∀ w ∈ u_ws RX4 TX4 6, w ∈ wsX4_remove := by decide +kernel
set_option maxHeartbeats 1000000 in
set_option maxRecDepth 100000 in
theorem k_X4_remove (lY : Launch) (D : va_G) (cA : Nat → ClassId) (B : Nat → Nat) (S : St) (L R LL RL TM : Nat → Int32) (g : Nat) (h10 : S 1 ≤ 10) (hr : rRu S L R LL RL TM) (hg : g < S 1) : MetV lY D cA yX4_remove wsX4_remove 1 21 0 0 [.ref (B 0), .int (nI g)] (gRu cA B L R LL RL TM (nI (S 1))) (fun wY => ∃ (L' : Nat → Int32) (R' : Nat → Int32) (LL' : Nat → Int32) (RL' : Nat → Int32) (TM' : Nat → Int32), wY = gRu cA B L' R' LL' RL' TM' (nI (S 1 - 1)) ∧ (rRu (dropS S g) L' R' LL' RL' TM')) := by
  refine MetV.of (cc := cX4_remove) (maxL := 3) (by decide) rfl (Nat.le_of_ble_eq_true rfl) ?_
  intro pY eY sY mY aY bY tY cY QY AY ls h0 hP hK hN hD hA hS hl hin hret
  obtain ⟨hx, hb, hml, hown, hts⟩ := id h0
  have hl : lv_has ls 3 [(0, .ref (B 0)), (1, .int (nI g))] := hl
  have hP : va_P D vwCl (gRu cA B L R LL RL TM (nI (S 1))) sY.heap := hP
  have hD : va_D AY (gRu cA B L R LL RL TM (nI (S 1))) := hD
  refine lv_aload_n hx hb dX4_remove_0 rfl (lv_at hl 0 rfl) ?_
  refine lv_iload_n hx hb dX4_remove_1 rfl (lv_at hl 1 rfl) ?_
  refine ci_V (As := [.int (nI g)]) (rest := []) h0 hK hN hP hD hS hA hl.1 (k_X4_contains lY D cA B S L R LL RL TM (nI g) (by first | assumption | omega)) [0, 1, 2, 3, 4, 5] rfl (by decide) (cwV 1 hts gX4_remove_X4_contains rfl rfl rfl (by decide +kernel) ⟨Nat.le_of_ble_eq_true rfl, Nat.le_of_ble_eq_true rfl⟩) (cl_recv (ci := 4) (q := (RX4, TX4, 6)) (q0 := 0) hP hK rfl rfl) rfl rfl (Nat.le_of_ble_eq_true rfl) dX4_remove_2 ⟨Nat.zero_le _, Nat.zero_le _⟩ (fun rY wY H locs hwY hJ hS => ?_)
  obtain ⟨e1Y, e2Y⟩ := hwY
  have e3Y := e1Y.symm
  clear e1Y
  subst e3Y
  have e3Y := e2Y.symm
  clear e2Y
  subst e3Y
  obtain ⟨hP, hD⟩ := hJ rfl
  have hP : va_P D vwCl (gRu cA B L R LL RL TM (nI (S 1))) H := hP
  have hD : va_D AY (gRu cA B L R LL RL TM (nI (S 1))) := hD
  refine xb_ne (tgt := 9) hx hb dX4_remove_5 (by decide) (fun c5 => ?_) (fun c5 => ?_)
  · refine lv_iload_n hx hb dX4_remove_9 rfl (lv_at hl 1 rfl) ?_
    refine lv_istore_n (lv' := [(2, .int (nI g)), (0, .ref (B 0)), (1, .int (nI g))]) hx hb dX4_remove_10 rfl hl (by decide) rfl (fun ls hl => ?_)
    have L11 : ∀ (nY : Nat), ∀ (i : Nat) (L' : Nat → Int32) (R' : Nat → Int32) (LL' : Nat → Int32) (RL' : Nat → Int32) (TM' : Nat → Int32), (g ≤ i) → (i < S 1) → (shf g i L L') → (shf g i R R') → (shf g i LL LL') → (shf g i RL RL') → (shf g i TM TM') → (S 1 - i < nY) → ∀ (H : Heap) (locs : List Loc) (ls : Array Slot), va_P D vwCl (gRu cA B L' R' LL' RL' TM' (nI (S 1))) H → va_D AY (gRu cA B L' R' LL' RL' TM' (nI (S 1))) → va_S AY sY.heap H locs → lv_has ls 3 [(0, .ref (B 0)), (1, .int (nI g)), (2, .int (nI i))] → W pY lY eY { frames := 1, cells := 0, slots := 0, locals := 21 } sY mY aY bY tY cY H locs 0 0 QY (F0 mY 11 ls []) := by
      intro nY11
      induction nY11 with
      | zero => intro i L' R' LL' RL' TM' hgi hi s0 s1 s2 s3 s4 hm11; exact absurd hm11 (Nat.not_lt_zero _)
      | succ nY11 ih11 =>
        intro i L' R' LL' RL' TM' hgi hi s0 s1 s2 s3 s4 hm11 H locs ls hP hD hS hl
        refine lv_iload_n hx hb dX4_remove_11 rfl (lv_at hl 2 rfl) ?_
        refine lv_iconst (v := nI 1) hx hb dX4_remove_12 (by decide +kernel) ?_
        refine lv_iadd hx hb dX4_remove_13 ?_
        refine xt (show (nI i) + (nI 1) = nI (i + 1) from nI_add _ _) ?_
        refine lv_aload_n hx hb dX4_remove_14 rfl (lv_at hl 0 rfl) ?_
        refine va_get (D := D) (ci := 4) (v := .int (nI (S 1))) (C := RX4) (T := TX4) (N := 6) hx hb hts hi_X4_remove_X4 hown hK hP 0 rfl rfl 5 (by decide) (hts (.fieldLink RX4 33 "FallingWords$Rules" "size" "I") (by decide +kernel)) (fun _ h9 => h9) rfl dX4_remove_15 ?_
        refine xc_ge (tgt := 97) hx hb dX4_remove_18 (by decide) (by omega) (by omega) (fun c18 => ?_) (fun c18 => ?_)
        · refine lv_aload_n hx hb dX4_remove_97 rfl (lv_at hl 0 rfl) ?_
          refine lv_dup hx hb dX4_remove_98 rfl ?_
          refine va_get (D := D) (ci := 4) (v := .int (nI (S 1))) (C := RX4) (T := TX4) (N := 6) hx hb hts hi_X4_remove_X4 hown hK hP 0 rfl rfl 5 (by decide) (hts (.fieldLink RX4 33 "FallingWords$Rules" "size" "I") (by decide +kernel)) (fun _ h9 => h9) rfl dX4_remove_99 ?_
          refine lv_iconst (v := nI 1) hx hb dX4_remove_102 (by decide +kernel) ?_
          refine lv_isub hx hb dX4_remove_103 ?_
          refine xt (show (nI (S 1)) - (nI 1) = nI ((S 1) - 1) from pk_sub (by omega)) ?_
          refine va_put (D := D) (ci := 4) (v := .int (nI ((S 1) - 1))) (ty := .int) (C := RX4) (T := TX4) (N := 6) hx hb hts hi_X4_remove_X4 tyX4 tyX4_ok nmX4 hown hK hP hD hS 0 rfl rfl 5 (by decide) (hts (.fieldLink RX4 33 "FallingWords$Rules" "size" "I") (by decide +kernel)) (fun _ h9 => h9) rfl (by decide +kernel) rfl rfl (Nat.le_of_ble_eq_true rfl) dX4_remove_104 (fun H locs hP hD hS => ?_)
          have hP : va_P D vwCl (gRu cA B L' R' LL' RL' TM' (nI ((S 1) - 1))) H := hP
          have hD : va_D AY (gRu cA B L' R' LL' RL' TM' (nI ((S 1) - 1))) := hD
          exact hret _ _ _ _ _ dX4_remove_107 ⟨L', R', LL', RL', TM', rfl, rRu_drop hr hg (by omega) s0 s1 s2 s3 s4⟩ hP hD hS
        · refine lv_aload_n hx hb dX4_remove_21 rfl (lv_at hl 0 rfl) ?_
          refine va_get (D := D) (ci := 4) (v := .ref (B 1)) (C := RX4) (T := TX4) (N := 6) hx hb hts hi_X4_remove_X4 hown hK hP 0 rfl rfl 0 (by decide) (hts (.fieldLink RX4 9 "FallingWords$Rules" "left" "[I") (by decide +kernel)) (fun _ h9 => h9) rfl dX4_remove_22 ?_
          refine lv_iload_n hx hb dX4_remove_25 rfl (lv_at hl 2 rfl) ?_
          refine lv_aload_n hx hb dX4_remove_26 rfl (lv_at hl 0 rfl) ?_
          refine va_get (D := D) (ci := 4) (v := .ref (B 1)) (C := RX4) (T := TX4) (N := 6) hx hb hts hi_X4_remove_X4 hown hK hP 0 rfl rfl 0 (by decide) (hts (.fieldLink RX4 9 "FallingWords$Rules" "left" "[I") (by decide +kernel)) (fun _ h9 => h9) rfl dX4_remove_27 ?_
          refine lv_iload_n hx hb dX4_remove_30 rfl (lv_at hl 2 rfl) ?_
          refine lv_iconst (v := nI 1) hx hb dX4_remove_31 (by decide +kernel) ?_
          refine lv_iadd hx hb dX4_remove_32 ?_
          refine xt (show (nI i) + (nI 1) = nI (i + 1) from nI_add _ _) ?_
          refine xa_ld (v := L' (i + 1)) hx hb hK hP 1 rfl (by omega) (by decide) (rfl) dX4_remove_33 ?_
          refine xa_st hx hb hK hP hD hS 1 rfl (by omega) (by decide) dX4_remove_34 (fun H locs hP hD hS => ?_)
          have hP : va_P D vwCl (gRu cA B (upd L' i (L' (i + 1))) R' LL' RL' TM' (nI (S 1))) H := hP
          have hD : va_D AY (gRu cA B (upd L' i (L' (i + 1))) R' LL' RL' TM' (nI (S 1))) := hD
          refine lv_aload_n hx hb dX4_remove_35 rfl (lv_at hl 0 rfl) ?_
          refine va_get (D := D) (ci := 4) (v := .ref (B 2)) (C := RX4) (T := TX4) (N := 6) hx hb hts hi_X4_remove_X4 hown hK hP 0 rfl rfl 1 (by decide) (hts (.fieldLink RX4 15 "FallingWords$Rules" "right" "[I") (by decide +kernel)) (fun _ h9 => h9) rfl dX4_remove_36 ?_
          refine lv_iload_n hx hb dX4_remove_39 rfl (lv_at hl 2 rfl) ?_
          refine lv_aload_n hx hb dX4_remove_40 rfl (lv_at hl 0 rfl) ?_
          refine va_get (D := D) (ci := 4) (v := .ref (B 2)) (C := RX4) (T := TX4) (N := 6) hx hb hts hi_X4_remove_X4 hown hK hP 0 rfl rfl 1 (by decide) (hts (.fieldLink RX4 15 "FallingWords$Rules" "right" "[I") (by decide +kernel)) (fun _ h9 => h9) rfl dX4_remove_41 ?_
          refine lv_iload_n hx hb dX4_remove_44 rfl (lv_at hl 2 rfl) ?_
          refine lv_iconst (v := nI 1) hx hb dX4_remove_45 (by decide +kernel) ?_
          refine lv_iadd hx hb dX4_remove_46 ?_
          refine xt (show (nI i) + (nI 1) = nI (i + 1) from nI_add _ _) ?_
          refine xa_ld (v := R' (i + 1)) hx hb hK hP 2 rfl (by omega) (by decide) (rfl) dX4_remove_47 ?_
          refine xa_st hx hb hK hP hD hS 2 rfl (by omega) (by decide) dX4_remove_48 (fun H locs hP hD hS => ?_)
          have hP : va_P D vwCl (gRu cA B (upd L' i (L' (i + 1))) (upd R' i (R' (i + 1))) LL' RL' TM' (nI (S 1))) H := hP
          have hD : va_D AY (gRu cA B (upd L' i (L' (i + 1))) (upd R' i (R' (i + 1))) LL' RL' TM' (nI (S 1))) := hD
          refine lv_aload_n hx hb dX4_remove_49 rfl (lv_at hl 0 rfl) ?_
          refine va_get (D := D) (ci := 4) (v := .ref (B 3)) (C := RX4) (T := TX4) (N := 6) hx hb hts hi_X4_remove_X4 hown hK hP 0 rfl rfl 2 (by decide) (hts (.fieldLink RX4 18 "FallingWords$Rules" "leftLength" "[I") (by decide +kernel)) (fun _ h9 => h9) rfl dX4_remove_50 ?_
          refine lv_iload_n hx hb dX4_remove_53 rfl (lv_at hl 2 rfl) ?_
          refine lv_aload_n hx hb dX4_remove_54 rfl (lv_at hl 0 rfl) ?_
          refine va_get (D := D) (ci := 4) (v := .ref (B 3)) (C := RX4) (T := TX4) (N := 6) hx hb hts hi_X4_remove_X4 hown hK hP 0 rfl rfl 2 (by decide) (hts (.fieldLink RX4 18 "FallingWords$Rules" "leftLength" "[I") (by decide +kernel)) (fun _ h9 => h9) rfl dX4_remove_55 ?_
          refine lv_iload_n hx hb dX4_remove_58 rfl (lv_at hl 2 rfl) ?_
          refine lv_iconst (v := nI 1) hx hb dX4_remove_59 (by decide +kernel) ?_
          refine lv_iadd hx hb dX4_remove_60 ?_
          refine xt (show (nI i) + (nI 1) = nI (i + 1) from nI_add _ _) ?_
          refine xa_ld (v := LL' (i + 1)) hx hb hK hP 3 rfl (by omega) (by decide) (rfl) dX4_remove_61 ?_
          refine xa_st hx hb hK hP hD hS 3 rfl (by omega) (by decide) dX4_remove_62 (fun H locs hP hD hS => ?_)
          have hP : va_P D vwCl (gRu cA B (upd L' i (L' (i + 1))) (upd R' i (R' (i + 1))) (upd LL' i (LL' (i + 1))) RL' TM' (nI (S 1))) H := hP
          have hD : va_D AY (gRu cA B (upd L' i (L' (i + 1))) (upd R' i (R' (i + 1))) (upd LL' i (LL' (i + 1))) RL' TM' (nI (S 1))) := hD
          refine lv_aload_n hx hb dX4_remove_63 rfl (lv_at hl 0 rfl) ?_
          refine va_get (D := D) (ci := 4) (v := .ref (B 4)) (C := RX4) (T := TX4) (N := 6) hx hb hts hi_X4_remove_X4 hown hK hP 0 rfl rfl 3 (by decide) (hts (.fieldLink RX4 21 "FallingWords$Rules" "rightLength" "[I") (by decide +kernel)) (fun _ h9 => h9) rfl dX4_remove_64 ?_
          refine lv_iload_n hx hb dX4_remove_67 rfl (lv_at hl 2 rfl) ?_
          refine lv_aload_n hx hb dX4_remove_68 rfl (lv_at hl 0 rfl) ?_
          refine va_get (D := D) (ci := 4) (v := .ref (B 4)) (C := RX4) (T := TX4) (N := 6) hx hb hts hi_X4_remove_X4 hown hK hP 0 rfl rfl 3 (by decide) (hts (.fieldLink RX4 21 "FallingWords$Rules" "rightLength" "[I") (by decide +kernel)) (fun _ h9 => h9) rfl dX4_remove_69 ?_
          refine lv_iload_n hx hb dX4_remove_72 rfl (lv_at hl 2 rfl) ?_
          refine lv_iconst (v := nI 1) hx hb dX4_remove_73 (by decide +kernel) ?_
          refine lv_iadd hx hb dX4_remove_74 ?_
          refine xt (show (nI i) + (nI 1) = nI (i + 1) from nI_add _ _) ?_
          refine xa_ld (v := RL' (i + 1)) hx hb hK hP 4 rfl (by omega) (by decide) (rfl) dX4_remove_75 ?_
          refine xa_st hx hb hK hP hD hS 4 rfl (by omega) (by decide) dX4_remove_76 (fun H locs hP hD hS => ?_)
          have hP : va_P D vwCl (gRu cA B (upd L' i (L' (i + 1))) (upd R' i (R' (i + 1))) (upd LL' i (LL' (i + 1))) (upd RL' i (RL' (i + 1))) TM' (nI (S 1))) H := hP
          have hD : va_D AY (gRu cA B (upd L' i (L' (i + 1))) (upd R' i (R' (i + 1))) (upd LL' i (LL' (i + 1))) (upd RL' i (RL' (i + 1))) TM' (nI (S 1))) := hD
          refine lv_aload_n hx hb dX4_remove_77 rfl (lv_at hl 0 rfl) ?_
          refine va_get (D := D) (ci := 4) (v := .ref (B 5)) (C := RX4) (T := TX4) (N := 6) hx hb hts hi_X4_remove_X4 hown hK hP 0 rfl rfl 4 (by decide) (hts (.fieldLink RX4 24 "FallingWords$Rules" "times" "[I") (by decide +kernel)) (fun _ h9 => h9) rfl dX4_remove_78 ?_
          refine lv_iload_n hx hb dX4_remove_81 rfl (lv_at hl 2 rfl) ?_
          refine lv_aload_n hx hb dX4_remove_82 rfl (lv_at hl 0 rfl) ?_
          refine va_get (D := D) (ci := 4) (v := .ref (B 5)) (C := RX4) (T := TX4) (N := 6) hx hb hts hi_X4_remove_X4 hown hK hP 0 rfl rfl 4 (by decide) (hts (.fieldLink RX4 24 "FallingWords$Rules" "times" "[I") (by decide +kernel)) (fun _ h9 => h9) rfl dX4_remove_83 ?_
          refine lv_iload_n hx hb dX4_remove_86 rfl (lv_at hl 2 rfl) ?_
          refine lv_iconst (v := nI 1) hx hb dX4_remove_87 (by decide +kernel) ?_
          refine lv_iadd hx hb dX4_remove_88 ?_
          refine xt (show (nI i) + (nI 1) = nI (i + 1) from nI_add _ _) ?_
          refine xa_ld (v := TM' (i + 1)) hx hb hK hP 5 rfl (by omega) (by decide) (rfl) dX4_remove_89 ?_
          refine xa_st hx hb hK hP hD hS 5 rfl (by omega) (by decide) dX4_remove_90 (fun H locs hP hD hS => ?_)
          have hP : va_P D vwCl (gRu cA B (upd L' i (L' (i + 1))) (upd R' i (R' (i + 1))) (upd LL' i (LL' (i + 1))) (upd RL' i (RL' (i + 1))) (upd TM' i (TM' (i + 1))) (nI (S 1))) H := hP
          have hD : va_D AY (gRu cA B (upd L' i (L' (i + 1))) (upd R' i (R' (i + 1))) (upd LL' i (LL' (i + 1))) (upd RL' i (RL' (i + 1))) (upd TM' i (TM' (i + 1))) (nI (S 1))) := hD
          refine lv_iinc (v := nI (i + 1)) (lv' := [(2, .int (nI (i + 1))), (0, .ref (B 0)), (1, .int (nI g))]) hx hb dX4_remove_91 hl (k := 2) rfl (show nI i + Int32.ofInt 1 = nI (i + 1) from nI_add i 1) (by decide) rfl (fun ls hl => ?_)
          refine lv_goto (tgt := 11) hx hb dX4_remove_94 (by decide) ?_
          exact ih11 (i + 1) (upd L' i (L' (i + 1))) (upd R' i (R' (i + 1))) (upd LL' i (LL' (i + 1))) (upd RL' i (RL' (i + 1))) (upd TM' i (TM' (i + 1))) (by omega) (by omega) (shf_s s0 hgi) (shf_s s1 hgi) (shf_s s2 hgi) (shf_s s3 hgi) (shf_s s4 hgi) (by omega) _ _ _ hP hD hS (lv_sub hl [1, 2, 0] rfl)
    exact L11 _ g L R LL RL TM (by omega) (by omega) (shf_0) (shf_0) (shf_0) (shf_0) (shf_0) (Nat.lt_succ_self _) _ _ _ hP hD hS (lv_sub hl [1, 2, 0] rfl)
  · exact absurd c5 (by rw [show inR S (nI g) = true from decide_eq_true (by have e : (nI g).toInt = (g : Int) := nI_toInt (by omega); omega)]; decide)

theorem hi_X4_appliesAt_X4 : ∀ w ∈ u_ws RX4 TX4 6, w ∈ wsX4_appliesAt := by decide +kernel
set_option maxHeartbeats 1000000 in
set_option maxRecDepth 100000 in
theorem k_X4_appliesAt (lY : Launch) (D : va_G) (cA : Nat → ClassId) (B : Nat → Nat) (S : St) (L R LL RL TM : Nat → Int32) (w r p : Nat) (hI : IR S) (hr : rRu S L R LL RL TM) (hw : vw 12 w) (hr1 : r < S 1) (hp : p ≤ 12) : MetI lY D cA yX4_appliesAt wsX4_appliesAt 0 0 [.ref (B 0), .int (nI w), .int (nI (len w)), .int (nI r), .int (nI p)] (gRu cA B L R LL RL TM (nI (S 1))) (fun rY wY => rY = bI (stn (lf S r) w p) ∧ wY = gRu cA B L R LL RL TM (nI (S 1))) := by
  refine MetI.of (cc := cX4_appliesAt) (maxL := 8) (ret := (some .boolean)) (by decide) rfl (Nat.le_of_ble_eq_true rfl) (Or.inr ⟨rfl, fun r w' h => by obtain ⟨h, -⟩ := h; rw [h]; exact bI_nar _⟩) ?_
  intro pY eY sY mY aY bY tY cY QY AY ls h0 hP hK hN hD hA hS hl hret
  obtain ⟨hx, hb, hml, hown, hts⟩ := id h0
  have hl : lv_has ls 8 [(0, .ref (B 0)), (1, .int (nI w)), (2, .int (nI (len w))), (3, .int (nI r)), (4, .int (nI p))] := hl
  have hP : va_P D vwCl (gRu cA B L R LL RL TM (nI (S 1))) sY.heap := hP
  have hD : va_D AY (gRu cA B L R LL RL TM (nI (S 1))) := hD
  have hB : w < 134217728 := vw_B hw (by decide)
  have h12 := hw.2
  have h10 := hI.1
  obtain ⟨v1, v2, v3, v4⟩ := hI.2.2 r hr1
  have v1l := v1.2
  obtain ⟨f1, f2, f3, f4, f5⟩ := hr r hr1
  refine lv_iload_n hx hb dX4_appliesAt_0 rfl (lv_at hl 2 rfl) ?_
  refine lv_iload hx hb dX4_appliesAt_1 (lv_at hl 4 rfl) ?_
  refine lv_isub hx hb dX4_appliesAt_3 ?_
  refine xt (show (nI (len w)) - (nI p) = nI (len w) - nI p from rfl) ?_
  refine lv_aload_n hx hb dX4_appliesAt_4 rfl (lv_at hl 0 rfl) ?_
  refine va_get (D := D) (ci := 4) (v := .ref (B 3)) (C := RX4) (T := TX4) (N := 6) hx hb hts hi_X4_appliesAt_X4 hown hK hP 0 rfl rfl 2 (by decide) (hts (.fieldLink RX4 18 "FallingWords$Rules" "leftLength" "[I") (by decide +kernel)) (fun _ h9 => h9) rfl dX4_appliesAt_5 ?_
  refine lv_iload_n hx hb dX4_appliesAt_8 rfl (lv_at hl 3 rfl) ?_
  refine xa_ld (v := nI (len (lf S r))) hx hb hK hP 3 rfl (by omega) (by decide) (f3) dX4_appliesAt_9 ?_
  refine lv_isub hx hb dX4_appliesAt_10 ?_
  refine xt (show (nI (len w) - nI p) - (nI (len (lf S r))) = nI (len w) - nI (p + (len (lf S r))) from sub_sub_nI _ _ _) ?_
  refine lv_istore (lv' := [(5, .int (nI (len w) - nI (p + (len (lf S r))))), (0, .ref (B 0)), (1, .int (nI w)), (2, .int (nI (len w))), (3, .int (nI r)), (4, .int (nI p))]) hx hb dX4_appliesAt_11 hl (by decide) rfl (fun ls hl => ?_)
  refine lv_iload hx hb dX4_appliesAt_13 (lv_at hl 0 rfl) ?_
  refine xd_ge (tgt := 20) hx hb dX4_appliesAt_15 (by decide) (by omega) (by omega) (fun c15 => ?_) (fun c15 => ?_)
  · have hl : lv_has ls 8 [(5, .int (nI (len w - (p + len (lf S r))))), (0, .ref (B 0)), (1, .int (nI w)), (2, .int (nI (len w))), (3, .int (nI r)), (4, .int (nI p))] := Eq.mp (congrArg (fun zY : Int32 => lv_has ls 8 [(5, .int zY), (0, .ref (B 0)), (1, .int (nI w)), (2, .int (nI (len w))), (3, .int (nI r)), (4, .int (nI p))]) (show nI (len w) - nI (p + (len (lf S r))) = nI (len w - (p + len (lf S r))) from pk_sub c15)) hl
    refine lv_iload_n hx hb dX4_appliesAt_20 rfl (lv_at hl 2 rfl) ?_
    refine lv_iconst (v := nI 2) hx hb dX4_appliesAt_21 (by decide +kernel) ?_
    refine lv_iload hx hb dX4_appliesAt_22 (lv_at hl 0 rfl) ?_
    refine lv_imul hx hb dX4_appliesAt_24 ?_
    refine xt (show (nI 2) * (nI (len w - (p + len (lf S r)))) = nI (2 * (len w - (p + len (lf S r)))) from pk_mul _ _) ?_
    refine lv_ishr hx hb dX4_appliesAt_25 ?_
    refine xt (show (nI w) >>> ((nI (2 * (len w - (p + len (lf S r))))) &&& 31) = nI (w / 4 ^ (len w - (p + len (lf S r)))) from sh_r (by omega) (by omega)) ?_
    refine lv_aload_n hx hb dX4_appliesAt_26 rfl (lv_at hl 1 rfl) ?_
    refine va_get (D := D) (ci := 4) (v := .ref (B 1)) (C := RX4) (T := TX4) (N := 6) hx hb hts hi_X4_appliesAt_X4 hown hK hP 0 rfl rfl 0 (by decide) (hts (.fieldLink RX4 9 "FallingWords$Rules" "left" "[I") (by decide +kernel)) (fun _ h9 => h9) rfl dX4_appliesAt_27 ?_
    refine lv_iload_n hx hb dX4_appliesAt_30 rfl (lv_at hl 4 rfl) ?_
    refine xa_ld (v := nI (lf S r)) hx hb hK hP 1 rfl (by omega) (by decide) (f1) dX4_appliesAt_31 ?_
    refine lv_ixor hx hb dX4_appliesAt_32 ?_
    refine xt (show (nI (w / 4 ^ (len w - (p + len (lf S r))))) ^^^ (nI (lf S r)) = nI (w / 4 ^ (len w - (p + len (lf S r))) ^^^ lf S r) from sh_x) ?_
    refine lv_istore (lv' := [(6, .int (nI (w / 4 ^ (len w - (p + len (lf S r))) ^^^ lf S r))), (5, .int (nI (len w - (p + len (lf S r))))), (0, .ref (B 0)), (1, .int (nI w)), (2, .int (nI (len w))), (3, .int (nI r)), (4, .int (nI p))]) hx hb dX4_appliesAt_33 hl (by decide) rfl (fun ls hl => ?_)
    refine lv_iconst (v := nI 1) hx hb dX4_appliesAt_35 (by decide +kernel) ?_
    refine lv_iconst (v := nI 2) hx hb dX4_appliesAt_36 (by decide +kernel) ?_
    refine lv_aload_n hx hb dX4_appliesAt_37 rfl (lv_at hl 2 rfl) ?_
    refine va_get (D := D) (ci := 4) (v := .ref (B 3)) (C := RX4) (T := TX4) (N := 6) hx hb hts hi_X4_appliesAt_X4 hown hK hP 0 rfl rfl 2 (by decide) (hts (.fieldLink RX4 18 "FallingWords$Rules" "leftLength" "[I") (by decide +kernel)) (fun _ h9 => h9) rfl dX4_appliesAt_38 ?_
    refine lv_iload_n hx hb dX4_appliesAt_41 rfl (lv_at hl 5 rfl) ?_
    refine xa_ld (v := nI (len (lf S r))) hx hb hK hP 3 rfl (by omega) (by decide) (f3) dX4_appliesAt_42 ?_
    refine lv_imul hx hb dX4_appliesAt_43 ?_
    refine xt (show (nI 2) * (nI (len (lf S r))) = nI (2 * (len (lf S r))) from pk_mul _ _) ?_
    refine lv_ishl hx hb dX4_appliesAt_44 ?_
    refine xt (show (nI 1) <<< ((nI (2 * (len (lf S r)))) &&& 31) = nI (4 ^ len (lf S r)) from sh_1 (by omega)) ?_
    refine lv_iconst (v := nI 1) hx hb dX4_appliesAt_45 (by decide +kernel) ?_
    refine lv_isub hx hb dX4_appliesAt_46 ?_
    refine xt (show (nI (4 ^ len (lf S r))) - (nI 1) = nI (4 ^ len (lf S r) - 1) from pk_sub (four_pos _)) ?_
    refine lv_istore (lv' := [(7, .int (nI (4 ^ len (lf S r) - 1))), (6, .int (nI (w / 4 ^ (len w - (p + len (lf S r))) ^^^ lf S r))), (5, .int (nI (len w - (p + len (lf S r))))), (0, .ref (B 0)), (1, .int (nI w)), (2, .int (nI (len w))), (3, .int (nI r)), (4, .int (nI p))]) hx hb dX4_appliesAt_47 hl (by decide) rfl (fun ls hl => ?_)
    refine lv_iload hx hb dX4_appliesAt_49 (lv_at hl 1 rfl) ?_
    refine lv_iload hx hb dX4_appliesAt_51 (lv_at hl 0 rfl) ?_
    refine lv_iand hx hb dX4_appliesAt_53 ?_
    refine xt (show (nI (w / 4 ^ (len w - (p + len (lf S r))) ^^^ lf S r)) &&& (nI (4 ^ len (lf S r) - 1)) = nI ((w / 4 ^ (len w - (p + len (lf S r))) ^^^ lf S r) % 4 ^ len (lf S r)) from sh_m (by omega)) ?_
    have hbb : (w / 4 ^ (len w - (p + len (lf S r))) ^^^ lf S r) % 4 ^ len (lf S r) < 2147483648 := Nat.lt_of_lt_of_le (Nat.mod_lt _ (four_pos _)) (Nat.le_trans (four_le v1l) (by decide))
    refine x0_ne (tgt := 61) hx hb dX4_appliesAt_54 (by decide) hbb (fun c54 => ?_) (fun c54 => ?_)
    · refine lv_iconst (v := nI 0) hx hb dX4_appliesAt_61 (by decide +kernel) ?_
      exact hret _ _ _ _ _ _ dX4_appliesAt_62 ⟨by rw [stn_F2 (fun q => c54 (xor_mod.mpr q))]; rfl, rfl⟩ hP hD hS
    · refine lv_iconst (v := nI 1) hx hb dX4_appliesAt_57 (by decide +kernel) ?_
      refine lv_goto (tgt := 62) hx hb dX4_appliesAt_58 (by decide) ?_
      exact hret _ _ _ _ _ _ dX4_appliesAt_62 ⟨by rw [stn_T c15 (xor_mod.mp c54)]; rfl, rfl⟩ hP hD hS
  · refine lv_iconst (v := nI 0) hx hb dX4_appliesAt_18 (by decide +kernel) ?_
    exact hret _ _ _ _ _ _ dX4_appliesAt_19 ⟨by rw [stn_F c15]; rfl, rfl⟩ hP hD hS

set_option maxHeartbeats 1000000 in
set_option maxRecDepth 100000 in
theorem k_X4_placesIn (lY : Launch) (D : va_G) (cA : Nat → ClassId) (B : Nat → Nat) (S : St) (L R LL RL TM : Nat → Int32) (w r : Nat) (hI : IR S) (hr : rRu S L R LL RL TM) (hw : vw 12 w) (hr1 : r < S 1) : MetI lY D cA yX4_placesIn wsX4_placesIn 1 27 [.ref (B 0), .int (nI w), .int (nI r)] (gRu cA B L R LL RL TM (nI (S 1))) (fun rY wY => rY = nI (cn (fun p => stn (lf S r) w p) (len w)) ∧ wY = gRu cA B L R LL RL TM (nI (S 1))) := by
  refine MetI.of (cc := cX4_placesIn) (maxL := 6) (ret := (some .int)) (by decide) rfl (Nat.le_of_ble_eq_true rfl) (Or.inl rfl) ?_
  intro pY eY sY mY aY bY tY cY QY AY ls h0 hP hK hN hD hA hS hl hret
  obtain ⟨hx, hb, hml, hown, hts⟩ := id h0
  have hl : lv_has ls 6 [(0, .ref (B 0)), (1, .int (nI w)), (2, .int (nI r))] := hl
  have hP : va_P D vwCl (gRu cA B L R LL RL TM (nI (S 1))) sY.heap := hP
  have hD : va_D AY (gRu cA B L R LL RL TM (nI (S 1))) := hD
  have h12 := hw.2
  refine lv_iload_n hx hb dX4_placesIn_0 rfl (lv_at hl 1 rfl) ?_
  refine ci_SN (As := [.int (nI w)]) (rest := []) h0 hK hN hP hD hS hA hl.1 (k_X9_lengthOf lY D cA w (hw.1) (by omega)) [] rfl (by decide) ⟨(va_cnB 1 hts gX4_placesIn_X9_lengthOf_n41 rfl rfl rfl (hN (.methodLinkNest RX4 41 yX9_lengthOf "FallingWords") (by decide +kernel)) (hts (.initialized RX9) (by decide +kernel)) (by decide +kernel) ⟨Nat.le_of_ble_eq_true rfl, Nat.le_of_ble_eq_true rfl⟩), hts (.static yX9_lengthOf) (by decide +kernel), trivial⟩ rfl rfl (Nat.le_of_ble_eq_true rfl) dX4_placesIn_1 ⟨Nat.zero_le _, Nat.zero_le _⟩ (fun rY wY H locs hwY hJ hS => ?_)
  obtain ⟨e1Y, e2Y⟩ := hwY
  have e3Y := e1Y.symm
  clear e1Y
  subst e3Y
  have e3Y := e2Y.symm
  clear e2Y
  subst e3Y
  obtain ⟨hP, hD⟩ := hJ rfl
  have hP : va_P D vwCl (gRu cA B L R LL RL TM (nI (S 1))) H := hP
  have hD : va_D AY (gRu cA B L R LL RL TM (nI (S 1))) := hD
  refine lv_istore_n (lv' := [(3, .int (nI (len w))), (0, .ref (B 0)), (1, .int (nI w)), (2, .int (nI r))]) hx hb dX4_placesIn_4 rfl hl (by decide) rfl (fun ls hl => ?_)
  refine lv_iconst (v := nI 0) hx hb dX4_placesIn_5 (by decide +kernel) ?_
  refine lv_istore (lv' := [(4, .int (nI 0)), (3, .int (nI (len w))), (0, .ref (B 0)), (1, .int (nI w)), (2, .int (nI r))]) hx hb dX4_placesIn_6 hl (by decide) rfl (fun ls hl => ?_)
  refine lv_iconst (v := nI 0) hx hb dX4_placesIn_8 (by decide +kernel) ?_
  refine lv_istore (lv' := [(5, .int (nI 0)), (4, .int (nI 0)), (3, .int (nI (len w))), (0, .ref (B 0)), (1, .int (nI w)), (2, .int (nI r))]) hx hb dX4_placesIn_9 hl (by decide) rfl (fun ls hl => ?_)
  have L11 : ∀ (nY : Nat), ∀ (i : Nat) (c : Nat), (i ≤ len w) → (c = cn (fun p => stn (lf S r) w p) i) → (len w - i < nY) → ∀ (H : Heap) (locs : List Loc) (ls : Array Slot), va_P D vwCl (gRu cA B L R LL RL TM (nI (S 1))) H → va_D AY (gRu cA B L R LL RL TM (nI (S 1))) → va_S AY sY.heap H locs → lv_has ls 6 [(0, .ref (B 0)), (1, .int (nI w)), (2, .int (nI r)), (3, .int (nI (len w))), (4, .int (nI c)), (5, .int (nI i))] → W pY lY eY { frames := 1, cells := 0, slots := 0, locals := 27 } sY mY aY bY tY cY H locs 0 0 QY (F0 mY 11 ls []) := by
    intro nY11
    induction nY11 with
    | zero => intro i c hi hc hm11; exact absurd hm11 (Nat.not_lt_zero _)
    | succ nY11 ih11 =>
      intro i c hi hc hm11 H locs ls hP hD hS hl
      refine lv_iload hx hb dX4_placesIn_11 (lv_at hl 5 rfl) ?_
      refine lv_iload_n hx hb dX4_placesIn_13 rfl (lv_at hl 3 rfl) ?_
      refine xc_ge (tgt := 38) hx hb dX4_placesIn_14 (by decide) (by omega) (by omega) (fun c14 => ?_) (fun c14 => ?_)
      · refine lv_iload hx hb dX4_placesIn_38 (lv_at hl 4 rfl) ?_
        exact hret _ _ _ _ _ _ dX4_placesIn_40 ⟨congrArg nI (by rw [hc, show i = len w by omega]), rfl⟩ hP hD hS
      · refine lv_aload_n hx hb dX4_placesIn_17 rfl (lv_at hl 0 rfl) ?_
        refine lv_iload_n hx hb dX4_placesIn_18 rfl (lv_at hl 1 rfl) ?_
        refine lv_iload_n hx hb dX4_placesIn_19 rfl (lv_at hl 3 rfl) ?_
        refine lv_iload_n hx hb dX4_placesIn_20 rfl (lv_at hl 2 rfl) ?_
        refine lv_iload hx hb dX4_placesIn_21 (lv_at hl 5 rfl) ?_
        refine ci_V (As := [.int (nI w), .int (nI (len w)), .int (nI r), .int (nI i)]) (rest := []) h0 hK hN hP hD hS hA hl.1 (k_X4_appliesAt lY D cA B S L R LL RL TM w r i (by first | assumption | omega) (by first | assumption | omega) (by first | assumption | omega) (by first | assumption | omega) (by first | assumption | omega)) [0, 1, 2, 3, 4, 5] rfl (by decide) (cwV 4 hts gX4_placesIn_X4_appliesAt rfl rfl rfl (by decide +kernel) ⟨Nat.le_of_ble_eq_true rfl, Nat.le_of_ble_eq_true rfl⟩) (cl_recv (ci := 4) (q := (RX4, TX4, 6)) (q0 := 0) hP hK rfl rfl) rfl rfl (Nat.le_of_ble_eq_true rfl) dX4_placesIn_23 ⟨Nat.zero_le _, Nat.zero_le _⟩ (fun rY wY H locs hwY hJ hS => ?_)
        obtain ⟨e1Y, e2Y⟩ := hwY
        have e3Y := e1Y.symm
        clear e1Y
        subst e3Y
        have e3Y := e2Y.symm
        clear e2Y
        subst e3Y
        obtain ⟨hP, hD⟩ := hJ rfl
        have hP : va_P D vwCl (gRu cA B L R LL RL TM (nI (S 1))) H := hP
        have hD : va_D AY (gRu cA B L R LL RL TM (nI (S 1))) := hD
        refine xb_eq (tgt := 32) hx hb dX4_placesIn_26 (by decide) (fun c26 => ?_) (fun c26 => ?_)
        · refine lv_iinc (v := nI (i + 1)) (lv' := [(5, .int (nI (i + 1))), (0, .ref (B 0)), (1, .int (nI w)), (2, .int (nI r)), (3, .int (nI (len w))), (4, .int (nI c))]) hx hb dX4_placesIn_32 hl (k := 5) rfl (show nI i + Int32.ofInt 1 = nI (i + 1) from nI_add i 1) (by decide) rfl (fun ls hl => ?_)
          refine lv_goto (tgt := 11) hx hb dX4_placesIn_35 (by decide) ?_
          exact ih11 (i + 1) c (by omega) (hc.trans (cn_f (p := fun p => stn (lf S r) w p) c26).symm) (by omega) _ _ _ hP hD hS (lv_sub hl [1, 2, 3, 4, 5, 0] rfl)
        · refine lv_iinc (v := nI (c + 1)) (lv' := [(4, .int (nI (c + 1))), (0, .ref (B 0)), (1, .int (nI w)), (2, .int (nI r)), (3, .int (nI (len w))), (5, .int (nI i))]) hx hb dX4_placesIn_29 hl (k := 4) rfl (show nI c + Int32.ofInt 1 = nI (c + 1) from nI_add c 1) (by decide) rfl (fun ls hl => ?_)
          refine lv_iinc (v := nI (i + 1)) (lv' := [(5, .int (nI (i + 1))), (4, .int (nI (c + 1))), (0, .ref (B 0)), (1, .int (nI w)), (2, .int (nI r)), (3, .int (nI (len w)))]) hx hb dX4_placesIn_32 hl (k := 5) rfl (show nI i + Int32.ofInt 1 = nI (i + 1) from nI_add i 1) (by decide) rfl (fun ls hl => ?_)
          refine lv_goto (tgt := 11) hx hb dX4_placesIn_35 (by decide) ?_
          exact ih11 (i + 1) (c + 1) (by omega) ((congrArg (· + 1) hc).trans (cn_t (p := fun p => stn (lf S r) w p) c26).symm) (by omega) _ _ _ hP hD hS (lv_sub hl [2, 3, 4, 5, 1, 0] rfl)
  exact L11 _ 0 0 (by omega) (rfl) (Nat.lt_succ_self _) _ _ _ hP hD hS (lv_sub hl [3, 4, 5, 2, 1, 0] rfl)

set_option maxHeartbeats 1000000 in
set_option maxRecDepth 100000 in
theorem k_X4_ruleIn (lY : Launch) (D : va_G) (cA : Nat → ClassId) (c : Nat) (hc : c < 2147483648) : MetI lY D cA yX4_ruleIn wsX4_ruleIn 0 0 [.int (nI c)] ([]) (fun rY wY => rY = nI (c % 10) ∧ wY = []) := by
  refine MetI.of (cc := cX4_ruleIn) (maxL := 1) (ret := (some .int)) (by decide) rfl (Nat.le_of_ble_eq_true rfl) (Or.inl rfl) ?_
  intro pY eY sY mY aY bY tY cY QY AY ls h0 hP hK hN hD hA hS hl hret
  obtain ⟨hx, hb, hml, hown, hts⟩ := id h0
  have hl : lv_has ls 1 [(0, .int (nI c))] := hl
  have hP : va_P D vwCl ([]) sY.heap := hP
  have hD : va_D AY ([]) := hD
  refine lv_iload_n hx hb dX4_ruleIn_0 rfl (lv_at hl 0 rfl) ?_
  refine lv_bipush (v := nI 10) hx hb dX4_ruleIn_1 (by decide +kernel) ?_
  refine lv_irem hx hb dX4_ruleIn_3 (by decide +kernel) ?_
  refine xt (show (nI c) - (nI c) / (nI 10) * (nI 10) = nI (c % 10) from pk_rem (by omega) (by omega) (by omega)) ?_
  exact hret _ _ _ _ _ _ dX4_ruleIn_4 ⟨rfl, rfl⟩ hP hD hS

set_option maxHeartbeats 1000000 in
set_option maxRecDepth 100000 in
theorem k_X4_placeIn (lY : Launch) (D : va_G) (cA : Nat → ClassId) (c : Nat) (hc : c < 2147483648) : MetI lY D cA yX4_placeIn wsX4_placeIn 0 0 [.int (nI c)] ([]) (fun rY wY => rY = nI (c / 10) ∧ wY = []) := by
  refine MetI.of (cc := cX4_placeIn) (maxL := 1) (ret := (some .int)) (by decide) rfl (Nat.le_of_ble_eq_true rfl) (Or.inl rfl) ?_
  intro pY eY sY mY aY bY tY cY QY AY ls h0 hP hK hN hD hA hS hl hret
  obtain ⟨hx, hb, hml, hown, hts⟩ := id h0
  have hl : lv_has ls 1 [(0, .int (nI c))] := hl
  have hP : va_P D vwCl ([]) sY.heap := hP
  have hD : va_D AY ([]) := hD
  refine lv_iload_n hx hb dX4_placeIn_0 rfl (lv_at hl 0 rfl) ?_
  refine lv_bipush (v := nI 10) hx hb dX4_placeIn_1 (by decide +kernel) ?_
  refine lv_idiv hx hb dX4_placeIn_3 (by decide +kernel) ?_
  refine xt (show (nI c) / (nI 10) = nI (c / 10) from pk_div (by omega) (by omega) (by omega)) ?_
  exact hret _ _ _ _ _ _ dX4_placeIn_4 ⟨rfl, rfl⟩ hP hD hS

theorem hi_X4_applied_X4 : ∀ w ∈ u_ws RX4 TX4 6, w ∈ wsX4_applied := by decide +kernel
set_option maxHeartbeats 1000000 in
set_option maxRecDepth 100000 in
theorem k_X4_applied (lY : Launch) (D : va_G) (cA : Nat → ClassId) (B : Nat → Nat) (S : St) (L R LL RL TM : Nat → Int32) (w r p : Nat) (hI : IR S) (hr : rRu S L R LL RL TM) (hw : vw 12 w) (hr1 : r < S 1) (hp : p + len (lf S r) ≤ len w) : MetI lY D cA yX4_applied wsX4_applied 1 22 [.ref (B 0), .int (nI w), .int (nI r), .int (nI p)] (gRu cA B L R LL RL TM (nI (S 1))) (fun rY wY => rY = nI (app (lf S r) (rt S r) w p) ∧ wY = gRu cA B L R LL RL TM (nI (S 1))) := by
  refine MetI.of (cc := cX4_applied) (maxL := 9) (ret := (some .int)) (by decide) rfl (Nat.le_of_ble_eq_true rfl) (Or.inl rfl) ?_
  intro pY eY sY mY aY bY tY cY QY AY ls h0 hP hK hN hD hA hS hl hret
  obtain ⟨hx, hb, hml, hown, hts⟩ := id h0
  have hl : lv_has ls 9 [(0, .ref (B 0)), (1, .int (nI w)), (2, .int (nI r)), (3, .int (nI p))] := hl
  have hP : va_P D vwCl (gRu cA B L R LL RL TM (nI (S 1))) sY.heap := hP
  have hD : va_D AY (gRu cA B L R LL RL TM (nI (S 1))) := hD
  have hB : w < 134217728 := vw_B hw (by decide)
  have h12 := hw.2
  have h10 := hI.1
  obtain ⟨v1, v2, v3, v4⟩ := hI.2.2 r hr1
  have v1l := v1.2
  have v2l := v2.2
  obtain ⟨f1, f2, f3, f4, f5⟩ := hr r hr1
  obtain ⟨b1, b2, b3, b4⟩ := app_ok hw v1 v2 v4 hp
  refine lv_iload_n hx hb dX4_applied_0 rfl (lv_at hl 1 rfl) ?_
  refine ci_SN (As := [.int (nI w)]) (rest := []) h0 hK hN hP hD hS hA hl.1 (k_X9_lengthOf lY D cA w (hw.1) (by omega)) [] rfl (by decide) ⟨(va_cnB 1 hts gX4_applied_X9_lengthOf_n41 rfl rfl rfl (hN (.methodLinkNest RX4 41 yX9_lengthOf "FallingWords") (by decide +kernel)) (hts (.initialized RX9) (by decide +kernel)) (by decide +kernel) ⟨Nat.le_of_ble_eq_true rfl, Nat.le_of_ble_eq_true rfl⟩), hts (.static yX9_lengthOf) (by decide +kernel), trivial⟩ rfl rfl (Nat.le_of_ble_eq_true rfl) dX4_applied_1 ⟨Nat.zero_le _, Nat.zero_le _⟩ (fun rY wY H locs hwY hJ hS => ?_)
  obtain ⟨e1Y, e2Y⟩ := hwY
  have e3Y := e1Y.symm
  clear e1Y
  subst e3Y
  have e3Y := e2Y.symm
  clear e2Y
  subst e3Y
  obtain ⟨hP, hD⟩ := hJ rfl
  have hP : va_P D vwCl (gRu cA B L R LL RL TM (nI (S 1))) H := hP
  have hD : va_D AY (gRu cA B L R LL RL TM (nI (S 1))) := hD
  refine lv_istore (lv' := [(4, .int (nI (len w))), (0, .ref (B 0)), (1, .int (nI w)), (2, .int (nI r)), (3, .int (nI p))]) hx hb dX4_applied_4 hl (by decide) rfl (fun ls hl => ?_)
  refine lv_iload_n hx hb dX4_applied_6 rfl (lv_at hl 2 rfl) ?_
  refine lv_iconst (v := nI 2) hx hb dX4_applied_7 (by decide +kernel) ?_
  refine lv_iload hx hb dX4_applied_8 (lv_at hl 0 rfl) ?_
  refine lv_iload_n hx hb dX4_applied_10 rfl (lv_at hl 4 rfl) ?_
  refine lv_isub hx hb dX4_applied_11 ?_
  refine xt (show (nI (len w)) - (nI p) = nI ((len w) - p) from pk_sub (by omega)) ?_
  refine lv_imul hx hb dX4_applied_12 ?_
  refine xt (show (nI 2) * (nI ((len w) - p)) = nI (2 * ((len w) - p)) from pk_mul _ _) ?_
  refine lv_ishr hx hb dX4_applied_13 ?_
  refine xt (show (nI w) >>> ((nI (2 * ((len w) - p))) &&& 31) = nI (w / 4 ^ (len w - p)) from sh_r (by omega) (by omega)) ?_
  refine lv_istore (lv' := [(5, .int (nI (w / 4 ^ (len w - p)))), (4, .int (nI (len w))), (0, .ref (B 0)), (1, .int (nI w)), (2, .int (nI r)), (3, .int (nI p))]) hx hb dX4_applied_14 hl (by decide) rfl (fun ls hl => ?_)
  refine lv_aload_n hx hb dX4_applied_16 rfl (lv_at hl 2 rfl) ?_
  refine va_get (D := D) (ci := 4) (v := .ref (B 2)) (C := RX4) (T := TX4) (N := 6) hx hb hts hi_X4_applied_X4 hown hK hP 0 rfl rfl 1 (by decide) (hts (.fieldLink RX4 15 "FallingWords$Rules" "right" "[I") (by decide +kernel)) (fun _ h9 => h9) rfl dX4_applied_17 ?_
  refine lv_iload_n hx hb dX4_applied_20 rfl (lv_at hl 4 rfl) ?_
  refine xa_ld (v := nI (rt S r)) hx hb hK hP 2 rfl (by omega) (by decide) (f2) dX4_applied_21 ?_
  refine lv_aload_n hx hb dX4_applied_22 rfl (lv_at hl 2 rfl) ?_
  refine va_get (D := D) (ci := 4) (v := .ref (B 4)) (C := RX4) (T := TX4) (N := 6) hx hb hts hi_X4_applied_X4 hown hK hP 0 rfl rfl 3 (by decide) (hts (.fieldLink RX4 21 "FallingWords$Rules" "rightLength" "[I") (by decide +kernel)) (fun _ h9 => h9) rfl dX4_applied_23 ?_
  refine lv_iload_n hx hb dX4_applied_26 rfl (lv_at hl 4 rfl) ?_
  refine xa_ld (v := nI (len (rt S r))) hx hb hK hP 4 rfl (by omega) (by decide) (f4) dX4_applied_27 ?_
  refine ci_SN (As := [.int (nI (rt S r)), .int (nI (len (rt S r)))]) (rest := []) h0 hK hN hP hD hS hA hl.1 (k_X9_lastBits lY D cA (rt S r) (len (rt S r)) (by omega)) [] rfl (by decide) ⟨(va_cnB 2 hts gX4_applied_X9_lastBits_n55 rfl rfl rfl (hN (.methodLinkNest RX4 55 yX9_lastBits "FallingWords") (by decide +kernel)) (hts (.initialized RX9) (by decide +kernel)) (by decide +kernel) ⟨Nat.le_of_ble_eq_true rfl, Nat.le_of_ble_eq_true rfl⟩), hts (.static yX9_lastBits) (by decide +kernel), trivial⟩ rfl rfl (Nat.le_of_ble_eq_true rfl) dX4_applied_28 ⟨Nat.zero_le _, Nat.zero_le _⟩ (fun rY wY H locs hwY hJ hS => ?_)
  obtain ⟨e1Y, e2Y⟩ := hwY
  have e3Y := e1Y.symm
  clear e1Y
  subst e3Y
  have e3Y := e2Y.symm
  clear e2Y
  subst e3Y
  obtain ⟨hP, hD⟩ := hJ rfl
  have hP : va_P D vwCl (gRu cA B L R LL RL TM (nI (S 1))) H := hP
  have hD : va_D AY (gRu cA B L R LL RL TM (nI (S 1))) := hD
  refine lv_istore (lv' := [(6, .int (nI ((rt S r) % 4 ^ (len (rt S r))))), (5, .int (nI (w / 4 ^ (len w - p)))), (4, .int (nI (len w))), (0, .ref (B 0)), (1, .int (nI w)), (2, .int (nI r)), (3, .int (nI p))]) hx hb dX4_applied_31 hl (by decide) rfl (fun ls hl => ?_)
  refine lv_iload hx hb dX4_applied_33 (lv_at hl 2 rfl) ?_
  refine lv_iload_n hx hb dX4_applied_35 rfl (lv_at hl 6 rfl) ?_
  refine lv_isub hx hb dX4_applied_36 ?_
  refine xt (show (nI (len w)) - (nI p) = nI ((len w) - p) from pk_sub (by omega)) ?_
  refine lv_aload_n hx hb dX4_applied_37 rfl (lv_at hl 3 rfl) ?_
  refine va_get (D := D) (ci := 4) (v := .ref (B 3)) (C := RX4) (T := TX4) (N := 6) hx hb hts hi_X4_applied_X4 hown hK hP 0 rfl rfl 2 (by decide) (hts (.fieldLink RX4 18 "FallingWords$Rules" "leftLength" "[I") (by decide +kernel)) (fun _ h9 => h9) rfl dX4_applied_38 ?_
  refine lv_iload_n hx hb dX4_applied_41 rfl (lv_at hl 5 rfl) ?_
  refine xa_ld (v := nI (len (lf S r))) hx hb hK hP 3 rfl (by omega) (by decide) (f3) dX4_applied_42 ?_
  refine lv_isub hx hb dX4_applied_43 ?_
  refine xt (show (nI ((len w) - p)) - (nI (len (lf S r))) = nI (((len w) - p) - (len (lf S r))) from pk_sub (by omega)) ?_
  refine lv_istore (lv' := [(7, .int (nI (((len w) - p) - (len (lf S r))))), (6, .int (nI ((rt S r) % 4 ^ (len (rt S r))))), (5, .int (nI (w / 4 ^ (len w - p)))), (4, .int (nI (len w))), (0, .ref (B 0)), (1, .int (nI w)), (2, .int (nI r)), (3, .int (nI p))]) hx hb dX4_applied_44 hl (by decide) rfl (fun ls hl => ?_)
  refine lv_iload hx hb dX4_applied_46 (lv_at hl 2 rfl) ?_
  refine lv_iconst (v := nI 2) hx hb dX4_applied_48 (by decide +kernel) ?_
  refine lv_aload_n hx hb dX4_applied_49 rfl (lv_at hl 4 rfl) ?_
  refine va_get (D := D) (ci := 4) (v := .ref (B 4)) (C := RX4) (T := TX4) (N := 6) hx hb hts hi_X4_applied_X4 hown hK hP 0 rfl rfl 3 (by decide) (hts (.fieldLink RX4 21 "FallingWords$Rules" "rightLength" "[I") (by decide +kernel)) (fun _ h9 => h9) rfl dX4_applied_50 ?_
  refine lv_iload_n hx hb dX4_applied_53 rfl (lv_at hl 6 rfl) ?_
  refine xa_ld (v := nI (len (rt S r))) hx hb hK hP 4 rfl (by omega) (by decide) (f4) dX4_applied_54 ?_
  refine lv_imul hx hb dX4_applied_55 ?_
  refine xt (show (nI 2) * (nI (len (rt S r))) = nI (2 * (len (rt S r))) from pk_mul _ _) ?_
  refine lv_ishl hx hb dX4_applied_56 ?_
  refine xt (show (nI (w / 4 ^ (len w - p))) <<< ((nI (2 * (len (rt S r)))) &&& 31) = nI (w / 4 ^ (len w - p) * 4 ^ len (rt S r)) from sh_l (by omega) (by omega)) ?_
  refine lv_iload hx hb dX4_applied_57 (lv_at hl 1 rfl) ?_
  refine lv_ior hx hb dX4_applied_59 ?_
  refine xt (show (nI (w / 4 ^ (len w - p) * 4 ^ len (rt S r))) ||| (nI ((rt S r) % 4 ^ (len (rt S r)))) = nI (w / 4 ^ (len w - p) * 4 ^ len (rt S r) + rt S r % 4 ^ len (rt S r)) from sh_o b3) ?_
  refine lv_istore (lv' := [(8, .int (nI (w / 4 ^ (len w - p) * 4 ^ len (rt S r) + rt S r % 4 ^ len (rt S r)))), (7, .int (nI (((len w) - p) - (len (lf S r))))), (6, .int (nI ((rt S r) % 4 ^ (len (rt S r))))), (5, .int (nI (w / 4 ^ (len w - p)))), (4, .int (nI (len w))), (0, .ref (B 0)), (1, .int (nI w)), (2, .int (nI r)), (3, .int (nI p))]) hx hb dX4_applied_60 hl (by decide) rfl (fun ls hl => ?_)
  refine lv_iload hx hb dX4_applied_62 (lv_at hl 0 rfl) ?_
  refine lv_iconst (v := nI 2) hx hb dX4_applied_64 (by decide +kernel) ?_
  refine lv_iload hx hb dX4_applied_65 (lv_at hl 1 rfl) ?_
  refine lv_imul hx hb dX4_applied_67 ?_
  refine xt (show (nI 2) * (nI (((len w) - p) - (len (lf S r)))) = nI (2 * (((len w) - p) - (len (lf S r)))) from pk_mul _ _) ?_
  refine lv_ishl hx hb dX4_applied_68 ?_
  refine xt (show (nI (w / 4 ^ (len w - p) * 4 ^ len (rt S r) + rt S r % 4 ^ len (rt S r))) <<< ((nI (2 * (((len w) - p) - (len (lf S r))))) &&& 31) = nI ((w / 4 ^ (len w - p) * 4 ^ len (rt S r) + rt S r % 4 ^ len (rt S r)) * 4 ^ (len w - p - len (lf S r))) from sh_l (by omega) (by omega)) ?_
  refine lv_iload_n hx hb dX4_applied_69 rfl (lv_at hl 6 rfl) ?_
  refine lv_iload hx hb dX4_applied_70 (lv_at hl 1 rfl) ?_
  refine ci_SN (As := [.int (nI w), .int (nI (((len w) - p) - (len (lf S r))))]) (rest := [.int (nI ((w / 4 ^ (len w - p) * 4 ^ len (rt S r) + rt S r % 4 ^ len (rt S r)) * 4 ^ (len w - p - len (lf S r))))]) h0 hK hN hP hD hS hA hl.1 (k_X9_lastBits lY D cA w (((len w) - p) - (len (lf S r))) (by omega)) [] rfl (by decide) ⟨(va_cnB 2 hts gX4_applied_X9_lastBits_n55 rfl rfl rfl (hN (.methodLinkNest RX4 55 yX9_lastBits "FallingWords") (by decide +kernel)) (hts (.initialized RX9) (by decide +kernel)) (by decide +kernel) ⟨Nat.le_of_ble_eq_true rfl, Nat.le_of_ble_eq_true rfl⟩), hts (.static yX9_lastBits) (by decide +kernel), trivial⟩ rfl rfl (Nat.le_of_ble_eq_true rfl) dX4_applied_72 ⟨Nat.zero_le _, Nat.zero_le _⟩ (fun rY wY H locs hwY hJ hS => ?_)
  obtain ⟨e1Y, e2Y⟩ := hwY
  have e3Y := e1Y.symm
  clear e1Y
  subst e3Y
  have e3Y := e2Y.symm
  clear e2Y
  subst e3Y
  obtain ⟨hP, hD⟩ := hJ rfl
  have hP : va_P D vwCl (gRu cA B L R LL RL TM (nI (S 1))) H := hP
  have hD : va_D AY (gRu cA B L R LL RL TM (nI (S 1))) := hD
  refine lv_ior hx hb dX4_applied_75 ?_
  refine xt (show (nI ((w / 4 ^ (len w - p) * 4 ^ len (rt S r) + rt S r % 4 ^ len (rt S r)) * 4 ^ (len w - p - len (lf S r)))) ||| (nI (w % 4 ^ (((len w) - p) - (len (lf S r))))) = nI (app (lf S r) (rt S r) w p) from sh_o b4) ?_
  exact hret _ _ _ _ _ _ dX4_applied_76 ⟨rfl, rfl⟩ hP hD hS
