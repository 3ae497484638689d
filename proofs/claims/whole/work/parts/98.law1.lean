/-! the law: what the two sides share -/
def KOK (Z : K3) : Prop := IV Z.1 ∧ Z.2.2 ≤ 4 ∧ ∀ i, i < Z.2.2 → IV (Z.2.1 i)
theorem KOK_kp {S T : St} {h : Nat → St} {n : Nat} (hk : KOK (S, h, n)) (hT : IV T) : KOK (kp S h n T) := by
  obtain ⟨h1, h2, h3⟩ := hk
  have h1 : IV S := h1
  have h2 : n ≤ 4 := h2
  have h3 : ∀ i, i < n → IV (h i) := h3
  refine ⟨hT, Nat.min_le_right _ _, fun i hi => ?_⟩
  have hi : i < min (n + 1) 4 := hi
  show IV (psh h n S i)
  unfold psh
  by_cases e : n = 4
  · rw [if_pos e]
    by_cases e2 : i = 3
    · rw [if_pos e2]; exact h1
    · rw [if_neg e2]; exact h3 _ (by omega)
  · rw [if_neg e]
    by_cases e2 : i = n
    · rw [if_pos e2]; exact h1
    · rw [if_neg e2]; exact h3 _ (by omega)
theorem KOK_drop {S : St} {h : Nat → St} {n : Nat} {x : Int32} (hk : KOK (S, h, n)) : KOK (dropZ S h n x).2 := by
  unfold dropZ
  by_cases e : inR S x = true
  · rw [if_pos e]
    have e2 := of_decide_eq_true e
    exact KOK_kp hk (IV_drop hk.1 (by omega))
  · rw [if_neg e]; exact hk
theorem KOK_way {S : St} {h : Nat → St} {n : Nat} {x : Int32} (hk : KOK (S, h, n)) : KOK (wayZ S h n x).2 := by
  unfold wayZ
  by_cases e : 0 ≤ x.toInt ∧ x.toInt ≤ 2
  · rw [if_pos e]; exact KOK_kp hk (IV_way hk.1 (by omega))
  · rw [if_neg e]; exact hk
theorem KOK_step {S : St} {h : Nat → St} {n : Nat} (hk : KOK (S, h, n)) : KOK (stepZ S h n).2 := by
  unfold stepZ
  by_cases e : 0 ≤ (stepR S).1.toInt
  · rw [if_pos e]; exact KOK_kp hk (IV_step hk.1)
  · rw [if_neg e]; exact hk
theorem KOK_norm {S : St} {h : Nat → St} {n : Nat} (hk : KOK (S, h, n)) : KOK (normZ S h n).2 := by
  unfold normZ
  by_cases e : 0 ≤ (normR S).1.toInt
  · rw [if_pos e]; exact KOK_kp hk (IV_norm hk.1)
  · rw [if_neg e]; exact hk
theorem IV_cpF {y : Nat} : ∀ (f : Nat) (T : St) (c : Nat), IV T → IV (cpF f y T c).2.2
  | 0, _, _, h => h
  | f + 1, T, c, h => by
    unfold cpF
    by_cases e : c < y ∧ pth T < 400
    · rw [if_pos e]
      have hp : (ovk T (pth T) && decide (prk T (pth T) = 1)) = true := by
        have h1 := e.2
        unfold pth at h1 ⊢
        rw [sl_eq] at h1 ⊢
        exact ff_yes _ _ h1
      obtain ⟨q1, q2⟩ := Bool.and_eq_true _ _ |>.mp hp
      obtain ⟨g1, g2, g3, g4, g5, g6⟩ := cp_ok h.1 e.2 q1 (of_decide_eq_true q2)
      by_cases e2 : 10 ≤ T 1 ∨ 4 < len (max (oN1 T) (oN2 T))
      · rw [if_pos e2]; exact h
      · rw [if_neg e2]
        exact IV_cpF f _ _ (IV_add h (by omega) ⟨g1.1, by omega⟩ ⟨g2.1, by omega⟩ g3 g4)
    · rw [if_neg e]; exact h
theorem IV_cpl {y : Nat} {S : St} (h : IV S) : IV (cpl y S).2.2 := by unfold cpl; rw [sl_eq]; exact IV_cpF _ _ _ h
theorem KOK_cpl {S : St} {h : Nat → St} {n : Nat} {x : Int32} (hk : KOK (S, h, n)) : KOK (cplZ S h n x).2 := by
  unfold cplZ
  by_cases e : 1 ≤ x.toInt ∧ x.toInt ≤ 10
  · rw [if_pos e]
    by_cases e2 : (cpl x.toInt.toNat S).1 = true
    · rw [if_pos e2]; exact KOK_kp hk (IV_cpl hk.1)
    · rw [if_neg e2]; exact hk
  · rw [if_neg e]; exact hk
theorem KOK_pla {S : St} {h : Nat → St} {n : Nat} {txt : Nat → Nat} {m : Nat} (hk : KOK (S, h, n)) : KOK (plaZ S h n txt m).2 := by
  unfold plaZ
  by_cases e : (runT txt m S).1 = 0
  · rw [if_pos e]; exact KOK_kp hk (IV_runT hk.1)
  · rw [if_neg e]; exact hk
theorem KOK_und {S : St} {h : Nat → St} {n : Nat} (hk : KOK (S, h, n)) : KOK (undZ S h n).2 := by
  unfold undZ
  by_cases e : n = 0
  · rw [if_pos e]; exact hk
  · rw [if_neg e]
    have h2 : n ≤ 4 := hk.2.1
    exact ⟨hk.2.2 (n - 1) (show n - 1 < n by omega), (show n - 1 ≤ 4 by omega), fun i hi => hk.2.2 i (show i < n by have hi : i < n - 1 := hi; omega)⟩
theorem rHi_und {S : St} {h : Nat → St} {n : Nat} {F0 F1 F2 F3 : Nat → Nat → Int32} {x0 x1 x2 x3 : Nat → Int32} (hh : rHi h n F0 x0 F1 x1 F2 x2 F3 x3) : rHi (undZ S h n).2.2.1 (undZ S h n).2.2.2 F0 x0 F1 x1 F2 x2 F3 x3 := by
  unfold undZ
  by_cases e : n = 0
  · rw [if_pos e]; exact hh
  · rw [if_neg e]
    obtain ⟨a, b, c, d⟩ := hh
    exact ⟨fun z => a (by have z : 0 < n - 1 := z; omega), fun z => b (by have z : 1 < n - 1 := z; omega), fun z => c (by have z : 2 < n - 1 := z; omega), fun z => d (by have z : 3 < n - 1 := z; omega)⟩
theorem rWas_und {S : St} {h : Nat → St} {n : Nat} {WA : Nat → Int32} (hw : rWas h n WA) : rWas (undZ S h n).2.2.1 (undZ S h n).2.2.2 WA := by
  unfold undZ
  by_cases e : n = 0
  · rw [if_pos e]; exact hw
  · rw [if_neg e]
    exact fun i hi => hw i (by have hi : i < n - 1 := hi; omega)
theorem act_n {S : St} {h : Nat → St} {n : Nat} {v : Nat} {T : St} (hv : v < 1000) : actZ S h n (nI v, T) = (nI v, kp S h n T) := by
  have e : (nI v).toInt = (v : Int) := nI_toInt (by omega)
  unfold actZ
  rw [if_pos (show (-1000001 : Int) < (nI v).toInt by omega)]
theorem act_e {S : St} {h : Nat → St} {n : Nat} {v : Int32} {T : St} (hv : v.toInt ≤ -1000001) : actZ S h n (v, T) = (v, (S, h, n)) := by
  unfold actZ
  rw [if_neg (show ¬ (-1000001 : Int) < v.toInt by omega)]
theorem act_drop {S : St} {h : Nat → St} {n : Nat} {x : Int32} (h10 : S 1 ≤ 10) : actZ S h n (dropR S x) = dropZ S h n x := by
  unfold dropR dropZ
  by_cases e : inR S x = true
  · rw [if_pos e, if_pos e, act_n (by omega)]
  · rw [if_neg e, if_neg e, act_e (by decide)]
theorem act_way {S : St} {h : Nat → St} {n : Nat} {x : Int32} (h2 : S 2 ≤ 2) : actZ S h n (wayR S x) = wayZ S h n x := by
  unfold wayR wayZ
  by_cases e : 0 ≤ x.toInt ∧ x.toInt ≤ 2
  · rw [if_pos e, if_pos e, act_n (by omega)]
  · rw [if_neg e, if_neg e, act_e (by decide)]
theorem act_step {S : St} {h : Nat → St} {n : Nat} (hI : IV S) : actZ S h n (stepR S) = stepZ S h n := by
  unfold stepZ
  cases e : nrm S (S 0) with
  | true =>
    have hR : stepR S = ((-1000002), S) := if_pos e
    rw [hR, act_e (by decide), if_neg (show ¬ 0 ≤ ((-1000002) : Int32).toInt by decide)]
  | false =>
    have hR : stepR S = (nI (chr S (S 0)), stpS S) := if_neg (by rw [e]; decide)
    have hc := (ch_lt hI.1 hI.2.2.1 e).2.2.1
    have e2 : (nI (chr S (S 0))).toInt = (chr S (S 0) : Int) := nI_toInt (by omega)
    rw [hR, act_n (by omega), if_pos (show 0 ≤ (nI (chr S (S 0))).toInt by omega)]
theorem act_norm {S : St} {h : Nat → St} {n : Nat} (hI : IV S) : actZ S h n (normR S) = normZ S h n := by
  unfold normZ
  by_cases e : fs S (S 0) < S 3
  · rw [normR_f e]
    exact act_n (v := 0) (by decide)
  · by_cases e2 : (red S (S 0)).1 = 0
    · obtain ⟨z1, -⟩ := red_ok hI.1 hI.2.2.1
      have e3 : (nI (red S (S 0)).2.1).toInt = ((red S (S 0)).2.1 : Int) := nI_toInt (by omega)
      rw [normR_z e e2, act_n (by omega), if_pos (show 0 ≤ (nI (red S (S 0)).2.1).toInt by omega)]
    · by_cases e4 : (red S (S 0)).1 = 1
      · rw [normR_r e e4, act_e (by decide), if_neg (show ¬ 0 ≤ ((-1000002) : Int32).toInt by decide)]
      · rw [normR_g e e2 e4, act_e (by decide), if_neg (show ¬ 0 ≤ ((-1000003) : Int32).toInt by decide)]
theorem cpF_c {y : Nat} : ∀ (f : Nat) (T : St) (c : Nat), c ≤ y → (cpF f y T c).2.1 ≤ y
  | 0, _, _, h => h
  | f + 1, T, c, h => by
    unfold cpF
    by_cases e : c < y ∧ pth T < 400
    · rw [if_pos e]
      by_cases e2 : 10 ≤ T 1 ∨ 4 < len (max (oN1 T) (oN2 T))
      · rw [if_pos e2]; exact h
      · rw [if_neg e2]; exact cpF_c f _ _ e.1
    · rw [if_neg e]; exact h
theorem act_cpl {S : St} {h : Nat → St} {n : Nat} {x : Int32} : actZ S h n (cmR S x) = cplZ S h n x := by
  unfold cmR cmS cmZ cplZ
  by_cases e : 1 ≤ x.toInt ∧ x.toInt ≤ 10
  · rw [if_pos e, if_pos e]
    by_cases e2 : (cpl x.toInt.toNat S).1 = true
    · have hc : (cpl x.toInt.toNat S).2.1 ≤ x.toInt.toNat := by unfold cpl; rw [sl_eq]; exact cpF_c _ _ _ (Nat.zero_le _)
      have e3 : (nI (cpl x.toInt.toNat S).2.1).toInt = ((cpl x.toInt.toNat S).2.1 : Int) := nI_toInt (by omega)
      rw [if_pos e2, if_pos e2, if_pos (show 0 ≤ (nI (cpl x.toInt.toNat S).2.1).toInt by omega), act_n (by omega)]
    · rw [if_neg e2, if_neg e2, act_e (by decide)]
  · rw [if_neg e, if_neg e, act_e (by decide)]
theorem rHi_0 {h : Nat → St} {F0 F1 F2 F3 : Nat → Nat → Int32} {x0 x1 x2 x3 : Nat → Int32} : rHi h 0 F0 x0 F1 x1 F2 x2 F3 x3 := ⟨fun z => absurd z (by decide), fun z => absurd z (by decide), fun z => absurd z (by decide), fun z => absurd z (by decide)⟩
theorem IV_S0 : IV S0 := ⟨⟨Nat.zero_le _, Nat.zero_le _, fun r hr => absurd hr (Nat.not_lt_zero r)⟩, Nat.zero_le _, ⟨(show wd 0 1 from wd_one), Nat.zero_le _⟩, fun k hk => absurd hk (Nat.not_lt_zero k)⟩
section LL
variable {p : Program} {l : Launch} {e : Env} {R : Room} {s : State} {m : MethodId} {args : Array Value} {below : List Frame} {meth : Method} {c : Code} {H : Heap} {locs : List Loc} {cells slots : Nat} {Q : State → Prop}
variable {D : va_G} {cA : Nat → ClassId} {y : MethodName} {ws : List Cond} {fr lo mc ms : Nat} {As rest st0 : List Value} {c0 : Nat × va_E} {cc bytes : ByteArray} {maxL nL pc n index : Nat} {ls : Array Slot} {A : Nat → Prop} {H0 : Heap} {Ts : List Cond} {own C host : String} {b : Addr}
theorem xs_ld {k Ln : Nat} {scr : Nat → Int32} (hexec : p.tables.exec = Jvm.exec) (hb : c.code = cc) (hX : va_X b Ln scr s H0) (hbl : b < H0.size) (hbA : ¬ A b) (hS : va_S A H0 H locs) (hk : k < Ln) (hL : Ln ≤ 1536) (hdg : decode cc pc = .ok (.iaload, 1))
    (kk : W p l e R s m args below meth c H locs cells slots Q (F0 m (pc + 1) ls (.int (scr k) :: rest))) : W p l e R s m args below meth c H locs cells slots Q (F0 m pc ls (.int (nI k) :: .ref b :: rest)) := by
  refine va_sld hexec hb hX hbl hbA hS (vp_in_nI hk (by omega)) hdg ?_
  rw [nI_clamp (by omega)]
  exact kk
theorem cl_LI (wr : va_W) {post : va_W → Prop} (h0 : CallFix p m c cc nL s args Ts own) (hK : va_K D vwCl (tyS cA) s) (hN : Nst s) (hP : va_P D vwCl (wr ++ [c0]) H) (hD : va_D A (wr ++ [c0])) (hS : va_S A H0 H locs) (hA : ∀ q, H0.size ≤ q → A q) (hls : ls.size = nL) (hM : MetV l D cA y ws fr lo mc ms (.ref b :: As) [c0] post)
    (cw : CallB R s args own index y bytes maxL none ws { frames := fr, cells := mc, slots := ms, locals := lo } mc ms n ∧ y.name = "<init>" ∧ (Cond.instanceMethod y).before args s = true) (hn2 : As.length = n) (hst : st0 = As.reverse ++ .ref b :: rest) (hW : (rest.map fun v => v.category).sum ≤ 8) (hdg : decode cc pc = .ok (.invokespecial index, 3)) (hf : cells + mc ≤ R.cells ∧ slots + ms ≤ R.slots)
    (kk : ∀ (w' : va_W) (H1 : Heap) (locs1 : List Loc), post w' → va_P D vwCl (wr ++ w') H1 → va_D A (wr ++ w') → va_S A H0 H1 locs1 → W p l e R s m args below meth c H1 locs1 (cells + mc) (slots + ms) Q (F0 m (pc + 3) ls rest)) : W p l e R s m args below meth c H locs cells slots Q (F0 m pc ls st0) :=
  cc_I h0 hK hN hP hD hS hA hls hM [wr.length] (List.range wr.length) (cat_C wr c0) rfl (cat_R wr c0) (nd_of List.nodup_range) (cat_D wr) cw hn2 hst hW hdg hf kk
theorem cl_LAI (hAO : va_AO RX6 s) (wr : va_W) {post : va_W → Prop} (h0 : CallFix p m c cc nL s args Ts own) (hK : va_K D vwCl (tyS cA) s) (hN : Nst s) (hP : va_P D vwCl (wr ++ [c0]) H) (hD : va_D A (wr ++ [c0])) (hS : va_S A H0 H locs) (hA : ∀ q, H0.size ≤ q → A q) (hls : ls.size = nL) (hM : MetA l D cA y ws fr lo mc ms (.ref b :: As) [c0] post)
    (cw : CallB R s args own index y bytes maxL none ws { frames := fr, cells := mc, slots := ms, locals := lo } mc ms n ∧ y.name = "<init>" ∧ (Cond.instanceMethod y).before args s = true) (hn2 : As.length = n) (hst : st0 = As.reverse ++ .ref b :: rest) (hW : (rest.map fun v => v.category).sum ≤ 8) (hdg : decode cc pc = .ok (.invokespecial index, 3)) (hf : cells + mc ≤ R.cells ∧ slots + ms ≤ R.slots)
    (kk : ∀ (w' : va_W) (H1 : Heap) (locs1 : List Loc), post w' → va_P D vwCl (wr ++ w') H1 → va_D A (wr ++ w') → va_S A H0 H1 locs1 → W p l e R s m args below meth c H1 locs1 (cells + mc) (slots + ms) Q (F0 m (pc + 3) ls rest)) : W p l e R s m args below meth c H locs cells slots Q (F0 m pc ls st0) :=
  cc_AI hAO h0 hK hN hP hD hS hA hls hM [wr.length] (List.range wr.length) (cat_C wr c0) rfl (cat_R wr c0) (nd_of List.nodup_range) (cat_D wr) cw hn2 hst hW hdg hf kk
end LL
theorem arr_at {args : Array Value} {s : State} {t : FieldType} (h : (Cond.arrayClass t).before args s = true) : ∃ cA, ArrOfT s cA t ∧ s.vm.findClass ("[" ++ t.toString) = some cA := by
  obtain ⟨cA, kA, comp, h1, h2, h3⟩ := Cond.arrayClass_spec h
  exact ⟨cA, fun n z => ⟨fun k h => (by cases h), kA, h2, comp, h3⟩, h1⟩
theorem arr_ao {args : Array Value} {s : State} (h : (Cond.arrayOver (.object RX6)).before args s = true) : ∃ cA, ArrOfT s cA (.object RX6) ∧ va_RA s cA (.object RX6) := by
  obtain ⟨comp, cA, kA, h1, -, h2, h3, h4⟩ := Cond.arrayOver_spec h
  exact ⟨cA, fun n z => ⟨fun k h => (by cases h), kA, h2, comp, h3⟩, kA, comp, h2, h3, h1, h4⟩
