/-! worlds as lists of blocks -/
def PB (D : va_G) (Bs : List va_W) (H : Heap) : Prop := ∀ (i : Nat) (b : va_W), Bs[i]? = some b → va_P D vwCl b H
def DB (A : Nat → Prop) (Bs : List va_W) : Prop := (∀ (i : Nat) (b : va_W), Bs[i]? = some b → va_D A b) ∧ ∀ (i j : Nat) (b c : va_W) (p q : Nat × va_E), Bs[i]? = some b → Bs[j]? = some c → p ∈ b → q ∈ c → p.1 = q.1 → i = j
theorem vp_mem {D : va_G} {ws : va_W} {H : Heap} : va_P D vwCl ws H ↔ ∀ q ∈ ws, va_at D vwCl q H := by
  constructor
  · intro h q hq
    obtain ⟨k, hk⟩ := List.getElem?_of_mem hq
    exact h k q hk
  · intro h k q hk
    exact h q (List.mem_of_getElem? hk)
theorem PB.of {D : va_G} {Bs : List va_W} {H : Heap} (h : va_P D vwCl Bs.flatten H) : PB D Bs H := by
  intro i b hb
  rw [vp_mem] at h ⊢
  exact fun q hq => h q (List.mem_flatten.mpr ⟨b, List.mem_of_getElem? hb, hq⟩)
theorem PB.to {D : va_G} {Bs : List va_W} {H : Heap} (h : PB D Bs H) : va_P D vwCl Bs.flatten H := by
  rw [vp_mem]
  intro q hq
  obtain ⟨b, hb, hqb⟩ := List.mem_flatten.mp hq
  obtain ⟨i, hi⟩ := List.getElem?_of_mem hb
  exact vp_mem.mp (h i b hi) q hqb
theorem vd_pw {A : Nat → Prop} {ws : va_W} : va_D A ws ↔ ws.Pairwise (fun p q => p.1 ≠ q.1) ∧ ∀ q ∈ ws, A q.1 := by
  constructor
  · intro h
    refine ⟨List.pairwise_iff_getElem.mpr (fun i j hi hj hij e => ?_), fun q hq => ?_⟩
    · have := h.1 i j ws[i] ws[j] (List.getElem?_eq_getElem hi) (List.getElem?_eq_getElem hj) e
      omega
    · obtain ⟨k, hk⟩ := List.getElem?_of_mem hq
      exact h.2 k q hk
  · intro h
    refine ⟨fun i j p q hi hj e => ?_, fun k q hk => h.2 q (List.mem_of_getElem? hk)⟩
    obtain ⟨hi1, hi2⟩ := List.getElem?_eq_some_iff.mp hi
    obtain ⟨hj1, hj2⟩ := List.getElem?_eq_some_iff.mp hj
    have hp := List.pairwise_iff_getElem.mp h.1
    rcases Nat.lt_trichotomy i j with c | c | c
    · exact absurd (by rw [hi2, hj2]; exact e) (hp i j hi1 hj1 c)
    · exact c
    · exact absurd (by rw [hi2, hj2]; exact e.symm) (hp j i hj1 hi1 c)
theorem DB.of {A : Nat → Prop} {Bs : List va_W} (h : va_D A Bs.flatten) : DB A Bs := by
  rw [vd_pw, List.pairwise_flatten] at h
  obtain ⟨⟨h1, h2⟩, h3⟩ := h
  refine ⟨fun i b hb => vd_pw.mpr ⟨h1 b (List.mem_of_getElem? hb), fun q hq => h3 q (List.mem_flatten.mpr ⟨b, List.mem_of_getElem? hb, hq⟩)⟩, ?_⟩
  intro i j b c p q hb hc hp hq e
  obtain ⟨hi1, hi2⟩ := List.getElem?_eq_some_iff.mp hb
  obtain ⟨hj1, hj2⟩ := List.getElem?_eq_some_iff.mp hc
  have hpw := List.pairwise_iff_getElem.mp h2
  rcases Nat.lt_trichotomy i j with t | t | t
  · exact absurd e (hpw i j hi1 hj1 t p (by rw [hi2]; exact hp) q (by rw [hj2]; exact hq))
  · exact t
  · exact absurd e.symm (hpw j i hj1 hi1 t q (by rw [hj2]; exact hq) p (by rw [hi2]; exact hp))
theorem DB.to {A : Nat → Prop} {Bs : List va_W} (h : DB A Bs) : va_D A Bs.flatten := by
  rw [vd_pw, List.pairwise_flatten]
  refine ⟨⟨fun b hb => ?_, List.pairwise_iff_getElem.mpr (fun i j hi hj hij x hx y hy e => ?_)⟩, fun q hq => ?_⟩
  · obtain ⟨i, hi⟩ := List.getElem?_of_mem hb
    exact (vd_pw.mp (h.1 i b hi)).1
  · have := h.2 i j _ _ x y (List.getElem?_eq_getElem hi) (List.getElem?_eq_getElem hj) hx hy e
    omega
  · obtain ⟨b, hb, hqb⟩ := List.mem_flatten.mp hq
    obtain ⟨i, hi⟩ := List.getElem?_of_mem hb
    exact (vd_pw.mp (h.1 i b hi)).2 q hqb
theorem PB.blk {D : va_G} {Bs : List va_W} {H : Heap} {b : va_W} (h : PB D Bs H) (i : Nat) (hb2 : Bs[i]? = some b) : va_P D vwCl b H := h i b hb2
def bkB : List va_W → List Nat → List va_W → List va_W
  | Bs, i :: is, q :: qs => bkB (Bs.set i q) is qs
  | Bs, _, _ => Bs
theorem bkB_get : ∀ (isB : List Nat) (Ns Bs : List va_W), Ns.length = isB.length → ∀ (k : Nat) (q : va_W), (bkB Bs isB Ns)[k]? = some q → (k ∉ isB ∧ Bs[k]? = some q) ∨ ∃ j : Nat, isB[j]? = some k ∧ Ns[j]? = some q
  | [], [], Bs, _, k, q, h => Or.inl ⟨List.not_mem_nil, h⟩
  | [], _ :: _, Bs, hl, _, _, _ => by cases hl
  | _ :: _, [], Bs, hl, _, _, _ => by cases hl
  | i :: is, q0 :: qs, Bs, hl, k, q, h => by
    rcases bkB_get is qs (Bs.set i q0) (Nat.succ.inj hl) k q h with ⟨h1, h2⟩ | ⟨j, h1, h2⟩
    · rw [List.getElem?_set] at h2
      by_cases e : i = k
      · rw [if_pos e] at h2
        by_cases e2 : i < Bs.length
        · rw [if_pos e2] at h2
          exact Or.inr ⟨0, by rw [← e]; rfl, h2⟩
        · rw [if_neg e2] at h2; cases h2
      · rw [if_neg e] at h2
        exact Or.inl ⟨fun hm => (List.mem_cons.mp hm).elim (fun x => e x.symm) h1, h2⟩
    · exact Or.inr ⟨j + 1, h1, h2⟩
theorem selB {Bs Ss : List va_W} {isB : List Nat} (hB : isB.map (fun i => Bs[i]?) = Ss.map some) {j : Nat} {b : va_W} (h : Ss[j]? = some b) : ∃ i, isB[j]? = some i ∧ Bs[i]? = some b := by
  have h1 : (isB.map (fun i => Bs[i]?))[j]? = some (some b) := by rw [hB, List.getElem?_map, h]; rfl
  rw [List.getElem?_map] at h1
  cases hi : isB[j]? with
  | none => rw [hi] at h1; cases h1
  | some i => rw [hi] at h1; exact ⟨i, rfl, Option.some.inj h1⟩
theorem PB.sel {D : va_G} {Bs Ss : List va_W} {H : Heap} (h : PB D Bs H) (isB : List Nat) (hB : isB.map (fun i => Bs[i]?) = Ss.map some) : PB D Ss H := by
  intro j b hb
  obtain ⟨i, -, hi⟩ := selB hB hb
  exact h i b hi
theorem DB.sel {A : Nat → Prop} {Bs Ss : List va_W} (h : DB A Bs) (isB : List Nat) (hB : isB.map (fun i => Bs[i]?) = Ss.map some) (hn : va_nd isB = true) : DB A Ss := by
  refine ⟨fun j b hb => ?_, fun i j b c p q hb hc hp hq e => ?_⟩
  · obtain ⟨i, -, hi⟩ := selB hB hb
    exact h.1 i b hi
  · obtain ⟨i1, h1, h2⟩ := selB hB hb
    obtain ⟨j1, g1, g2⟩ := selB hB hc
    have := h.2 i1 j1 b c p q h2 g2 hp hq e
    subst this
    exact va_nd_inj isB hn i j i1 h1 g1
/-- new blocks for the selected ones -/
theorem bl_core {D : va_G} {A : Nat → Prop} {Bs Ss Ns : List va_W} {H H1 : Heap} {w : va_W} (hP : PB D Bs H) (hD : DB A Bs) (isB : List Nat) (hB : isB.map (fun i => Bs[i]?) = Ss.map some) (hw : ∀ p ∈ w, ∃ q ∈ Ss.flatten, q.1 = p.1)
    (hk : ∀ q : Nat, q < H.size → ¬ va_A w H.size q → H1[q]? = H[q]?) (hX : ∀ q ∈ Ns.flatten, va_A Ss.flatten H.size q.1) (hPX : va_P D vwCl Ns.flatten H1) (hDX : va_D A Ns.flatten) (hl : Ns.length = isB.length) : PB D (bkB Bs isB Ns) H1 ∧ DB A (bkB Bs isB Ns) := by
  have old : ∀ (k : Nat) (b : va_W), k ∉ isB → Bs[k]? = some b → ∀ q ∈ b, q.1 < H.size ∧ ¬ va_A Ss.flatten H.size q.1 := by
    intro k b hn hb q hq
    have hlt := (vp_mem.mp (hP k b hb) q hq).lt
    refine ⟨hlt, fun h => ?_⟩
    rcases h with ⟨j, e, h⟩ | h
    · obtain ⟨c, hc, hqc⟩ := List.mem_flatten.mp (List.mem_of_getElem? h)
      obtain ⟨j2, hj2⟩ := List.getElem?_of_mem hc
      obtain ⟨i, h1, h2⟩ := selB hB hj2
      have := hD.2 k i b c q (q.1, e) hb h2 hq hqc rfl
      exact hn (by rw [this]; exact List.mem_of_getElem? h1)
    · omega
  have hPN := PB.of hPX
  have hDN := DB.of hDX
  refine ⟨fun k b hb => ?_, fun k b hb => ?_, fun i j b c p q hb hc hp hq e => ?_⟩
  · rcases bkB_get isB Ns Bs hl k b hb with ⟨h1, h2⟩ | ⟨j, h1, h2⟩
    · rw [vp_mem]
      intro q hq
      obtain ⟨o1, o2⟩ := old k b h1 h2 q hq
      refine (vp_mem.mp (hP k b h2) q hq).kept (hk _ o1 (fun h => o2 ?_))
      rcases h with ⟨j, e, h⟩ | h
      · obtain ⟨q2, hq2, e2⟩ := hw (q.1, e) (List.mem_of_getElem? h)
        obtain ⟨k2, hk2⟩ := List.getElem?_of_mem hq2
        exact Or.inl ⟨k2, q2.2, by rw [hk2, ← e2]⟩
      · exact Or.inr h
    · exact hPN j b h2
  · rcases bkB_get isB Ns Bs hl k b hb with ⟨h1, h2⟩ | ⟨j, h1, h2⟩
    · exact hD.1 k b h2
    · exact hDN.1 j b h2
  · rcases bkB_get isB Ns Bs hl i b hb with ⟨h1, h2⟩ | ⟨a, h1, h2⟩
    · rcases bkB_get isB Ns Bs hl j c hc with ⟨g1, g2⟩ | ⟨a2, g1, g2⟩
      · exact hD.2 i j b c p q h2 g2 hp hq e
      · exact absurd (by rw [e]; exact hX q (List.mem_flatten.mpr ⟨c, List.mem_of_getElem? g2, hq⟩)) (old i b h1 h2 p hp).2
    · rcases bkB_get isB Ns Bs hl j c hc with ⟨g1, g2⟩ | ⟨a2, g1, g2⟩
      · exact absurd (by rw [← e]; exact hX p (List.mem_flatten.mpr ⟨b, List.mem_of_getElem? h2, hp⟩)) (old j c g1 g2 q hq).2
      · have := hDN.2 a a2 b c p q h2 g2 hp hq e
        subst this
        rw [h1] at g1
        exact Option.some.inj g1
def JB (D : va_G) (A0 : Nat → Prop) (Bs : List va_W) (isB : List Nat) (Ss : List va_W) (isC : List Nat) (H1 : Heap) (w' : va_W) : Prop := ∀ Ns : List va_W, w'.length = isC.length → bk Ss.flatten isC w' = Ns.flatten → Ns.length = isB.length → PB D (bkB Bs isB Ns) H1 ∧ DB A0 (bkB Bs isB Ns)
theorem jb_of {D : va_G} {A : Nat → Prop} {Bs Ss : List va_W} {H H1 : Heap} {w w' : va_W} (hP : PB D Bs H) (hD : DB A Bs) (isB : List Nat) (hB : isB.map (fun i => Bs[i]?) = Ss.map some) (hn : va_nd isB = true) (isC : List Nat) (hC : isC.map (fun i => Ss.flatten[i]?) = w.map some)
    (hk : ∀ q : Nat, q < H.size → ¬ va_A w H.size q → H1[q]? = H[q]?) (hF : ∀ q, va_A w H.size q → A q) (hP1 : va_P D vwCl w' H1) (hD1 : va_D (va_A w H.size) w') : JB D A Bs isB Ss isC H1 w' := by
  intro Ns hl hN hNl
  have hPW := (hP.sel isB hB).to
  have hDW := (hD.sel isB hB hn).to
  have hws : ∀ (j : Nat) (p : Nat × va_E), w[j]? = some p → ∃ i, isC[j]? = some i ∧ Ss.flatten[i]? = some p := by
    intro j p hp
    have h1 : (isC.map (fun i => Ss.flatten[i]?))[j]? = some (some p) := by rw [hC, List.getElem?_map, hp]; rfl
    rw [List.getElem?_map] at h1
    cases hi : isC[j]? with
    | none => rw [hi] at h1; cases h1
    | some i => rw [hi] at h1; exact ⟨i, rfl, Option.some.inj h1⟩
  obtain ⟨b1, b2⟩ := bk_ok hPW hDW isC hC hk hF hP1 hD1 hl
  rw [hN] at b1 b2
  refine bl_core (w := w) hP hD isB hB (fun p hp => ?_) hk (fun q hq => ?_) b1 b2 hNl
  · obtain ⟨j, hj⟩ := List.getElem?_of_mem hp
    obtain ⟨i, -, hi⟩ := hws j p hj
    exact ⟨p, List.mem_of_getElem? hi, rfl⟩
  · rw [← hN] at hq
    obtain ⟨k, hk2⟩ := List.getElem?_of_mem hq
    rcases bk_get isC w' Ss.flatten hl k q hk2 with ⟨h1, h2⟩ | ⟨j, h1, h2⟩
    · exact Or.inl ⟨k, q.2, h2⟩
    · rcases hD1.2 j q h2 with ⟨j2, e, h3⟩ | h3
      · obtain ⟨i, -, hi⟩ := hws j2 _ h3
        exact Or.inl ⟨i, e, hi⟩
      · exact Or.inr h3
/-- a callee over whole blocks -/
def JF (D : va_G) (A0 : Nat → Prop) (Bs : List va_W) (isB : List Nat) (H1 : Heap) (w' : va_W) : Prop := ∀ Ns : List va_W, w' = Ns.flatten → Ns.length = isB.length → PB D (bkB Bs isB Ns) H1 ∧ DB A0 (bkB Bs isB Ns)
theorem jf_of {D : va_G} {A : Nat → Prop} {Bs Ss : List va_W} {H H1 : Heap} {w' : va_W} (hP : PB D Bs H) (hD : DB A Bs) (isB : List Nat) (hB : isB.map (fun i => Bs[i]?) = Ss.map some)
    (hk : ∀ q : Nat, q < H.size → ¬ va_A Ss.flatten H.size q → H1[q]? = H[q]?) (hF : ∀ q, va_A Ss.flatten H.size q → A q) (hP1 : va_P D vwCl w' H1) (hD1 : va_D (va_A Ss.flatten H.size) w') : JF D A Bs isB H1 w' := by
  intro Ns hN hNl
  subst hN
  exact bl_core (w := Ss.flatten) hP hD isB hB (fun p hp => ⟨p, hp, rfl⟩) hk (fun q hq => (vd_pw.mp hD1).2 q hq) hP1 (hD1.weaken (fun k q _ h => hF _ h)) hNl
section BCL
variable {p : Program} {l : Launch} {e : Env} {R : Room} {s : State} {m : MethodId} {args : Array Value} {below : List Frame} {meth : Method} {c : Code} {H : Heap} {locs : List Loc} {cells slots : Nat} {Q : State → Prop}
variable {D : va_G} {cA : Nat → ClassId} {y : MethodName} {ws : List Cond} {fr lo mc ms : Nat} {As rest st0 : List Value} {w : va_W} {cc bytes : ByteArray} {maxL nL pc n index : Nat} {ret : Option FieldType} {ls : Array Slot} {A : Nat → Prop} {H0 : Heap} {Ts : List Cond} {own C host : String} {b : Addr} {Bs Ss : List va_W}
theorem bl_free {A0 : Nat → Prop} (hD : DB A0 Bs) (hS : va_S A0 H0 H locs) (hA : ∀ q, H0.size ≤ q → A0 q) (isB : List Nat) (hB : isB.map (fun i => Bs[i]?) = Ss.map some) (hn : va_nd isB = true) (isC : List Nat) (hC : isC.map (fun i => Ss.flatten[i]?) = w.map some) : ∀ q, va_A w H.size q → A0 q := va_free (hD.sel isB hB hn).to hS hA isC hC
theorem bl_i {post : Int32 → va_W → Prop} {a : Array Value} (hP : PB D Bs H) (hD : DB A Bs) (hS : va_S A H0 H locs) (hA : ∀ q, H0.size ≤ q → A q) (isB : List Nat) (hB : isB.map (fun i => Bs[i]?) = Ss.map some) (hn : va_nd isB = true) (isC : List Nat) (hC : isC.map (fun i => Ss.flatten[i]?) = w.map some)
    (hr : va_Run p l e R s m args below meth c H locs cells slots 0 0 (F0 m pc ls st0) rest (va_Qi post (BW D cA (va_A w H.size)) (va_A w H.size) a) (va_A w H.size))
    (kk : ∀ (r : Int32) (w' : va_W) (H1 : Heap) (locs1 : List Loc), post r w' → JB D A Bs isB Ss isC H1 w' → va_S A H0 H1 locs1 → W p l e R s m args below meth c H1 locs1 cells slots Q (F0 m (pc + 3) ls (.int r :: rest))) : W p l e R s m args below meth c H locs cells slots Q (F0 m pc ls st0) := by
  have hF := bl_free hD hS hA isB hB hn isC hC
  refine va_calli hr hS (fun q _ h => hF q h) hF (fun r u t H1 locs1 ht hvm hp hBw hz hk hS1 => ?_)
  obtain ⟨h1, -, h3⟩ := hBw
  rw [ht] at h1
  exact kk r u H1 locs1 hp (jb_of hP hD isB hB hn isC hC hk hF h1 h3) hS1
theorem bl_v {post : va_W → Prop} {a : Array Value} (hP : PB D Bs H) (hD : DB A Bs) (hS : va_S A H0 H locs) (hA : ∀ q, H0.size ≤ q → A q) (isB : List Nat) (hB : isB.map (fun i => Bs[i]?) = Ss.map some) (hn : va_nd isB = true) (isC : List Nat) (hC : isC.map (fun i => Ss.flatten[i]?) = w.map some)
    (hr : va_Run p l e R s m args below meth c H locs cells slots 0 0 (F0 m pc ls st0) rest (va_Qv post (BW D cA (va_A w H.size)) (va_A w H.size) a) (va_A w H.size))
    (kk : ∀ (w' : va_W) (H1 : Heap) (locs1 : List Loc), post w' → JB D A Bs isB Ss isC H1 w' → va_S A H0 H1 locs1 → W p l e R s m args below meth c H1 locs1 cells slots Q (F0 m (pc + 3) ls rest)) : W p l e R s m args below meth c H locs cells slots Q (F0 m pc ls st0) := by
  have hF := bl_free hD hS hA isB hB hn isC hC
  refine va_callv hr hS (fun q _ h => hF q h) hF (fun u t H1 locs1 ht hvm hp hBw hz hk hS1 => ?_)
  obtain ⟨h1, -, h3⟩ := hBw
  rw [ht] at h1
  exact kk u H1 locs1 hp (jb_of hP hD isB hB hn isC hC hk hF h1 h3) hS1
theorem bl_va_free {A0 : Nat → Prop} (hD : DB A0 Bs) (hS : va_S A0 H0 H locs) (hA : ∀ q, H0.size ≤ q → A0 q) (isB : List Nat) (hB : isB.map (fun i => Bs[i]?) = Ss.map some) (hn : va_nd isB = true) : ∀ q, va_A Ss.flatten H.size q → A0 q := by
  intro q h
  have hDW := (hD.sel isB hB hn).to
  rcases h with ⟨k, e, h⟩ | h
  · exact hDW.2 k _ h
  · exact hA q (Nat.le_trans hS.1 h)
theorem bf_i {post : Int32 → va_W → Prop} {a : Array Value} (hP : PB D Bs H) (hD : DB A Bs) (hS : va_S A H0 H locs) (hA : ∀ q, H0.size ≤ q → A q) (isB : List Nat) (hB : isB.map (fun i => Bs[i]?) = Ss.map some) (hn : va_nd isB = true)
    (hr : va_Run p l e R s m args below meth c H locs cells slots 0 0 (F0 m pc ls st0) rest (va_Qi post (BW D cA (va_A Ss.flatten H.size)) (va_A Ss.flatten H.size) a) (va_A Ss.flatten H.size))
    (kk : ∀ (r : Int32) (w' : va_W) (H1 : Heap) (locs1 : List Loc), post r w' → JF D A Bs isB H1 w' → va_S A H0 H1 locs1 → W p l e R s m args below meth c H1 locs1 cells slots Q (F0 m (pc + 3) ls (.int r :: rest))) : W p l e R s m args below meth c H locs cells slots Q (F0 m pc ls st0) := by
  have hF := bl_va_free hD hS hA isB hB hn
  refine va_calli hr hS (fun q _ h => hF q h) hF (fun r u t H1 locs1 ht hvm hp hBw hz hk hS1 => ?_)
  obtain ⟨h1, -, h3⟩ := hBw
  rw [ht] at h1
  exact kk r u H1 locs1 hp (jf_of hP hD isB hB hk hF h1 h3) hS1
theorem bf_v {post : va_W → Prop} {a : Array Value} (hP : PB D Bs H) (hD : DB A Bs) (hS : va_S A H0 H locs) (hA : ∀ q, H0.size ≤ q → A q) (isB : List Nat) (hB : isB.map (fun i => Bs[i]?) = Ss.map some) (hn : va_nd isB = true)
    (hr : va_Run p l e R s m args below meth c H locs cells slots 0 0 (F0 m pc ls st0) rest (va_Qv post (BW D cA (va_A Ss.flatten H.size)) (va_A Ss.flatten H.size) a) (va_A Ss.flatten H.size))
    (kk : ∀ (w' : va_W) (H1 : Heap) (locs1 : List Loc), post w' → JF D A Bs isB H1 w' → va_S A H0 H1 locs1 → W p l e R s m args below meth c H1 locs1 cells slots Q (F0 m (pc + 3) ls rest)) : W p l e R s m args below meth c H locs cells slots Q (F0 m pc ls st0) := by
  have hF := bl_va_free hD hS hA isB hB hn
  refine va_callv hr hS (fun q _ h => hF q h) hF (fun u t H1 locs1 ht hvm hp hBw hz hk hS1 => ?_)
  obtain ⟨h1, -, h3⟩ := hBw
  rw [ht] at h1
  exact kk u H1 locs1 hp (jf_of hP hD isB hB hk hF h1 h3) hS1
/-- the callee's start out of the caller's blocks -/
theorem bl_pre (hP : PB D Bs H) (hD : DB A Bs) (hK : va_K D vwCl (tyS cA) s) (hN : Nst s) (isB : List Nat) (hB : isB.map (fun i => Bs[i]?) = Ss.map some) (hn : va_nd isB = true) (isC : List Nat) (hC : isC.map (fun i => Ss.flatten[i]?) = w.map some) (hnC : va_nd isC = true) {av : List Value} : ∀ U : State, U.heap = H → s.WarmedH U.vm → va_Pc av (PW D cA H.size w) av.toArray U := cl_pre (hP.sel isB hB).to (hD.sel isB hB hn).to hK hN isC hC hnC
theorem bf_pre (hP : PB D Bs H) (hD : DB A Bs) (hK : va_K D vwCl (tyS cA) s) (hN : Nst s) (isB : List Nat) (hB : isB.map (fun i => Bs[i]?) = Ss.map some) (hn : va_nd isB = true) {av : List Value} : ∀ U : State, U.heap = H → s.WarmedH U.vm → va_Pc av (PW D cA H.size Ss.flatten) av.toArray U := by
  intro U hU hW
  exact ⟨rfl, by rw [hU], by rw [hU]; exact (hP.sel isB hB).to, va_K.moved hW.alike hK, hN.warm hW, (hD.sel isB hB hn).to.weaken (fun _ _ _ _ => trivial)⟩
theorem bl_recv {bl : va_W} {fs : List Value} {ci i q0 : Nat} {q : vw_C} (hP : PB D Bs H) (hK : va_K D vwCl (tyS cA) s) (hc : vwCl[ci]? = some q) (hbl : Bs[i]? = some bl) (he : bl[q0]? = some (b, .inr (ci, fs))) : ∃ cell : Cell, H[b]? = some cell ∧ cell.vm.isStatics = false ∧ s.vm.findClass q.1 = some cell.cls := va_recv hK (hP.blk i hbl) hc he
end BCL
def offB (Bs : List va_W) (i : Nat) : Nat := (Bs.take i).flatten.length
theorem fl_get : ∀ (Bs : List va_W) (i k : Nat) (b : va_W) (x : Nat × va_E), Bs[i]? = some b → b[k]? = some x → Bs.flatten[offB Bs i + k]? = some x ∧ ∀ x', Bs.flatten.set (offB Bs i + k) x' = (Bs.set i (b.set k x')).flatten
  | [], i, k, b, x, h, _ => by simp at h
  | c :: Bs, 0, k, b, x, h, hx => by
    have e : c = b := by simpa using h
    subst e
    have hk : k < c.length := (List.getElem?_eq_some_iff.mp hx).1
    have ho : offB (c :: Bs) 0 = 0 := rfl
    rw [ho, Nat.zero_add]
    refine ⟨by rw [List.flatten_cons, List.getElem?_append_left hk]; exact hx, fun x' => ?_⟩
    rw [List.flatten_cons, List.set_append_left _ _ hk, List.set_cons_zero, List.flatten_cons]
  | c :: Bs, i + 1, k, b, x, h, hx => by
    have h2 : Bs[i]? = some b := by simpa using h
    obtain ⟨g1, g2⟩ := fl_get Bs i k b x h2 hx
    have ho : offB (c :: Bs) (i + 1) = c.length + offB Bs i := by unfold offB; simp
    rw [ho, Nat.add_assoc]
    refine ⟨by rw [List.flatten_cons, List.getElem?_append_right (by omega)]; rw [show c.length + (offB Bs i + k) - c.length = offB Bs i + k by omega]; exact g1, fun x' => ?_⟩
    rw [List.flatten_cons, List.set_append_right _ _ (by omega), show c.length + (offB Bs i + k) - c.length = offB Bs i + k by omega, g2, List.set_cons_succ, List.flatten_cons]
theorem MetI.cw {l : Launch} {D : va_G} {cA : Nat → ClassId} {y : MethodName} {ws : List Cond} {fr lo : Nat} {av : List Value} {w w2 : va_W} {post : Int32 → va_W → Prop} (h : w = w2) (hM : MetI l D cA y ws fr lo av w post) : MetI l D cA y ws fr lo av w2 post := by subst h; exact hM
theorem MetV.cw {l : Launch} {D : va_G} {cA : Nat → ClassId} {y : MethodName} {ws : List Cond} {fr lo mc ms : Nat} {av : List Value} {w w2 : va_W} {post : va_W → Prop} (h : w = w2) (hM : MetV l D cA y ws fr lo mc ms av w post) : MetV l D cA y ws fr lo mc ms av w2 post := by subst h; exact hM
