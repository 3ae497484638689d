/-! own kit: contracts over worlds, calls in one row, numbers as naturals -/
def nx_is : Cond → Bool := fun w => match w with
  | .fieldLinkNest _ _ _ _ _ _ => true
  | .methodLinkNest _ _ _ _ => true
  | _ => false
def nx_ws : List Cond := tables_1.filter nx_is
/-- the links between nest mates hold -/
def Nst (U : State) : Prop := ∀ w ∈ nx_ws, va_Nw w U
theorem nx_tab {w : Cond} (h : nx_is w = true) : w.onTables = true := by
  cases w <;> first | rfl | (cases h)
theorem nx_mem {w : Cond} (h : w ∈ nx_ws) : nx_is w = true := (List.mem_filter.mp h).2
theorem Nst.same {u U : State} (h : u.vm = U.vm) (hN : Nst u) : Nst U := fun w hw => va_Nw.same (nx_tab (nx_mem hw)) h (hN w hw)
theorem Nst.warm {s U : State} (hW : s.WarmedH U.vm) (hN : Nst s) : Nst U := by
  intro w hw
  have h := hN w hw
  have hi := nx_mem hw
  revert h
  cases w <;> first | (cases hi; done) | exact fun h => va_Nw.warmF hW h | exact fun h => va_Nw.warmM hW h
theorem Nst.fl {s : State} (hN : Nst s) {w : Cond} {args : Array Value} (h : w ∈ nx_ws) : w.before args s = true := va_Nw.use (nx_tab (nx_mem h)) (hN w h)
theorem Nst.of {s : State} {args : Array Value} (h : ∀ w ∈ tables_1, w.before args s = true) : Nst s := fun w hw => va_Nw.of (nx_tab (nx_mem hw)) (h w (List.mem_filter.mp hw).1)
/-- the array classes: of int, of char, of State -/
abbrev tyS (cA : Nat → ClassId) : List (ClassId × FieldType) := [(cA 0, .int), (cA 1, .char), (cA 2, .object RX6)]
def PW (D : va_G) (cA : Nat → ClassId) (sz : Nat) (w : va_W) (U : State) : Prop := U.heap.size = sz ∧ va_P D vwCl w U.heap ∧ va_K D vwCl (tyS cA) U ∧ Nst U ∧ va_D (fun _ => True) w
def BW (D : va_G) (cA : Nat → ClassId) (A : Nat → Prop) (w : va_W) (t : State) : Prop := va_P D vwCl w t.heap ∧ va_K D vwCl (tyS cA) t ∧ va_D A w
def MetI (l : Launch) (D : va_G) (cA : Nat → ClassId) (y : MethodName) (ws : List Cond) (fr lo : Nat) (av : List Value) (w : va_W) (post : Int32 → va_W → Prop) : Prop := ∀ sz : Nat, Met l y ws { frames := fr, cells := 0, slots := 0, locals := lo } (va_Pc av (PW D cA sz w)) (va_Qi post (BW D cA (va_A w sz)) (va_A w sz)) 0 0 (va_A w sz)
def MetV (l : Launch) (D : va_G) (cA : Nat → ClassId) (y : MethodName) (ws : List Cond) (fr lo mc ms : Nat) (av : List Value) (w : va_W) (post : va_W → Prop) : Prop := ∀ sz : Nat, Met l y ws { frames := fr, cells := mc, slots := ms, locals := lo } (va_Pc av (PW D cA sz w)) (va_Qv post (BW D cA (va_A w sz)) (va_A w sz)) mc ms (va_A w sz)
theorem MetI.post {l : Launch} {D : va_G} {cA : Nat → ClassId} {y : MethodName} {ws : List Cond} {fr lo : Nat} {av : List Value} {w : va_W} {post post' : Int32 → va_W → Prop} (h : MetI l D cA y ws fr lo av w post) (hp : ∀ r w', post r w' → post' r w') : MetI l D cA y ws fr lo av w post' := by
  intro sz p e ha hc hk s m args below hf happ hpre htr
  obtain ⟨k, o, h1, h2, h3, hQ, hL⟩ := h sz p e ha hc hk s m args below hf happ hpre htr
  obtain ⟨⟨r, u, q1, q2, q3⟩, q4⟩ := hQ
  exact ⟨k, o, h1, h2, h3, ⟨⟨r, u, q1, hp r u q2, q3⟩, q4⟩, hL⟩
theorem MetV.post {l : Launch} {D : va_G} {cA : Nat → ClassId} {y : MethodName} {ws : List Cond} {fr lo mc ms : Nat} {av : List Value} {w : va_W} {post post' : va_W → Prop} (h : MetV l D cA y ws fr lo mc ms av w post) (hp : ∀ w', post w' → post' w') : MetV l D cA y ws fr lo mc ms av w post' := by
  intro sz p e ha hc hk s m args below hf happ hpre htr
  obtain ⟨k, o, h1, h2, h3, hQ, hL⟩ := h sz p e ha hc hk s m args below hf happ hpre htr
  obtain ⟨⟨u, q1, q2, q3⟩, q4⟩ := hQ
  exact ⟨k, o, h1, h2, h3, ⟨⟨u, q1, hp u q2, q3⟩, q4⟩, hL⟩
/-! a callee's world put back at its places -/
def bk : va_W → List Nat → va_W → va_W
  | ws, i :: is, q :: qs => bk (ws.set i q) is qs
  | ws, _, _ => ws
theorem bk_get : ∀ (isC : List Nat) (w' ws : va_W), w'.length = isC.length → ∀ (k : Nat) (q : Nat × va_E), (bk ws isC w')[k]? = some q → (k ∉ isC ∧ ws[k]? = some q) ∨ ∃ j : Nat, isC[j]? = some k ∧ w'[j]? = some q
  | [], [], ws, _, k, q, h => Or.inl ⟨List.not_mem_nil, h⟩
  | [], _ :: _, ws, hl, _, _, _ => by cases hl
  | _ :: _, [], ws, hl, _, _, _ => by cases hl
  | i :: is, q0 :: qs, ws, hl, k, q, h => by
    rcases bk_get is qs (ws.set i q0) (Nat.succ.inj hl) k q h with ⟨h1, h2⟩ | ⟨j, h1, h2⟩
    · rw [List.getElem?_set] at h2
      by_cases e : i = k
      · rw [if_pos e] at h2
        by_cases e2 : i < ws.length
        · rw [if_pos e2] at h2
          exact Or.inr ⟨0, by rw [← e]; rfl, h2⟩
        · rw [if_neg e2] at h2; cases h2
      · rw [if_neg e] at h2
        exact Or.inl ⟨fun hm => (List.mem_cons.mp hm).elim (fun x => e x.symm) h1, h2⟩
    · exact Or.inr ⟨j + 1, h1, h2⟩
theorem bk_ok {A0 : Nat → Prop} {D : va_G} {ws wc w' : va_W} {H H1 : Heap} (hP : va_P D vwCl ws H) (hD : va_D A0 ws) (isC : List Nat) (hC : isC.map (fun i => ws[i]?) = wc.map some)
    (hk : ∀ q : Nat, q < H.size → ¬ va_A wc H.size q → H1[q]? = H[q]?) (hF : ∀ q, va_A wc H.size q → A0 q) (hP1 : va_P D vwCl w' H1) (hD1 : va_D (va_A wc H.size) w') (hl : w'.length = isC.length) : va_P D vwCl (bk ws isC w') H1 ∧ va_D A0 (bk ws isC w') := by
  have old : ∀ (k : Nat) (q : Nat × va_E), k ∉ isC → ws[k]? = some q → q.1 < H.size ∧ ¬ va_A wc H.size q.1 := by
    intro k q hn hq
    have hlt := (hP k q hq).lt
    refine ⟨hlt, fun h => ?_⟩
    rcases h with ⟨j, e, h⟩ | h
    · have h1 : (isC.map (fun i => ws[i]?))[j]? = some (some (q.1, e)) := by rw [hC, List.getElem?_map, h]; rfl
      rw [List.getElem?_map] at h1
      cases hi : isC[j]? with
      | none => rw [hi] at h1; cases h1
      | some i =>
        rw [hi] at h1
        have h2 : ws[i]? = some (q.1, e) := Option.some.inj h1
        have e2 : k = i := hD.1 k i q _ hq h2 rfl
        exact hn (by rw [e2]; exact List.mem_of_getElem? hi)
    · omega
  refine ⟨fun k q h => ?_, fun i j p q hi hj e => ?_, fun k q h => ?_⟩
  · rcases bk_get isC w' ws hl k q h with ⟨h1, h2⟩ | ⟨j, h1, h2⟩
    · obtain ⟨a, b⟩ := old k q h1 h2
      exact (hP k q h2).kept (hk _ a b)
    · exact hP1 j q h2
  · rcases bk_get isC w' ws hl i p hi with ⟨h1, h2⟩ | ⟨a, h1, h2⟩
    · rcases bk_get isC w' ws hl j q hj with ⟨g1, g2⟩ | ⟨b, g1, g2⟩
      · exact hD.1 i j p q h2 g2 e
      · exact absurd (by rw [e]; exact hD1.2 b q g2) (old i p h1 h2).2
    · rcases bk_get isC w' ws hl j q hj with ⟨g1, g2⟩ | ⟨b, g1, g2⟩
      · exact absurd (by rw [← e]; exact hD1.2 a p h2) (old j q g1 g2).2
      · have e2 := hD1.1 a b p q h2 g2 e
        subst e2
        rw [h1] at g1
        exact Option.some.inj g1
  · rcases bk_get isC w' ws hl k q h with ⟨h1, h2⟩ | ⟨j, h1, h2⟩
    · exact hD.2 k q h2
    · exact hF _ (hD1.2 j q h2)
def Jn (D : va_G) (A0 : Nat → Prop) (ws : va_W) (isC : List Nat) (H1 : Heap) (w' : va_W) : Prop := w'.length = isC.length → va_P D vwCl (bk ws isC w') H1 ∧ va_D A0 (bk ws isC w')
/-! entry and end -/
section EN
variable {l : Launch} {D : va_G} {cA : Nat → ClassId} {y : MethodName} {ws ws' : List Cond} {fr lo mc ms : Nat} {av : List Value} {w : va_W} {cc : ByteArray} {maxL : Nat} {ret : Option FieldType}
theorem MetI.of {post : Int32 → va_W → Prop} (hy : plainName y.cls = true) (hw : ws = Cond.code y cc maxL ret :: ws') (hlen : (lg_sl av).length ≤ maxL) (hret : ret = some .int ∨ (ret = some .boolean ∧ ∀ r w', post r w' → narrow .boolean (.int r) = .int r))
    (body : ∀ (p : Program) (e : Env) (s : State) (m : MethodId) (args : Array Value) (below : List Frame) (meth : Method) (c : Code) (Q : State → Prop) (A : Nat → Prop) (ls : Array Slot), CallFix p m c cc maxL s args ws y.cls → va_P D vwCl w s.heap → va_K D vwCl (tyS cA) s → Nst s → va_D A w → (∀ q, s.heap.size ≤ q → A q) → va_S A s.heap s.heap [] → lv_has ls maxL (lv_args 0 av) →
      (∀ (r : Int32) (w' : va_W) (H : Heap) (locs : List Loc) (pc : Nat) (ls : Array Slot), decode cc pc = .ok (.ireturn, 1) → post r w' → va_P D vwCl w' H → va_D A w' → va_S A s.heap H locs → W p l e { frames := fr, cells := 0, slots := 0, locals := lo } s m args below meth c H locs 0 0 Q (F0 m pc ls [.int r])) →
      W p l e { frames := fr, cells := 0, slots := 0, locals := lo } s m args below meth c s.heap [] 0 0 Q (F0 m 0 ls [])) : MetI l D cA y ws fr lo av w post := by
  intro sz
  refine Met.ofW (cc := cc) (maxL := maxL) (ret := ret) hy hw ?_
  intro p e s m args below meth c s₁ B hml hv
  obtain ⟨rfl, hsz, hP, hK, hN, hD0⟩ := hv
  subst hsz
  have hts := atoms_spec (ws := ws) B.pre
  have hlocks := B.notSynchronized
  have hl := lv_entry av (n := maxL) hlen
  rw [lg_entry_eq]
  refine body p e s m _ below meth c _ (va_A w s.heap.size) _ ⟨B.exec, B.bytes, hml, findClass_of_methodNamed B.named, hts⟩ hP hK hN hD0.self (fun q h => Or.inr h) va_S.rf hl ?_
  intro r w' H locs pc ls hdg hp hP1 hD1 hS1
  rcases hret with hr | ⟨hr, hnb⟩
  · refine W.iret B.exec B.bytes (B.returns.trans hr) (fun t ht hW => ⟨⟨r, w', rfl, hp, by rw [ht]; exact hP1, va_K.moved hW.alike hK, hD1⟩, hS1.F ht⟩) hS1.2.2 hdg
  · refine W.zret B.exec B.bytes (B.returns.trans hr) (hnb r w' hp) (fun t ht hW => ⟨⟨r, w', rfl, hp, by rw [ht]; exact hP1, va_K.moved hW.alike hK, hD1⟩, hS1.F ht⟩) hS1.2.2 hdg
theorem MetV.of {post : va_W → Prop} (hy : plainName y.cls = true) (hw : ws = Cond.code y cc maxL none :: ws') (hlen : (lg_sl av).length ≤ maxL)
    (body : ∀ (p : Program) (e : Env) (s : State) (m : MethodId) (args : Array Value) (below : List Frame) (meth : Method) (c : Code) (Q : State → Prop) (A : Nat → Prop) (ls : Array Slot), CallFix p m c cc maxL s args ws y.cls → va_P D vwCl w s.heap → va_K D vwCl (tyS cA) s → Nst s → va_D A w → (∀ q, s.heap.size ≤ q → A q) → va_S A s.heap s.heap [] → lv_has ls maxL (lv_args 0 av) → meth.name = y.name →
      (∀ (w' : va_W) (H : Heap) (locs : List Loc) (pc : Nat) (ls : Array Slot), decode cc pc = .ok (.return_, 1) → post w' → va_P D vwCl w' H → va_D A w' → va_S A s.heap H locs → W p l e { frames := fr, cells := mc, slots := ms, locals := lo } s m args below meth c H locs mc ms Q (F0 m pc ls [])) →
      W p l e { frames := fr, cells := mc, slots := ms, locals := lo } s m args below meth c s.heap [] 0 0 Q (F0 m 0 ls [])) : MetV l D cA y ws fr lo mc ms av w post := by
  intro sz
  refine Met.ofW (cc := cc) (maxL := maxL) (ret := none) hy hw ?_
  intro p e s m args below meth c s₁ B hml hv
  obtain ⟨rfl, hsz, hP, hK, hN, hD0⟩ := hv
  subst hsz
  have hts := atoms_spec (ws := ws) B.pre
  have hlocks := B.notSynchronized
  have hl := lv_entry av (n := maxL) hlen
  rw [lg_entry_eq]
  refine body p e s m _ below meth c _ (va_A w s.heap.size) _ ⟨B.exec, B.bytes, hml, findClass_of_methodNamed B.named, hts⟩ hP hK hN hD0.self (fun q h => Or.inr h) va_S.rf hl (name_of_methodNamed B.named B.method).1 ?_
  intro w' H locs pc ls hdg hp hP1 hD1 hS1
  exact W.vret B.exec B.bytes B.returns (fun t ht hW => ⟨⟨w', rfl, hp, by rw [ht]; exact hP1, va_K.moved hW.alike hK, hD1⟩, hS1.F ht⟩) hS1.2.2 hdg
end EN
theorem pw_blind {D : va_G} {cA : Nat → ClassId} {sz : Nat} {w : va_W} {av : List Value} : FrameBlind (va_Pc av (PW D cA sz w)) := fun a U g mk q => by
  obtain ⟨q0, q1, qP, qK, qN, qD⟩ := q
  exact ⟨q0, q1, qP, va_K.moved (u := U) (U := U.calling g mk a) (Vm.Alike.refl U.vm) qK, Nst.same (u := U) (U := U.calling g mk a) rfl qN, qD⟩
/-! calls -/
section CL
variable {p : Program} {l : Launch} {e : Env} {R : Room} {s : State} {m : MethodId} {args : Array Value} {below : List Frame} {meth : Method} {c : Code} {H : Heap} {locs : List Loc} {cells slots : Nat} {Q : State → Prop}
variable {D : va_G} {cA : Nat → ClassId} {y : MethodName} {ws : List Cond} {fr lo mc ms : Nat} {As rest st0 : List Value} {w0 w : va_W} {cc bytes : ByteArray} {maxL nL pc n index : Nat} {ret : Option FieldType} {ls : Array Slot} {A : Nat → Prop} {H0 : Heap} {Ts : List Cond} {own C host : String} {b : Addr}
theorem cl_i {post : Int32 → va_W → Prop} {a : Array Value} (hP : va_P D vwCl w0 H) (hD : va_D A w0) (hS : va_S A H0 H locs) (hA : ∀ q, H0.size ≤ q → A q) (isC : List Nat) (hC : isC.map (fun i => w0[i]?) = w.map some)
    (hr : va_Run p l e R s m args below meth c H locs cells slots 0 0 (F0 m pc ls st0) rest (va_Qi post (BW D cA (va_A w H.size)) (va_A w H.size) a) (va_A w H.size))
    (kk : ∀ (r : Int32) (w' : va_W) (H1 : Heap) (locs1 : List Loc), post r w' → Jn D A w0 isC H1 w' → va_S A H0 H1 locs1 → W p l e R s m args below meth c H1 locs1 cells slots Q (F0 m (pc + 3) ls (.int r :: rest))) : W p l e R s m args below meth c H locs cells slots Q (F0 m pc ls st0) := by
  have hF := va_free (wc := w) hD hS hA isC hC
  refine va_calli hr hS (fun q _ h => hF q h) hF (fun r u t H1 locs1 ht hvm hp hB hz hk hS1 => ?_)
  refine kk r u H1 locs1 hp (fun hl => ?_) hS1
  obtain ⟨h1, -, h3⟩ := hB
  rw [ht] at h1
  exact bk_ok hP hD isC hC hk hF h1 h3 hl
theorem cl_v {post : va_W → Prop} {a : Array Value} (hP : va_P D vwCl w0 H) (hD : va_D A w0) (hS : va_S A H0 H locs) (hA : ∀ q, H0.size ≤ q → A q) (isC : List Nat) (hC : isC.map (fun i => w0[i]?) = w.map some)
    (hr : va_Run p l e R s m args below meth c H locs cells slots 0 0 (F0 m pc ls st0) rest (va_Qv post (BW D cA (va_A w H.size)) (va_A w H.size) a) (va_A w H.size))
    (kk : ∀ (w' : va_W) (H1 : Heap) (locs1 : List Loc), post w' → Jn D A w0 isC H1 w' → va_S A H0 H1 locs1 → W p l e R s m args below meth c H1 locs1 cells slots Q (F0 m (pc + 3) ls rest)) : W p l e R s m args below meth c H locs cells slots Q (F0 m pc ls st0) := by
  have hF := va_free (wc := w) hD hS hA isC hC
  refine va_callv hr hS (fun q _ h => hF q h) hF (fun u t H1 locs1 ht hvm hp hB hz hk hS1 => ?_)
  refine kk u H1 locs1 hp (fun hl => ?_) hS1
  obtain ⟨h1, -, h3⟩ := hB
  rw [ht] at h1
  exact bk_ok hP hD isC hC hk hF h1 h3 hl
/-- a callee that makes cells: its world comes behind the rest -/
theorem cl_c {post : va_W → Prop} {a : Array Value} (hP : va_P D vwCl w0 H) (hD : va_D A w0) (hS : va_S A H0 H locs) (hA : ∀ q, H0.size ≤ q → A q) (isC isR : List Nat) (hC : isC.map (fun i => w0[i]?) = w.map some) {wr : va_W} (hR : isR.map (fun i => w0[i]?) = wr.map some) (hn : va_nd isR = true) (hdis : ∀ i ∈ isR, i ∉ isC)
    (hr : va_Run p l e R s m args below meth c H locs cells slots mc ms (F0 m pc ls st0) rest (va_Qv post (BW D cA (va_A w H.size)) (va_A w H.size) a) (va_A w H.size))
    (kk : ∀ (w' : va_W) (H1 : Heap) (locs1 : List Loc), post w' → va_P D vwCl (wr ++ w') H1 → va_D A (wr ++ w') → va_S A H0 H1 locs1 → W p l e R s m args below meth c H1 locs1 (cells + mc) (slots + ms) Q (F0 m (pc + 3) ls rest)) : W p l e R s m args below meth c H locs cells slots Q (F0 m pc ls st0) := by
  have hF := va_free (wc := w) hD hS hA isC hC
  refine va_callv hr hS (fun q _ h => hF q h) hF (fun u t H1 locs1 ht hvm hp hB hz hk hS1 => ?_)
  obtain ⟨h1, -, h3⟩ := hB
  rw [ht] at h1
  obtain ⟨k1, k2⟩ := va_join hP hD isC isR hC hR hn hdis hk hF h1 h3
  exact kk u H1 locs1 hp k1 k2 hS1
/-- the callee's start, from the caller's world -/
theorem cl_pre (hP : va_P D vwCl w0 H) (hD : va_D A w0) (hK : va_K D vwCl (tyS cA) s) (hN : Nst s) (isC : List Nat) (hC : isC.map (fun i => w0[i]?) = w.map some) (hn : va_nd isC = true) {av : List Value} : ∀ U : State, U.heap = H → s.WarmedH U.vm → va_Pc av (PW D cA H.size w) av.toArray U := by
  intro U hU hW
  refine ⟨rfl, by rw [hU], ?_, va_K.moved hW.alike hK, hN.warm hW, (hD.sub isC hn hC).weaken (fun _ _ _ _ => trivial)⟩
  rw [hU]
  intro k q hk
  have h1 : (isC.map (fun i => w0[i]?))[k]? = some (some q) := by rw [hC, List.getElem?_map, hk]; rfl
  rw [List.getElem?_map] at h1
  cases hi : isC[k]? with
  | none => rw [hi] at h1; cases h1
  | some i =>
    rw [hi] at h1
    exact hP i q (Option.some.inj h1)
theorem cl_recv {w0 : va_W} {fs : List Value} {ci q0 : Nat} {q : vw_C} (hP : va_P D vwCl w0 H) (hK : va_K D vwCl (tyS cA) s) (hc : vwCl[ci]? = some q) (he : w0[q0]? = some (b, .inr (ci, fs))) : ∃ cell : Cell, H[b]? = some cell ∧ cell.vm.isStatics = false ∧ s.vm.findClass q.1 = some cell.cls := va_recv hK hP hc he
section I
variable {post : Int32 → va_W → Prop}
abbrev MI (l : Launch) (D : va_G) (cA : Nat → ClassId) (y : MethodName) (ws : List Cond) (fr lo : Nat) (av : List Value) (w : va_W) (post : Int32 → va_W → Prop) : Prop := MetI l D cA y ws fr lo av w post
theorem ci_V (h0 : CallFix p m c cc nL s args Ts own) (hK : va_K D vwCl (tyS cA) s) (hN : Nst s) (hP : va_P D vwCl w0 H) (hD : va_D A w0) (hS : va_S A H0 H locs) (hA : ∀ q, H0.size ≤ q → A q) (hls : ls.size = nL) (hM : MetI l D cA y ws fr lo (.ref b :: As) w post) (isC : List Nat) (hC : isC.map (fun i => w0[i]?) = w.map some) (hn : va_nd isC = true)
    (cw : CallW R s args own C index y bytes maxL ret ws { frames := fr, cells := 0, slots := 0, locals := lo } 0 0 n) (hrec : ∃ cell : Cell, H[b]? = some cell ∧ cell.vm.isStatics = false ∧ s.vm.findClass C = some cell.cls) (hn2 : As.length = n) (hst : st0 = As.reverse ++ .ref b :: rest) (hW : (rest.map fun v => v.category).sum ≤ 8) (hdg : decode cc pc = .ok (.invokevirtual index, 3)) (hf : cells ≤ R.cells ∧ slots ≤ R.slots)
    (kk : ∀ (r : Int32) (w' : va_W) (H1 : Heap) (locs1 : List Loc), post r w' → Jn D A w0 isC H1 w' → va_S A H0 H1 locs1 → W p l e R s m args below meth c H1 locs1 cells slots Q (F0 m (pc + 3) ls (.int r :: rest))) : W p l e R s m args below meth c H locs cells slots Q (F0 m pc ls st0) :=
  cl_i hP hD hS hA isC hC (va_runV (As := As) (rest := rest) h0 (hM H.size) cw ⟨pw_blind, hrec, cl_pre hP hD hK hN isC hC hn⟩ rfl hn2 hls hst (lv_room hW) hdg hf) kk
theorem ci_VN (h0 : CallFix p m c cc nL s args Ts own) (hK : va_K D vwCl (tyS cA) s) (hN : Nst s) (hP : va_P D vwCl w0 H) (hD : va_D A w0) (hS : va_S A H0 H locs) (hA : ∀ q, H0.size ≤ q → A q) (hls : ls.size = nL) (hM : MetI l D cA y ws fr lo (.ref b :: As) w post) (isC : List Nat) (hC : isC.map (fun i => w0[i]?) = w.map some) (hn : va_nd isC = true)
    (cw : va_CN R s args own index y host bytes maxL ret ws { frames := fr, cells := 0, slots := 0, locals := lo } 0 0 n ∧ (Cond.instanceMethod y).before args s = true ∧ (Cond.selects C y y).before args s = true) (hrec : ∃ cell : Cell, H[b]? = some cell ∧ cell.vm.isStatics = false ∧ s.vm.findClass C = some cell.cls) (hn2 : As.length = n) (hst : st0 = As.reverse ++ .ref b :: rest) (hW : (rest.map fun v => v.category).sum ≤ 8) (hdg : decode cc pc = .ok (.invokevirtual index, 3)) (hf : cells ≤ R.cells ∧ slots ≤ R.slots)
    (kk : ∀ (r : Int32) (w' : va_W) (H1 : Heap) (locs1 : List Loc), post r w' → Jn D A w0 isC H1 w' → va_S A H0 H1 locs1 → W p l e R s m args below meth c H1 locs1 cells slots Q (F0 m (pc + 3) ls (.int r :: rest))) : W p l e R s m args below meth c H locs cells slots Q (F0 m pc ls st0) :=
  cl_i hP hD hS hA isC hC (va_runVN (As := As) (rest := rest) h0 (hM H.size) cw ⟨pw_blind, hrec, cl_pre hP hD hK hN isC hC hn⟩ rfl hn2 hls hst (lv_room hW) hdg hf) kk
theorem ci_S (h0 : CallFix p m c cc nL s args Ts own) (hK : va_K D vwCl (tyS cA) s) (hN : Nst s) (hP : va_P D vwCl w0 H) (hD : va_D A w0) (hS : va_S A H0 H locs) (hA : ∀ q, H0.size ≤ q → A q) (hls : ls.size = nL) (hM : MetI l D cA y ws fr lo As w post) (isC : List Nat) (hC : isC.map (fun i => w0[i]?) = w.map some) (hn : va_nd isC = true)
    (cw : CallB R s args own index y bytes maxL ret ws { frames := fr, cells := 0, slots := 0, locals := lo } 0 0 n ∧ (Cond.static y).before args s = true) (hn2 : As.length = n) (hst : st0 = As.reverse ++ rest) (hW : (rest.map fun v => v.category).sum ≤ 8) (hdg : decode cc pc = .ok (.invokestatic index, 3)) (hf : cells ≤ R.cells ∧ slots ≤ R.slots)
    (kk : ∀ (r : Int32) (w' : va_W) (H1 : Heap) (locs1 : List Loc), post r w' → Jn D A w0 isC H1 w' → va_S A H0 H1 locs1 → W p l e R s m args below meth c H1 locs1 cells slots Q (F0 m (pc + 3) ls (.int r :: rest))) : W p l e R s m args below meth c H locs cells slots Q (F0 m pc ls st0) :=
  cl_i hP hD hS hA isC hC (va_runS (As := As) (rest := rest) h0 (hM H.size) cw ⟨pw_blind, cl_pre hP hD hK hN isC hC hn⟩ rfl hn2 hls hst (lv_room hW) hdg hf) kk
theorem ci_SN (h0 : CallFix p m c cc nL s args Ts own) (hK : va_K D vwCl (tyS cA) s) (hN : Nst s) (hP : va_P D vwCl w0 H) (hD : va_D A w0) (hS : va_S A H0 H locs) (hA : ∀ q, H0.size ≤ q → A q) (hls : ls.size = nL) (hM : MetI l D cA y ws fr lo As w post) (isC : List Nat) (hC : isC.map (fun i => w0[i]?) = w.map some) (hn : va_nd isC = true)
    (cw : va_CN R s args own index y host bytes maxL ret ws { frames := fr, cells := 0, slots := 0, locals := lo } 0 0 n ∧ (Cond.static y).before args s = true ∧ True) (hn2 : As.length = n) (hst : st0 = As.reverse ++ rest) (hW : (rest.map fun v => v.category).sum ≤ 8) (hdg : decode cc pc = .ok (.invokestatic index, 3)) (hf : cells ≤ R.cells ∧ slots ≤ R.slots)
    (kk : ∀ (r : Int32) (w' : va_W) (H1 : Heap) (locs1 : List Loc), post r w' → Jn D A w0 isC H1 w' → va_S A H0 H1 locs1 → W p l e R s m args below meth c H1 locs1 cells slots Q (F0 m (pc + 3) ls (.int r :: rest))) : W p l e R s m args below meth c H locs cells slots Q (F0 m pc ls st0) :=
  cl_i hP hD hS hA isC hC (va_runSN (As := As) (rest := rest) h0 (hM H.size) cw ⟨pw_blind, cl_pre hP hD hK hN isC hC hn⟩ rfl hn2 hls hst (lv_room hW) hdg hf) kk
end I
section V
variable {post : va_W → Prop}
theorem cv_V (h0 : CallFix p m c cc nL s args Ts own) (hK : va_K D vwCl (tyS cA) s) (hN : Nst s) (hP : va_P D vwCl w0 H) (hD : va_D A w0) (hS : va_S A H0 H locs) (hA : ∀ q, H0.size ≤ q → A q) (hls : ls.size = nL) (hM : MetV l D cA y ws fr lo 0 0 (.ref b :: As) w post) (isC : List Nat) (hC : isC.map (fun i => w0[i]?) = w.map some) (hn : va_nd isC = true)
    (cw : CallW R s args own C index y bytes maxL ret ws { frames := fr, cells := 0, slots := 0, locals := lo } 0 0 n) (hrec : ∃ cell : Cell, H[b]? = some cell ∧ cell.vm.isStatics = false ∧ s.vm.findClass C = some cell.cls) (hn2 : As.length = n) (hst : st0 = As.reverse ++ .ref b :: rest) (hW : (rest.map fun v => v.category).sum ≤ 8) (hdg : decode cc pc = .ok (.invokevirtual index, 3)) (hf : cells ≤ R.cells ∧ slots ≤ R.slots)
    (kk : ∀ (w' : va_W) (H1 : Heap) (locs1 : List Loc), post w' → Jn D A w0 isC H1 w' → va_S A H0 H1 locs1 → W p l e R s m args below meth c H1 locs1 cells slots Q (F0 m (pc + 3) ls rest)) : W p l e R s m args below meth c H locs cells slots Q (F0 m pc ls st0) :=
  cl_v hP hD hS hA isC hC (va_runV (As := As) (rest := rest) h0 (hM H.size) cw ⟨pw_blind, hrec, cl_pre hP hD hK hN isC hC hn⟩ rfl hn2 hls hst (lv_room hW) hdg hf) kk
theorem cv_VN (h0 : CallFix p m c cc nL s args Ts own) (hK : va_K D vwCl (tyS cA) s) (hN : Nst s) (hP : va_P D vwCl w0 H) (hD : va_D A w0) (hS : va_S A H0 H locs) (hA : ∀ q, H0.size ≤ q → A q) (hls : ls.size = nL) (hM : MetV l D cA y ws fr lo 0 0 (.ref b :: As) w post) (isC : List Nat) (hC : isC.map (fun i => w0[i]?) = w.map some) (hn : va_nd isC = true)
    (cw : va_CN R s args own index y host bytes maxL ret ws { frames := fr, cells := 0, slots := 0, locals := lo } 0 0 n ∧ (Cond.instanceMethod y).before args s = true ∧ (Cond.selects C y y).before args s = true) (hrec : ∃ cell : Cell, H[b]? = some cell ∧ cell.vm.isStatics = false ∧ s.vm.findClass C = some cell.cls) (hn2 : As.length = n) (hst : st0 = As.reverse ++ .ref b :: rest) (hW : (rest.map fun v => v.category).sum ≤ 8) (hdg : decode cc pc = .ok (.invokevirtual index, 3)) (hf : cells ≤ R.cells ∧ slots ≤ R.slots)
    (kk : ∀ (w' : va_W) (H1 : Heap) (locs1 : List Loc), post w' → Jn D A w0 isC H1 w' → va_S A H0 H1 locs1 → W p l e R s m args below meth c H1 locs1 cells slots Q (F0 m (pc + 3) ls rest)) : W p l e R s m args below meth c H locs cells slots Q (F0 m pc ls st0) :=
  cl_v hP hD hS hA isC hC (va_runVN (As := As) (rest := rest) h0 (hM H.size) cw ⟨pw_blind, hrec, cl_pre hP hD hK hN isC hC hn⟩ rfl hn2 hls hst (lv_room hW) hdg hf) kk
theorem cc_I (h0 : CallFix p m c cc nL s args Ts own) (hK : va_K D vwCl (tyS cA) s) (hN : Nst s) (hP : va_P D vwCl w0 H) (hD : va_D A w0) (hS : va_S A H0 H locs) (hA : ∀ q, H0.size ≤ q → A q) (hls : ls.size = nL) (hM : MetV l D cA y ws fr lo mc ms (.ref b :: As) w post) (isC isR : List Nat) (hC : isC.map (fun i => w0[i]?) = w.map some) (hn : va_nd isC = true) {wr : va_W} (hR : isR.map (fun i => w0[i]?) = wr.map some) (hnR : va_nd isR = true) (hdis : ∀ i ∈ isR, i ∉ isC)
    (cw : CallB R s args own index y bytes maxL none ws { frames := fr, cells := mc, slots := ms, locals := lo } mc ms n ∧ y.name = "<init>" ∧ (Cond.instanceMethod y).before args s = true) (hn2 : As.length = n) (hst : st0 = As.reverse ++ .ref b :: rest) (hW : (rest.map fun v => v.category).sum ≤ 8) (hdg : decode cc pc = .ok (.invokespecial index, 3)) (hf : cells + mc ≤ R.cells ∧ slots + ms ≤ R.slots)
    (kk : ∀ (w' : va_W) (H1 : Heap) (locs1 : List Loc), post w' → va_P D vwCl (wr ++ w') H1 → va_D A (wr ++ w') → va_S A H0 H1 locs1 → W p l e R s m args below meth c H1 locs1 (cells + mc) (slots + ms) Q (F0 m (pc + 3) ls rest)) : W p l e R s m args below meth c H locs cells slots Q (F0 m pc ls st0) :=
  cl_c hP hD hS hA isC isR hC hR hnR hdis (va_runI (As := As) (rest := rest) h0 (hM H.size) cw ⟨pw_blind, cl_pre hP hD hK hN isC hC hn⟩ rfl hn2 hls hst (lv_room hW) hdg hf) kk
theorem cc_IN (h0 : CallFix p m c cc nL s args Ts own) (hK : va_K D vwCl (tyS cA) s) (hN : Nst s) (hP : va_P D vwCl w0 H) (hD : va_D A w0) (hS : va_S A H0 H locs) (hA : ∀ q, H0.size ≤ q → A q) (hls : ls.size = nL) (hM : MetV l D cA y ws fr lo mc ms (.ref b :: As) w post) (isC isR : List Nat) (hC : isC.map (fun i => w0[i]?) = w.map some) (hn : va_nd isC = true) {wr : va_W} (hR : isR.map (fun i => w0[i]?) = wr.map some) (hnR : va_nd isR = true) (hdis : ∀ i ∈ isR, i ∉ isC)
    (cw : va_CN R s args own index y host bytes maxL none ws { frames := fr, cells := mc, slots := ms, locals := lo } mc ms n ∧ y.name = "<init>" ∧ (Cond.instanceMethod y).before args s = true) (hn2 : As.length = n) (hst : st0 = As.reverse ++ .ref b :: rest) (hW : (rest.map fun v => v.category).sum ≤ 8) (hdg : decode cc pc = .ok (.invokespecial index, 3)) (hf : cells + mc ≤ R.cells ∧ slots + ms ≤ R.slots)
    (kk : ∀ (w' : va_W) (H1 : Heap) (locs1 : List Loc), post w' → va_P D vwCl (wr ++ w') H1 → va_D A (wr ++ w') → va_S A H0 H1 locs1 → W p l e R s m args below meth c H1 locs1 (cells + mc) (slots + ms) Q (F0 m (pc + 3) ls rest)) : W p l e R s m args below meth c H locs cells slots Q (F0 m pc ls st0) :=
  cl_c hP hD hS hA isC isR hC hR hnR hdis (va_runIN (As := As) (rest := rest) h0 (hM H.size) cw ⟨pw_blind, cl_pre hP hD hK hN isC hC hn⟩ rfl hn2 hls hst (lv_room hW) hdg hf) kk
end V
end CL
/-! numbers -/
def bI (b : Bool) : Int32 := if b then 1 else 0
theorem bI_nar (b : Bool) : narrow .boolean (.int (bI b)) = .int (bI b) := by cases b <;> rfl
section NB
variable {p : Program} {l : Launch} {e : Env} {R : Room} {s : State} {m : MethodId} {args : Array Value} {below : List Frame} {meth : Method} {c : Code} {H : Heap} {locs : List Loc} {cells slots : Nat} {Q : State → Prop}
variable {cc : ByteArray} {pc : Nat} {ls : Array Slot} {rest : List Value}
/-- the top of the stack by another word -/
theorem xt {x y : Int32} (h : x = y) (k : W p l e R s m args below meth c H locs cells slots Q (F0 m pc ls (.int y :: rest))) : W p l e R s m args below meth c H locs cells slots Q (F0 m pc ls (.int x :: rest)) := by rw [h]; exact k
variable {a b : Nat} {off : Int} {tgt : Nat}
theorem xc_lt (hexec : p.tables.exec = Jvm.exec) (hb : c.code = cc) (hdg : decode cc pc = .ok (.if_icmp .lt off, 3)) (ht : (pc : Int) + off = (tgt : Int)) (ha : a < 2147483648) (hb2 : b < 2147483648) (kt : a < b → W p l e R s m args below meth c H locs cells slots Q (F0 m tgt ls rest)) (kf : b ≤ a → W p l e R s m args below meth c H locs cells slots Q (F0 m (pc + 3) ls rest)) : W p l e R s m args below meth c H locs cells slots Q (F0 m pc ls (.int (nI b) :: .int (nI a) :: rest)) := lv_icmp_lt hexec hb hdg ht (fun h => kt ((nI_ltI ha hb2).mp h)) (fun h => kf (Nat.not_lt.mp (fun q => h ((nI_ltI ha hb2).mpr q))))
theorem xc_ge (hexec : p.tables.exec = Jvm.exec) (hb : c.code = cc) (hdg : decode cc pc = .ok (.if_icmp .ge off, 3)) (ht : (pc : Int) + off = (tgt : Int)) (ha : a < 2147483648) (hb2 : b < 2147483648) (kt : b ≤ a → W p l e R s m args below meth c H locs cells slots Q (F0 m tgt ls rest)) (kf : a < b → W p l e R s m args below meth c H locs cells slots Q (F0 m (pc + 3) ls rest)) : W p l e R s m args below meth c H locs cells slots Q (F0 m pc ls (.int (nI b) :: .int (nI a) :: rest)) := lv_icmp_ge hexec hb hdg ht (fun h => kt ((nI_leI hb2 ha).mp h)) (fun h => kf (Nat.not_le.mp (fun q => h ((nI_leI hb2 ha).mpr q))))
theorem xc_gt (hexec : p.tables.exec = Jvm.exec) (hb : c.code = cc) (hdg : decode cc pc = .ok (.if_icmp .gt off, 3)) (ht : (pc : Int) + off = (tgt : Int)) (ha : a < 2147483648) (hb2 : b < 2147483648) (kt : b < a → W p l e R s m args below meth c H locs cells slots Q (F0 m tgt ls rest)) (kf : a ≤ b → W p l e R s m args below meth c H locs cells slots Q (F0 m (pc + 3) ls rest)) : W p l e R s m args below meth c H locs cells slots Q (F0 m pc ls (.int (nI b) :: .int (nI a) :: rest)) := lv_icmp_gt hexec hb hdg ht (fun h => kt ((nI_ltI hb2 ha).mp h)) (fun h => kf (Nat.not_lt.mp (fun q => h ((nI_ltI hb2 ha).mpr q))))
theorem xc_le (hexec : p.tables.exec = Jvm.exec) (hb : c.code = cc) (hdg : decode cc pc = .ok (.if_icmp .le off, 3)) (ht : (pc : Int) + off = (tgt : Int)) (ha : a < 2147483648) (hb2 : b < 2147483648) (kt : a ≤ b → W p l e R s m args below meth c H locs cells slots Q (F0 m tgt ls rest)) (kf : b < a → W p l e R s m args below meth c H locs cells slots Q (F0 m (pc + 3) ls rest)) : W p l e R s m args below meth c H locs cells slots Q (F0 m pc ls (.int (nI b) :: .int (nI a) :: rest)) := lv_icmp_le hexec hb hdg ht (fun h => kt ((nI_leI ha hb2).mp h)) (fun h => kf (Nat.not_le.mp (fun q => h ((nI_leI ha hb2).mpr q))))
theorem xc_eq (hexec : p.tables.exec = Jvm.exec) (hb : c.code = cc) (hdg : decode cc pc = .ok (.if_icmp .eq off, 3)) (ht : (pc : Int) + off = (tgt : Int)) (ha : a < 2147483648) (hb2 : b < 2147483648) (kt : a = b → W p l e R s m args below meth c H locs cells slots Q (F0 m tgt ls rest)) (kf : a ≠ b → W p l e R s m args below meth c H locs cells slots Q (F0 m (pc + 3) ls rest)) : W p l e R s m args below meth c H locs cells slots Q (F0 m pc ls (.int (nI b) :: .int (nI a) :: rest)) := lv_icmp_eq hexec hb hdg ht (fun h => kt ((nI_eq ha hb2).mp h)) (fun h => kf (fun q => h ((nI_eq ha hb2).mpr q)))
theorem xc_ne (hexec : p.tables.exec = Jvm.exec) (hb : c.code = cc) (hdg : decode cc pc = .ok (.if_icmp .ne off, 3)) (ht : (pc : Int) + off = (tgt : Int)) (ha : a < 2147483648) (hb2 : b < 2147483648) (kt : a ≠ b → W p l e R s m args below meth c H locs cells slots Q (F0 m tgt ls rest)) (kf : a = b → W p l e R s m args below meth c H locs cells slots Q (F0 m (pc + 3) ls rest)) : W p l e R s m args below meth c H locs cells slots Q (F0 m pc ls (.int (nI b) :: .int (nI a) :: rest)) := lv_icmp_ne hexec hb hdg ht (fun h => kt (fun q => h ((nI_eq ha hb2).mpr q))) (fun h => kf ((nI_eq ha hb2).mp h))
theorem x0_eq (hexec : p.tables.exec = Jvm.exec) (hb : c.code = cc) (hdg : decode cc pc = .ok (.ifCond .eq off, 3)) (ht : (pc : Int) + off = (tgt : Int)) (ha : a < 2147483648) (kt : a = 0 → W p l e R s m args below meth c H locs cells slots Q (F0 m tgt ls rest)) (kf : a ≠ 0 → W p l e R s m args below meth c H locs cells slots Q (F0 m (pc + 3) ls rest)) : W p l e R s m args below meth c H locs cells slots Q (F0 m pc ls (.int (nI a) :: rest)) := lv_if_eq hexec hb hdg ht (fun h => kt ((nI_eq ha (by decide)).mp h)) (fun h => kf (fun q => h ((nI_eq ha (by decide)).mpr q)))
theorem x0_ne (hexec : p.tables.exec = Jvm.exec) (hb : c.code = cc) (hdg : decode cc pc = .ok (.ifCond .ne off, 3)) (ht : (pc : Int) + off = (tgt : Int)) (ha : a < 2147483648) (kt : a ≠ 0 → W p l e R s m args below meth c H locs cells slots Q (F0 m tgt ls rest)) (kf : a = 0 → W p l e R s m args below meth c H locs cells slots Q (F0 m (pc + 3) ls rest)) : W p l e R s m args below meth c H locs cells slots Q (F0 m pc ls (.int (nI a) :: rest)) := lv_if_ne hexec hb hdg ht (fun h => kt (fun q => h ((nI_eq ha (by decide)).mpr q))) (fun h => kf ((nI_eq ha (by decide)).mp h))
theorem x0_gt (hexec : p.tables.exec = Jvm.exec) (hb : c.code = cc) (hdg : decode cc pc = .ok (.ifCond .gt off, 3)) (ht : (pc : Int) + off = (tgt : Int)) (ha : a < 2147483648) (kt : 0 < a → W p l e R s m args below meth c H locs cells slots Q (F0 m tgt ls rest)) (kf : a = 0 → W p l e R s m args below meth c H locs cells slots Q (F0 m (pc + 3) ls rest)) : W p l e R s m args below meth c H locs cells slots Q (F0 m pc ls (.int (nI a) :: rest)) := lv_if_gt hexec hb hdg ht (fun h => kt ((nI_ltI (by decide) ha).mp h)) (fun h => kf (Nat.eq_zero_of_not_pos (fun q => h ((nI_ltI (by decide) ha).mpr q))))
theorem x0_le (hexec : p.tables.exec = Jvm.exec) (hb : c.code = cc) (hdg : decode cc pc = .ok (.ifCond .le off, 3)) (ht : (pc : Int) + off = (tgt : Int)) (ha : a < 2147483648) (kt : a = 0 → W p l e R s m args below meth c H locs cells slots Q (F0 m tgt ls rest)) (kf : 0 < a → W p l e R s m args below meth c H locs cells slots Q (F0 m (pc + 3) ls rest)) : W p l e R s m args below meth c H locs cells slots Q (F0 m pc ls (.int (nI a) :: rest)) := lv_if_le hexec hb hdg ht (fun h => kt (Nat.eq_zero_of_not_pos (fun q => nI_nle q ha h))) (fun h => kf (Nat.pos_of_ne_zero (fun q => h (by subst q; exact nI_leI (by decide) (by decide) |>.mpr (Nat.le_refl 0)))))
theorem x0_lt (hexec : p.tables.exec = Jvm.exec) (hb : c.code = cc) (hdg : decode cc pc = .ok (.ifCond .lt off, 3)) (ht : (pc : Int) + off = (tgt : Int)) (ha : a < 2147483648) (kf : W p l e R s m args below meth c H locs cells slots Q (F0 m (pc + 3) ls rest)) : W p l e R s m args below meth c H locs cells slots Q (F0 m pc ls (.int (nI a) :: rest)) := lv_if_lt hexec hb hdg ht (fun h => absurd h (nI_pos ha)) (fun _ => kf)
theorem x0_ge (hexec : p.tables.exec = Jvm.exec) (hb : c.code = cc) (hdg : decode cc pc = .ok (.ifCond .ge off, 3)) (ht : (pc : Int) + off = (tgt : Int)) (ha : a < 2147483648) (kt : W p l e R s m args below meth c H locs cells slots Q (F0 m tgt ls rest)) : W p l e R s m args below meth c H locs cells slots Q (F0 m pc ls (.int (nI a) :: rest)) := lv_if_ge hexec hb hdg ht (fun _ => kt) (fun h => absurd (nI_pos' ha) h)
theorem xb_eq (hexec : p.tables.exec = Jvm.exec) (hb : c.code = cc) (hdg : decode cc pc = .ok (.ifCond .eq off, 3)) (ht : (pc : Int) + off = (tgt : Int)) {z : Bool} (kt : z = false → W p l e R s m args below meth c H locs cells slots Q (F0 m tgt ls rest)) (kf : z = true → W p l e R s m args below meth c H locs cells slots Q (F0 m (pc + 3) ls rest)) : W p l e R s m args below meth c H locs cells slots Q (F0 m pc ls (.int (bI z) :: rest)) := by
  cases z
  · exact lv_if_eq hexec hb hdg ht (fun _ => kt rfl) (fun h => absurd rfl h)
  · exact lv_if_eq hexec hb hdg ht (fun h => by cases h) (fun _ => kf rfl)
theorem xb_ne (hexec : p.tables.exec = Jvm.exec) (hb : c.code = cc) (hdg : decode cc pc = .ok (.ifCond .ne off, 3)) (ht : (pc : Int) + off = (tgt : Int)) {z : Bool} (kt : z = true → W p l e R s m args below meth c H locs cells slots Q (F0 m tgt ls rest)) (kf : z = false → W p l e R s m args below meth c H locs cells slots Q (F0 m (pc + 3) ls rest)) : W p l e R s m args below meth c H locs cells slots Q (F0 m pc ls (.int (bI z) :: rest)) := by
  cases z
  · exact lv_if_ne hexec hb hdg ht (fun h => absurd rfl h) (fun _ => kf rfl)
  · exact lv_if_ne hexec hb hdg ht (fun _ => kt rfl) (fun h => by cases h)
theorem xd_lt (hexec : p.tables.exec = Jvm.exec) (hb : c.code = cc) (hdg : decode cc pc = .ok (.ifCond .lt off, 3)) (ht : (pc : Int) + off = (tgt : Int)) (ha : a < 1073741824) (hb2 : b < 1073741824) (kt : a < b → W p l e R s m args below meth c H locs cells slots Q (F0 m tgt ls rest)) (kf : b ≤ a → W p l e R s m args below meth c H locs cells slots Q (F0 m (pc + 3) ls rest)) : W p l e R s m args below meth c H locs cells slots Q (F0 m pc ls (.int (nI a - nI b) :: rest)) := by
  have e : (nI a - nI b).toInt = (a : Int) - b := pk_sub_toInt ha hb2
  have z : (0 : Int32).toInt = 0 := rfl
  exact lv_if_lt hexec hb hdg ht (fun h => kt (by rw [Int32.lt_iff_toInt_lt] at h; omega)) (fun h => kf (by rw [Int32.lt_iff_toInt_lt] at h; omega))
theorem xd_ge (hexec : p.tables.exec = Jvm.exec) (hb : c.code = cc) (hdg : decode cc pc = .ok (.ifCond .ge off, 3)) (ht : (pc : Int) + off = (tgt : Int)) (ha : a < 1073741824) (hb2 : b < 1073741824) (kt : b ≤ a → W p l e R s m args below meth c H locs cells slots Q (F0 m tgt ls rest)) (kf : a < b → W p l e R s m args below meth c H locs cells slots Q (F0 m (pc + 3) ls rest)) : W p l e R s m args below meth c H locs cells slots Q (F0 m pc ls (.int (nI a - nI b) :: rest)) := by
  have e : (nI a - nI b).toInt = (a : Int) - b := pk_sub_toInt ha hb2
  have z : (0 : Int32).toInt = 0 := rfl
  exact lv_if_ge hexec hb hdg ht (fun h => kt (by rw [Int32.le_iff_toInt_le] at h; omega)) (fun h => kf (by rw [Int32.le_iff_toInt_le] at h; omega))
theorem xd_gt (hexec : p.tables.exec = Jvm.exec) (hb : c.code = cc) (hdg : decode cc pc = .ok (.ifCond .gt off, 3)) (ht : (pc : Int) + off = (tgt : Int)) (ha : a < 1073741824) (hb2 : b < 1073741824) (kt : b < a → W p l e R s m args below meth c H locs cells slots Q (F0 m tgt ls rest)) (kf : a ≤ b → W p l e R s m args below meth c H locs cells slots Q (F0 m (pc + 3) ls rest)) : W p l e R s m args below meth c H locs cells slots Q (F0 m pc ls (.int (nI a - nI b) :: rest)) := by
  have e : (nI a - nI b).toInt = (a : Int) - b := pk_sub_toInt ha hb2
  have z : (0 : Int32).toInt = 0 := rfl
  exact lv_if_gt hexec hb hdg ht (fun h => kt (by rw [Int32.lt_iff_toInt_lt] at h; omega)) (fun h => kf (by rw [Int32.lt_iff_toInt_lt] at h; omega))
theorem xd_le (hexec : p.tables.exec = Jvm.exec) (hb : c.code = cc) (hdg : decode cc pc = .ok (.ifCond .le off, 3)) (ht : (pc : Int) + off = (tgt : Int)) (ha : a < 1073741824) (hb2 : b < 1073741824) (kt : a ≤ b → W p l e R s m args below meth c H locs cells slots Q (F0 m tgt ls rest)) (kf : b < a → W p l e R s m args below meth c H locs cells slots Q (F0 m (pc + 3) ls rest)) : W p l e R s m args below meth c H locs cells slots Q (F0 m pc ls (.int (nI a - nI b) :: rest)) := by
  have e : (nI a - nI b).toInt = (a : Int) - b := pk_sub_toInt ha hb2
  have z : (0 : Int32).toInt = 0 := rfl
  exact lv_if_le hexec hb hdg ht (fun h => kt (by rw [Int32.le_iff_toInt_le] at h; omega)) (fun h => kf (by rw [Int32.le_iff_toInt_le] at h; omega))
theorem xr_lt {x y : Int32} (hexec : p.tables.exec = Jvm.exec) (hb : c.code = cc) (hdg : decode cc pc = .ok (.if_icmp .lt off, 3)) (ht : (pc : Int) + off = (tgt : Int)) (kt : x.toInt < y.toInt → W p l e R s m args below meth c H locs cells slots Q (F0 m tgt ls rest)) (kf : y.toInt ≤ x.toInt → W p l e R s m args below meth c H locs cells slots Q (F0 m (pc + 3) ls rest)) : W p l e R s m args below meth c H locs cells slots Q (F0 m pc ls (.int y :: .int x :: rest)) := lv_icmp_lt hexec hb hdg ht (fun h => kt (by rw [Int32.lt_iff_toInt_lt] at h; omega)) (fun h => kf (by rw [Int32.lt_iff_toInt_lt] at h; omega))
theorem xz_lt {x : Int32} (hexec : p.tables.exec = Jvm.exec) (hb : c.code = cc) (hdg : decode cc pc = .ok (.ifCond .lt off, 3)) (ht : (pc : Int) + off = (tgt : Int)) (kt : x.toInt < 0 → W p l e R s m args below meth c H locs cells slots Q (F0 m tgt ls rest)) (kf : 0 ≤ x.toInt → W p l e R s m args below meth c H locs cells slots Q (F0 m (pc + 3) ls rest)) : W p l e R s m args below meth c H locs cells slots Q (F0 m pc ls (.int x :: rest)) := by
  have z : (0 : Int32).toInt = 0 := rfl
  exact lv_if_lt hexec hb hdg ht (fun h => kt (by rw [Int32.lt_iff_toInt_lt] at h; omega)) (fun h => kf (by rw [Int32.lt_iff_toInt_lt] at h; omega))
theorem xr_ge {x y : Int32} (hexec : p.tables.exec = Jvm.exec) (hb : c.code = cc) (hdg : decode cc pc = .ok (.if_icmp .ge off, 3)) (ht : (pc : Int) + off = (tgt : Int)) (kt : y.toInt ≤ x.toInt → W p l e R s m args below meth c H locs cells slots Q (F0 m tgt ls rest)) (kf : x.toInt < y.toInt → W p l e R s m args below meth c H locs cells slots Q (F0 m (pc + 3) ls rest)) : W p l e R s m args below meth c H locs cells slots Q (F0 m pc ls (.int y :: .int x :: rest)) := lv_icmp_ge hexec hb hdg ht (fun h => kt (by rw [Int32.le_iff_toInt_le] at h; omega)) (fun h => kf (by rw [Int32.le_iff_toInt_le] at h; omega))
theorem xz_ge {x : Int32} (hexec : p.tables.exec = Jvm.exec) (hb : c.code = cc) (hdg : decode cc pc = .ok (.ifCond .ge off, 3)) (ht : (pc : Int) + off = (tgt : Int)) (kt : 0 ≤ x.toInt → W p l e R s m args below meth c H locs cells slots Q (F0 m tgt ls rest)) (kf : x.toInt < 0 → W p l e R s m args below meth c H locs cells slots Q (F0 m (pc + 3) ls rest)) : W p l e R s m args below meth c H locs cells slots Q (F0 m pc ls (.int x :: rest)) := by
  have z : (0 : Int32).toInt = 0 := rfl
  exact lv_if_ge hexec hb hdg ht (fun h => kt (by rw [Int32.le_iff_toInt_le] at h; omega)) (fun h => kf (by rw [Int32.le_iff_toInt_le] at h; omega))
theorem xr_gt {x y : Int32} (hexec : p.tables.exec = Jvm.exec) (hb : c.code = cc) (hdg : decode cc pc = .ok (.if_icmp .gt off, 3)) (ht : (pc : Int) + off = (tgt : Int)) (kt : y.toInt < x.toInt → W p l e R s m args below meth c H locs cells slots Q (F0 m tgt ls rest)) (kf : x.toInt ≤ y.toInt → W p l e R s m args below meth c H locs cells slots Q (F0 m (pc + 3) ls rest)) : W p l e R s m args below meth c H locs cells slots Q (F0 m pc ls (.int y :: .int x :: rest)) := lv_icmp_gt hexec hb hdg ht (fun h => kt (by rw [Int32.lt_iff_toInt_lt] at h; omega)) (fun h => kf (by rw [Int32.lt_iff_toInt_lt] at h; omega))
theorem xz_gt {x : Int32} (hexec : p.tables.exec = Jvm.exec) (hb : c.code = cc) (hdg : decode cc pc = .ok (.ifCond .gt off, 3)) (ht : (pc : Int) + off = (tgt : Int)) (kt : 0 < x.toInt → W p l e R s m args below meth c H locs cells slots Q (F0 m tgt ls rest)) (kf : x.toInt ≤ 0 → W p l e R s m args below meth c H locs cells slots Q (F0 m (pc + 3) ls rest)) : W p l e R s m args below meth c H locs cells slots Q (F0 m pc ls (.int x :: rest)) := by
  have z : (0 : Int32).toInt = 0 := rfl
  exact lv_if_gt hexec hb hdg ht (fun h => kt (by rw [Int32.lt_iff_toInt_lt] at h; omega)) (fun h => kf (by rw [Int32.lt_iff_toInt_lt] at h; omega))
theorem xr_le {x y : Int32} (hexec : p.tables.exec = Jvm.exec) (hb : c.code = cc) (hdg : decode cc pc = .ok (.if_icmp .le off, 3)) (ht : (pc : Int) + off = (tgt : Int)) (kt : x.toInt ≤ y.toInt → W p l e R s m args below meth c H locs cells slots Q (F0 m tgt ls rest)) (kf : y.toInt < x.toInt → W p l e R s m args below meth c H locs cells slots Q (F0 m (pc + 3) ls rest)) : W p l e R s m args below meth c H locs cells slots Q (F0 m pc ls (.int y :: .int x :: rest)) := lv_icmp_le hexec hb hdg ht (fun h => kt (by rw [Int32.le_iff_toInt_le] at h; omega)) (fun h => kf (by rw [Int32.le_iff_toInt_le] at h; omega))
theorem xz_le {x : Int32} (hexec : p.tables.exec = Jvm.exec) (hb : c.code = cc) (hdg : decode cc pc = .ok (.ifCond .le off, 3)) (ht : (pc : Int) + off = (tgt : Int)) (kt : x.toInt ≤ 0 → W p l e R s m args below meth c H locs cells slots Q (F0 m tgt ls rest)) (kf : 0 < x.toInt → W p l e R s m args below meth c H locs cells slots Q (F0 m (pc + 3) ls rest)) : W p l e R s m args below meth c H locs cells slots Q (F0 m pc ls (.int x :: rest)) := by
  have z : (0 : Int32).toInt = 0 := rfl
  exact lv_if_le hexec hb hdg ht (fun h => kt (by rw [Int32.le_iff_toInt_le] at h; omega)) (fun h => kf (by rw [Int32.le_iff_toInt_le] at h; omega))
theorem xr_eq {x y : Int32} (hexec : p.tables.exec = Jvm.exec) (hb : c.code = cc) (hdg : decode cc pc = .ok (.if_icmp .eq off, 3)) (ht : (pc : Int) + off = (tgt : Int)) (kt : x.toInt = y.toInt → W p l e R s m args below meth c H locs cells slots Q (F0 m tgt ls rest)) (kf : x.toInt ≠ y.toInt → W p l e R s m args below meth c H locs cells slots Q (F0 m (pc + 3) ls rest)) : W p l e R s m args below meth c H locs cells slots Q (F0 m pc ls (.int y :: .int x :: rest)) := lv_icmp_eq hexec hb hdg ht (fun h => kt (by rw [h]; try rfl)) (fun h => kf (fun q => h (Int32.toInt_inj.mp q)))
theorem xz_eq {x : Int32} (hexec : p.tables.exec = Jvm.exec) (hb : c.code = cc) (hdg : decode cc pc = .ok (.ifCond .eq off, 3)) (ht : (pc : Int) + off = (tgt : Int)) (kt : x.toInt = 0 → W p l e R s m args below meth c H locs cells slots Q (F0 m tgt ls rest)) (kf : x.toInt ≠ 0 → W p l e R s m args below meth c H locs cells slots Q (F0 m (pc + 3) ls rest)) : W p l e R s m args below meth c H locs cells slots Q (F0 m pc ls (.int x :: rest)) := by
  have z : (0 : Int32).toInt = 0 := rfl
  exact lv_if_eq hexec hb hdg ht (fun h => kt (by rw [h]; rfl)) (fun h => kf (fun q => h (Int32.toInt_inj.mp (q.trans z.symm))))
theorem xr_ne {x y : Int32} (hexec : p.tables.exec = Jvm.exec) (hb : c.code = cc) (hdg : decode cc pc = .ok (.if_icmp .ne off, 3)) (ht : (pc : Int) + off = (tgt : Int)) (kt : x.toInt ≠ y.toInt → W p l e R s m args below meth c H locs cells slots Q (F0 m tgt ls rest)) (kf : x.toInt = y.toInt → W p l e R s m args below meth c H locs cells slots Q (F0 m (pc + 3) ls rest)) : W p l e R s m args below meth c H locs cells slots Q (F0 m pc ls (.int y :: .int x :: rest)) := lv_icmp_ne hexec hb hdg ht (fun h => kt (fun q => h (Int32.toInt_inj.mp q))) (fun h => kf (by rw [h]; try rfl))
theorem xz_ne {x : Int32} (hexec : p.tables.exec = Jvm.exec) (hb : c.code = cc) (hdg : decode cc pc = .ok (.ifCond .ne off, 3)) (ht : (pc : Int) + off = (tgt : Int)) (kt : x.toInt ≠ 0 → W p l e R s m args below meth c H locs cells slots Q (F0 m tgt ls rest)) (kf : x.toInt = 0 → W p l e R s m args below meth c H locs cells slots Q (F0 m (pc + 3) ls rest)) : W p l e R s m args below meth c H locs cells slots Q (F0 m pc ls (.int x :: rest)) := by
  have z : (0 : Int32).toInt = 0 := rfl
  exact lv_if_ne hexec hb hdg ht (fun h => kt (fun q => h (Int32.toInt_inj.mp (q.trans z.symm)))) (fun h => kf (by rw [h]; rfl))
variable {D : va_G} {cA : Nat → ClassId} {A : Nat → Prop} {ws : va_W} {H0 : Heap} {q n k : Nat} {f : Nat → Int32}
theorem xa_ld (hexec : p.tables.exec = Jvm.exec) (hb : c.code = cc) (hK : va_K D vwCl (tyS cA) s) (hP : va_P D vwCl ws H) (q0 : Nat) (he : ws[q0]? = some (q, .inl (cA 0, n, .inl f))) (hk : k < n) (hn : n < 2147483648) {v : Int32} (hv : f k = v) (hdg : decode cc pc = .ok (.iaload, 1)) (kk : W p l e R s m args below meth c H locs cells slots Q (F0 m (pc + 1) ls (.int v :: rest))) : W p l e R s m args below meth c H locs cells slots Q (F0 m pc ls (.int (nI k) :: .ref q :: rest)) := by
  have hkB : k < 2 ^ 31 := Nat.lt_trans hk hn
  refine va_iald hexec hb hK hP q0 0 he rfl (vp_in_nI hk hn) hdg ?_
  rw [nI_clamp hkB, hv]
  exact kk
theorem xa_cld (hexec : p.tables.exec = Jvm.exec) (hb : c.code = cc) (hK : va_K D vwCl (tyS cA) s) (hP : va_P D vwCl ws H) (q0 : Nat) (he : ws[q0]? = some (q, .inl (cA 1, n, .inl f))) (hk : k < n) (hn : n < 2147483648) {v : Int32} (hv : f k = v) (hdg : decode cc pc = .ok (.caload, 1)) (kk : W p l e R s m args below meth c H locs cells slots Q (F0 m (pc + 1) ls (.int v :: rest))) : W p l e R s m args below meth c H locs cells slots Q (F0 m pc ls (.int (nI k) :: .ref q :: rest)) := by
  have hkB : k < 2 ^ 31 := Nat.lt_trans hk hn
  refine va_cald hexec hb hK hP q0 1 he rfl (vp_in_nI hk hn) hdg ?_
  rw [nI_clamp hkB, hv]
  exact kk
theorem xa_st (hexec : p.tables.exec = Jvm.exec) (hb : c.code = cc) (hK : va_K D vwCl (tyS cA) s) (hP : va_P D vwCl ws H) (hD : va_D A ws) (hS : va_S A H0 H locs) (q0 : Nat) (he : ws[q0]? = some (q, .inl (cA 0, n, .inl f))) (hk : k < n) (hn : n < 2147483648) {x : Int32} (hdg : decode cc pc = .ok (.iastore, 1)) (kk : ∀ (H1 : Heap) (locs1 : List Loc), va_P D vwCl (ws.set q0 (q, .inl (cA 0, n, .inl (upd f k x)))) H1 → va_D A (ws.set q0 (q, .inl (cA 0, n, .inl (upd f k x)))) → va_S A H0 H1 locs1 → W p l e R s m args below meth c H1 locs1 cells slots Q (F0 m (pc + 1) ls rest)) : W p l e R s m args below meth c H locs cells slots Q (F0 m pc ls (.int x :: .int (nI k) :: .ref q :: rest)) := by
  have hkB : k < 2 ^ 31 := Nat.lt_trans hk hn
  refine va_iast hexec hb hK hP hD hS q0 0 he rfl (vp_in_nI hk hn) hdg ?_
  rw [nI_clamp hkB]
  exact kk
theorem vp_nc {v : Nat} (h : v < 65536) : vp_nar .char (nI v) = nI v := by
  unfold vp_nar
  rw [(pk_charN h).1]
theorem xa_cst (hexec : p.tables.exec = Jvm.exec) (hb : c.code = cc) (hK : va_K D vwCl (tyS cA) s) (hP : va_P D vwCl ws H) (hD : va_D A ws) (hS : va_S A H0 H locs) (q0 : Nat) (he : ws[q0]? = some (q, .inl (cA 1, n, .inl f))) (hk : k < n) (hn : n < 2147483648) {v : Nat} (hv : v < 65536) (hdg : decode cc pc = .ok (.castore, 1)) (kk : ∀ (H1 : Heap) (locs1 : List Loc), va_P D vwCl (ws.set q0 (q, .inl (cA 1, n, .inl (upd f k (nI v))))) H1 → va_D A (ws.set q0 (q, .inl (cA 1, n, .inl (upd f k (nI v))))) → va_S A H0 H1 locs1 → W p l e R s m args below meth c H1 locs1 cells slots Q (F0 m (pc + 1) ls rest)) : W p l e R s m args below meth c H locs cells slots Q (F0 m pc ls (.int (nI v) :: .int (nI k) :: .ref q :: rest)) := by
  have hkB : k < 2 ^ 31 := Nat.lt_trans hk hn
  refine va_cast hexec hb hK hP hD hS q0 1 he rfl (vp_in_nI hk hn) hdg ?_
  rw [nI_clamp hkB, vp_nc hv]
  exact kk
end NB

theorem c16 {n : Nat} (h : n < 65536) : ((nI n).toUInt32 % 65536).toInt32 = nI n := by
  rw [pk_char, pk_tn (by omega), Nat.mod_eq_of_lt h]
theorem four_pow (k : Nat) : 4 ^ k = 2 ^ (2 * k) := by rw [Nat.pow_mul]
theorem sh_amt : ∀ k, k < 16 → ((nI (2 * k) &&& 31).toBitVec.smod 32).toNat = 2 * k := by decide +kernel
theorem sh_r {w k : Nat} (hw : w < 2147483648) (hk : k < 16) : nI w >>> (nI (2 * k) &&& 31) = nI (w / 4 ^ k) := by
  rw [four_pow]; exact pk_shrN hw _ (2 * k) (sh_amt k hk)
theorem sh_l {w k : Nat} (hk : k < 16) (h : w * 4 ^ k < 4294967296) : nI w <<< (nI (2 * k) &&& 31) = nI (w * 4 ^ k) := by
  rw [four_pow] at h ⊢; exact pk_shlN _ (2 * k) (sh_amt k hk) h
theorem sh_m {w k : Nat} (hk : k < 15) : nI w &&& nI (4 ^ k - 1) = nI (w % 4 ^ k) := by
  have h1 : ∀ k, k < 15 → (nI (4 ^ k - 1)).toBitVec.toNat = 2 ^ (2 * k) - 1 := by decide +kernel
  rw [pk_and (nI w) (2 * k) (h1 k hk), ← four_pow]
  congr 1
  show (BitVec.ofNat 32 w).toNat % 4 ^ k = w % 4 ^ k
  rw [BitVec.toNat_ofNat]
  have h2 : (4 : Nat) ^ k ∣ 2 ^ 32 := by rw [four_pow]; exact Nat.pow_dvd_pow 2 (by omega)
  exact Nat.mod_mod_of_dvd w h2
theorem sh_o {a b k : Nat} (hb : b < 4 ^ k) : nI (a * 4 ^ k) ||| nI b = nI (a * 4 ^ k + b) := by
  have e : a * 4 ^ k ||| b = a * 4 ^ k + b := by
    rw [four_pow] at hb ⊢
    rw [Nat.mul_comm]
    exact (Nat.two_pow_add_eq_or_of_lt hb a).symm
  rw [← e]
  apply Int32.toBitVec_inj.mp
  show BitVec.ofNat 32 (a * 4 ^ k) ||| BitVec.ofNat 32 b = BitVec.ofNat 32 (a * 4 ^ k ||| b)
  rw [BitVec.ofNat_or]
theorem sh_x {a b : Nat} : nI a ^^^ nI b = nI (a ^^^ b) := by
  apply Int32.toBitVec_inj.mp
  show BitVec.ofNat 32 a ^^^ BitVec.ofNat 32 b = BitVec.ofNat 32 (a ^^^ b)
  rw [BitVec.ofNat_xor]
theorem xor_mod {a b k : Nat} : (a ^^^ b) % 4 ^ k = 0 ↔ a % 4 ^ k = b % 4 ^ k := by
  rw [four_pow, Nat.xor_mod_two_pow]
  constructor
  · intro h
    apply Nat.eq_of_testBit_eq
    intro i
    have h2 : ((a % 2 ^ (2 * k)) ^^^ (b % 2 ^ (2 * k))).testBit i = false := by rw [h, Nat.zero_testBit]
    rw [Nat.testBit_xor] at h2
    revert h2
    cases (a % 2 ^ (2 * k)).testBit i <;> cases (b % 2 ^ (2 * k)).testBit i <;> simp
  · intro h
    rw [h, Nat.xor_self]
