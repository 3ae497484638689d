/-! new objects and rows; a constructor that makes a row of objects -/
def bl (l : List Nat) (k : Nat) : Nat := l.getD k 0
def S0 : St := upN (fun _ => 0) 0 1
section NW
variable {p : Program} {l : Launch} {e : Env} {R : Room} {s : State} {m : MethodId} {args : Array Value} {below : List Frame} {meth : Method} {c : Code} {H : Heap} {locs : List Loc} {cells slots : Nat} {Q : State → Prop}
variable {cc : ByteArray} {pc : Nat} {ls : Array Slot} {rest : List Value} {D : va_G} {cA : Nat → ClassId} {A : Nat → Prop} {ws : va_W} {H0 : Heap}
theorem xn_i (n : Nat) (hexec : p.tables.exec = Jvm.exec) (hb : c.code = cc) (harr : (Cond.arrayClass .int).before args s = true) (hK : va_K D vwCl (tyS cA) s) (hP : va_P D vwCl ws H) (hD : va_D A ws) (hS : va_S A H0 H locs) (hA : ∀ q, H0.size ≤ q → A q) (hn : n < 10000) (hcells : cells + 1 ≤ R.cells) (hslots : slots + n ≤ R.slots) (hdg : decode cc pc = .ok (.newarray .int, 2))
    (kk : ∀ (q : Nat) (H1 : Heap), va_P D vwCl (ws ++ [(q, .inl (cA 0, n, .inl (fun _ => 0)))]) H1 → va_D A (ws ++ [(q, .inl (cA 0, n, .inl (fun _ => 0)))]) → va_S A H0 H1 locs → W p l e R s m args below meth c H1 locs (cells + 1) (slots + n) Q (F0 m (pc + 2) ls (.ref q :: rest))) : W p l e R s m args below meth c H locs cells slots Q (F0 m pc ls (.int (nI n) :: rest)) := by
  have en : (nI n).toInt = (n : Int) := nI_toInt (by omega)
  refine va_newa (atype := .int) (N' := n) (a0 := (n, .inl (fun _ => 0))) hexec hb harr rfl hK hP hD hS hA (fun _ => rfl) (fun h => ?_) (nI_clamp (by omega)) (by show n * 4 ≤ 536870912; omega) hcells hslots hdg (fun q cB H1 hK1 hP1 hD1 hS1 => ?_)
  · have h2 := Int32.lt_iff_toInt_lt.mp h
    rw [en] at h2
    have h3 : (0 : Int32).toInt = 0 := rfl
    omega
  · have e1 : cB = cA 0 := Option.some.inj ((hK1.2 3 _ rfl).2.symm.trans (hK1.2 0 _ rfl).2)
    subst e1
    exact kk q H1 hP1 hD1 hS1
theorem xn_c (n : Nat) (hexec : p.tables.exec = Jvm.exec) (hb : c.code = cc) (harr : (Cond.arrayClass .char).before args s = true) (hK : va_K D vwCl (tyS cA) s) (hP : va_P D vwCl ws H) (hD : va_D A ws) (hS : va_S A H0 H locs) (hA : ∀ q, H0.size ≤ q → A q) (hn : n < 10000) (hcells : cells + 1 ≤ R.cells) (hslots : slots + n ≤ R.slots) (hdg : decode cc pc = .ok (.newarray .char, 2))
    (kk : ∀ (q : Nat) (H1 : Heap), va_P D vwCl (ws ++ [(q, .inl (cA 1, n, .inl (fun _ => 0)))]) H1 → va_D A (ws ++ [(q, .inl (cA 1, n, .inl (fun _ => 0)))]) → va_S A H0 H1 locs → W p l e R s m args below meth c H1 locs (cells + 1) (slots + n) Q (F0 m (pc + 2) ls (.ref q :: rest))) : W p l e R s m args below meth c H locs cells slots Q (F0 m pc ls (.int (nI n) :: rest)) := by
  have en : (nI n).toInt = (n : Int) := nI_toInt (by omega)
  refine va_newa (atype := .char) (N' := n) (a0 := (n, .inl (fun _ => 0))) hexec hb harr rfl hK hP hD hS hA (fun _ => rfl) (fun h => ?_) (nI_clamp (by omega)) (by show n * 2 ≤ 536870912; omega) hcells hslots hdg (fun q cB H1 hK1 hP1 hD1 hS1 => ?_)
  · have h2 := Int32.lt_iff_toInt_lt.mp h
    rw [en] at h2
    have h3 : (0 : Int32).toInt = 0 := rfl
    omega
  · have e1 : cB = cA 1 := Option.some.inj ((hK1.2 3 _ rfl).2.symm.trans (hK1.2 1 _ rfl).2)
    subst e1
    exact kk q H1 hP1 hD1 hS1
theorem ra_one {U : State} {a b : ClassId} {C : String} (h1 : va_RA U a (.object C)) (h2 : va_RA U b (.object C)) : a = b := by
  obtain ⟨k1, c1, -, -, -, e1⟩ := h1
  obtain ⟨k2, c2, -, -, -, e2⟩ := h2
  exact Option.some.inj (e1.symm.trans e2)
theorem xn_q (n : Nat) (hexec : p.tables.exec = Jvm.exec) (hb : c.code = cc) {own : String} {index : Nat} (hown : s.vm.findClass own = some m.cls) (hcl : (Cond.classLink own index RX6).before args s = true) (hover : va_AO RX6 s) (hK : va_K D vwCl (tyS cA) s) (hP : va_P D vwCl ws H) (hD : va_D A ws) (hS : va_S A H0 H locs) (hA : ∀ q, H0.size ≤ q → A q) (hn : n < 10000) (hcells : cells + 1 ≤ R.cells) (hslots : slots + n ≤ R.slots) (hdg : decode cc pc = .ok (.anewarray index, 3))
    (kk : ∀ (q : Nat) (H1 : Heap), va_P D vwCl (ws ++ [(q, .inl (cA 2, n, .inr (.inr (.inr (.inr (fun _ => none))))))]) H1 → va_D A (ws ++ [(q, .inl (cA 2, n, .inr (.inr (.inr (.inr (fun _ => none))))))]) → va_S A H0 H1 locs → W p l e R s m args below meth c H1 locs (cells + 1) (slots + n) Q (F0 m (pc + 3) ls (.ref q :: rest))) : W p l e R s m args below meth c H locs cells slots Q (F0 m pc ls (.int (nI n) :: rest)) := by
  have en : (nI n).toInt = (n : Int) := nI_toInt (by omega)
  refine va_newq (N' := n) hexec hb hown hcl hover hK hP hD hS hA (fun h => ?_) (nI_clamp (by omega)) (by omega) hcells hslots hdg (fun q cB H1 hK1 hP1 hD1 hS1 => ?_)
  · have h2 := Int32.lt_iff_toInt_lt.mp h
    rw [en] at h2
    have h3 : (0 : Int32).toInt = 0 := rfl
    omega
  · have e1 : cB = cA 2 := ra_one (hK1.2 3 _ rfl).2 (hK1.2 2 _ rfl).2
    subst e1
    exact kk q H1 hP1 hD1 hS1
theorem hq_all {a b c d : Nat} : va_up (va_up (va_up (va_up (fun _ => none) 0 (some a)) 1 (some b)) 2 (some c)) 3 (some d) = hq a b c d := by funext i; match i with | 0 => rfl | 1 => rfl | 2 => rfl | 3 => rfl | i + 4 => rfl
end NW
def PA (D : va_G) (cA : Nat → ClassId) (sz : Nat) (w : va_W) (U : State) : Prop := PW D cA sz w U ∧ va_AO RX6 U
def MetA (l : Launch) (D : va_G) (cA : Nat → ClassId) (y : MethodName) (ws : List Cond) (fr lo mc ms : Nat) (av : List Value) (w : va_W) (post : va_W → Prop) : Prop := ∀ sz : Nat, Met l y ws { frames := fr, cells := mc, slots := ms, locals := lo } (va_Pc av (PA D cA sz w)) (va_Qv post (BW D cA (va_A w sz)) (va_A w sz)) mc ms (va_A w sz)
theorem MetA.of {l : Launch} {D : va_G} {cA : Nat → ClassId} {y : MethodName} {ws ws' : List Cond} {fr lo mc ms : Nat} {av : List Value} {w : va_W} {cc : ByteArray} {maxL : Nat} {post : va_W → Prop} (hy : plainName y.cls = true) (hw : ws = Cond.code y cc maxL none :: ws') (hlen : (lg_sl av).length ≤ maxL)
    (body : ∀ (p : Program) (e : Env) (s : State) (m : MethodId) (args : Array Value) (below : List Frame) (meth : Method) (c : Code) (Q : State → Prop) (A : Nat → Prop) (ls : Array Slot), CallFix p m c cc maxL s args ws y.cls → va_P D vwCl w s.heap → va_K D vwCl (tyS cA) s → Nst s → va_D A w → (∀ q, s.heap.size ≤ q → A q) → va_S A s.heap s.heap [] → lv_has ls maxL (lv_args 0 av) → meth.name = y.name → va_AO RX6 s →
      (∀ (w' : va_W) (H : Heap) (locs : List Loc) (pc : Nat) (ls : Array Slot), decode cc pc = .ok (.return_, 1) → post w' → va_P D vwCl w' H → va_D A w' → va_S A s.heap H locs → W p l e { frames := fr, cells := mc, slots := ms, locals := lo } s m args below meth c H locs mc ms Q (F0 m pc ls [])) →
      W p l e { frames := fr, cells := mc, slots := ms, locals := lo } s m args below meth c s.heap [] 0 0 Q (F0 m 0 ls [])) : MetA l D cA y ws fr lo mc ms av w post := by
  intro sz
  refine Met.ofW (cc := cc) (maxL := maxL) (ret := none) hy hw ?_
  intro p e s m args below meth c s₁ B hml hv
  obtain ⟨rfl, ⟨hsz, hP, hK, hN, hD0⟩, hAO⟩ := hv
  subst hsz
  have hts := atoms_spec (ws := ws) B.pre
  have hlocks := B.notSynchronized
  have hl := lv_entry av (n := maxL) hlen
  rw [lg_entry_eq]
  refine body p e s m _ below meth c _ (va_A w s.heap.size) _ ⟨B.exec, B.bytes, hml, findClass_of_methodNamed B.named, hts⟩ hP hK hN hD0.self (fun q h => Or.inr h) va_S.rf hl (name_of_methodNamed B.named B.method).1 hAO ?_
  intro w' H locs pc ls hdg hp hP1 hD1 hS1
  exact W.vret B.exec B.bytes B.returns (fun t ht hW => ⟨⟨w', rfl, hp, by rw [ht]; exact hP1, va_K.moved hW.alike hK, hD1⟩, hS1.F ht⟩) hS1.2.2 hdg
theorem pa_blind {D : va_G} {cA : Nat → ClassId} {sz : Nat} {w : va_W} {av : List Value} : FrameBlind (va_Pc av (PA D cA sz w)) := fun a U g mk q => by
  obtain ⟨q0, ⟨q1, qP, qK, qN, qD⟩, q2⟩ := q
  exact ⟨q0, ⟨q1, qP, va_K.moved (u := U) (U := U.calling g mk a) (Vm.Alike.refl U.vm) qK, Nst.same (u := U) (U := U.calling g mk a) rfl qN, qD⟩, va_AO.moved (u := U) (U := U.calling g mk a) (Vm.Alike.refl U.vm) q2⟩
section CA
variable {p : Program} {l : Launch} {e : Env} {R : Room} {s : State} {m : MethodId} {args : Array Value} {below : List Frame} {meth : Method} {c : Code} {H : Heap} {locs : List Loc} {cells slots : Nat} {Q : State → Prop}
variable {D : va_G} {cA : Nat → ClassId} {y : MethodName} {ws : List Cond} {fr lo mc ms : Nat} {As rest st0 : List Value} {w0 w : va_W} {cc bytes : ByteArray} {maxL nL pc n index : Nat} {ret : Option FieldType} {ls : Array Slot} {A : Nat → Prop} {H0 : Heap} {Ts : List Cond} {own C host : String} {b : Addr}
theorem cl_preA (hAO : va_AO RX6 s) (hP : va_P D vwCl w0 H) (hD : va_D A w0) (hK : va_K D vwCl (tyS cA) s) (hN : Nst s) (isC : List Nat) (hC : isC.map (fun i => w0[i]?) = w.map some) (hn : va_nd isC = true) {av : List Value} : ∀ U : State, U.heap = H → s.WarmedH U.vm → va_Pc av (PA D cA H.size w) av.toArray U := fun U hU hW =>
  ⟨rfl, (cl_pre (av := av) hP hD hK hN isC hC hn U hU hW).2, va_AO.moved hW.alike hAO⟩
theorem cc_AN {post : va_W → Prop} (hAO : va_AO RX6 s) (h0 : CallFix p m c cc nL s args Ts own) (hK : va_K D vwCl (tyS cA) s) (hN : Nst s) (hP : va_P D vwCl w0 H) (hD : va_D A w0) (hS : va_S A H0 H locs) (hA : ∀ q, H0.size ≤ q → A q) (hls : ls.size = nL) (hM : MetA l D cA y ws fr lo mc ms (.ref b :: As) w post) (isC isR : List Nat) (hC : isC.map (fun i => w0[i]?) = w.map some) (hn : va_nd isC = true) {wr : va_W} (hR : isR.map (fun i => w0[i]?) = wr.map some) (hnR : va_nd isR = true) (hdis : ∀ i ∈ isR, i ∉ isC)
    (cw : va_CN R s args own index y host bytes maxL none ws { frames := fr, cells := mc, slots := ms, locals := lo } mc ms n ∧ y.name = "<init>" ∧ (Cond.instanceMethod y).before args s = true) (hn2 : As.length = n) (hst : st0 = As.reverse ++ .ref b :: rest) (hW : (rest.map fun v => v.category).sum ≤ 8) (hdg : decode cc pc = .ok (.invokespecial index, 3)) (hf : cells + mc ≤ R.cells ∧ slots + ms ≤ R.slots)
    (kk : ∀ (w' : va_W) (H1 : Heap) (locs1 : List Loc), post w' → va_P D vwCl (wr ++ w') H1 → va_D A (wr ++ w') → va_S A H0 H1 locs1 → W p l e R s m args below meth c H1 locs1 (cells + mc) (slots + ms) Q (F0 m (pc + 3) ls rest)) : W p l e R s m args below meth c H locs cells slots Q (F0 m pc ls st0) :=
  cl_c hP hD hS hA isC isR hC hR hnR hdis (va_runIN (As := As) (rest := rest) h0 (hM H.size) cw ⟨pa_blind, cl_preA hAO hP hD hK hN isC hC hn⟩ rfl hn2 hls hst (lv_room hW) hdg hf) kk
theorem cc_AI {post : va_W → Prop} (hAO : va_AO RX6 s) (h0 : CallFix p m c cc nL s args Ts own) (hK : va_K D vwCl (tyS cA) s) (hN : Nst s) (hP : va_P D vwCl w0 H) (hD : va_D A w0) (hS : va_S A H0 H locs) (hA : ∀ q, H0.size ≤ q → A q) (hls : ls.size = nL) (hM : MetA l D cA y ws fr lo mc ms (.ref b :: As) w post) (isC isR : List Nat) (hC : isC.map (fun i => w0[i]?) = w.map some) (hn : va_nd isC = true) {wr : va_W} (hR : isR.map (fun i => w0[i]?) = wr.map some) (hnR : va_nd isR = true) (hdis : ∀ i ∈ isR, i ∉ isC)
    (cw : CallB R s args own index y bytes maxL none ws { frames := fr, cells := mc, slots := ms, locals := lo } mc ms n ∧ y.name = "<init>" ∧ (Cond.instanceMethod y).before args s = true) (hn2 : As.length = n) (hst : st0 = As.reverse ++ .ref b :: rest) (hW : (rest.map fun v => v.category).sum ≤ 8) (hdg : decode cc pc = .ok (.invokespecial index, 3)) (hf : cells + mc ≤ R.cells ∧ slots + ms ≤ R.slots)
    (kk : ∀ (w' : va_W) (H1 : Heap) (locs1 : List Loc), post w' → va_P D vwCl (wr ++ w') H1 → va_D A (wr ++ w') → va_S A H0 H1 locs1 → W p l e R s m args below meth c H1 locs1 (cells + mc) (slots + ms) Q (F0 m (pc + 3) ls rest)) : W p l e R s m args below meth c H locs cells slots Q (F0 m pc ls st0) :=
  cl_c hP hD hS hA isC isR hC hR hnR hdis (va_runI (As := As) (rest := rest) h0 (hM H.size) cw ⟨pa_blind, cl_preA hAO hP hD hK hN isC hC hn⟩ rfl hn2 hls hst (lv_room hW) hdg hf) kk
end CA
