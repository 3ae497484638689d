def gl {α : Type} (l : List α) (d : α) (k : Nat) : α := l.getD k d
set_option maxHeartbeats 4000000 in
set_option maxRecDepth 100000 in
theorem law_start {p : Program} {e : Env} {s : State} {m : MethodId} {below : List Frame} {meth : Method} {c : Code} {Q : State → Prop} (l : Launch) {b Ln : Nat} {scr : Nat → Int32} (hL : Ln ≤ 1536) (hx : p.tables.exec = Jvm.exec) (hb : c.code = code) (hml : c.maxLocals = 4) (hown : s.vm.findClass RL = some m.cls) (hts : ∀ w ∈ lw_tbl, w.before #[Value.ref b] s = true) (hX : va_X b Ln scr s s.heap) (hbl : b < s.heap.size)
    (hend : ∀ (H : Heap) (ls : Array Slot), W p l e room_1 s m #[Value.ref b] below meth c H [] 82 3308 Q (F0 m 521 ls [.int (nI 1)])) : W p l e room_1 s m #[Value.ref b] below meth c s.heap [] 0 0 Q (entryFrame m ([Value.ref b] : List Value).toArray 4) := by
  obtain ⟨c0, i0, k0⟩ := u_known hts in_wsX00 (hts _ mw_10)
  obtain ⟨c1, i1, k1⟩ := u_known hts in_wsX10 (hts _ mw_22)
  obtain ⟨c2, i2, k2⟩ := u_known hts in_wsX20 (hts _ mw_18)
  obtain ⟨c3, i3, k3⟩ := u_known hts in_wsX30 (hts _ mw_14)
  obtain ⟨c4, i4, k4⟩ := u_known hts in_wsX40 (hts _ mw_37)
  obtain ⟨c5, i5, k5⟩ := u_known hts in_wsX50 (hts _ mw_30)
  obtain ⟨c6, i6, k6⟩ := u_known hts in_wsX60 (hts _ mw_5)
  obtain ⟨c7, i7, k7⟩ := u_known hts in_wsX70 (hts _ mw_41)
  obtain ⟨c8, i8, k8⟩ := u_known hts in_wsX80 (hts _ mw_26)
  obtain ⟨c9, i9, k9⟩ := u_known hts in_wsX100 (hts _ mw_691)
  obtain ⟨c10, i10, k10⟩ := u_known hts in_wsX110 (hts _ mw_693)
  obtain ⟨a0, t0, n0⟩ := arr_at (hts _ mw_49)
  obtain ⟨a1, t1, n1⟩ := arr_at (hts _ mw_81)
  obtain ⟨a2, t2, n2⟩ := arr_ao (hts _ mw_AO)
  have hK : va_K (gl [c0, c1, c2, c3, c4, c5, c6, c7, c8, c9, c10] c0, gl [i0, i1, i2, i3, i4, i5, i6, i7, i8, i9, i10] i0) vwCl (tyS (gl [a0, a1, a2] a0)) s := by
    refine ⟨fun c q h => ?_, fun k q h => ?_⟩
    · have hc : c < 11 := (List.getElem?_eq_some_iff.mp h).1
      exact match c, hc, h with | 0, _, h => by cases h; exact k0 | 1, _, h => by cases h; exact k1 | 2, _, h => by cases h; exact k2 | 3, _, h => by cases h; exact k3 | 4, _, h => by cases h; exact k4 | 5, _, h => by cases h; exact k5 | 6, _, h => by cases h; exact k6 | 7, _, h => by cases h; exact k7 | 8, _, h => by cases h; exact k8 | 9, _, h => by cases h; exact k9 | 10, _, h => by cases h; exact k10 | z + 11, hc, _ => absurd hc (by omega)
    · have hc : k < 3 := (List.getElem?_eq_some_iff.mp h).1
      exact match k, hc, h with | 0, _, h => by cases h; exact ⟨t0, n0⟩ | 1, _, h => by cases h; exact ⟨t1, n1⟩ | 2, _, h => by cases h; exact ⟨t2, n2⟩ | z + 3, hc, _ => absurd hc (by omega)
  have hN : Nst s := Nst.of (args := #[Value.ref b]) (fun w hw => hts w (List.mem_append_right _ hw))
  have hAO : va_AO RX6 s := va_AO.of (hts _ mw_AO)
  have hl := lv_entry [Value.ref b] (n := 4) (Nat.le_of_ble_eq_true rfl)
  rw [lg_entry_eq]
  refine law_walk l hL ⟨hx, hb, hml, hown, hts⟩ hK hN hAO hX hbl (AY := fun q => s.heap.size ≤ q) (by show ¬ s.heap.size ≤ b; omega) (fun _ h => h) va_S.rf _ hl ?_
  intro H locs ls hS
  exact va_forget hS.2.2 (hend H ls)
