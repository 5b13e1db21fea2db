/-! THE START -/
theorem ps_E {b L : Nat} {xs : Nat → Int32} {s : State} (hts : ∀ w ∈ lw_tbl, w.before #[Value.ref b] s = true) (hX : va_X b L xs s s.heap) (hbl : b < s.heap.size) : ∃ k : lxC, k.2 = (b, L, xs) ∧ lxE k (lwS s) s s.heap := by
  obtain ⟨cA, hA⟩ := ps_A1 hts
  exact ⟨(cA, b, L, xs), rfl, ps_T hts, ⟨hX, Nat.not_le.mpr hbl⟩, hA⟩
set_option maxHeartbeats 4000000 in
set_option maxRecDepth 100000 in
theorem whole_start {p : Program} {e : Env} {s : State} {m : MethodId} {below : List Frame} {meth : Method} {c : Code} (l : Launch) (hflags : l.flags = flags0) {b L : Nat} {xs : Nat → Int32} (hL : L ≤ 260) (C0 : lw_At p s m meth c b L xs) : W p l e room_1 s m #[Value.ref b] below meth c s.heap [] 0 0 (lw_Z below #[Value.ref b] s) (entryFrame m ([Value.ref b] : List Value).toArray 9) := by
  obtain ⟨hx, hb, hr, hml, hown, hts, hX, hbl, hlk, hgv⟩ := C0
  obtain ⟨G, hK⟩ := ps_K hts
  obtain ⟨k, hk, hE⟩ := ps_E hts hX hbl
  have hl := lv_entry ([.ref b]) (n := 9) (Nat.le_of_ble_eq_true rfl)
  rw [lg_entry_eq]
  generalize (lg_sl ([.ref b]) ++ List.replicate (9 - (lg_sl ([.ref b])).length) Slot.unset).toArray = ls at hl ⊢
  have hl : lv_has ls 9 [(0, .ref b)] := hl
  have ek : k.2.1 = b := by rw [hk]
  have ek2 : k.2.2.1 ≤ 260 := by rw [hk]; exact hL
  exact lw_body l (A := lwS s) rfl (k := k) ek2 hx hb hr hml hown hlk (fun w hw => by
    rcases List.mem_cons.mp hw with rfl | h
    · exact hts _ (lwC_tbl _ (bi1 (w := Cond.initialized RX9) 58 rfl))
    · exact hts w (lwC_tbl w h)) hK hE ls (by rw [ek]; exact hl)
