/-! the law, from its entry to its end -/
abbrev lwS (s : State) : Nat → Prop := fun q => s.heap.size ≤ q
/-- what holds all along the law -/
def lwB (p : Program) (s : State) (m : MethodId) (meth : Method) (c : Code) (b L : Nat) (xs : Nat → Int32) (G : sxG) (k : pxC) : Prop :=
  p.tables.exec = Jvm.exec ∧ c.code = cL_law ∧ meth.sig.returnType = ret ∧ c.maxLocals = 9 ∧ s.vm.findClass RL = some m.cls ∧ (∀ w ∈ Cond.initialized RX9 :: bwA, w.before #[Value.ref b] s = true) ∧ va_X b L xs s s.heap ∧ b < s.heap.size ∧ meth.locks = false ∧ sxK G s ∧ pxE k (lwS s) s s.heap
section LWS
variable {p : Program} {e : Env} {s : State} {m : MethodId} {below : List Frame} {meth : Method} {c : Code}
/-- pc 1496: true -/
theorem lw_end (l : Launch) {G : sxG} {k : pxC} {b L : Nat} {xs : Nat → Int32} (C0 : lwB p s m meth c b L xs G k) {H : Heap} {locs : List Loc} {ls : Array Slot} {cells slots : Nat} (hS : va_S (lwS s) s.heap H locs) (hc : cells ≤ 600002) (hs : slots ≤ 7302232) : W p l e room_1 s m #[Value.ref b] below meth c H locs cells slots (lw_Z below #[Value.ref b] s) (F0 m 1496 ls []) := by
  obtain ⟨hx, hb, hr, hml, hown, hts, hX, hbl, hlk, hK, hE⟩ := C0
  refine W.widen (k := 600002) (n := 7302232) hc hs ?_
  refine lv_iconst (v := 1) hx hb dL_law_1496 (by decide) ?_
  refine W.base ?_
  refine va_forget (fun q hq => hS.2.2 q hq) ?_
  exact lw_ret (Drawn.sameBut.refl s.drawn lw_cs) hx hb hr hlk dL_law_1497
/-- pc 1490: the next round, there is none -/
theorem lw_tail (l : Launch) {G : sxG} {k : pxC} {b : Nat} {xs : Nat → Int32} (C0 : lwB p s m meth c b 5 xs G k) {H : Heap} {locs : List Loc} {ls : Array Slot} {lv : List (Nat × Value)} {cells slots : Nat} (hS : va_S (lwS s) s.heap H locs) (hl : lv_has ls 9 lv) (h0 : ls[0]? = some (.val (.ref b))) (h4 : ls[4]? = some (.val (.int 0))) (hc : cells ≤ 600002) (hs : slots ≤ 7302232) : W p l e room_1 s m #[Value.ref b] below meth c H locs cells slots (lw_Z below #[Value.ref b] s) (F0 m 1490 ls []) := by
  have hl2 : lv_has ls 9 [(4, .int 0), (0, .ref b)] := ⟨hl.1, hl.2.1, fun q hq => by
    simp only [List.mem_cons, List.not_mem_nil, or_false] at hq
    rcases hq with rfl | rfl
    · exact h4
    · exact h0⟩
  obtain ⟨hx, hb, hr, hml, hown, hts, hX, hbl, hlk, hK, hE⟩ := id C0
  have hbA : ¬ lwS s b := Nat.not_le.mpr hbl
  refine lv_iinc (v := 5) (lv' := [(4, .int 5), (0, .ref b)]) hx hb dL_law_1490 hl2 (k := 0) rfl (by decide) (by decide) rfl (fun ls hl => ?_)
  refine lv_goto (tgt := 23) hx hb dL_law_1493 (by decide) ?_
  refine lv_iload hx hb dL_law_23 (lv_at hl 0 rfl) ?_
  refine lv_aload_n hx hb dL_law_25 rfl (lv_at hl 1 rfl) ?_
  refine va_slen hx hb hX hbl hbA hS dL_law_26 ?_
  refine lv_iconst (v := 5) hx hb dL_law_27 (by decide) ?_
  refine lv_isub hx hb dL_law_28 ?_
  rw [show (Int32.ofNat 5 - 5 : Int32) = 0 from by decide]
  refine lv_icmp_gt (tgt := 1496) hx hb dL_law_29 (by decide) (fun _ => ?_) (fun h9 => absurd (show (0 : Int32) < 5 from by decide) h9)
  exact lw_end l C0 hS hc hs
end LWS
