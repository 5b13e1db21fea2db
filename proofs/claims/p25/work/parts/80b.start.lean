/-! what the start gives -/
theorem ps_arr {args : Array Value} {s : State} {ty : FieldType} (hty : ∀ C, ty ≠ .object C) (h : (Cond.arrayClass ty).before args s = true) : ∃ cA : ClassId, ArrOfT s cA ty ∧ va_RA s cA ty := by
  obtain ⟨cA, kA, comp, h1, h2, h3⟩ := Cond.arrayClass_spec h
  refine ⟨cA, fun n z => ⟨fun k h => (by cases h), kA, h2, comp, h3⟩, ?_⟩
  cases ty with
  | object C => exact absurd rfl (hty C)
  | _ => exact h1
set_option maxHeartbeats 4000000 in
set_option maxRecDepth 100000 in
theorem ps_K {b : Nat} {s : State} (hts : ∀ w ∈ lw_tbl, w.before #[Value.ref b] s = true) : ∃ G : sxG, sxK G s := by
  obtain ⟨c0, i0, h0⟩ := u_known (C := RX0) (T := TX0) (N := 13) (n := 13) hts luX0 (hts (Cond.instantiable RX0 13) (tb1 66 rfl))
  obtain ⟨c1, i1, h1⟩ := u_known (C := RX1) (T := TX1) (N := 10) (n := 10) hts luX1 (hts (Cond.instantiable RX1 10) (tb1 72 rfl))
  obtain ⟨c2, i2, h2⟩ := u_known (C := RX2) (T := TX2) (N := 5) (n := 5) hts luX2 (hts (Cond.instantiable RX2 5) (tb1 181 rfl))
  obtain ⟨c3, i3, h3⟩ := u_known (C := RX3) (T := TX3) (N := 6) (n := 6) hts luX3 (hts (Cond.instantiable RX3 6) (tb1 152 rfl))
  obtain ⟨c4, i4, h4⟩ := u_known (C := RX4) (T := TX4) (N := 6) (n := 6) hts luX4 (hts (Cond.instantiable RX4 6) (tb2 37 rfl))
  obtain ⟨c5, i5, h5⟩ := u_known (C := RX5) (T := TX5) (N := 6) (n := 6) hts luX5 (hts (Cond.instantiable RX5 6) (tb1 31 rfl))
  obtain ⟨c6, i6, h6⟩ := u_known (C := RX6) (T := TX6) (N := 17) (n := 17) hts luX6 (hts (Cond.instantiable RX6 17) (tb2 10 rfl))
  obtain ⟨c7, i7, h7⟩ := u_known (C := RX7) (T := TX7) (N := 4) (n := 4) hts luX7 (hts (Cond.instantiable RX7 4) (tb2 16 rfl))
  obtain ⟨c8, i8, h8⟩ := u_known (C := RX8) (T := TX8) (N := 9) (n := 9) hts luX8 (hts (Cond.instantiable RX8 9) (tb1 117 rfl))
  obtain ⟨c9, i9, h9⟩ := u_known (C := RX9) (T := TX9) (N := 7) (n := 7) hts luX9 (hts (Cond.instantiable RX9 7) (tb1 23 rfl))
  obtain ⟨c10, i10, h10⟩ := u_known (C := RX10) (T := TX10) (N := 3) (n := 3) hts luX10 (hts (Cond.instantiable RX10 3) (tb5 152 rfl))
  obtain ⟨cI, a1, a2⟩ := ps_arr (ty := .int) (fun C => nofun) (hts (Cond.arrayClass .int) (tb1 64 rfl))
  obtain ⟨cZ, b1, b2⟩ := ps_arr (ty := .boolean) (fun C => nofun) (hts (Cond.arrayClass .boolean) (tb1 179 rfl))
  refine ⟨((fun c => [c0, c1, c2, c3, c4, c5, c6, c7, c8, c9, c10].getD c 0, fun c => [i0, i1, i2, i3, i4, i5, i6, i7, i8, i9, i10].getD c (fun _ => 0)), cI, cZ), ⟨fun c q hq => ?_, fun c q hq => ?_⟩, fun q hq => ?_⟩
  · match c, hq with
    | 0, hq => cases hq; exact h0
    | 1, hq => cases hq; exact h1
    | 2, hq => cases hq; exact h2
    | 3, hq => cases hq; exact h3
    | 4, hq => cases hq; exact h4
    | 5, hq => cases hq; exact h5
    | 6, hq => cases hq; exact h6
    | 7, hq => cases hq; exact h7
    | 8, hq => cases hq; exact h8
    | 9, hq => cases hq; exact h9
    | 10, hq => cases hq; exact h10
    | c + 11, hq => cases hq
  · match c, hq with
    | 0, hq => cases hq; exact ⟨a1, a2⟩
    | 1, hq => cases hq; exact ⟨b1, b2⟩
    | c + 2, hq => cases hq
  · simp only [sxN4, List.mem_cons, List.not_mem_nil, or_false] at hq
    rcases hq with rfl | rfl | rfl | rfl | rfl | rfl | rfl | rfl | rfl | rfl | rfl | rfl | rfl | rfl | rfl | rfl | rfl | rfl
    · exact va_Nw.of rfl (hts (Cond.methodLinkNest RX1 77 yX9_isBorrowKind RX9) (tb2 180 rfl))
    · exact va_Nw.of rfl (hts (Cond.methodLinkNest RX3 41 yX9_loansOf RX9) (tb2 188 rfl))
    · exact va_Nw.of rfl (hts (Cond.methodLinkNest RX3 44 yX9_isIndexOf RX9) (tb2 191 rfl))
    · exact va_Nw.of rfl (hts (Cond.methodLinkNest RX8 71 yX9_isIndexOf RX9) (tb2 205 rfl))
    · exact va_Nw.of rfl (hts (Cond.methodLinkNest RX2 28 yX9_isIndexOf RX9) (tb2 222 rfl))
    · exact va_Nw.of rfl (hts (Cond.methodLinkNest RX0 155 yX9_isIndexOf RX9) (tb3 1 rfl))
    · exact va_Nw.of rfl (hts (Cond.methodLinkNest RX0 214 yX9_meets RX9) (tb3 69 rfl))
    · exact va_Nw.of rfl (hts (Cond.methodLinkNest RX5 65 yX9_isOwned RX9) (tb3 89 rfl))
    · exact va_Nw.of rfl (hts (Cond.methodLinkNest RX5 55 yX9_isBorrowKind RX9) (tb3 191 rfl))
    · exact va_Nw.of rfl (hts (Cond.methodLinkNest RX4 32 yX9_isIndexOf RX9) (tb4 36 rfl))
    · exact va_Nw.of rfl (hts (Cond.methodLinkNest RX6 138 yX9_isIndexOf RX9) (tb4 65 rfl))
    · exact va_Nw.of rfl (hts (Cond.methodLinkNest RX7 25 yX9_isIndexOf RX9) (tb4 102 rfl))
    · exact va_Nw.of rfl (hts (Cond.methodLinkNest RX6 232 yX9_isBorrowKind RX9) (tb4 103 rfl))
    · exact va_Nw.of rfl (hts (Cond.methodLinkNest RX6 208 yX9_isOwned RX9) (tb4 152 rfl))
    · exact va_Nw.of rfl (hts (Cond.methodLinkNest RX5 37 yX9_isIndexOf RX9) (tb5 196 rfl))
    · exact va_Nw.of rfl (hts (Cond.methodLinkNest RX5 68 yX9_isSmall RX9) (tb3 192 rfl))
    · exact va_Nw.of rfl (hts (Cond.methodLinkNest RX5 71 yX9_canBeLent RX9) (tb3 195 rfl))
    · exact va_Nw.of rfl (hts (Cond.methodLinkNest RX5 74 yX9_loansOf RX9) (tb3 219 rfl))
theorem lx_ov {ty : FieldType} {args : Array Value} {s : State} (h : (Cond.arrayOver ty).before args s = true) : (Cond.arrayOver ty).before #[] s = true := by
  first | exact h | (have e : (Cond.arrayOver ty).before #[] s = (Cond.arrayOver ty).before args s := by unfold Cond.before Cond.holds; simp only [Cond.value]
                     rw [e]; exact h)
theorem ps_A1 {b : Nat} {s : State} (hts : ∀ w ∈ lw_tbl, w.before #[Value.ref b] s = true) : ∃ cA : ClassId, (ArrOfT s cA (.array .int) ∧ va_RA s cA (.array .int)) ∧ lx_Co cA (.array .int) "[I" s := by
  have e0 : (FieldType.array .int).toString = "[I" := by decide +kernel
  obtain ⟨comp, cA, kA, h1, -, h2, h3, h4⟩ := arrayOverA_spec (hts (Cond.arrayOver (.array .int)) (tb5 158 rfl))
  exact ⟨cA, ⟨fun n z => ⟨fun k h => (by cases h), kA, h2, comp, h3⟩, h4⟩, kA, comp, h2, h3, e0 ▸ h1⟩
theorem ps_T {b : Nat} {s : State} (hts : ∀ w ∈ lw_tbl, w.before #[Value.ref b] s = true) : lxT s :=
  ⟨va_Nw.of rfl (hts (Cond.methodLinkNest RL 83 yX10_init RL) (tb5 153 rfl)), lx_ov (hts (Cond.arrayOver (.array .int)) (tb5 158 rfl))⟩
