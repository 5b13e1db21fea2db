/-! what the start gives -/
theorem ps_arr {args : Array Value} {s : State} {ty : FieldType} (hty : ∀ C, ty ≠ .object C) (h : (Cond.arrayClass ty).before args s = true) : ∃ cA : ClassId, ArrOfT s cA ty ∧ va_RA s cA ty := by
  obtain ⟨cA, kA, comp, h1, h2, h3⟩ := Cond.arrayClass_spec h
  refine ⟨cA, fun n z => ⟨fun k h => (by cases h), kA, h2, comp, h3⟩, ?_⟩
  cases ty with
  | object C => exact absurd rfl (hty C)
  | _ => exact h1
set_option maxHeartbeats 4000000 in
set_option maxRecDepth 100000 in
theorem ps_K {b : Nat} {s : State} (hts : ∀ w ∈ lw_tbl, w.before #[Value.ref b] s = true) : ∃ G : sxG, sxK G s := by
  obtain ⟨c0, i0, h0⟩ := u_known (C := RJ0) (T := TJ0) (N := 4) (n := 4) hts luJ0 (hts (Cond.instantiable RJ0 4) (tb10 104 rfl))
  obtain ⟨c1, i1, h1⟩ := u_known (C := RJ4) (T := TJ4) (N := 4) (n := 4) hts luJ4 (hts (Cond.instantiable RJ4 4) (tb9 179 rfl))
  obtain ⟨c2, i2, h2⟩ := u_known (C := RJ6) (T := TJ6) (N := 1) (n := 1) hts luJ6 (hts (Cond.instantiable RJ6 1) (tb6 130 rfl))
  obtain ⟨c3, i3, h3⟩ := u_known (C := RJx35411) (T := TJx35411) (N := 4) (n := 4) hts luJx35411 (hts (Cond.instantiable RJx35411 4) (tb7 57 rfl))
  obtain ⟨c4, i4, h4⟩ := u_known (C := RJx4a65c) (T := TJx4a65c) (N := 3) (n := 3) hts luJx4a65c (hts (Cond.instantiable RJx4a65c 3) (tb6 45 rfl))
  obtain ⟨c5, i5, h5⟩ := u_known (C := RX0) (T := TX0) (N := 13) (n := 13) hts luX0 (hts (Cond.instantiable RX0 13) (tb1 86 rfl))
  obtain ⟨c6, i6, h6⟩ := u_known (C := RX1) (T := TX1) (N := 10) (n := 10) hts luX1 (hts (Cond.instantiable RX1 10) (tb1 92 rfl))
  obtain ⟨c7, i7, h7⟩ := u_known (C := RX2) (T := TX2) (N := 5) (n := 5) hts luX2 (hts (Cond.instantiable RX2 5) (tb1 201 rfl))
  obtain ⟨c8, i8, h8⟩ := u_known (C := RX3) (T := TX3) (N := 6) (n := 6) hts luX3 (hts (Cond.instantiable RX3 6) (tb1 172 rfl))
  obtain ⟨c9, i9, h9⟩ := u_known (C := RX4) (T := TX4) (N := 6) (n := 6) hts luX4 (hts (Cond.instantiable RX4 6) (tb2 57 rfl))
  obtain ⟨c10, i10, h10⟩ := u_known (C := RX5) (T := TX5) (N := 6) (n := 6) hts luX5 (hts (Cond.instantiable RX5 6) (tb1 51 rfl))
  obtain ⟨c11, i11, h11⟩ := u_known (C := RX6) (T := TX6) (N := 17) (n := 17) hts luX6 (hts (Cond.instantiable RX6 17) (tb2 30 rfl))
  obtain ⟨c12, i12, h12⟩ := u_known (C := RX7) (T := TX7) (N := 4) (n := 4) hts luX7 (hts (Cond.instantiable RX7 4) (tb2 36 rfl))
  obtain ⟨c13, i13, h13⟩ := u_known (C := RX8) (T := TX8) (N := 9) (n := 9) hts luX8 (hts (Cond.instantiable RX8 9) (tb1 137 rfl))
  obtain ⟨c14, i14, h14⟩ := u_known (C := RX9) (T := TX9) (N := 7) (n := 7) hts luX9 (hts (Cond.instantiable RX9 7) (tb1 43 rfl))
  obtain ⟨c15, i15, h15⟩ := u_known (C := RX10) (T := TX10) (N := 1) (n := 1) hts luX10 (hts (Cond.instantiable RX10 1) (tb8 229 rfl))
  obtain ⟨c16, i16, h16⟩ := u_known (C := RX11) (T := TX11) (N := 9) (n := 9) hts luX11 (hts (Cond.instantiable RX11 9) (tb7 139 rfl))
  obtain ⟨c17, i17, h17⟩ := u_known (C := RX12) (T := TX12) (N := 3) (n := 3) hts luX12 (hts (Cond.instantiable RX12 3) (tb7 17 rfl))
  obtain ⟨c18, i18, h18⟩ := u_known (C := RX13) (T := TX13) (N := 4) (n := 4) hts luX13 (hts (Cond.instantiable RX13 4) (tb8 199 rfl))
  obtain ⟨c19, i19, h19⟩ := u_known (C := RX14) (T := TX14) (N := 2) (n := 2) hts luX14 (hts (Cond.instantiable RX14 2) (tb6 39 rfl))
  obtain ⟨c20, i20, h20⟩ := u_known (C := RX15) (T := TX15) (N := 18) (n := 18) hts luX15 (hts (Cond.instantiable RX15 18) (tb8 152 rfl))
  obtain ⟨c21, i21, h21⟩ := u_known (C := RX16) (T := TX16) (N := 4) (n := 4) hts luX16 (hts (Cond.instantiable RX16 4) (tb6 33 rfl))
  obtain ⟨cI, a1, a2⟩ := ps_arr (ty := .int) (fun C => nofun) (hts (Cond.arrayClass .int) (tb1 84 rfl))
  obtain ⟨cZ, b1, b2⟩ := ps_arr (ty := .boolean) (fun C => nofun) (hts (Cond.arrayClass .boolean) (tb1 199 rfl))
  refine ⟨((fun c => [c0, c1, c2, c3, c4, c5, c6, c7, c8, c9, c10, c11, c12, c13, c14, c15, c16, c17, c18, c19, c20, c21].getD c 0, fun c => [i0, i1, i2, i3, i4, i5, i6, i7, i8, i9, i10, i11, i12, i13, i14, i15, i16, i17, i18, i19, i20, i21].getD c (fun _ => 0)), cI, cZ), ⟨fun c q hq => ?_, fun c q hq => ?_⟩, fun q hq => ?_⟩
  · match c, hq with
    | 0, hq => cases hq; exact h0
    | 1, hq => cases hq; exact h1
    | 2, hq => cases hq; exact h2
    | 3, hq => cases hq; exact h3
    | 4, hq => cases hq; exact h4
    | 5, hq => cases hq; exact h5
    | 6, hq => cases hq; exact h6
    | 7, hq => cases hq; exact h7
    | 8, hq => cases hq; exact h8
    | 9, hq => cases hq; exact h9
    | 10, hq => cases hq; exact h10
    | 11, hq => cases hq; exact h11
    | 12, hq => cases hq; exact h12
    | 13, hq => cases hq; exact h13
    | 14, hq => cases hq; exact h14
    | 15, hq => cases hq; exact h15
    | 16, hq => cases hq; exact h16
    | 17, hq => cases hq; exact h17
    | 18, hq => cases hq; exact h18
    | 19, hq => cases hq; exact h19
    | 20, hq => cases hq; exact h20
    | 21, hq => cases hq; exact h21
    | c + 22, hq => cases hq
  · match c, hq with
    | 0, hq => cases hq; exact ⟨a1, a2⟩
    | 1, hq => cases hq; exact ⟨b1, b2⟩
    | c + 2, hq => cases hq
  · simp only [sxN4, List.mem_cons, List.not_mem_nil, or_false] at hq
    rcases hq with rfl | rfl | rfl | rfl | rfl | rfl | rfl | rfl | rfl | rfl | rfl | rfl | rfl | rfl | rfl | rfl | rfl | rfl
    · exact va_Nw.of rfl (hts (Cond.methodLinkNest RX1 77 yX9_isBorrowKind RX9) (tb2 200 rfl))
    · exact va_Nw.of rfl (hts (Cond.methodLinkNest RX3 41 yX9_loansOf RX9) (tb2 208 rfl))
    · exact va_Nw.of rfl (hts (Cond.methodLinkNest RX3 44 yX9_isIndexOf RX9) (tb2 211 rfl))
    · exact va_Nw.of rfl (hts (Cond.methodLinkNest RX8 71 yX9_isIndexOf RX9) (tb2 225 rfl))
    · exact va_Nw.of rfl (hts (Cond.methodLinkNest RX2 28 yX9_isIndexOf RX9) (tb3 2 rfl))
    · exact va_Nw.of rfl (hts (Cond.methodLinkNest RX0 155 yX9_isIndexOf RX9) (tb3 21 rfl))
    · exact va_Nw.of rfl (hts (Cond.methodLinkNest RX0 214 yX9_meets RX9) (tb3 89 rfl))
    · exact va_Nw.of rfl (hts (Cond.methodLinkNest RX5 65 yX9_isOwned RX9) (tb3 109 rfl))
    · exact va_Nw.of rfl (hts (Cond.methodLinkNest RX5 55 yX9_isBorrowKind RX9) (tb4 88 rfl))
    · exact va_Nw.of rfl (hts (Cond.methodLinkNest RX4 32 yX9_isIndexOf RX9) (tb4 214 rfl))
    · exact va_Nw.of rfl (hts (Cond.methodLinkNest RX6 138 yX9_isIndexOf RX9) (tb5 3 rfl))
    · exact va_Nw.of rfl (hts (Cond.methodLinkNest RX7 25 yX9_isIndexOf RX9) (tb5 40 rfl))
    · exact va_Nw.of rfl (hts (Cond.methodLinkNest RX6 232 yX9_isBorrowKind RX9) (tb5 41 rfl))
    · exact va_Nw.of rfl (hts (Cond.methodLinkNest RX6 208 yX9_isOwned RX9) (tb5 90 rfl))
    · exact va_Nw.of rfl (hts (Cond.methodLinkNest RX5 37 yX9_isIndexOf RX9) (tb5 139 rfl))
    · exact va_Nw.of rfl (hts (Cond.methodLinkNest RX5 68 yX9_isSmall RX9) (tb5 151 rfl))
    · exact va_Nw.of rfl (hts (Cond.methodLinkNest RX5 71 yX9_canBeLent RX9) (tb5 154 rfl))
    · exact va_Nw.of rfl (hts (Cond.methodLinkNest RX5 74 yX9_loansOf RX9) (tb5 163 rfl))
set_option maxHeartbeats 4000000 in
set_option maxRecDepth 100000 in
theorem ps_Nl {b : Nat} {s : State} (hts : ∀ w ∈ lw_tbl, w.before #[Value.ref b] s = true) : ∀ w ∈ pxNl, va_Nw w s := by
  intro w hw
  simp only [pxNl, List.mem_cons, List.not_mem_nil, or_false] at hw
  rcases hw with rfl | rfl | rfl | rfl | rfl | rfl | rfl | rfl | rfl | rfl | rfl | rfl
  · exact va_Nw.of rfl (hts (Cond.methodLinkNest RX16 9 yX14_init RX16) (tb6 40 rfl))
  · exact va_Nw.of rfl (hts (Cond.methodLinkNest RX14 30 yX16_isIn RX16) (tb6 221 rfl))
  · exact va_Nw.of rfl (hts (Cond.fieldLinkNest RJx35411 28 RJx4a65c "size" "I" RJx4a65c) (tb6 60 rfl))
  · exact va_Nw.of rfl (hts (Cond.castable RJ6 "java/lang/Object") (tb10 202 rfl))
  · exact va_Nw.of rfl (hts (Cond.castable RX12 "java/lang/Object") (tb10 218 rfl))
  · exact va_Nw.of rfl (hts (Cond.declares ⟨"java/lang/Object", "getClass", "()Ljava/lang/Class;"⟩) (tb10 228 rfl))
  · exact va_Nw.of rfl (hts (Cond.castable "java/lang/IllegalArgumentException" "java/lang/IllegalArgumentException") (tb3 161 rfl))
  · exact va_Nw.of rfl (hts (Cond.castable "java/lang/IllegalStateException" "java/lang/IllegalStateException") (tb5 121 rfl))
  · exact va_Nw.of rfl (hts (Cond.castable "java/lang/IndexOutOfBoundsException" "java/lang/IndexOutOfBoundsException") (tb4 19 rfl))
  · exact va_Nw.of rfl (hts (Cond.declares ⟨"java/lang/RuntimeException", "<init>", "(Ljava/lang/String;)V"⟩) (tb3 163 rfl))
  · exact va_Nw.of rfl (hts (Cond.declares ⟨"java/lang/Exception", "<init>", "(Ljava/lang/String;)V"⟩) (tb3 165 rfl))
  · exact va_Nw.of rfl (hts (Cond.declares ⟨"java/lang/Throwable", "<init>", "(Ljava/lang/String;)V"⟩) (tb3 167 rfl))
set_option maxHeartbeats 4000000 in
set_option maxRecDepth 100000 in
theorem ps_T {b : Nat} {s : State} (hts : ∀ w ∈ lw_tbl, w.before #[Value.ref b] s = true) : pxT s :=
  ⟨ps_Nl hts, va_AO.of (hts (Cond.arrayOver (.object "java/lang/Object")) (tb6 202 rfl)), va_AO.of (hts (Cond.arrayOver (.object RX10)) (tb8 181 rfl)), va_AO.of (hts (Cond.arrayOver (.object RX13)) (tb8 183 rfl)), (hts (Cond.arrayOver (.array .int)) (tb7 146 rfl)), (hts (Cond.arrayOver (.array .boolean)) (tb7 148 rfl)), (va_Fw.of (hts (Cond.declares yItr_hasNext) (tb7 78 rfl)) (hts (Cond.interfaceMethod yItr_hasNext.cls yItr_hasNext.cls yItr_hasNext.name yItr_hasNext.desc) (tb7 77 rfl)) (hts (Cond.publicMethod yJx35411_hasNext_aae02) (tb7 83 rfl)) (hts (Cond.unhidden RJx35411 yItr_hasNext.name yItr_hasNext.desc) (tb7 81 rfl)) (hts (Cond.castable RJx35411 yItr_hasNext.cls) (tb7 79 rfl))), (va_Fw.of (hts (Cond.declares yCol_toArray) (tb8 166 rfl)) (hts (Cond.interfaceMethod yCol_toArray.cls yCol_toArray.cls yCol_toArray.name yCol_toArray.desc) (tb8 165 rfl)) (hts (Cond.publicMethod yJx4a65c_toArray_d5877) (tb8 171 rfl)) (hts (Cond.unhidden RJx4a65c yCol_toArray.name yCol_toArray.desc) (tb8 169 rfl)) (hts (Cond.castable RJx4a65c yCol_toArray.cls) (tb8 167 rfl)))⟩
theorem ps_A1 {b : Nat} {s : State} (hts : ∀ w ∈ lw_tbl, w.before #[Value.ref b] s = true) : ∃ cA : ClassId, (ArrOfT s cA (.array .int) ∧ va_RA s cA (.array .int)) ∧ px_Co cA (.array .int) "[I" s := by
  have e0 : (FieldType.array .int).toString = "[I" := by decide +kernel
  obtain ⟨comp, cA, kA, h1, -, h2, h3, h4⟩ := arrayOverA_spec (hts (Cond.arrayOver (.array .int)) (tb7 146 rfl))
  exact ⟨cA, ⟨fun n z => ⟨fun k h => (by cases h), kA, h2, comp, h3⟩, h4⟩, kA, comp, h2, h3, e0 ▸ h1⟩
theorem ps_A2 {b : Nat} {s : State} (hts : ∀ w ∈ lw_tbl, w.before #[Value.ref b] s = true) : ∃ cA : ClassId, ArrOfT s cA (.object "java/lang/Object") ∧ va_RA s cA (.object "java/lang/Object") := by
  obtain ⟨comp, cA, kA, h1, -, h2, h3, h4⟩ := Cond.arrayOver_spec (hts (Cond.arrayOver (.object "java/lang/Object")) (tb6 202 rfl))
  exact ⟨cA, fun n z => ⟨fun k h => (by cases h), kA, h2, comp, h3⟩, kA, comp, h2, h3, h1, h4⟩
set_option maxHeartbeats 4000000 in
set_option maxRecDepth 100000 in
theorem ps_S {b : Nat} {s : State} (hts : ∀ w ∈ lw_tbl, w.before #[Value.ref b] s = true) (hs : ∀ w ∈ flatC (Jvm.Cond.and given_1 narrow_1), w.before #[Value.ref b] s = true) : ∃ sa : Nat → Nat, pxS sa s := by
  have key : ∀ q ∈ pxStr, (Cond.stringRef q.1 q.2.1 q.2.2).before #[Value.ref b] s = true ∧ q.1 = RX9 ∧ ∃ a, (Term.string RX9 q.2.1).eval #[Value.ref b] s none [] s = some (.ref a) := by
    intro q hq
    simp only [pxStr, List.mem_cons, List.not_mem_nil, or_false] at hq
    rcases hq with rfl | rfl | rfl | rfl | rfl | rfl | rfl | rfl | rfl | rfl | rfl | rfl | rfl | rfl | rfl | rfl | rfl | rfl
    · obtain ⟨a, c, cell, k, q1, -⟩ := Cond.exactly_spec (hs (.exactly (.string RX9 118) "java/lang/String") (by decide +kernel))
      exact ⟨(hts (Cond.stringRef RX9 118 "no such what") (tb3 200 rfl)), rfl, a, q1⟩
    · obtain ⟨a, c, cell, k, q1, -⟩ := Cond.exactly_spec (hs (.exactly (.string RX9 204) "java/lang/String") (by decide +kernel))
      exact ⟨(hts (Cond.stringRef RX9 204 "no such variable") (tb4 26 rfl)), rfl, a, q1⟩
    · obtain ⟨a, c, cell, k, q1, -⟩ := Cond.exactly_spec (hs (.exactly (.string RX9 103) "java/lang/String") (by decide +kernel))
      exact ⟨(hts (Cond.stringRef RX9 103 "no such line") (tb4 60 rfl)), rfl, a, q1⟩
    · obtain ⟨a, c, cell, k, q1, -⟩ := Cond.exactly_spec (hs (.exactly (.string RX9 143) "java/lang/String") (by decide +kernel))
      exact ⟨(hts (Cond.stringRef RX9 143 "no such line, or place") (tb4 72 rfl)), rfl, a, q1⟩
    · obtain ⟨a, c, cell, k, q1, -⟩ := Cond.exactly_spec (hs (.exactly (.string RX9 152) "java/lang/String") (by decide +kernel))
      exact ⟨(hts (Cond.stringRef RX9 152 "no such line, or borrow") (tb4 93 rfl)), rfl, a, q1⟩
    · obtain ⟨a, c, cell, k, q1, -⟩ := Cond.exactly_spec (hs (.exactly (.string RX9 173) "java/lang/String") (by decide +kernel))
      exact ⟨(hts (Cond.stringRef RX9 173 "no such loan") (tb4 123 rfl)), rfl, a, q1⟩
    · obtain ⟨a, c, cell, k, q1, -⟩ := Cond.exactly_spec (hs (.exactly (.string RX9 196) "java/lang/String") (by decide +kernel))
      exact ⟨(hts (Cond.stringRef RX9 196 "no such fault") (tb4 143 rfl)), rfl, a, q1⟩
    · obtain ⟨a, c, cell, k, q1, -⟩ := Cond.exactly_spec (hs (.exactly (.string RX9 269) "java/lang/String") (by decide +kernel))
      exact ⟨(hts (Cond.stringRef RX9 269 "nothing is kept there") (tb4 170 rfl)), rfl, a, q1⟩
    · obtain ⟨a, c, cell, k, q1, -⟩ := Cond.exactly_spec (hs (.exactly (.string RX9 56) "java/lang/String") (by decide +kernel))
      exact ⟨(hts (Cond.stringRef RX9 56 "no such kind") (tb5 118 rfl)), rfl, a, q1⟩
    · obtain ⟨a, c, cell, k, q1, -⟩ := Cond.exactly_spec (hs (.exactly (.string RX9 66) "java/lang/String") (by decide +kernel))
      exact ⟨(hts (Cond.stringRef RX9 66 "there are 8 variables") (tb5 128 rfl)), rfl, a, q1⟩
    · obtain ⟨a, c, cell, k, q1, -⟩ := Cond.exactly_spec (hs (.exactly (.string RX9 77) "java/lang/String") (by decide +kernel))
      exact ⟨(hts (Cond.stringRef RX9 77 "no such line can be") (tb5 157 rfl)), rfl, a, q1⟩
    · obtain ⟨a, c, cell, k, q1, -⟩ := Cond.exactly_spec (hs (.exactly (.string RX9 82) "java/lang/String") (by decide +kernel))
      exact ⟨(hts (Cond.stringRef RX9 82 "there are 32 lines") (tb5 158 rfl)), rfl, a, q1⟩
    · obtain ⟨a, c, cell, k, q1, -⟩ := Cond.exactly_spec (hs (.exactly (.string RX9 91) "java/lang/String") (by decide +kernel))
      exact ⟨(hts (Cond.stringRef RX9 91 "there are 16 loans") (tb5 165 rfl)), rfl, a, q1⟩
    · obtain ⟨a, c, cell, k, q1, -⟩ := Cond.exactly_spec (hs (.exactly (.string RX9 112) "java/lang/String") (by decide +kernel))
      exact ⟨(hts (Cond.stringRef RX9 112 "there is no line") (tb5 187 rfl)), rfl, a, q1⟩
    · obtain ⟨a, c, cell, k, q1, -⟩ := Cond.exactly_spec (hs (.exactly (.string RX9 224) "java/lang/String") (by decide +kernel))
      exact ⟨(hts (Cond.stringRef RX9 224 "there are faults") (tb5 227 rfl)), rfl, a, q1⟩
    · obtain ⟨a, c, cell, k, q1, -⟩ := Cond.exactly_spec (hs (.exactly (.string RX9 297) "java/lang/String") (by decide +kernel))
      exact ⟨(hts (Cond.stringRef RX9 297 "no such line, or owned place") (tb6 12 rfl)), rfl, a, q1⟩
    · obtain ⟨a, c, cell, k, q1, -⟩ := Cond.exactly_spec (hs (.exactly (.string RX9 306) "java/lang/String") (by decide +kernel))
      exact ⟨(hts (Cond.stringRef RX9 306 "no such line that is a make or write") (tb6 29 rfl)), rfl, a, q1⟩
    · obtain ⟨a, c, cell, k, q1, -⟩ := Cond.exactly_spec (hs (.exactly (.string RX9 311) "java/lang/String") (by decide +kernel))
      exact ⟨(hts (Cond.stringRef RX9 311 "not a number from -99 to 99") (tb6 31 rfl)), rfl, a, q1⟩
  refine ⟨fun n => Classical.epsilon (fun a : Nat => (Term.string RX9 n).eval #[Value.ref b] s none [] s = some (.ref a)), fun q hq => ?_⟩
  obtain ⟨h1, h2, h3⟩ := key q hq
  refine vk_R.of h1 ?_
  rw [h2]
  exact Classical.epsilon_spec h3
set_option maxHeartbeats 4000000 in
set_option maxRecDepth 100000 in
theorem ps_E {b : Nat} {s : State} (hts : ∀ w ∈ lw_tbl, w.before #[Value.ref b] s = true) (hgv : (Jvm.Cond.and given_1 narrow_1).before #[Value.ref b] s = true) : ∃ k : pxC, pxE k (fun q => s.heap.size ≤ q) s s.heap := by
  have hs := flat_of_before _ hgv
  have hA : ∀ a : Nat, a < s.heap.size → ¬ s.heap.size ≤ a := fun a h => Nat.not_le.mpr h
  obtain ⟨t1, e1, hT1⟩ := va_Tof (args := #[Value.ref b]) (tm := (.static "java/util/ArrayList" "DEFAULTCAPACITY_EMPTY_ELEMENTDATA" "[Ljava/lang/Object;")) (ty := .object "java/lang/Object") (N := 0) (f := fun _ => .null) (A := fun q => s.heap.size ≤ q) (by decide) (hs (.arrayOf (.static "java/util/ArrayList" "DEFAULTCAPACITY_EMPTY_ELEMENTDATA" "[Ljava/lang/Object;") (.object "java/lang/Object")) (by decide +kernel)) (va_eqt (hs (.eq (.length (.static "java/util/ArrayList" "DEFAULTCAPACITY_EMPTY_ELEMENTDATA" "[Ljava/lang/Object;")) (.int 0)) (by decide +kernel))) (fun j hj => absurd hj (Nat.not_lt_zero _)) hA
  obtain ⟨ad, hC, hel⟩ := vb_Cof (args := #[Value.ref b]) (A := fun q => s.heap.size ≤ q) (st := (.static "java/lang/Integer$IntegerCache" "cache" "[Ljava/lang/Integer;")) rfl (va_eqt (hs (.eq (.length (.static "java/lang/Integer$IntegerCache" "cache" "[Ljava/lang/Integer;")) (.int 256)) (by decide +kernel))) (hs _ (by decide +kernel)) hA
  obtain ⟨t2, e2, hT2⟩ := va_Tof (args := #[Value.ref b]) (tm := (.static "java/lang/Integer$IntegerCache" "cache" "[Ljava/lang/Integer;")) (ty := .object "java/lang/Integer") (N := 256) (f := fun j => .ref (ad j)) (A := fun q => s.heap.size ≤ q) (by decide) (hs (.arrayOf (.static "java/lang/Integer$IntegerCache" "cache" "[Ljava/lang/Integer;") (.object "java/lang/Integer")) (by decide +kernel)) (va_eqt (hs (.eq (.length (.static "java/lang/Integer$IntegerCache" "cache" "[Ljava/lang/Integer;")) (.int 256)) (by decide +kernel))) hel hA
  obtain ⟨mi, hM⟩ := va_Mi.of (hs (.isRef (.mirror "[Ljava/lang/Object;")) (by decide +kernel))
  obtain ⟨cI, hI, hO⟩ := ps_A1 hts
  obtain ⟨cO, hO2⟩ := ps_A2 hts
  obtain ⟨cL, hL⟩ := ps_arr (ty := .long) (fun C => nofun) (hts (Cond.arrayClass .long) (tb10 190 rfl))
  refine ⟨(t1, t2, ad, mi, cI, cO, cL), ps_T hts, ⟨?_, hT1, ?_, ?_, hT2, hC, hM, ?_, ?_, ?_⟩, ps_S hts hs, hI, hO2, hO, hL⟩
  · exact va_Zof (hts (Cond.laysStatic RJx4a65c "DEFAULTCAPACITY_EMPTY_ELEMENTDATA" "[Ljava/lang/Object;") (tb6 57 rfl)) (hts (Cond.initialized RJx4a65c) (tb1 18 rfl)) e1 hA
  · exact va_Zof (hts (Cond.laysStatic RJxabbfe "high" "I") (tb6 126 rfl)) (hts (Cond.initialized RJxabbfe) (tb1 24 rfl)) (va_eqi (hs (.eq (.static "java/lang/Integer$IntegerCache" "high" "I") (.int 127)) (by decide +kernel))) hA
  · exact va_Zof (hts (Cond.laysStatic RJxabbfe "cache" "[Ljava/lang/Integer;") (tb6 128 rfl)) (hts (Cond.initialized RJxabbfe) (tb1 24 rfl)) e2 hA
  · exact vx_Zqof (hts (Cond.laysStatic Bundle.tN "UNASSIGNED_STACK" Bundle.steD) (tb3 186 rfl)) (hts (Cond.initialized Bundle.tN) (tb1 19 rfl)) (hs (.isRef (.static Bundle.tN "UNASSIGNED_STACK" Bundle.steD)) (by decide +kernel)) hA
  · exact vx_Zqof (hts (Cond.laysStatic Bundle.tN "SUPPRESSED_SENTINEL" Bundle.listD) (tb3 188 rfl)) (hts (Cond.initialized Bundle.tN) (tb1 19 rfl)) (hs (.isRef (.static Bundle.tN "SUPPRESSED_SENTINEL" Bundle.listD)) (by decide +kernel)) hA
  · exact va_Oof (hs (.exactly (.static "java/util/ArrayList" "DEFAULTCAPACITY_EMPTY_ELEMENTDATA" "[Ljava/lang/Object;") "[Ljava/lang/Object;") (by decide +kernel)) e1 hA
