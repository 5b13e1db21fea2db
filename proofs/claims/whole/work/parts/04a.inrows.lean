theorem sx_isLine {pn : Nat} {x : Int32} (c : ¬ s_X5_isLine pn x = 0) : ¬ x < 0 ∧ ¬ nI pn ≤ x := by
  unfold s_X5_isLine at c
  by_cases h1 : x < 0
  · exact absurd (if_pos h1) c
  · by_cases h2 : nI pn ≤ x
    · exact absurd (by rw [if_neg h1, if_pos h2]) c
    · exact ⟨h1, h2⟩
theorem sx_isVariable {pv : Nat} {x : Int32} (c : ¬ s_X5_isVariable pv x = 0) : ¬ x < 0 ∧ ¬ nI pv ≤ x := by
  unfold s_X5_isVariable at c
  by_cases h1 : x < 0
  · exact absurd (if_pos h1) c
  · by_cases h2 : nI pv ≤ x
    · exact absurd (by rw [if_neg h1, if_pos h2]) c
    · exact ⟨h1, h2⟩
theorem sx_in_line {pn : Nat} {x : Int32} (hn : pn ≤ 34) (c : ¬ s_X5_isLine pn x = 0) : vp_in x 34 := sx_in_lt (by decide) ⟨pn, hn, rfl⟩ (sx_isLine c).1 (sx_isLine c).2
theorem sx_in_var {pv : Nat} {x : Int32} (hv : pv ≤ 8) (c : ¬ s_X5_isVariable pv x = 0) : vp_in x 8 := sx_in_lt (by decide) ⟨pv, hv, rfl⟩ (sx_isVariable c).1 (sx_isVariable c).2
theorem sx_in_kind {pv : Nat} {x : Int32} (hv : pv ≤ 8) (h0 : ¬ x < 0) (h1 : x / 3 < nI pv) : vp_in (x / 3) 8 := by
  obtain ⟨i, hi, rfl⟩ := nI_of h0
  have e : nI i / 3 = nI (i / 3) := pk_div (d := 3) hi (by decide) (by decide)
  rw [e] at h1 ⊢
  have := (nI_ltI (by omega) (by omega)).mp h1
  exact vp_in_nI (by omega) (by decide)
