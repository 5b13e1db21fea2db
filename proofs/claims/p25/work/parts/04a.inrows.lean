theorem sx_isLine {pn : Nat} {x : Int32} (c : ¬ s_X5_isLine pn x = 0) : ¬ x < 0 ∧ ¬ nI pn ≤ x := by
  unfold s_X5_isLine at c
  by_cases h1 : x < 0
  · exact absurd (if_pos h1) c
  · by_cases h2 : nI pn ≤ x
    · exact absurd (by rw [if_neg h1, if_pos h2]) c
    · exact ⟨h1, h2⟩
theorem sx_isVariable {pv : Nat} {x : Int32} (c : ¬ s_X5_isVariable pv x = 0) : ¬ x < 0 ∧ ¬ nI pv ≤ x := by
  unfold s_X5_isVariable at c
  by_cases h1 : x < 0
  · exact absurd (if_pos h1) c
  · by_cases h2 : nI pv ≤ x
    · exact absurd (by rw [if_neg h1, if_pos h2]) c
    · exact ⟨h1, h2⟩
theorem sx_in_line {pn : Nat} {x : Int32} (hn : pn ≤ 34) (c : ¬ s_X5_isLine pn x = 0) : vp_in x 34 := sx_in_lt (by decide) ⟨pn, hn, rfl⟩ (sx_isLine c).1 (sx_isLine c).2
theorem sx_in_var {pv : Nat} {x : Int32} (hv : pv ≤ 8) (c : ¬ s_X5_isVariable pv x = 0) : vp_in x 8 := sx_in_lt (by decide) ⟨pv, hv, rfl⟩ (sx_isVariable c).1 (sx_isVariable c).2
theorem sx_in_kind {pv : Nat} {x : Int32} (hv : pv ≤ 8) (h0 : ¬ x < 0) (h1 : x / 3 < nI pv) : vp_in (x / 3) 8 := by
  obtain ⟨i, hi, rfl⟩ := nI_of h0
  have e : nI i / 3 = nI (i / 3) := pk_div (d := 3) hi (by decide) (by decide)
  rw [e] at h1 ⊢
  have := (nI_ltI (by omega) (by omega)).mp h1
  exact vp_in_nI (by omega) (by decide)
theorem sx_isLineOrEnd {pn : Nat} {x : Int32} (c : ¬ s_X5_isLineOrEnd pn x = 0) : ¬ x < 0 ∧ ¬ nI pn < x := by
  unfold s_X5_isLineOrEnd at c
  by_cases h1 : x < 0
  · exact absurd (if_pos h1) c
  · by_cases h2 : nI pn < x
    · exact absurd (by rw [if_neg h1, if_pos h2]) c
    · exact ⟨h1, h2⟩
theorem sx_lineNat {pn : Nat} {j : Nat} (hj : j < 2 ^ 31) (hp : pn < 2 ^ 31) (c : ¬ s_X5_isLine pn (nI j) = 0) : j < pn := by
  have := (not_congr (nI_leI (a := pn) (b := j) hp hj)).mp (sx_isLine c).2
  omega
theorem sx_linePos {pn : Nat} {x : Int32} (hp : pn < 2 ^ 31) (c : ¬ s_X5_isLine pn x = 0) : 1 ≤ pn := by
  obtain ⟨j, hj, rfl⟩ := nI_of (sx_isLine c).1
  have := sx_lineNat hj hp c
  omega
theorem sx_in_ix {n : Nat} {x : Int32} (hn : n < 2 ^ 31) (c : ¬ s_X9_isIndexOf n x = 0) : vp_in x n := by
  unfold s_X9_isIndexOf at c
  by_cases h1 : x < 0
  · exact absurd (if_pos h1) c
  · by_cases h2 : nI n ≤ x
    · exact absurd (by rw [if_neg h1, if_pos h2]) c
    · exact sx_in_lt hn ⟨n, Nat.le_refl n, rfl⟩ h1 h2
theorem sx_ixNat {n j : Nat} (hn : n < 2 ^ 31) (hj : j < 2 ^ 31) (c : ¬ s_X9_isIndexOf n (nI j) = 0) : j < n := by
  have h := sx_in_ix hn c
  rcases Nat.lt_or_ge j n with q | q
  · exact q
  · exact absurd (Or.inr (by rw [nI_clamp hj]; exact q)) h
theorem sx_in_end {pn : Nat} {x : Int32} (hn : pn ≤ 33) (c : ¬ s_X5_isLineOrEnd pn x = 0) : vp_in x 34 := by
  obtain ⟨h1, h2⟩ := sx_isLineOrEnd c
  obtain ⟨j, hj, rfl⟩ := nI_of h1
  have := (not_congr (nI_ltI (a := pn) (b := j) (by omega) hj)).mp h2
  exact vp_in_nI (by omega) (by decide)
theorem sx_endNat {pn j : Nat} (hj : j < 2 ^ 31) (hp : pn < 2 ^ 31) (c : ¬ s_X5_isLineOrEnd pn (nI j) = 0) : j ≤ pn := by
  have := (not_congr (nI_ltI (a := pn) (b := j) hp hj)).mp (sx_isLineOrEnd c).2
  omega
theorem sx_in_held {x y : Int32} (h1 : ¬ x < 0) (h2 : ¬ (34 : Int32) ≤ x) (h3 : ¬ y < 0) (h4 : ¬ (8 : Int32) ≤ y) : vp_in (x * 8 + y) 272 := by
  obtain ⟨i, hi, rfl⟩ := nI_of h1
  obtain ⟨j, hj, rfl⟩ := nI_of h3
  have a := (not_congr (nI_leI (a := 34) (b := i) (by decide) hi)).mp h2
  have b := (not_congr (nI_leI (a := 8) (b := j) (by decide) hj)).mp h4
  rw [show nI i * 8 = nI (i * 8) from pk_mul i 8, nI_add]
  exact vp_in_nI (by omega) (by decide)
