theorem sx_isFault {n : Nat} {x : Int32} (c : ¬ s_X2_isFault n x = 0) : ¬ x < 0 ∧ ¬ nI n ≤ x := by
  unfold s_X2_isFault at c
  by_cases h1 : x < 0
  · exact absurd (if_pos h1) c
  · by_cases h2 : nI n ≤ x
    · exact absurd (by rw [if_neg h1, if_pos h2]) c
    · exact ⟨h1, h2⟩
theorem sx_isLoan {n : Nat} {x : Int32} (c : ¬ s_X3_isLoan n x = 0) : ¬ x < 0 ∧ ¬ nI n ≤ x := by
  unfold s_X3_isLoan at c
  by_cases h1 : x < 0
  · exact absurd (if_pos h1) c
  · by_cases h2 : nI n ≤ x
    · exact absurd (by rw [if_neg h1, if_pos h2]) c
    · exact ⟨h1, h2⟩
theorem sx_isNode {n : Nat} {x : Int32} (c : ¬ s_X4_isNode n x = 0) : ¬ x < 0 ∧ ¬ nI n ≤ x := by
  unfold s_X4_isNode at c
  by_cases h1 : x < 0
  · exact absurd (if_pos h1) c
  · by_cases h2 : nI n ≤ x
    · exact absurd (by rw [if_neg h1, if_pos h2]) c
    · exact ⟨h1, h2⟩
theorem sx_kept {n : Nat} (h : n < 100000) : ∃ j : Nat, j ≤ 60 ∧ s_X7_countKept n = nI j := by
  unfold s_X7_countKept s_mmin
  by_cases h1 : (60 : Int32) < nI n
  · exact ⟨60, Nat.le_refl _, if_pos h1⟩
  · refine ⟨n, ?_, if_neg h1⟩
    have := (not_congr (nI_ltI (a := 60) (b := n) (by decide) (by omega))).mp h1
    omega
theorem sx_in_kept {n : Nat} {x : Int32} (h : n < 100000) (c : ¬ s_X7_isKept n x = 0) : vp_in x 60 := by
  unfold s_X7_isKept at c
  obtain ⟨j, hj, e⟩ := sx_kept h
  by_cases h1 : x < 0
  · exact absurd (if_pos h1) c
  · by_cases h2 : s_X7_countKept n ≤ x
    · exact absurd (by rw [if_neg h1, if_pos h2]) c
    · exact sx_in_lt (by decide) ⟨j, hj, e⟩ h1 h2
