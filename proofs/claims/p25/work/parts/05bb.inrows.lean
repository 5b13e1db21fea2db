theorem sx_isFault {n : Nat} {x : Int32} (c : ¬ s_X2_isFault n x = 0) : ¬ x < 0 ∧ ¬ nI n ≤ x := by
  unfold s_X2_isFault at c
  by_cases h1 : x < 0
  · exact absurd (if_pos h1) c
  · by_cases h2 : nI n ≤ x
    · exact absurd (by rw [if_neg h1, if_pos h2]) c
    · exact ⟨h1, h2⟩
theorem sx_isLoan {n : Nat} {x : Int32} (c : ¬ s_X3_isLoan n x = 0) : ¬ x < 0 ∧ ¬ nI n ≤ x := by
  unfold s_X3_isLoan at c
  by_cases h1 : x < 0
  · exact absurd (if_pos h1) c
  · by_cases h2 : nI n ≤ x
    · exact absurd (by rw [if_neg h1, if_pos h2]) c
    · exact ⟨h1, h2⟩
theorem sx_isNode {n : Nat} {x : Int32} (c : ¬ s_X4_isNode n x = 0) : ¬ x < 0 ∧ ¬ nI n ≤ x := by
  unfold s_X4_isNode at c
  by_cases h1 : x < 0
  · exact absurd (if_pos h1) c
  · by_cases h2 : nI n ≤ x
    · exact absurd (by rw [if_neg h1, if_pos h2]) c
    · exact ⟨h1, h2⟩
theorem sx_in_kept {n : Int32} {x : Int32} (c : ¬ s_X7_isKept n x = 0) : vp_in x 60 := by
  unfold s_X7_isKept at c
  by_cases h1 : x < 0
  · exact absurd (if_pos h1) c
  · by_cases h2 : s_X7_countKept n ≤ x
    · exact absurd (by rw [if_neg h1, if_pos h2]) c
    · refine sx_in_lt (n := 60) (by decide) ⟨60, Nat.le_refl _, rfl⟩ h1 (fun q => h2 ?_)
      unfold s_X7_countKept s_mmin
      by_cases h3 : (60 : Int32) < n
      · rw [if_pos h3]; exact q
      · rw [if_neg h3]; exact Int32.le_trans (Int32.not_lt.mp h3) q
