/-! what the class's functions are at a new object -/
theorem fr_isLine (x : Int32) : s_X5_isLine 0 x = 0 := by
  unfold s_X5_isLine
  by_cases h : x < 0
  · rw [if_pos h]
  · rw [if_neg h, if_pos (show nI 0 ≤ x from Int32.not_lt.mp h)]
theorem fr_isVariable (x : Int32) : s_X5_isVariable 0 x = 0 := fr_isLine x
theorem fr_isLoan (x : Int32) : s_X3_isLoan 0 x = 0 := fr_isLine x
theorem fr_isFault (x : Int32) : s_X2_isFault 0 x = 0 := fr_isLine x
theorem fr_isKept (x : Int32) : s_X7_isKept 0 x = 0 := by
  unfold s_X7_isKept
  by_cases h : x < 0
  · rw [if_pos h]
  · rw [if_neg h, if_pos (show s_X7_countKept 0 ≤ x from Int32.not_lt.mp h)]
theorem fr_isBorrow (fk : Nat → Int32) (x : Int32) : s_X5_isBorrow 0 fk x = 0 := by
  unfold s_X5_isBorrow
  rw [fr_isVariable, if_pos rfl]
theorem fr_kindAt (fk : Nat → Int32) (x : Int32) : s_X5_kindAt 0 fk x = (-1) := by
  unfold s_X5_kindAt
  by_cases h : x < 0
  · rw [if_pos h]
  · obtain ⟨j, hj, rfl⟩ := nI_of h
    have e : nI j / 3 = nI (j / 3) := pk_div (d := 3) hj (by decide) (by decide)
    rw [if_neg h, e, if_neg (show ¬ nI (j / 3) < nI 0 from nI_pos (n := j / 3) (by omega))]
theorem fr_sortAt (fs : Nat → Int32) (x : Int32) : s_X5_sortAt 0 fs x = (-1) := by
  unfold s_X5_sortAt
  rw [fr_isLine, if_pos rfl]
theorem fr_isOwned : s_X9_isOwned (-1) = 0 := by decide
theorem fr_isIn01 (a b c : Int32) : s_isIn a b c = 0 ∨ s_isIn a b c = 1 := by
  unfold s_isIn
  by_cases h : a < b
  · exact Or.inl (if_pos h)
  · rw [if_neg h]
    by_cases h2 : c < a
    · exact Or.inl (if_pos h2)
    · exact Or.inr (if_neg h2)
theorem fr_isInT {a b c : Int32} (h : s_isIn a b c = 1) : ¬ a < b ∧ a ≤ c := by
  unfold s_isIn at h
  by_cases h1 : a < b
  · rw [if_pos h1] at h; exact absurd h (by decide)
  · rw [if_neg h1] at h
    by_cases h2 : c < a
    · rw [if_pos h2] at h; exact absurd h (by decide)
    · exact ⟨h1, Int32.not_lt.mp h2⟩
theorem fr_isInF {a b c : Int32} (h : s_isIn a b c = 0) (h1 : ¬ a < b) (h2 : a ≤ c) : False := by
  unfold s_isIn at h
  rw [if_neg h1, if_neg (Int32.not_lt.mpr h2)] at h
  exact absurd h (by decide)
