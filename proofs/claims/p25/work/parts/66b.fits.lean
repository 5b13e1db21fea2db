/-! WHAT FITS, sort by sort -/
section
variable {fk : Nat → Int32} {a b kA kB : Int32}
theorem lf0 (hA : s_X5_kindAt 8 fk a = kA) (h : kA = 0 ∨ kA = 1 ∨ kA = 2 ∨ kA = 5) (hs : ¬ s_X9_isSmall b = 0) : qp_F 8 fk 0 a b := by
  unfold qp_F s_X5_fits
  rcases h with h | h | h | h
  · subst h
    rw [if_pos rfl, hA, if_neg (by decide), if_pos (by decide), if_neg hs]
    decide
  · subst h
    rw [if_pos rfl, hA, if_neg (by decide), if_pos (by decide), if_neg hs]
    decide
  · subst h
    rw [if_pos rfl, hA, if_neg (by decide), if_pos (by decide), if_neg hs]
    decide
  · subst h
    rw [if_pos rfl, hA, if_neg (by decide), if_pos (by decide), if_neg hs]
    decide
theorem lf1 (hA : s_X5_kindAt 8 fk a = kA) (hB : s_X5_kindAt 8 fk b = kA) (h : kA = 1 ∨ kA = 2 ∨ kA = 5 ∨ kA = 4) : qp_F 8 fk 1 a b := by
  unfold qp_F s_X5_fits
  rcases h with h | h | h | h
  · subst h
    rw [if_neg (by decide), if_pos rfl, hA, hB, if_pos rfl, if_neg (by decide)]
    decide
  · subst h
    rw [if_neg (by decide), if_pos rfl, hA, hB, if_pos rfl, if_neg (by decide)]
    decide
  · subst h
    rw [if_neg (by decide), if_pos rfl, hA, hB, if_pos rfl, if_neg (by decide)]
    decide
  · subst h
    rw [if_neg (by decide), if_pos rfl, hA, hB, if_pos rfl, if_pos (by decide), if_pos rfl]
    decide
theorem lf2 (hA : s_X5_kindAt 8 fk a = kA) (hB : s_X5_kindAt 8 fk b = kA) (h : kA = 0 ∨ kA = 3 ∨ kA = 5) : qp_F 8 fk 2 a b := by
  unfold qp_F s_X5_fits
  rcases h with h | h | h
  · subst h
    rw [if_neg (by decide), if_neg (by decide), if_pos rfl, hA, hB, if_pos rfl, if_pos rfl]
    decide
  · subst h
    rw [if_neg (by decide), if_neg (by decide), if_pos rfl, hA, hB, if_pos rfl, if_neg (by decide), if_pos rfl]
    decide
  · subst h
    rw [if_neg (by decide), if_neg (by decide), if_pos rfl, hA, hB, if_pos rfl, if_neg (by decide), if_neg (by decide), if_pos rfl]
    decide
theorem lf3 (hA : s_X5_kindAt 8 fk a = 3) (hB : s_X5_kindAt 8 fk b = kB) (h : kB = 0 ∨ kB = 1 ∨ kB = 2) : qp_F 8 fk 3 a b := by
  unfold qp_F s_X5_fits
  rcases h with h | h | h
  · subst h
    rw [if_neg (by decide), if_neg (by decide), if_neg (by decide), if_pos rfl, hA, if_pos rfl, hB, if_neg (by decide)]
    decide
  · subst h
    rw [if_neg (by decide), if_neg (by decide), if_neg (by decide), if_pos rfl, hA, if_pos rfl, hB, if_neg (by decide)]
    decide
  · subst h
    rw [if_neg (by decide), if_neg (by decide), if_neg (by decide), if_pos rfl, hA, if_pos rfl, hB, if_neg (by decide)]
    decide
theorem lf4 (hA : s_X5_kindAt 8 fk a = 4) (hB : s_X5_kindAt 8 fk b = kB) (h : kB = 0 ∨ kB = 1 ∨ kB = 2) : qp_F 8 fk 4 a b := by
  unfold qp_F s_X5_fits
  rcases h with h | h | h
  · subst h
    rw [if_neg (by decide), if_neg (by decide), if_neg (by decide), if_neg (by decide), if_pos rfl, hA, if_pos rfl, hB, if_neg (by decide)]
    decide
  · subst h
    rw [if_neg (by decide), if_neg (by decide), if_neg (by decide), if_neg (by decide), if_pos rfl, hA, if_pos rfl, hB, if_neg (by decide)]
    decide
  · subst h
    rw [if_neg (by decide), if_neg (by decide), if_neg (by decide), if_neg (by decide), if_pos rfl, hA, if_pos rfl, hB, if_neg (by decide)]
    decide
theorem lf5 (hA : s_X5_kindAt 8 fk a = kA) (h : kA = 0 ∨ kA = 1 ∨ kA = 2 ∨ kA = 3 ∨ kA = 4 ∨ kA = 5) : qp_F 8 fk 5 a 0 := by
  unfold qp_F s_X5_fits
  rcases h with h | h | h | h | h | h
  · subst h
    rw [if_neg (by decide), if_neg (by decide), if_neg (by decide), if_neg (by decide), if_neg (by decide), if_pos rfl, hA, if_neg (by decide), if_pos rfl]
    decide
  · subst h
    rw [if_neg (by decide), if_neg (by decide), if_neg (by decide), if_neg (by decide), if_neg (by decide), if_pos rfl, hA, if_neg (by decide), if_pos rfl]
    decide
  · subst h
    rw [if_neg (by decide), if_neg (by decide), if_neg (by decide), if_neg (by decide), if_neg (by decide), if_pos rfl, hA, if_neg (by decide), if_pos rfl]
    decide
  · subst h
    rw [if_neg (by decide), if_neg (by decide), if_neg (by decide), if_neg (by decide), if_neg (by decide), if_pos rfl, hA, if_neg (by decide), if_pos rfl]
    decide
  · subst h
    rw [if_neg (by decide), if_neg (by decide), if_neg (by decide), if_neg (by decide), if_neg (by decide), if_pos rfl, hA, if_neg (by decide), if_pos rfl]
    decide
  · subst h
    rw [if_neg (by decide), if_neg (by decide), if_neg (by decide), if_neg (by decide), if_neg (by decide), if_pos rfl, hA, if_neg (by decide), if_pos rfl]
    decide
theorem lf6 (hA : s_X5_kindAt 8 fk a = kA) (h : kA = 0 ∨ kA = 1 ∨ kA = 4) (hs : ¬ s_X9_isSmall b = 0) : qp_F 8 fk 6 a b := by
  unfold qp_F s_X5_fits
  rcases h with h | h | h
  · subst h
    rw [if_neg (by decide), if_neg (by decide), if_neg (by decide), if_neg (by decide), if_neg (by decide), if_neg (by decide), if_pos rfl, hA, if_neg (by decide), if_neg (by decide), if_neg (by decide), if_neg hs]
    decide
  · subst h
    rw [if_neg (by decide), if_neg (by decide), if_neg (by decide), if_neg (by decide), if_neg (by decide), if_neg (by decide), if_pos rfl, hA, if_neg (by decide), if_neg (by decide), if_neg (by decide), if_neg hs]
    decide
  · subst h
    rw [if_neg (by decide), if_neg (by decide), if_neg (by decide), if_neg (by decide), if_neg (by decide), if_neg (by decide), if_pos rfl, hA, if_neg (by decide), if_neg (by decide), if_neg (by decide), if_neg hs]
    decide
theorem lf7 (hA : s_X5_kindAt 8 fk a = kA) (h : kA = 1 ∨ kA = 2 ∨ kA = 5) : qp_F 8 fk 7 a 0 := by
  unfold qp_F s_X5_fits
  rcases h with h | h | h
  · subst h
    rw [if_neg (by decide), if_neg (by decide), if_neg (by decide), if_neg (by decide), if_neg (by decide), if_neg (by decide), if_neg (by decide), if_pos rfl, hA, if_neg (by decide), if_pos rfl]
    decide
  · subst h
    rw [if_neg (by decide), if_neg (by decide), if_neg (by decide), if_neg (by decide), if_neg (by decide), if_neg (by decide), if_neg (by decide), if_pos rfl, hA, if_neg (by decide), if_pos rfl]
    decide
  · subst h
    rw [if_neg (by decide), if_neg (by decide), if_neg (by decide), if_neg (by decide), if_neg (by decide), if_neg (by decide), if_neg (by decide), if_pos rfl, hA, if_neg (by decide), if_pos rfl]
    decide
theorem lf8 (hA : s_X5_kindAt 8 fk a = 0) : qp_F 8 fk 8 a 0 := by
  unfold qp_F s_X5_fits
  rw [if_neg (by decide), if_neg (by decide), if_neg (by decide), if_neg (by decide), if_neg (by decide), if_neg (by decide), if_neg (by decide), if_neg (by decide), if_pos rfl, hA, if_pos rfl, if_pos rfl]
  decide
theorem lf9  : qp_F 8 fk 9 0 0 := by
  unfold qp_F s_X5_fits
  rw [if_neg (by decide), if_neg (by decide), if_neg (by decide), if_neg (by decide), if_neg (by decide), if_neg (by decide), if_neg (by decide), if_neg (by decide), if_neg (by decide), if_pos rfl, if_pos rfl, if_pos rfl]
  decide
theorem lf10 {t : Nat} (h1 : 1 ≤ t) (h4 : t ≤ 4) : qp_F 8 fk 10 (nI t) 0 := by
  have h : t = 1 ∨ t = 2 ∨ t = 3 ∨ t = 4 := by omega
  unfold qp_F s_X5_fits
  rcases h with h | h | h | h
  · subst h
    rw [if_neg (by decide), if_neg (by decide), if_neg (by decide), if_neg (by decide), if_neg (by decide), if_neg (by decide), if_neg (by decide), if_neg (by decide), if_neg (by decide), if_neg (by decide), if_pos rfl, if_neg (by decide), if_neg (by decide), if_pos rfl]
    decide
  · subst h
    rw [if_neg (by decide), if_neg (by decide), if_neg (by decide), if_neg (by decide), if_neg (by decide), if_neg (by decide), if_neg (by decide), if_neg (by decide), if_neg (by decide), if_neg (by decide), if_pos rfl, if_neg (by decide), if_neg (by decide), if_pos rfl]
    decide
  · subst h
    rw [if_neg (by decide), if_neg (by decide), if_neg (by decide), if_neg (by decide), if_neg (by decide), if_neg (by decide), if_neg (by decide), if_neg (by decide), if_neg (by decide), if_neg (by decide), if_pos rfl, if_neg (by decide), if_neg (by decide), if_pos rfl]
    decide
  · subst h
    rw [if_neg (by decide), if_neg (by decide), if_neg (by decide), if_neg (by decide), if_neg (by decide), if_neg (by decide), if_neg (by decide), if_neg (by decide), if_neg (by decide), if_neg (by decide), if_pos rfl, if_neg (by decide), if_neg (by decide), if_pos rfl]
    decide
theorem lf11  : qp_F 8 fk 11 0 0 := by
  unfold qp_F s_X5_fits
  rw [if_neg (by decide), if_neg (by decide), if_neg (by decide), if_neg (by decide), if_neg (by decide), if_neg (by decide), if_neg (by decide), if_neg (by decide), if_neg (by decide), if_neg (by decide), if_neg (by decide), if_pos rfl, if_pos rfl, if_pos rfl]
  decide
theorem lf12 (hA : s_X5_kindAt 8 fk a = 5) (hB : s_X5_kindAt 8 fk b = 5) : qp_F 8 fk 12 a b := by
  unfold qp_F s_X5_fits
  rw [if_neg (by decide), if_neg (by decide), if_neg (by decide), if_neg (by decide), if_neg (by decide), if_neg (by decide), if_neg (by decide), if_neg (by decide), if_neg (by decide), if_neg (by decide), if_neg (by decide), if_neg (by decide), if_pos rfl, hA, if_pos rfl, hB, if_pos rfl]
  decide
theorem lf13 (hA : s_X5_kindAt 8 fk a = 5) : qp_F 8 fk 13 a 0 := by
  unfold qp_F s_X5_fits
  rw [if_neg (by decide), if_neg (by decide), if_neg (by decide), if_neg (by decide), if_neg (by decide), if_neg (by decide), if_neg (by decide), if_neg (by decide), if_neg (by decide), if_neg (by decide), if_neg (by decide), if_neg (by decide), if_neg (by decide), if_pos rfl, hA, if_pos rfl, if_pos rfl]
  decide
theorem lf14 (hA : s_X5_kindAt 8 fk a = 5) : qp_F 8 fk 14 a 0 := by
  unfold qp_F s_X5_fits
  rw [if_neg (by decide), if_neg (by decide), if_neg (by decide), if_neg (by decide), if_neg (by decide), if_neg (by decide), if_neg (by decide), if_neg (by decide), if_neg (by decide), if_neg (by decide), if_neg (by decide), if_neg (by decide), if_neg (by decide), if_neg (by decide), if_pos rfl, hA, if_pos rfl, if_pos rfl]
  decide
theorem lf15  : qp_F 8 fk 15 0 0 := by
  unfold qp_F s_X5_fits
  rw [if_neg (by decide), if_neg (by decide), if_neg (by decide), if_neg (by decide), if_neg (by decide), if_neg (by decide), if_neg (by decide), if_neg (by decide), if_neg (by decide), if_neg (by decide), if_neg (by decide), if_neg (by decide), if_neg (by decide), if_neg (by decide), if_neg (by decide), if_pos rfl, if_pos rfl, if_pos rfl]
  decide
theorem lf16 (hA : s_X5_kindAt 8 fk a = 0) (hs : ¬ s_X9_isSmall b = 0) : qp_F 8 fk 16 a b := by
  unfold qp_F s_X5_fits
  rw [if_neg (by decide), if_neg (by decide), if_neg (by decide), if_neg (by decide), if_neg (by decide), if_neg (by decide), if_neg (by decide), if_neg (by decide), if_neg (by decide), if_neg (by decide), if_neg (by decide), if_neg (by decide), if_neg (by decide), if_neg (by decide), if_neg (by decide), if_neg (by decide), if_pos rfl, hA, if_pos rfl, if_neg hs]
  decide
end
