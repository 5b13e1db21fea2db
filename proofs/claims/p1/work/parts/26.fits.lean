/-! a line on an empty program: what the class and the reference take -/
set_option maxRecDepth 100000 in
theorem fr_fits (fk : Nat → Int32) (a b c : Int32) : s_X5_fits 0 fk a b c = s_isLine0 a b c := by
  unfold s_X5_fits s_isLine0
  simp only [fr_kindAt]
  by_cases h0 : a = 0
  · rw [if_pos h0, if_pos h0]
    first | rfl | decide | (simp [s_X9_isOwned, s_X9_canBeLent]; done)
  by_cases h1 : a = 1
  · rw [if_neg h0, if_neg h0, if_pos h1, if_pos h1]
    first | rfl | decide | (simp [s_X9_isOwned, s_X9_canBeLent]; done)
  by_cases h2 : a = 2
  · rw [if_neg h0, if_neg h0, if_neg h1, if_neg h1, if_pos h2, if_pos h2]
    first | rfl | decide | (simp [s_X9_isOwned, s_X9_canBeLent]; done)
  by_cases h3 : a = 3
  · rw [if_neg h0, if_neg h0, if_neg h1, if_neg h1, if_neg h2, if_neg h2, if_pos h3, if_pos h3]
    first | rfl | decide | (simp [s_X9_isOwned, s_X9_canBeLent]; done)
  by_cases h4 : a = 4
  · rw [if_neg h0, if_neg h0, if_neg h1, if_neg h1, if_neg h2, if_neg h2, if_neg h3, if_neg h3, if_pos h4, if_pos h4]
    first | rfl | decide | (simp [s_X9_isOwned, s_X9_canBeLent]; done)
  by_cases h5 : a = 5
  · rw [if_neg h0, if_neg h0, if_neg h1, if_neg h1, if_neg h2, if_neg h2, if_neg h3, if_neg h3, if_neg h4, if_neg h4, if_pos h5, if_pos h5]
    first | rfl | decide | (simp [s_X9_isOwned, s_X9_canBeLent]; done)
  by_cases h6 : a = 6
  · rw [if_neg h0, if_neg h0, if_neg h1, if_neg h1, if_neg h2, if_neg h2, if_neg h3, if_neg h3, if_neg h4, if_neg h4, if_neg h5, if_neg h5, if_pos h6, if_pos h6]
    first | rfl | decide | (simp [s_X9_isOwned, s_X9_canBeLent]; done)
  by_cases h7 : a = 7
  · rw [if_neg h0, if_neg h0, if_neg h1, if_neg h1, if_neg h2, if_neg h2, if_neg h3, if_neg h3, if_neg h4, if_neg h4, if_neg h5, if_neg h5, if_neg h6, if_neg h6, if_pos h7, if_pos h7]
    first | rfl | decide | (simp [s_X9_isOwned, s_X9_canBeLent]; done)
  by_cases h8 : a = 8
  · rw [if_neg h0, if_neg h0, if_neg h1, if_neg h1, if_neg h2, if_neg h2, if_neg h3, if_neg h3, if_neg h4, if_neg h4, if_neg h5, if_neg h5, if_neg h6, if_neg h6, if_neg h7, if_neg h7, if_pos h8, if_pos h8]
    first | rfl | decide | (simp [s_X9_isOwned, s_X9_canBeLent]; done)
  by_cases h9 : a = 9
  · rw [if_neg h0, if_neg h0, if_neg h1, if_neg h1, if_neg h2, if_neg h2, if_neg h3, if_neg h3, if_neg h4, if_neg h4, if_neg h5, if_neg h5, if_neg h6, if_neg h6, if_neg h7, if_neg h7, if_neg h8, if_neg h8, if_pos h9, if_pos h9]
  by_cases h10 : a = 10
  · rw [if_neg h0, if_neg h0, if_neg h1, if_neg h1, if_neg h2, if_neg h2, if_neg h3, if_neg h3, if_neg h4, if_neg h4, if_neg h5, if_neg h5, if_neg h6, if_neg h6, if_neg h7, if_neg h7, if_neg h8, if_neg h8, if_neg h9, if_neg h9, if_pos h10, if_pos h10]
    unfold s_isIn
    by_cases q1 : b < 1
    · rw [if_pos q1, if_pos q1, if_pos rfl]
    · rw [if_neg q1, if_neg q1]
      by_cases q2 : 4 < b
      · rw [if_pos q2, if_pos q2, if_pos rfl]
      · rw [if_neg q2, if_neg q2, if_neg (show ¬ (1 : Int32) = 0 from by decide)]
  by_cases h11 : a = 11
  · rw [if_neg h0, if_neg h0, if_neg h1, if_neg h1, if_neg h2, if_neg h2, if_neg h3, if_neg h3, if_neg h4, if_neg h4, if_neg h5, if_neg h5, if_neg h6, if_neg h6, if_neg h7, if_neg h7, if_neg h8, if_neg h8, if_neg h9, if_neg h9, if_neg h10, if_neg h10, if_pos h11, if_pos h11]
  by_cases h12 : a = 12
  · rw [if_neg h0, if_neg h0, if_neg h1, if_neg h1, if_neg h2, if_neg h2, if_neg h3, if_neg h3, if_neg h4, if_neg h4, if_neg h5, if_neg h5, if_neg h6, if_neg h6, if_neg h7, if_neg h7, if_neg h8, if_neg h8, if_neg h9, if_neg h9, if_neg h10, if_neg h10, if_neg h11, if_neg h11, if_pos h12, if_pos h12]
    first | rfl | decide | (simp [s_X9_isOwned, s_X9_canBeLent]; done)
  by_cases h13 : a = 13
  · rw [if_neg h0, if_neg h0, if_neg h1, if_neg h1, if_neg h2, if_neg h2, if_neg h3, if_neg h3, if_neg h4, if_neg h4, if_neg h5, if_neg h5, if_neg h6, if_neg h6, if_neg h7, if_neg h7, if_neg h8, if_neg h8, if_neg h9, if_neg h9, if_neg h10, if_neg h10, if_neg h11, if_neg h11, if_neg h12, if_neg h12, if_pos h13, if_pos h13]
    first | rfl | decide | (simp [s_X9_isOwned, s_X9_canBeLent]; done)
  by_cases h14 : a = 14
  · rw [if_neg h0, if_neg h0, if_neg h1, if_neg h1, if_neg h2, if_neg h2, if_neg h3, if_neg h3, if_neg h4, if_neg h4, if_neg h5, if_neg h5, if_neg h6, if_neg h6, if_neg h7, if_neg h7, if_neg h8, if_neg h8, if_neg h9, if_neg h9, if_neg h10, if_neg h10, if_neg h11, if_neg h11, if_neg h12, if_neg h12, if_neg h13, if_neg h13, if_pos h14, if_pos h14]
    first | rfl | decide | (simp [s_X9_isOwned, s_X9_canBeLent]; done)
  by_cases h15 : a = 15
  · rw [if_neg h0, if_neg h0, if_neg h1, if_neg h1, if_neg h2, if_neg h2, if_neg h3, if_neg h3, if_neg h4, if_neg h4, if_neg h5, if_neg h5, if_neg h6, if_neg h6, if_neg h7, if_neg h7, if_neg h8, if_neg h8, if_neg h9, if_neg h9, if_neg h10, if_neg h10, if_neg h11, if_neg h11, if_neg h12, if_neg h12, if_neg h13, if_neg h13, if_neg h14, if_neg h14, if_pos h15, if_pos h15]
  by_cases h16 : a = 16
  · rw [if_neg h0, if_neg h0, if_neg h1, if_neg h1, if_neg h2, if_neg h2, if_neg h3, if_neg h3, if_neg h4, if_neg h4, if_neg h5, if_neg h5, if_neg h6, if_neg h6, if_neg h7, if_neg h7, if_neg h8, if_neg h8, if_neg h9, if_neg h9, if_neg h10, if_neg h10, if_neg h11, if_neg h11, if_neg h12, if_neg h12, if_neg h13, if_neg h13, if_neg h14, if_neg h14, if_neg h15, if_neg h15, if_pos h16, if_pos h16]
    first | rfl | decide | (simp [s_X9_isOwned, s_X9_canBeLent]; done)
  rw [if_neg h0, if_neg h0, if_neg h1, if_neg h1, if_neg h2, if_neg h2, if_neg h3, if_neg h3, if_neg h4, if_neg h4, if_neg h5, if_neg h5, if_neg h6, if_neg h6, if_neg h7, if_neg h7, if_neg h8, if_neg h8, if_neg h9, if_neg h9, if_neg h10, if_neg h10, if_neg h11, if_neg h11, if_neg h12, if_neg h12, if_neg h13, if_neg h13, if_neg h14, if_neg h14, if_neg h15, if_neg h15, if_neg h16, if_neg h16]
theorem fr_l3 {a b c : Int32} (h : s_isLine0 a b c = 1) : ¬ a = 3 := by
  rintro rfl
  unfold s_isLine0 at h
  rw [if_neg (show ¬ (3 : Int32) = 0 from by decide), if_neg (show ¬ (3 : Int32) = 1 from by decide), if_neg (show ¬ (3 : Int32) = 2 from by decide), if_pos rfl] at h
  exact absurd h (by decide)
theorem fr_l4 {a b c : Int32} (h : s_isLine0 a b c = 1) : ¬ a = 4 := by
  rintro rfl
  unfold s_isLine0 at h
  rw [if_neg (show ¬ (4 : Int32) = 0 from by decide), if_neg (show ¬ (4 : Int32) = 1 from by decide), if_neg (show ¬ (4 : Int32) = 2 from by decide), if_neg (show ¬ (4 : Int32) = 3 from by decide), if_pos rfl] at h
  exact absurd h (by decide)
theorem it01 {q : Prop} [Decidable q] {x y : Int32} (hx : x = 0 ∨ x = 1) (hy : y = 0 ∨ y = 1) : (if q then x else y) = 0 ∨ (if q then x else y) = 1 := by
  by_cases h : q
  · rw [if_pos h]; exact hx
  · rw [if_neg h]; exact hy
theorem fr_line01 (a b c : Int32) : s_isLine0 a b c = 0 ∨ s_isLine0 a b c = 1 := by
  unfold s_isLine0
  repeat' (first | apply it01 | exact Or.inl rfl | exact Or.inr rfl)
