/-! what fits, sort by sort -/
theorem qp_if0 {c : Prop} [Decidable c] {x : Int32} (h : ¬ (if c then 0 else x) = 0) : ¬ c ∧ ¬ x = 0 := by
  by_cases q : c
  · rw [if_pos q] at h; exact absurd rfl h
  · rw [if_neg q] at h; exact ⟨q, h⟩
theorem qp_if1 {c : Prop} [Decidable c] {x : Int32} (h : ¬ (if c then x else 0) = 0) : c ∧ ¬ x = 0 := by
  by_cases q : c
  · rw [if_pos q] at h; exact ⟨q, h⟩
  · rw [if_neg q] at h; exact absurd rfl h
theorem qp_if2 {c : Prop} [Decidable c] {x y : Int32} (h : ¬ (if c then x else y) = 0) : (c ∧ ¬ x = 0) ∨ (¬ c ∧ ¬ y = 0) := by
  by_cases q : c
  · rw [if_pos q] at h; exact Or.inl ⟨q, h⟩
  · rw [if_neg q] at h; exact Or.inr ⟨q, h⟩
theorem qp_fit {pv : Nat} {fk : Nat → Int32} {s a b : Int32} (h : qp_F pv fk s a b) : qp_Fc pv fk s a b := by
  unfold qp_F s_X5_fits at h
  unfold qp_Fc
  rcases qp_if2 h with ⟨c, h⟩ | ⟨-, h⟩
  · obtain ⟨h1, h⟩ := qp_if0 h
    obtain ⟨h2, -⟩ := qp_if1 h
    exact Or.inl (⟨c, h1, fun z => qp_bor.mpr z h2⟩)
  rcases qp_if2 h with ⟨c, h⟩ | ⟨-, h⟩
  · obtain ⟨h1, h⟩ := qp_if1 h
    have h2 : s_X5_kindAt pv fk a = 1 ∨ s_X5_kindAt pv fk a = 2 ∨ s_X5_kindAt pv fk a = 5 ∨ s_X5_kindAt pv fk a = 4 := by
      rcases qp_if2 h with ⟨-, h⟩ | ⟨h2, -⟩
      · exact Or.inr (Or.inr (Or.inr (qp_if1 h).1))
      · rcases qp_own.mp h2 with z | z | z
        · exact Or.inl z
        · exact Or.inr (Or.inl z)
        · exact Or.inr (Or.inr (Or.inl z))
    exact Or.inr (Or.inl (⟨c, h1, h2⟩))
  rcases qp_if2 h with ⟨c, h⟩ | ⟨-, h⟩
  · obtain ⟨h1, h⟩ := qp_if1 h
    have h2 : s_X5_kindAt pv fk a = 0 ∨ s_X5_kindAt pv fk a = 3 ∨ s_X5_kindAt pv fk a = 5 := by
      rcases qp_if2 h with ⟨z, -⟩ | ⟨-, h⟩
      · exact Or.inl z
      · rcases qp_if2 h with ⟨z, -⟩ | ⟨-, h⟩
        · exact Or.inr (Or.inl z)
        · exact Or.inr (Or.inr (qp_if1 h).1)
    exact Or.inr (Or.inr (Or.inl (⟨c, h1, h2⟩)))
  rcases qp_if2 h with ⟨c, h⟩ | ⟨-, h⟩
  · obtain ⟨h1, h⟩ := qp_if1 h
    obtain ⟨h2, -⟩ := qp_if0 h
    exact Or.inr (Or.inr (Or.inr (Or.inl (⟨c, h1, qp_lent.mp h2⟩))))
  rcases qp_if2 h with ⟨c, h⟩ | ⟨-, h⟩
  · obtain ⟨h1, h⟩ := qp_if1 h
    obtain ⟨h2, -⟩ := qp_if0 h
    exact Or.inr (Or.inr (Or.inr (Or.inr (Or.inl (⟨c, h1, qp_lent.mp h2⟩)))))
  rcases qp_if2 h with ⟨c, h⟩ | ⟨-, h⟩
  · exact Or.inr (Or.inr (Or.inr (Or.inr (Or.inr (Or.inl (⟨c, (qp_if0 h).1⟩))))))
  rcases qp_if2 h with ⟨c, h⟩ | ⟨-, h⟩
  · obtain ⟨h1, h⟩ := qp_if0 h
    obtain ⟨h2, h⟩ := qp_if0 h
    exact Or.inr (Or.inr (Or.inr (Or.inr (Or.inr (Or.inr (Or.inl (⟨c, h1, h2, (qp_if0 h).1⟩)))))))
  rcases qp_if2 h with ⟨c, h⟩ | ⟨-, h⟩
  · exact Or.inr (Or.inr (Or.inr (Or.inr (Or.inr (Or.inr (Or.inr (Or.inl (⟨c, qp_own.mp (qp_if0 h).1⟩))))))))
  rcases qp_if2 h with ⟨c, h⟩ | ⟨-, h⟩
  · exact Or.inr (Or.inr (Or.inr (Or.inr (Or.inr (Or.inr (Or.inr (Or.inr (Or.inl (⟨c, (qp_if1 h).1⟩)))))))))
  rcases qp_if2 h with ⟨c, h⟩ | ⟨-, h⟩
  · exact Or.inr (Or.inr (Or.inr (Or.inr (Or.inr (Or.inr (Or.inr (Or.inr (Or.inr (Or.inl (⟨c, (qp_if1 h).1⟩))))))))))
  rcases qp_if2 h with ⟨c, h⟩ | ⟨-, h⟩
  · obtain ⟨h1, h⟩ := qp_if0 h
    obtain ⟨h2, -⟩ := qp_if0 h
    exact Or.inr (Or.inr (Or.inr (Or.inr (Or.inr (Or.inr (Or.inr (Or.inr (Or.inr (Or.inr (Or.inl (⟨c, Int32.not_lt.mp h1, Int32.not_lt.mp h2⟩)))))))))))
  rcases qp_if2 h with ⟨c, h⟩ | ⟨-, h⟩
  · exact Or.inr (Or.inr (Or.inr (Or.inr (Or.inr (Or.inr (Or.inr (Or.inr (Or.inr (Or.inr (Or.inr (Or.inl (⟨c, (qp_if1 h).1⟩))))))))))))
  rcases qp_if2 h with ⟨c, h⟩ | ⟨-, h⟩
  · obtain ⟨h1, h⟩ := qp_if1 h
    exact Or.inr (Or.inr (Or.inr (Or.inr (Or.inr (Or.inr (Or.inr (Or.inr (Or.inr (Or.inr (Or.inr (Or.inr (Or.inl (⟨c, h1, (qp_if1 h).1⟩)))))))))))))
  rcases qp_if2 h with ⟨c, h⟩ | ⟨-, h⟩
  · exact Or.inr (Or.inr (Or.inr (Or.inr (Or.inr (Or.inr (Or.inr (Or.inr (Or.inr (Or.inr (Or.inr (Or.inr (Or.inr (Or.inl (⟨c, (qp_if1 h).1⟩))))))))))))))
  rcases qp_if2 h with ⟨c, h⟩ | ⟨-, h⟩
  · exact Or.inr (Or.inr (Or.inr (Or.inr (Or.inr (Or.inr (Or.inr (Or.inr (Or.inr (Or.inr (Or.inr (Or.inr (Or.inr (Or.inr (Or.inl (⟨c, (qp_if1 h).1⟩)))))))))))))))
  rcases qp_if2 h with ⟨c, h⟩ | ⟨-, h⟩
  · exact Or.inr (Or.inr (Or.inr (Or.inr (Or.inr (Or.inr (Or.inr (Or.inr (Or.inr (Or.inr (Or.inr (Or.inr (Or.inr (Or.inr (Or.inr (Or.inl (⟨c, (qp_if1 h).1⟩))))))))))))))))
  obtain ⟨c, h⟩ := qp_if1 h
  exact Or.inr (Or.inr (Or.inr (Or.inr (Or.inr (Or.inr (Or.inr (Or.inr (Or.inr (Or.inr (Or.inr (Or.inr (Or.inr (Or.inr (Or.inr (Or.inr (⟨c, (qp_if1 h).1⟩))))))))))))))))
