theorem sx_clear_fc0 (cd : Nat → Int32) : ∀ (k i : Nat) (cr cw ch cl cn : Nat → Int32), (sl_X0_clear_L2 cd k i cr cw ch cl cn).2.2.2.2.2.2.1 = 0 := by
  intro k
  induction k with
  | zero => intro i cr cw ch cl cn; rfl
  | succ k ih =>
    intro i cr cw ch cl cn
    simp only [sl_X0_clear_L2]
    by_cases c1 : (34 : Int32) ≤ nI i
    · rw [if_pos c1]
    · rw [if_neg c1]; exact ih _ _ _ _ _ _
theorem sx_clear_fc (cr cw ch cl cd cn : Nat → Int32) : (s_X0_clear cr cw ch cl cd cn).2.2.2.2.2.2.1 = 0 := sx_clear_fc0 _ _ _ _ _ _ _ _
