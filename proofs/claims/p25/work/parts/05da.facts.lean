theorem sx_addFault_le (fc : Nat) (xn xl xp xo : Nat → Int32) (p1 p2 p3 p4 : Int32) (h : fc ≤ 34) : (s_X2_addFault fc xn xl xp xo p1 p2 p3 p4).2.2.2.2 ≤ 34 := by
  unfold s_X2_addFault
  by_cases c : s_X9_isIndexOf 34 (nI fc) = 0
  · rw [if_pos c]; exact h
  · rw [if_neg c]
    have := sx_ixNat (by decide) (by omega) c
    show fc + 1 ≤ 34
    omega
theorem sx_look_lc0 (pn : Nat) (fs fb : Nat → Int32) : ∀ (k i : Nat) (yl yp ye yo : Nat → Int32) (lc : Nat), lc ≤ 16 → (sl_X3_look_L7 pn fs fb k i yl yp ye yo lc).2.2.2.2 ≤ 16 := by
  intro k
  induction k with
  | zero => intro i yl yp ye yo lc h; exact Nat.zero_le _
  | succ k ih =>
    intro i yl yp ye yo lc h
    simp only [sl_X3_look_L7]
    by_cases c1 : nI pn ≤ nI i
    · rw [if_pos c1]; exact h
    · rw [if_neg c1]
      by_cases c2 : s_X9_loansOf (s_X5_sortAt pn fs (nI i)) = 1
      · rw [if_pos c2]
        by_cases c3 : s_X9_isIndexOf 16 (nI lc) = 0
        · rw [if_pos c3]; exact ih _ _ _ _ _ _ h
        · rw [if_neg c3]
          have := sx_ixNat (by decide) (by omega) c3
          by_cases c4 : s_X5_sortAt pn fs (nI i) = 4
          · rw [if_pos c4]; exact ih _ _ _ _ _ _ (by omega)
          · rw [if_neg c4]; exact ih _ _ _ _ _ _ (by omega)
      · rw [if_neg c2]; exact ih _ _ _ _ _ _ h
theorem sx_look_lc (yl yp ye yo : Nat → Int32) (pn : Nat) (fs fb : Nat → Int32) : (s_X3_look yl yp ye yo pn fs fb).2.2.2.2 ≤ 16 := sx_look_lc0 _ _ _ _ _ _ _ _ _ _ (Nat.zero_le _)
