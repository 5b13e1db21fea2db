theorem sl_rem_le (pn : Nat) (h : pn ≤ 33) : ∀ (k i : Nat) (fs fa fb : Nat → Int32), (sl_X5_removeLine_L21 pn k i fs fa fb).2.2.2 ≤ 33 := by
  intro k
  induction k with
  | zero => intro i fs fa fb; exact Nat.zero_le _
  | succ k ih =>
    intro i fs fa fb
    unfold sl_X5_removeLine_L21
    split
    · exact Nat.le_trans (Nat.sub_le _ _) h
    · exact ih _ _ _ _
theorem b_X5_removeLine_3 (pn : Nat) (fs fa fb : Nat → Int32) (p1 : Int32) (h : pn ≤ 33) : (s_X5_removeLine pn fs fa fb p1).2.2.2 ≤ 33 := by
  unfold s_X5_removeLine
  split
  · exact h
  · exact sl_rem_le pn h _ _ _ _ _
theorem sl_ins_le (pn : Nat) (p1 p2 p3 p4 : Int32) (h : pn ≤ 32) : ∀ (k i : Nat) (fs fa fb : Nat → Int32), (sl_X5_insertLine_L24 pn p1 p2 p3 p4 k i fs fa fb).2.2.2 ≤ 33 := by
  intro k
  induction k with
  | zero => intro i fs fa fb; exact Nat.zero_le _
  | succ k ih =>
    intro i fs fa fb
    unfold sl_X5_insertLine_L24
    split
    · exact Nat.succ_le_succ h
    · exact ih _ _ _ _
theorem b_X5_insertLine_3 (pn : Nat) (fs fa fb : Nat → Int32) (p1 p2 p3 p4 : Int32) (h : pn ≤ 32) : (s_X5_insertLine pn fs fa fb p1 p2 p3 p4).2.2.2 ≤ 33 := by
  unfold s_X5_insertLine
  split
  · exact Nat.le_succ_of_le h
  · split
    · exact sl_ins_le pn p1 p2 p3 p4 h _ _ _ _ _
    · exact Nat.le_succ_of_le h
