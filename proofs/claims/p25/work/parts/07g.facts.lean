theorem sx_findFault_le0 (dbg : Nat → Int32) (wwr : Int32) (yf ys : Nat → Int32) (lc : Nat) (yp ye : Nat → Int32) (fc : Nat) (xn xl xp xo : Nat → Int32) (pv pn : Nat) (fk fs fa fb cd cn : Nat → Int32) (p1 : Nat) (h : fc ≤ 34) : ∀ (k t : Nat), (sl_X0_findFault_L109 dbg wwr yf ys lc yp ye fc xn xl xp xo pv pn fk fs fa fb cd cn p1 k t).2.2.2.2 ≤ 34 := by
  intro k
  induction k with
  | zero => intro t; exact Nat.zero_le _
  | succ k ih =>
    intro t
    rw [sl_X0_findFault_L109]
    split
    · exact h
    · split
      · exact ih _
      · split <;> exact sx_addFault_le _ _ _ _ _ _ _ _ _ h
set_option maxHeartbeats 1000000 in
theorem sx_findFault_le (dul dtl dbg : Nat → Int32) (wwr : Int32) (yf ys : Nat → Int32) (lc : Nat) (yp ye : Nat → Int32) (fc : Nat) (xn xl xp xo : Nat → Int32) (pv pn : Nat) (fk fs fa fb ch cl cd cn : Nat → Int32) (p1 : Nat) (h : fc ≤ 34) : (s_X0_findFault dul dtl dbg wwr yf ys lc yp ye fc xn xl xp xo pv pn fk fs fa fb ch cl cd cn p1).2.2.2.2 ≤ 34 := by
  rw [s_X0_findFault]
  by_cases c1 : (dul p1) &&& (cl p1) = 0
  · rw [if_pos c1]
    by_cases c2 : (dtl p1) &&& (cl p1) = 0
    · rw [if_pos c2]; exact sx_findFault_le0 dbg wwr yf ys lc yp ye fc xn xl xp xo pv pn fk fs fa fb cd cn p1 h 3 0
    · rw [if_neg c2]
      generalize s_J6_numberOfTrailingZeros_0f7a4 ((dtl p1) &&& (cl p1)) = z
      by_cases c3 : (ch p1) &&& ((1 : Int32) <<< (z &&& 31)) = 0
      · rw [if_pos c3]; exact sx_addFault_le fc xn xl xp xo _ _ _ _ h
      · rw [if_neg c3]; exact sx_addFault_le fc xn xl xp xo _ _ _ _ h
  · rw [if_neg c1]
    generalize s_J6_numberOfTrailingZeros_0f7a4 ((dul p1) &&& (cl p1)) = z
    by_cases c3 : (ch p1) &&& ((1 : Int32) <<< (z &&& 31)) = 0
    · rw [if_pos c3]; exact sx_addFault_le fc xn xl xp xo _ _ _ _ h
    · rw [if_neg c3]; exact sx_addFault_le fc xn xl xp xo _ _ _ _ h
