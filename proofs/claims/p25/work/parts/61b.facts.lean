/-! calls of the checksum that are legal -/
theorem sx_lk1 {n i : Nat} (h : i < n) (hn : n < 2 ^ 31) : (if nI i < 0 then (0 : Int32) else if nI n ≤ nI i then 0 else 1) = 1 := by
  rw [if_neg (nI_pos (by omega)), if_neg (fun q => absurd ((nI_leI (by omega) (by omega)).mp q) (by omega))]
theorem sx_isLine1 {n i : Nat} (h : i < n) (hn : n < 2 ^ 31) : ¬ s_X5_isLine n (nI i) = 0 := by
  show ¬ (if nI i < 0 then (0 : Int32) else if nI n ≤ nI i then 0 else 1) = 0
  rw [sx_lk1 h hn]
  decide
theorem sx_isLoan1 {n i : Nat} (h : i < n) (hn : n < 2 ^ 31) : ¬ s_X3_isLoan n (nI i) = 0 := by
  show ¬ (if nI i < 0 then (0 : Int32) else if nI n ≤ nI i then 0 else 1) = 0
  rw [sx_lk1 h hn]
  decide
theorem sx_isFault1 {n i : Nat} (h : i < n) (hn : n < 2 ^ 31) : ¬ s_X2_isFault n (nI i) = 0 := by
  show ¬ (if nI i < 0 then (0 : Int32) else if nI n ≤ nI i then 0 else 1) = 0
  rw [sx_lk1 h hn]
  decide
theorem sx_wh {w n : Nat} (h : w ≤ n) (hn : n < 2 ^ 31) : ¬ nI w < 0 ∧ nI w ≤ nI n := ⟨nI_pos (by omega), nI_le h hn⟩
theorem sx_x_ofLoan (lc : Nat) (ye : Nat → Int32) {i w : Nat} (hi : i < lc) (hl : lc ≤ 16) (hw : w ≤ 3) : x_X9_ofLoan lc ye (nI i) (nI w) = 0 := by
  unfold x_X9_ofLoan
  rw [if_neg (sx_isLoan1 hi (by omega)), if_neg (sx_wh hw (by omega)).1, if_pos (show nI w ≤ 3 from (sx_wh hw (by omega)).2)]
  (repeat' split) <;> rfl
theorem sx_x_fault (fc : Nat) {i w : Nat} (hi : i < fc) (hl : fc ≤ 34) (hw : w ≤ 4) : x_X9_fault fc (nI i) (nI w) = 0 := by
  unfold x_X9_fault
  rw [if_neg (sx_isFault1 hi (by omega)), if_neg (sx_wh hw (by omega)).1, if_pos (show nI w ≤ 4 from (sx_wh hw (by omega)).2)]
  split <;> rfl
theorem sx_x_ofRun (rns : Int32) {w : Nat} (hw : w ≤ 9) : x_X9_ofRun rns (nI w) = 0 := by
  unfold x_X9_ofRun
  rw [if_neg (sx_wh hw (by omega)).1, if_pos (show nI w ≤ 9 from (sx_wh hw (by omega)).2)]
  (repeat' split) <;> rfl
theorem sx_x_many {w : Nat} (hw : w ≤ 6) : x_X9_many (nI w) = 0 := by
  unfold x_X9_many
  rw [if_neg (sx_wh hw (by omega)).1, if_pos (show nI w ≤ 6 from (sx_wh hw (by omega)).2)]
  (repeat' split) <;> rfl
theorem sx_kept60 {sc : Int32} {i : Nat} (hi : i < 2 ^ 31) (h : ¬ s_X7_countKept sc ≤ nI i) : i < 60 := by
  have h1 : s_X7_countKept sc ≤ 60 := by
    unfold s_X7_countKept s_mmin
    by_cases q : (60 : Int32) < sc
    · rw [if_pos q]; exact Int32.le_refl _
    · rw [if_neg q]; exact Int32.not_lt.mp q
  have h2 : nI i < s_X7_countKept sc := Int32.not_le.mp h
  have h3 : nI i < nI 60 := Int32.lt_of_lt_of_le h2 h1
  exact (nI_ltI hi (by omega)).mp h3
theorem sx_x_told (sc : Int32) {i w : Nat} (hi : i < 2 ^ 31) (h : ¬ s_X7_countKept sc ≤ nI i) (hw : w ≤ 2) : x_X9_told sc (nI i) (nI w) = 0 := by
  have e : ¬ s_X7_isKept sc (nI i) = 0 := by
    unfold s_X7_isKept
    rw [if_neg (nI_pos hi), if_neg h]
    decide
  unfold x_X9_told
  rw [if_neg e, if_neg (sx_wh hw (by omega)).1, if_pos (show nI w ≤ 2 from (sx_wh hw (by omega)).2)]
theorem sx_x_ofVariable (pv : Nat) {v w : Nat} (hv : v < pv) (h8 : pv ≤ 8) (hw : w ≤ 3) : x_X9_ofVariable pv (nI v) (nI w) = 0 := by
  have e : ¬ s_X5_isVariable pv (nI v) = 0 := by
    show ¬ (if nI v < 0 then (0 : Int32) else if nI pv ≤ nI v then 0 else 1) = 0
    rw [sx_lk1 hv (by omega)]
    decide
  unfold x_X9_ofVariable
  rw [if_neg e, if_neg (sx_wh hw (by omega)).1, if_pos (show nI w ≤ 3 from (sx_wh hw (by omega)).2)]
  (repeat' split) <;> rfl
