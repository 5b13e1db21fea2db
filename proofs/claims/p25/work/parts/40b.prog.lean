/-! THE PROGRAM: places, kinds, leaves, lines that fit -/
theorem qp_isLine {pn i : Nat} (hi : i < 2 ^ 31) (hn : pn < 2 ^ 31) : s_X5_isLine pn (nI i) = if i < pn then 1 else 0 := by
  unfold s_X5_isLine
  rw [if_neg (nI_pos hi)]
  by_cases h : i < pn
  · rw [if_pos h, if_neg (by rw [qb_le hn hi]; omega)]
  · rw [if_neg h, if_pos (by rw [qb_le hn hi]; omega)]
theorem qp_isLine1 {pn i : Nat} (h : i < pn) (hn : pn < 2 ^ 31) : ¬ s_X5_isLine pn (nI i) = 0 := by
  rw [qp_isLine (by omega) hn, if_pos h]; decide
theorem qp_isLine_m1 (pn : Nat) : s_X5_isLine pn (-1) = 0 := by
  unfold s_X5_isLine
  rw [if_pos (by decide)]
theorem qp_isLine_of {pn : Nat} {x : Int32} (hn : pn < 2 ^ 31) (h : ¬ s_X5_isLine pn x = 0) : ∃ i : Nat, i < pn ∧ x = nI i := by
  unfold s_X5_isLine at h
  by_cases q : x < 0
  · rw [if_pos q] at h; exact absurd rfl h
  · rw [if_neg q] at h
    obtain ⟨i, hi, rfl⟩ := nI_of q
    refine ⟨i, ?_, rfl⟩
    by_cases q2 : nI pn ≤ nI i
    · rw [if_pos q2] at h; exact absurd rfl h
    · rw [qb_le hn hi] at q2; omega
theorem qp_isEnd {pn i : Nat} (hi : i < 2 ^ 31) (hn : pn < 2 ^ 31) : s_X5_isLineOrEnd pn (nI i) = if i ≤ pn then 1 else 0 := by
  unfold s_X5_isLineOrEnd
  rw [if_neg (nI_pos hi)]
  by_cases h : i ≤ pn
  · rw [if_pos h, if_neg (by rw [qb_lt' hn hi]; omega)]
  · rw [if_neg h, if_pos (by rw [qb_lt' hn hi]; omega)]
theorem qp_isEnd_m1 (pn : Nat) : s_X5_isLineOrEnd pn (-1) = 0 := by
  unfold s_X5_isLineOrEnd
  rw [if_pos (by decide)]
theorem qp_isEnd_of {pn : Nat} {x : Int32} (hn : pn < 2 ^ 31) (h : ¬ s_X5_isLineOrEnd pn x = 0) : ∃ i : Nat, i ≤ pn ∧ x = nI i := by
  unfold s_X5_isLineOrEnd at h
  by_cases q : x < 0
  · rw [if_pos q] at h; exact absurd rfl h
  · rw [if_neg q] at h
    obtain ⟨i, hi, rfl⟩ := nI_of q
    refine ⟨i, ?_, rfl⟩
    by_cases q2 : nI pn < nI i
    · rw [if_pos q2] at h; exact absurd rfl h
    · rw [qb_lt' hn hi] at q2; omega
theorem qp_at {pn i : Nat} (f : Nat → Int32) (h : i < pn) (hn : pn < 2 ^ 31) : (if s_X5_isLine pn (nI i) = 0 then (-1 : Int32) else f (nI i).toNatClampNeg) = f i := by
  rw [if_neg (qp_isLine1 h hn), qb_cl (by omega)]
theorem qp_sortAt {pn i : Nat} {fs : Nat → Int32} (h : i < pn) (hn : pn < 2 ^ 31) : s_X5_sortAt pn fs (nI i) = fs i := qp_at fs h hn
theorem qp_aAt {pn i : Nat} {fs : Nat → Int32} (h : i < pn) (hn : pn < 2 ^ 31) : s_X5_aAt pn fs (nI i) = fs i := qp_at fs h hn
theorem qp_bAt {pn i : Nat} {fs : Nat → Int32} (h : i < pn) (hn : pn < 2 ^ 31) : s_X5_bAt pn fs (nI i) = fs i := qp_at fs h hn
theorem qp_sortAt0 {pn : Nat} {x : Int32} {fs : Nat → Int32} (h : s_X5_isLine pn x = 0) : s_X5_sortAt pn fs x = -1 := by
  unfold s_X5_sortAt
  rw [if_pos h]
theorem qp_ix {n : Nat} {i : Nat} (hi : i < 2 ^ 31) (hn : n < 2 ^ 31) : s_X9_isIndexOf n (nI i) = if i < n then 1 else 0 := qp_isLine (pn := n) hi hn
theorem qp_ix1 {n i : Nat} (h : i < n) (hn : n < 2 ^ 31) : ¬ s_X9_isIndexOf n (nI i) = 0 := qp_isLine1 (pn := n) h hn
theorem qp_ix_m1 (n : Nat) : s_X9_isIndexOf n (-1) = 0 := qp_isLine_m1 n
theorem qp_ix_of {n : Nat} {x : Int32} (hn : n < 2 ^ 31) (h : ¬ s_X9_isIndexOf n x = 0) : ∃ i : Nat, i < n ∧ x = nI i := qp_isLine_of (pn := n) hn h
/-- the kind of a place -/
def qp_kd (pv : Nat) (fk : Nat → Int32) (k : Nat) : Int32 := if k / 3 < pv then (if k % 3 = 0 then fk (k / 3) else (if fk (k / 3) = 2 then 1 else (-1))) else (-1)
theorem qp_kindAt {pv k : Nat} {fk : Nat → Int32} (hk : k < 2 ^ 31) (hv : pv < 2 ^ 31) : s_X5_kindAt pv fk (nI k) = qp_kd pv fk k := by
  unfold s_X5_kindAt qp_kd
  have e : nI k - nI (k / 3) * 3 = nI (k % 3) := by rw [← qb_div3 hk]; exact qb_mod3 hk
  have e2 : (nI (k % 3) = 0) = (k % 3 = 0) := qb_eq (b := 0) (by omega) (by omega)
  have e3 : (nI (k / 3) < nI pv) = (k / 3 < pv) := qb_lt' (by omega) hv
  have e4 : (nI (k / 3)).toNatClampNeg = k / 3 := qb_cl (by omega)
  rw [if_neg (nI_pos hk), qb_div3 hk, e]
  simp only [e2, e3, e4]
theorem qp_kind_m1 (pv : Nat) (fk : Nat → Int32) : s_X5_kindAt pv fk (-1) = -1 := by
  unfold s_X5_kindAt
  rw [if_pos (by decide)]
theorem qp_kind_of {pv : Nat} {fk : Nat → Int32} {x : Int32} (hv : pv ≤ 8) (h : ¬ s_X5_kindAt pv fk x = -1) : ∃ k : Nat, k < 3 * pv ∧ x = nI k ∧ s_X5_kindAt pv fk x = qp_kd pv fk k := by
  by_cases q : x < 0
  · exact absurd (by unfold s_X5_kindAt; rw [if_pos q]) h
  · obtain ⟨k, hk, rfl⟩ := nI_of q
    refine ⟨k, ?_, rfl, qp_kindAt hk (by omega)⟩
    rw [qp_kindAt hk (by omega)] at h
    unfold qp_kd at h
    by_cases q2 : k / 3 < pv
    · omega
    · rw [if_neg q2] at h; exact absurd rfl h
def qp_K (pv : Nat) (fk : Nat → Int32) : Prop := ∀ v : Nat, v < pv → fk v = 0 ∨ fk v = 1 ∨ fk v = 2 ∨ fk v = 3 ∨ fk v = 4 ∨ fk v = 5
/-- a kind of a place: what can be -/
theorem qp_kd_cases {pv k : Nat} {fk : Nat → Int32} (hK : qp_K pv fk) : qp_kd pv fk k = -1 ∨ (k / 3 < pv ∧ ((k % 3 = 0 ∧ qp_kd pv fk k = fk (k / 3)) ∨ (¬ k % 3 = 0 ∧ fk (k / 3) = 2 ∧ qp_kd pv fk k = 1))) := by
  unfold qp_kd
  by_cases q : k / 3 < pv
  · by_cases q1 : k % 3 = 0
    · exact Or.inr ⟨q, Or.inl ⟨q1, by rw [if_pos q, if_pos q1]⟩⟩
    · by_cases q2 : fk (k / 3) = 2
      · exact Or.inr ⟨q, Or.inr ⟨q1, q2, by rw [if_pos q, if_neg q1, if_pos q2]⟩⟩
      · exact Or.inl (by rw [if_pos q, if_neg q1, if_neg q2])
  · exact Or.inl (by rw [if_neg q])
theorem qp_kd_lt {pv k : Nat} {fk : Nat → Int32} (h : ¬ qp_kd pv fk k = -1) : k < 3 * pv := by
  unfold qp_kd at h
  by_cases q : k / 3 < pv
  · omega
  · rw [if_neg q] at h; exact absurd rfl h
/-- which bits the leaves of a place are -/
def qp_lf (pv : Nat) (fk : Nat → Int32) (k i : Nat) : Prop := ¬ qp_kd pv fk k = -1 ∧ (if qp_kd pv fk k = 2 then (i = k + 1 ∨ i = k + 2) else i = k)
theorem qp_leaves {pv k i : Nat} {fk : Nat → Int32} (hv : pv ≤ 8) (hk : k < 2 ^ 31) : qb_t (s_X5_leavesOf pv fk (nI k)) i = true ↔ qp_lf pv fk k i := by
  unfold s_X5_leavesOf qp_lf
  rw [qp_kindAt hk (by omega)]
  by_cases q : qp_kd pv fk k = -1
  · rw [if_pos q, qb_0]; simp [q]
  · have := qp_kd_lt q
    rw [if_neg q]
    by_cases q2 : qp_kd pv fk k = 2
    · rw [if_pos q2, qb_six (by omega), if_pos q2]; simp [q]
    · rw [if_neg q2, qb_one (by omega), if_neg q2]; simp [q]
theorem qp_leaves_m1 (pv : Nat) (fk : Nat → Int32) : s_X5_leavesOf pv fk (-1) = 0 := by
  unfold s_X5_leavesOf
  rw [if_pos (qp_kind_m1 pv fk)]
/-- a leaf lies in its place's variable, and has a kind that is no pair's -/
theorem qp_lf_kd {pv k i : Nat} {fk : Nat → Int32} (hK : qp_K pv fk) (h : qp_lf pv fk k i) : i / 3 = k / 3 ∧ i / 3 < pv ∧ ¬ qp_kd pv fk i = -1 ∧ ¬ qp_kd pv fk i = 2 ∧ (i = k ∨ (k % 3 = 0 ∧ qp_kd pv fk k = 2 ∧ qp_kd pv fk i = 1)) := by
  obtain ⟨h1, h2⟩ := h
  rcases qp_kd_cases (k := k) hK with q | ⟨q, ⟨q1, q2⟩ | ⟨q1, q2, q3⟩⟩
  · exact absurd q h1
  · by_cases e : qp_kd pv fk k = 2
    · rw [if_pos e] at h2
      have h3 : i / 3 = k / 3 := by omega
      have h4 : qp_kd pv fk i = 1 := by
        unfold qp_kd
        rw [h3, if_pos q, if_neg (by omega), if_pos (by rw [← q2]; exact e)]
      exact ⟨h3, by omega, by rw [h4]; decide, by rw [h4]; decide, Or.inr ⟨q1, e, h4⟩⟩
    · rw [if_neg e] at h2
      subst h2
      exact ⟨rfl, q, h1, e, Or.inl rfl⟩
  · have e : ¬ qp_kd pv fk k = 2 := by rw [q3]; decide
    rw [if_neg e] at h2
    subst h2
    exact ⟨rfl, q, h1, e, Or.inl rfl⟩
/-- two places that share a leaf meet -/
def qp_meet (k j : Nat) : Prop := k = j ∨ (k / 3 = j / 3 ∧ (k % 3 = 0 ∨ j % 3 = 0))
theorem qp_meets {k j : Nat} (hk : k < 2 ^ 31) (hj : j < 2 ^ 31) : ¬ s_X9_meets (nI k) (nI j) = 0 ↔ qp_meet k j := by
  unfold s_X9_meets qp_meet
  have e0 : (nI k = nI j) = (k = j) := qb_eq hk hj
  have e3 : (nI (k / 3) = nI (j / 3)) = (k / 3 = j / 3) := qb_eq (by omega) (by omega)
  have e1 : (nI (k % 3) = 0) = (k % 3 = 0) := qb_eq (b := 0) (by omega) (by omega)
  have e2 : (nI (j % 3) = 0) = (j % 3 = 0) := qb_eq (b := 0) (by omega) (by omega)
  rw [qb_mod3 hk, qb_mod3 hj, qb_div3 hk, qb_div3 hj]
  simp only [e0, e1, e2, e3]
  by_cases a : k = j
  · simp [a]
  · by_cases b : k % 3 = 0 <;> by_cases c : j % 3 = 0 <;> by_cases d : k / 3 = j / 3 <;> simp [a, b, c, d]
theorem qp_lf_meet {pv k j i : Nat} {fk : Nat → Int32} (hK : qp_K pv fk) (h1 : qp_lf pv fk k i) (h2 : qp_lf pv fk j i) : qp_meet k j := by
  have a := qp_lf_kd hK h1
  have b := qp_lf_kd hK h2
  unfold qp_meet
  rcases a.2.2.2.2 with e | ⟨e, -, -⟩
  · rcases b.2.2.2.2 with g | ⟨g, -, -⟩
    · exact Or.inl (e.symm.trans g)
    · exact Or.inr ⟨a.1.symm.trans b.1, Or.inr g⟩
  · exact Or.inr ⟨a.1.symm.trans b.1, Or.inl e⟩
/-- a line that fits -/
def qp_F (pv : Nat) (fk : Nat → Int32) (s a b : Int32) : Prop := ¬ s_X5_fits pv fk s a b = 0
theorem qp_own {x : Int32} : ¬ s_X9_isOwned x = 0 ↔ (x = 1 ∨ x = 2 ∨ x = 5) := by
  unfold s_X9_isOwned
  by_cases a : x = 1 <;> by_cases b : x = 2 <;> by_cases c : x = 5 <;> simp [a, b, c]
theorem qp_bor {x : Int32} : ¬ s_X9_isBorrowKind x = 0 ↔ (x = 3 ∨ x = 4) := by
  unfold s_X9_isBorrowKind
  by_cases a : x = 3 <;> by_cases b : x = 4 <;> simp [a, b]
theorem qp_lent {x : Int32} : ¬ s_X9_canBeLent x = 0 ↔ (x = 0 ∨ x = 1 ∨ x = 2) := by
  unfold s_X9_canBeLent
  by_cases a : x = 0 <;> by_cases b : x = 1 <;> by_cases c : x = 2 <;> simp [a, b, c]
theorem qp_loanOf {x : Int32} : s_X9_loansOf x = if x = 3 ∨ x = 4 then 1 else 0 := by
  unfold s_X9_loansOf
  by_cases a : x = 3 <;> by_cases b : x = 4 <;> simp [a, b]
/-- what fits, sort by sort: kinds of a and of b -/
def qp_Fc (pv : Nat) (fk : Nat → Int32) (s a b : Int32) : Prop :=
  (s = 0 ∧ ¬ s_X5_kindAt pv fk a = -1 ∧ ¬ (s_X5_kindAt pv fk a = 3 ∨ s_X5_kindAt pv fk a = 4)) ∨
  (s = 1 ∧ s_X5_kindAt pv fk a = s_X5_kindAt pv fk b ∧ (s_X5_kindAt pv fk a = 1 ∨ s_X5_kindAt pv fk a = 2 ∨ s_X5_kindAt pv fk a = 5 ∨ s_X5_kindAt pv fk a = 4)) ∨
  (s = 2 ∧ s_X5_kindAt pv fk a = s_X5_kindAt pv fk b ∧ (s_X5_kindAt pv fk a = 0 ∨ s_X5_kindAt pv fk a = 3 ∨ s_X5_kindAt pv fk a = 5)) ∨
  (s = 3 ∧ s_X5_kindAt pv fk a = 3 ∧ (s_X5_kindAt pv fk b = 0 ∨ s_X5_kindAt pv fk b = 1 ∨ s_X5_kindAt pv fk b = 2)) ∨
  (s = 4 ∧ s_X5_kindAt pv fk a = 4 ∧ (s_X5_kindAt pv fk b = 0 ∨ s_X5_kindAt pv fk b = 1 ∨ s_X5_kindAt pv fk b = 2)) ∨
  (s = 5 ∧ ¬ s_X5_kindAt pv fk a = -1) ∨
  (s = 6 ∧ ¬ s_X5_kindAt pv fk a = -1 ∧ ¬ s_X5_kindAt pv fk a = 2 ∧ ¬ s_X5_kindAt pv fk a = 3) ∨
  (s = 7 ∧ (s_X5_kindAt pv fk a = 1 ∨ s_X5_kindAt pv fk a = 2 ∨ s_X5_kindAt pv fk a = 5)) ∨
  (s = 8 ∧ s_X5_kindAt pv fk a = 0) ∨
  (s = 9 ∧ a = 0) ∨ (s = 10 ∧ 1 ≤ a ∧ a ≤ 4) ∨ (s = 11 ∧ a = 0) ∨
  (s = 12 ∧ s_X5_kindAt pv fk a = 5 ∧ s_X5_kindAt pv fk b = 5) ∨
  (s = 13 ∧ s_X5_kindAt pv fk a = 5) ∨ (s = 14 ∧ s_X5_kindAt pv fk a = 5) ∨ (s = 15 ∧ a = 0) ∨
  (s = 16 ∧ s_X5_kindAt pv fk a = 0)
