/-! DEEDS and LOANS: what their rows hold behind a look -/
def qd_u (s a b : Int32) : Int32 := if s = 1 then b else (if s = 2 then b else (if s = 3 then b else (if s = 4 then b else (if s = 5 then a else (if s = 6 then a else (if s = 7 then a else (if s = 8 then a else (if s = 9 then (-1) else (if s = 10 then (-1) else (if s = 11 then (-1) else (if s = 12 then a else (if s = 13 then a else (if s = 14 then a else (if s = 15 then (-1) else (if s = 16 then a else (-1))))))))))))))))
def qd_t (s b : Int32) : Int32 := if s = 12 then b else (-1)
def qd_g (s a : Int32) : Int32 := if s = 0 then a else (if s = 1 then a else (if s = 2 then a else (if s = 3 then a else (if s = 4 then a else (-1)))))
def qd_l (s a b : Int32) : Int32 := if s = 1 then b else (if s = 7 then a else (-1))
theorem qd_used {pn j : Nat} {fs fa fb : Nat → Int32} (h : j < pn) (hn : pn < 2 ^ 31) : s_X1_usedFirst pn fs fa fb (nI j) = qd_u (fs j) (fa j) (fb j) := by
  unfold s_X1_usedFirst qd_u
  rw [qp_sortAt h hn, qp_aAt h hn, qp_bAt h hn]
theorem qd_given {pn j : Nat} {fs fa : Nat → Int32} (h : j < pn) (hn : pn < 2 ^ 31) : s_X1_givenBy pn fs fa (nI j) = qd_g (fs j) (fa j) := by
  unfold s_X1_givenBy qd_g
  rw [qp_sortAt h hn, qp_aAt h hn]
theorem qd_lost {pn j : Nat} {fs fa fb : Nat → Int32} (h : j < pn) (hn : pn < 2 ^ 31) : s_X1_lostBy pn fs fa fb (nI j) = qd_l (fs j) (fa j) (fb j) := by
  unfold s_X1_lostBy qd_l
  rw [qp_sortAt h hn, qp_aAt h hn, qp_bAt h hn]
abbrev qd_R : Type := (Nat → Int32) × (Nat → Int32) × (Nat → Int32) × (Nat → Int32) × (Nat → Int32) × (Nat → Int32) × (Nat → Int32) × (Nat → Int32) × (Nat → Int32)
def qd_at (pv : Nat) (fk fs fa fb : Nat → Int32) (R : qd_R) (j : Nat) : Prop :=
  R.1 j = qd_u (fs j) (fa j) (fb j) ∧ R.2.1 j = qd_t (fs j) (fb j) ∧ R.2.2.1 j = qd_g (fs j) (fa j) ∧
  R.2.2.2.1 j = s_X5_leavesOf pv fk (qd_u (fs j) (fa j) (fb j)) ∧ R.2.2.2.2.1 j = s_X5_leavesOf pv fk (qd_t (fs j) (fb j)) ∧ R.2.2.2.2.2.1 j = s_X5_leavesOf pv fk (qd_g (fs j) (fa j)) ∧
  R.2.2.2.2.2.2.1 j = s_X5_leavesOf pv fk (qd_l (fs j) (fa j) (fb j)) ∧ R.2.2.2.2.2.2.2.1 j = s_X1_borrowSet pv fk (qd_u (fs j) (fa j) (fb j)) ∧ R.2.2.2.2.2.2.2.2 j = s_X1_borrowSet pv fk (qd_g (fs j) (fa j))
def qd_eq (R T : qd_R) (j : Nat) : Prop := R.1 j = T.1 j ∧ R.2.1 j = T.2.1 j ∧ R.2.2.1 j = T.2.2.1 j ∧ R.2.2.2.1 j = T.2.2.2.1 j ∧ R.2.2.2.2.1 j = T.2.2.2.2.1 j ∧ R.2.2.2.2.2.1 j = T.2.2.2.2.2.1 j ∧ R.2.2.2.2.2.2.1 j = T.2.2.2.2.2.2.1 j ∧ R.2.2.2.2.2.2.2.1 j = T.2.2.2.2.2.2.2.1 j ∧ R.2.2.2.2.2.2.2.2 j = T.2.2.2.2.2.2.2.2 j
theorem qd_loop {pv pn : Nat} {fk fs fa fb : Nat → Int32} (hn : pn ≤ 34) : ∀ (k i : Nat) (du dt dg dul dtl dgl dll dbu dbg : Nat → Int32), i ≤ pn → pn - i < k →
    (∀ j, i ≤ j → j < pn → qd_at pv fk fs fa fb (sl_X1_look_L2 pv pn fk fs fa fb k i du dt dg dul dtl dgl dll dbu dbg) j) ∧
    (∀ j, j < i → qd_eq (sl_X1_look_L2 pv pn fk fs fa fb k i du dt dg dul dtl dgl dll dbu dbg) (du, dt, dg, dul, dtl, dgl, dll, dbu, dbg) j)
  | 0, i, du, dt, dg, dul, dtl, dgl, dll, dbu, dbg, hi, h => by omega
  | k + 1, i, du, dt, dg, dul, dtl, dgl, dll, dbu, dbg, hi, h => by
    rw [sl_X1_look_L2]
    by_cases q : pn ≤ i
    · rw [if_pos (nI_le q (by omega))]
      exact ⟨fun j h1 h2 => by omega, fun j _ => ⟨rfl, rfl, rfl, rfl, rfl, rfl, rfl, rfl, rfl⟩⟩
    · have hi2 : i < pn := by omega
      rw [if_neg (by rw [qb_le (by omega) (by omega)]; exact q), qp_sortAt hi2 (by omega), qd_used hi2 (by omega), qd_given hi2 (by omega), qd_lost hi2 (by omega), qp_bAt hi2 (by omega)]
      simp only [qb_us]
      have go : ∀ t : Int32, t = qd_t (fs i) (fb i) →
          (∀ j, i ≤ j → j < pn → qd_at pv fk fs fa fb (sl_X1_look_L2 pv pn fk fs fa fb k (i + 1) (upd du i (qd_u (fs i) (fa i) (fb i))) (upd dt i t) (upd dg i (qd_g (fs i) (fa i))) (upd dul i (s_X5_leavesOf pv fk (qd_u (fs i) (fa i) (fb i)))) (upd dtl i (s_X5_leavesOf pv fk t)) (upd dgl i (s_X5_leavesOf pv fk (qd_g (fs i) (fa i)))) (upd dll i (s_X5_leavesOf pv fk (qd_l (fs i) (fa i) (fb i)))) (upd dbu i (s_X1_borrowSet pv fk (qd_u (fs i) (fa i) (fb i)))) (upd dbg i (s_X1_borrowSet pv fk (qd_g (fs i) (fa i))))) j) ∧
          (∀ j, j < i → qd_eq (sl_X1_look_L2 pv pn fk fs fa fb k (i + 1) (upd du i (qd_u (fs i) (fa i) (fb i))) (upd dt i t) (upd dg i (qd_g (fs i) (fa i))) (upd dul i (s_X5_leavesOf pv fk (qd_u (fs i) (fa i) (fb i)))) (upd dtl i (s_X5_leavesOf pv fk t)) (upd dgl i (s_X5_leavesOf pv fk (qd_g (fs i) (fa i)))) (upd dll i (s_X5_leavesOf pv fk (qd_l (fs i) (fa i) (fb i)))) (upd dbu i (s_X1_borrowSet pv fk (qd_u (fs i) (fa i) (fb i)))) (upd dbg i (s_X1_borrowSet pv fk (qd_g (fs i) (fa i))))) (du, dt, dg, dul, dtl, dgl, dll, dbu, dbg) j) := by
        intro t ht
        obtain ⟨h1, h2⟩ := qd_loop hn k (i + 1) (upd du i (qd_u (fs i) (fa i) (fb i))) (upd dt i t) (upd dg i (qd_g (fs i) (fa i))) (upd dul i (s_X5_leavesOf pv fk (qd_u (fs i) (fa i) (fb i)))) (upd dtl i (s_X5_leavesOf pv fk t)) (upd dgl i (s_X5_leavesOf pv fk (qd_g (fs i) (fa i)))) (upd dll i (s_X5_leavesOf pv fk (qd_l (fs i) (fa i) (fb i)))) (upd dbu i (s_X1_borrowSet pv fk (qd_u (fs i) (fa i) (fb i)))) (upd dbg i (s_X1_borrowSet pv fk (qd_g (fs i) (fa i)))) (by omega) (by omega)
        refine ⟨fun j g1 g2 => ?_, fun j g => ?_⟩
        · rcases Nat.lt_or_ge i j with z | z
          · exact h1 j z g2
          · have : j = i := by omega
            subst this
            have h3 := h2 j (Nat.lt_succ_self _)
            unfold qd_eq at h3
            simp only [qb_us] at h3
            unfold qd_at
            rw [← ht]
            exact h3
        · have h3 := h2 j (by omega)
          unfold qd_eq at h3 ⊢
          simp only [qb_un (show j ≠ i by omega)] at h3
          exact h3
      by_cases c : fs i = 12
      · rw [if_pos c]
        exact go (fb i) (by unfold qd_t; rw [if_pos c])
      · rw [if_neg c]
        exact go (-1) (by unfold qd_t; rw [if_neg c])
theorem qd_look {pv pn : Nat} {fk fs fa fb du dt dg dul dtl dgl dll dbu dbg : Nat → Int32} (hn : pn ≤ 34) : ∀ j, j < pn → qd_at pv fk fs fa fb (s_X1_look du dt dg dul dtl dgl dll dbu dbg pv pn fk fs fa fb) j :=
  fun j hj => (qd_loop hn 35 0 du dt dg dul dtl dgl dll dbu dbg (Nat.zero_le _) (by omega)).1 j (Nat.zero_le _) hj
/-- loans by lines -/
def ql_n (S : Nat → Int32) : Nat → Nat
  | 0 => 0
  | i + 1 => ql_n S i + (if S i = 3 ∨ S i = 4 then 1 else 0)
theorem ql_mono {S : Nat → Int32} {i j : Nat} (h : i ≤ j) : ql_n S i ≤ ql_n S j := by
  induction j with
  | zero => rw [show i = 0 from by omega]; exact Nat.le_refl _
  | succ j ih =>
    rcases Nat.lt_or_ge i (j + 1) with q | q
    · have := ih (by omega)
      show _ ≤ ql_n S j + _
      omega
    · rw [show i = j + 1 from by omega]; exact Nat.le_refl _
theorem ql_lt {S : Nat → Int32} {i n : Nat} (h : i < n) (c : S i = 3 ∨ S i = 4) : ql_n S i < ql_n S n := by
  have h1 : ql_n S (i + 1) = ql_n S i + 1 := by show ql_n S i + _ = _; rw [if_pos c]
  have h2 := ql_mono (S := S) (show i + 1 ≤ n by omega)
  omega
theorem ql_of {S : Nat → Int32} {k : Nat} : ∀ {n : Nat}, k < ql_n S n → ∃ i, i < n ∧ (S i = 3 ∨ S i = 4) ∧ ql_n S i = k
  | 0, h => by cases h
  | n + 1, h => by
    rcases Nat.lt_or_ge k (ql_n S n) with q | q
    · obtain ⟨i, a, b⟩ := ql_of q
      exact ⟨i, by omega, b⟩
    · have h : k < ql_n S n + (if S n = 3 ∨ S n = 4 then 1 else 0) := h
      by_cases c : S n = 3 ∨ S n = 4
      · rw [if_pos c] at h
        exact ⟨n, Nat.lt_succ_self _, c, by omega⟩
      · rw [if_neg c] at h; omega
theorem ql_inj {S : Nat → Int32} {i j : Nat} (ci : S i = 3 ∨ S i = 4) (cj : S j = 3 ∨ S j = 4) (h : ql_n S i = ql_n S j) : i = j := by
  rcases Nat.lt_trichotomy i j with q | q | q
  · have := ql_lt q ci; omega
  · exact q
  · have := ql_lt q cj; omega
abbrev ql_R : Type := (Nat → Int32) × (Nat → Int32) × (Nat → Int32) × (Nat → Int32) × Nat
def ql_fin (S B : Nat → Int32) (n : Nat) (R : ql_R) : Prop :=
  R.2.2.2.2 = ql_n S n ∧ (∀ j, j < n → (S j = 3 ∨ S j = 4) → R.1 (ql_n S j) = nI j ∧ R.2.1 (ql_n S j) = B j ∧ R.2.2.1 (ql_n S j) = (if S j = 4 then 1 else 0) ∧ R.2.2.2.1 j = nI (ql_n S j)) ∧
  (∀ j, j < n → ¬ (S j = 3 ∨ S j = 4) → R.2.2.2.1 j = -1)
theorem ql_loop {S B : Nat → Int32} {pn : Nat} (hn : pn ≤ 34) (hl : ql_n S pn ≤ 16) : ∀ (k i : Nat) (yl yp ye yo : Nat → Int32) (lc : Nat), i ≤ pn → pn - i < k → ql_fin S B i (yl, yp, ye, yo, lc) → ql_fin S B pn (sl_X3_look_L7 pn S B k i yl yp ye yo lc)
  | 0, i, yl, yp, ye, yo, lc, hi, h, hI => by omega
  | k + 1, i, yl, yp, ye, yo, lc, hi, h, hI => by
    rw [sl_X3_look_L7]
    by_cases q : pn ≤ i
    · rw [if_pos (nI_le q (by omega))]
      rw [show pn = i from by omega]; exact hI
    · have hi2 : i < pn := by omega
      obtain ⟨h1, h2, h3⟩ := hI
      have h1 : lc = ql_n S i := h1
      subst h1
      rw [if_neg (by rw [qb_le (by omega) (by omega)]; exact q), qp_sortAt hi2 (by omega), qp_bAt hi2 (by omega), qp_loanOf]
      by_cases c : S i = 3 ∨ S i = 4
      · have hk := ql_lt hi2 c
        have hs : ql_n S (i + 1) = ql_n S i + 1 := by show ql_n S i + _ = _; rw [if_pos c]
        rw [if_pos (show (if S i = 3 ∨ S i = 4 then (1 : Int32) else 0) = 1 by rw [if_pos c]), if_neg (qp_ix1 (show ql_n S i < 16 by omega) (by omega))]
        have go : ∀ x : Int32, x = (if S i = 4 then 1 else 0) → ql_fin S B pn (sl_X3_look_L7 pn S B k (i + 1) (upd yl (ql_n S i) (nI i)) (upd yp (ql_n S i) (B i)) (upd ye (ql_n S i) x) (upd (upd yo i (-1)) i (nI (ql_n S i))) (ql_n S i + 1)) := by
          intro x hx
          refine ql_loop hn hl k (i + 1) _ _ _ _ _ (by omega) (by omega) ⟨hs.symm, fun j hj cj => ?_, fun j hj cj => ?_⟩
          · by_cases z : j = i
            · subst z
              exact ⟨qb_us _ _ _, qb_us _ _ _, (qb_us _ _ _).trans hx, qb_us _ _ _⟩
            · have hlt := ql_lt (show j < i by omega) cj
              obtain ⟨a, b, d, e⟩ := h2 j (by omega) cj
              refine ⟨?_, ?_, ?_, ?_⟩
              · show upd yl _ _ _ = _; rw [qb_un (by omega)]; exact a
              · show upd yp _ _ _ = _; rw [qb_un (by omega)]; exact b
              · show upd ye _ _ _ = _; rw [qb_un (by omega)]; exact d
              · show upd (upd yo i (-1)) i _ j = _; rw [qb_un z, qb_un z]; exact e
          · have z : ¬ j = i := fun z => cj (by rw [z]; exact c)
            show upd (upd yo i (-1)) i _ j = _
            rw [qb_un z, qb_un z]
            exact h3 j (by omega) cj
        by_cases d : S i = 4
        · rw [if_pos d]; exact go 1 (by rw [if_pos d])
        · rw [if_neg d]; exact go 0 (by rw [if_neg d])
      · have hs : ql_n S (i + 1) = ql_n S i := by show ql_n S i + _ = _; rw [if_neg c]; rfl
        rw [if_neg (show ¬ (if S i = 3 ∨ S i = 4 then (1 : Int32) else 0) = 1 by rw [if_neg c]; decide)]
        refine ql_loop hn hl k (i + 1) _ _ _ _ _ (by omega) (by omega) ⟨hs.symm, fun j hj cj => ?_, fun j hj cj => ?_⟩
        · have z : ¬ j = i := fun z => c (by rw [← z]; exact cj)
          obtain ⟨a, b, d, e⟩ := h2 j (by omega) cj
          refine ⟨a, b, d, ?_⟩
          show upd yo i (-1) j = _
          rw [qb_un z]; exact e
        · by_cases z : j = i
          · subst z; exact qb_us _ _ _
          · show upd yo i (-1) j = _
            rw [qb_un z]; exact h3 j (by omega) cj
theorem ql_look {S B yl yp ye yo : Nat → Int32} {pn : Nat} (hn : pn ≤ 34) (hl : ql_n S pn ≤ 16) : ql_fin S B pn (s_X3_look yl yp ye yo pn S B) :=
  ql_loop hn hl 35 0 yl yp ye yo 0 (Nat.zero_le _) (by omega) ⟨rfl, fun j h => by omega, fun j h => by omega⟩
theorem ql_count {S : Nat → Int32} {pn : Nat} (hn : pn ≤ 34) : s_X5_countLoans pn S = nI (ql_n S pn) := by
  have go : ∀ (k i : Nat), i ≤ pn → pn - i < k → sl_X5_countLoans_L4 pn S k (nI (ql_n S i)) i = nI (ql_n S pn) := by
    intro k
    induction k with
    | zero => intro i hi h; omega
    | succ k ih =>
      intro i hi h
      rw [sl_X5_countLoans_L4]
      by_cases q : pn ≤ i
      · rw [if_pos (nI_le q (by omega)), show i = pn from by omega]
      · rw [if_neg (by rw [qb_le (by omega) (by omega)]; exact q), qp_loanOf]
        have e : nI (ql_n S i) + (if S i = 3 ∨ S i = 4 then (1 : Int32) else 0) = nI (ql_n S (i + 1)) := by
          show _ = nI (ql_n S i + _)
          by_cases c : S i = 3 ∨ S i = 4
          · rw [if_pos c, if_pos c, nI_1]
          · rw [if_neg c, if_neg c, Nat.add_zero, Int32.add_zero]
        rw [e]
        exact ih (i + 1) (by omega) (by omega)
  exact go 35 0 (Nat.zero_le _) (by omega)
