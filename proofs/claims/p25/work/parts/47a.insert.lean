/-! A LINE PUT IN: the ways -/
def qi_s (L j : Nat) : Nat := if j < L then j else j + 1
def qi_t (L t : Nat) : Nat := if t ≤ L then t else t + 1
theorem qi_s_lt {L j : Nat} (h : j < L) : qi_s L j = j := if_pos h
theorem qi_s_ge {L j : Nat} (h : L ≤ j) : qi_s L j = j + 1 := if_neg (by omega)
theorem qi_t_le {L j : Nat} (h : j ≤ L) : qi_t L j = j := if_pos h
theorem qi_t_gt {L j : Nat} (h : L < j) : qi_t L j = j + 1 := if_neg (by omega)
theorem qi_next (L j : Nat) : qi_t L (j + 1) = qi_s L j + 1 := by
  rcases Nat.lt_or_ge j L with h | h
  · rw [qi_s_lt h, qi_t_le (by omega)]
  · rw [qi_s_ge h, qi_t_gt (by omega)]
theorem qi_s_b (L j : Nat) : qi_s L j ≤ j + 1 := by
  rcases Nat.lt_or_ge j L with h | h
  · rw [qi_s_lt h]; omega
  · rw [qi_s_ge h]; omega
theorem qi_s_inj {L i j : Nat} (h : qi_s L i = qi_s L j) : i = j := by
  rcases Nat.lt_or_ge i L with a | a <;> rcases Nat.lt_or_ge j L with b | b
  · rw [qi_s_lt a, qi_s_lt b] at h; exact h
  · rw [qi_s_lt a, qi_s_ge b] at h; omega
  · rw [qi_s_ge a, qi_s_lt b] at h; omega
  · rw [qi_s_ge a, qi_s_ge b] at h; omega
/-- a line's number, or none, behind the put -/
def qi_x (L : Nat) (x : Int32) : Int32 := if x = -1 then -1 else nI (qi_s L x.toNatClampNeg)
def qi_y (L : Nat) (x : Int32) : Int32 := if x = -1 then -1 else nI (qi_t L x.toNatClampNeg)
theorem qi_xn {L e : Nat} (he : e < 2 ^ 31) : qi_x L (nI e) = nI (qi_s L e) := by
  unfold qi_x
  rw [if_neg (qb_nem1 he), qb_cl he]
theorem qi_yn {L e : Nat} (he : e < 2 ^ 31) : qi_y L (nI e) = nI (qi_t L e) := by
  unfold qi_y
  rw [if_neg (qb_nem1 he), qb_cl he]
theorem qi_x1 {L : Nat} : qi_x L (-1) = -1 := if_pos rfl
theorem qi_y1 {L : Nat} : qi_y L (-1) = -1 := if_pos rfl
def qi_q (L : Nat) (q : Nat × Int32) : Nat × Int32 := (qi_s L q.1, qi_x L q.2)
/-- a program with a line put in -/
def qi_P (S S' : Nat → Int32) (L n : Nat) : Prop := (∀ j, j < n → S' (qi_s L j) = S j) ∧ ¬ S' L = 8 ∧ ¬ S' L = 9 ∧ ¬ S' L = 10 ∧ ¬ S' L = 11
theorem qi_step {S S' : Nat → Int32} {L n i : Nat} {st : List (Nat × Int32)} (hP : qi_P S S' L n) (hi : i < n) (hn : n ≤ 33) (hg : qw_good S i st) : qw_step S' (qi_s L i) (st.map (qi_q L)) = (qw_step S i st).map (fun z => z.map (qi_q L)) := by
  have e := hP.1 i hi
  by_cases c8 : S i = 8 ∨ S i = 10
  · rw [qw_open st c8, qw_open _ (by rw [e]; exact c8)]
    show _ = some (_ :: _)
    unfold qi_q
    rw [qi_x1]
  · have n8 : ¬ S i = 8 := fun z => c8 (Or.inl z)
    have n10 : ¬ S i = 10 := fun z => c8 (Or.inr z)
    by_cases c9 : S i = 9
    · cases st with
      | nil =>
        rw [qw_else0 c9 (fun q r h => (by cases h)), qw_else0 (by rw [e]; exact c9) (fun q r h => (by cases h))]
        rfl
      | cons q r =>
        obtain ⟨g1, g2, g3⟩ := hg.2 q List.mem_cons_self
        have e1 : S' (qi_q L q).1 = S q.1 := hP.1 q.1 (by omega)
        have e2 : (qi_q L q).2 = -1 ↔ q.2 = -1 := by
          show qi_x L q.2 = -1 ↔ q.2 = -1
          rcases g3 with z | ⟨x, x1, x2, x3, x4⟩
          · rw [z, qi_x1]
          · have := qi_s_b L x
            rw [x3, qi_xn (by omega)]
            exact ⟨fun h => absurd h (qb_nem1 (by omega)), fun h => absurd h (qb_nem1 (by omega))⟩
        show qw_step S' (qi_s L i) (qi_q L q :: r.map (qi_q L)) = _
        by_cases c : S q.1 = 8 ∧ q.2 = -1
        · rw [qw_else1 c9 c, qw_else1 (by rw [e]; exact c9) ⟨by rw [e1]; exact c.1, e2.mpr c.2⟩]
          have e3 : qi_q L (q.1, nI i) = ((qi_q L q).1, nI (qi_s L i)) := by
            show (qi_s L q.1, qi_x L (nI i)) = _
            rw [qi_xn (by omega)]; rfl
          show some (((qi_q L q).1, nI (qi_s L i)) :: r.map (qi_q L)) = some (qi_q L (q.1, nI i) :: r.map (qi_q L))
          rw [e3]
        · rw [qw_else0 c9 (fun a b h => (by cases h; exact c)), qw_else0 (by rw [e]; exact c9) (fun a b h => (by cases h; exact fun z => c ⟨by rw [← e1]; exact z.1, e2.mp z.2⟩))]
          rfl
    · by_cases c11 : S i = 11
      · cases st with
        | nil =>
          rw [qw_end0 c11]
          show qw_step S' (qi_s L i) [] = _
          rw [qw_end0 (by rw [e]; exact c11)]
          rfl
        | cons q r =>
          rw [qw_end1 c11]
          show qw_step S' (qi_s L i) (qi_q L q :: r.map (qi_q L)) = _
          rw [qw_end1 (by rw [e]; exact c11)]
          rfl
      · rw [qw_plain st n8 c9 n10 c11, qw_plain _ (by rw [e]; exact n8) (by rw [e]; exact c9) (by rw [e]; exact n10) (by rw [e]; exact c11)]
        rfl
theorem qi_stk0 {S S' : Nat → Int32} {L n : Nat} (hP : qi_P S S' L n) (hn : n ≤ 33) : ∀ {i : Nat}, i ≤ L → i ≤ n → qw_stk S' i = (qw_stk S i).map (fun z => z.map (qi_q L))
  | 0, _, _ => rfl
  | i + 1, hL, hi => by
    have ih := qi_stk0 hP hn (i := i) (by omega) (by omega)
    cases hs : qw_stk S i with
    | none =>
      rw [hs] at ih
      rw [qw_stk_n hs, qw_stk_n (by rw [ih]; rfl)]; rfl
    | some st =>
      rw [hs] at ih
      have h := qi_step hP (show i < n by omega) hn (qw_goodAt hs)
      rw [qi_s_lt (by omega)] at h
      rw [qw_stk_s hs, qw_stk_s (st := st.map (qi_q L)) (by rw [ih]; rfl)]
      exact h
theorem qi_stk1 {S S' : Nat → Int32} {L n : Nat} (hP : qi_P S S' L n) (hn : n ≤ 33) (hLn : L ≤ n) : ∀ {d : Nat}, L + d ≤ n → qw_stk S' (L + d + 1) = (qw_stk S (L + d)).map (fun z => z.map (qi_q L))
  | 0, hi => by
    have ih := qi_stk0 hP hn (i := L) (Nat.le_refl _) hLn
    show qw_stk S' (L + 1) = (qw_stk S L).map _
    cases hs : qw_stk S L with
    | none =>
      rw [hs] at ih
      rw [qw_stk_n (by rw [ih]; rfl)]; rfl
    | some st =>
      rw [hs] at ih
      rw [qw_stk_s (st := st.map (qi_q L)) (by rw [ih]; rfl), qw_plain _ hP.2.1 hP.2.2.1 hP.2.2.2.1 hP.2.2.2.2]
      rfl
  | d + 1, hi => by
    have ih := qi_stk1 hP hn hLn (d := d) (by omega)
    show qw_stk S' (L + d + 1 + 1) = (qw_stk S (L + d + 1)).map _
    cases hs : qw_stk S (L + d) with
    | none =>
      rw [hs] at ih
      rw [qw_stk_n hs, qw_stk_n (by rw [ih]; rfl)]; rfl
    | some st =>
      rw [hs] at ih
      have h := qi_step hP (show L + d < n by omega) hn (qw_goodAt hs)
      rw [qi_s_ge (by omega)] at h
      rw [qw_stk_s hs, qw_stk_s (st := st.map (qi_q L)) (by rw [ih]; rfl)]
      exact h
theorem qi_stk {S S' : Nat → Int32} {L n e : Nat} {st : List (Nat × Int32)} (hP : qi_P S S' L n) (hn : n ≤ 33) (hLn : L ≤ n) (he : e < n) (h : qw_stk S e = some st) : qw_stk S' (qi_s L e) = some (st.map (qi_q L)) := by
  rcases Nat.lt_or_ge e L with a | a
  · rw [qi_s_lt a, qi_stk0 hP hn (by omega) (by omega), h]; rfl
  · have := qi_stk1 hP hn hLn (d := e - L) (by omega)
    rw [show L + (e - L) = e from by omega, h] at this
    rw [qi_s_ge a]; exact this
theorem qi_whole {S S' : Nat → Int32} {L n : Nat} (hP : qi_P S S' L n) (hn : n ≤ 33) (hLn : L ≤ n) (h : qw_stk S n = some []) : qw_stk S' (n + 1) = some [] := by
  have := qi_stk1 hP hn hLn (d := n - L) (by omega)
  rw [show L + (n - L) = n from by omega, h] at this
  exact this
theorem qi_nx {S S' : Nat → Int32} {L n j : Nat} {f s : Int32} (hP : qi_P S S' L n) (hn : n ≤ 33) (hLn : L ≤ n) (hE : L < n → ¬ S L = 11) (hj : j < n) (h : qw_nx S n j f s) : qw_nx S' (n + 1) (qi_s L j) (qi_y L f) (qi_y L s) := by
  have ej := hP.1 j hj
  have en : ∀ i, i < n → qi_y L (nI (i + 1)) = nI (qi_s L i + 1) := fun i hi => by rw [qi_yn (by omega), qi_next]
  have ee : ∀ e, e < n → S e = 11 → qi_y L (nI e) = nI (qi_s L e) := by
    intro e he c
    rw [qi_yn (by omega)]
    rcases Nat.lt_trichotomy e L with a | a | a
    · rw [qi_s_lt a, qi_t_le (by omega)]
    · rw [a] at c; exact absurd c (hE (by omega))
    · rw [qi_s_ge (by omega), qi_t_gt a]
  have eb : ∀ e, e < n → qi_s L e < n + 1 := fun e he => by
    have := qi_s_b L e; omega
  rcases h with ⟨c, hf, e, q, r, he, c11, hs, hq, h⟩ | ⟨c, h, q, r, e, q', r', hs, he, c11, hs', hq, hf⟩ | ⟨c, q, r, hs, h⟩ | ⟨c, hf, h⟩ | ⟨c8, c9, c11, c15, hf, h⟩
  · refine Or.inl ⟨by rw [ej]; exact c, by rw [hf]; exact en j hj, qi_s L e, qi_q L q, r.map (qi_q L), eb e he, by rw [hP.1 e he]; exact c11, qi_stk hP hn hLn he hs, by show qi_s L q.1 = _; rw [hq], ?_⟩
    obtain ⟨g1, g2, g3⟩ := (qw_goodAt hs).2 q List.mem_cons_self
    rw [h]
    rcases g3 with z | ⟨x, x1, x2, x3, x4⟩
    · rw [if_pos z, if_pos (show (qi_q L q).2 = -1 by show qi_x L q.2 = -1; rw [z, qi_x1])]
      exact ee e he c11
    · have hx := qi_s_b L x
      have e3 : (qi_q L q).2 = nI (qi_s L x) := by show qi_x L q.2 = _; rw [x3, qi_xn (by omega)]
      rw [if_neg (by rw [x3]; exact qb_nem1 (by omega)), e3, if_neg (qb_nem1 (by omega)), x3, nI_1, nI_1]
      exact en x (by omega)
  · exact Or.inr (Or.inl ⟨by rw [ej]; exact c, by rw [h, qi_y1], qi_q L q, r.map (qi_q L), qi_s L e, qi_q L q', r'.map (qi_q L), qi_stk hP hn hLn hj hs, eb e he, by rw [hP.1 e he]; exact c11, qi_stk hP hn hLn he hs', by show qi_s L q'.1 = qi_s L q.1; rw [hq], by rw [hf]; exact ee e he c11⟩)
  · have g1 := ((qw_goodAt hs).2 q List.mem_cons_self).1
    have eq1 : S' (qi_q L q).1 = S q.1 := hP.1 q.1 (by omega)
    refine Or.inr (Or.inr (Or.inl ⟨by rw [ej]; exact c, qi_q L q, r.map (qi_q L), qi_stk hP hn hLn hj hs, ?_⟩))
    rcases h with ⟨a, b, d⟩ | ⟨a, b, d⟩
    · exact Or.inl ⟨by rw [eq1]; exact a, by rw [b]; exact en q.1 (by omega), by rw [d]; exact en j hj⟩
    · exact Or.inr ⟨by rw [eq1]; exact a, by rw [b]; exact en j hj, by rw [d, qi_y1]⟩
  · exact Or.inr (Or.inr (Or.inr (Or.inl ⟨by rw [ej]; exact c, by rw [hf, qi_y1], by rw [h, qi_y1]⟩)))
  · exact Or.inr (Or.inr (Or.inr (Or.inr ⟨by rw [ej]; exact c8, by rw [ej]; exact c9, by rw [ej]; exact c11, by rw [ej]; exact c15, by rw [hf]; exact en j hj, by rw [h, qi_y1]⟩)))
theorem qi_nxL {S S' : Nat → Int32} {L n : Nat} {f s : Int32} (h15 : ¬ S' L = 15) (hP : qi_P S S' L n) (h : qw_nx S' (n + 1) L f s) : f = nI (L + 1) ∧ s = -1 :=
  qw_nx_det h (Or.inr (Or.inr (Or.inr (Or.inr ⟨hP.2.1, hP.2.2.1, hP.2.2.2.2, h15, rfl, rfl⟩))))
theorem qi_loans {S S' : Nat → Int32} {L n : Nat} (hP : qi_P S S' L n) (h3 : ¬ (S' L = 3 ∨ S' L = 4)) (hLn : L ≤ n) : ∀ {i : Nat}, i ≤ n → (i ≤ L → ql_n S' i = ql_n S i) ∧ (L ≤ i → ql_n S' (i + 1) = ql_n S i)
  | 0, hi => by
    refine ⟨fun _ => rfl, fun h => ?_⟩
    have e : L = 0 := by omega
    subst e
    show 0 + _ = 0
    rw [if_neg h3]
  | i + 1, hi => by
    obtain ⟨a, b⟩ := qi_loans hP h3 hLn (i := i) (by omega)
    have e := hP.1 i (by omega)
    have c : i + 1 ≤ L → ql_n S' (i + 1) = ql_n S (i + 1) := by
      intro h
      show ql_n S' i + _ = ql_n S i + _
      rw [qi_s_lt (by omega)] at e
      rw [a (by omega), e]
    refine ⟨c, fun h => ?_⟩
    rcases Nat.lt_or_ge i L with z | z
    · have e2 : L = i + 1 := by omega
      show ql_n S' (i + 1) + _ = _
      rw [c (by omega), ← e2, if_neg h3]; rfl
    · rw [qi_s_ge z] at e
      show ql_n S' (i + 1) + _ = ql_n S i + _
      rw [b z, e]
