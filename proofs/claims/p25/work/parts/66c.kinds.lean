/-! THE KINDS AS THE LAW TELLS THEM; what stands open as it writes -/
def lkF (j : Nat) : Nat → Int32 := upd (upd (upd (upd (upd (upd (upd (upd (fun _ => 0) 0 0) 1 0) 2 1) 3 2) 4 3) 5 4) 6 5) 7 (nI j)
theorem lkF_K {j : Nat} (h : j < 6) : qz_K (lkF j) := by
  refine ⟨rfl, rfl, rfl, rfl, rfl, rfl, rfl, ?_⟩
  have e : lkF j 7 = nI j := rfl
  rw [e]
  rcases (show j = 0 ∨ j = 1 ∨ j = 2 ∨ j = 3 ∨ j = 4 ∨ j = 5 by omega) with z | z | z | z | z | z
  · subst z; exact Or.inl rfl
  · subst z; exact Or.inr (Or.inl rfl)
  · subst z; exact Or.inr (Or.inr (Or.inl rfl))
  · subst z; exact Or.inr (Or.inr (Or.inr (Or.inl rfl)))
  · subst z; exact Or.inr (Or.inr (Or.inr (Or.inr (Or.inl rfl))))
  · subst z; exact Or.inr (Or.inr (Or.inr (Or.inr (Or.inr rfl))))
theorem lkF_at {j : Nat} (h : j < 6) {i : Nat} (hi : i < 8) : ∃ t : Nat, t ≤ 5 ∧ lkF j i = nI t := by
  rcases (show i = 0 ∨ i = 1 ∨ i = 2 ∨ i = 3 ∨ i = 4 ∨ i = 5 ∨ i = 6 ∨ i = 7 by omega) with z | z | z | z | z | z | z | z
  · subst z; exact ⟨0, by omega, rfl⟩
  · subst z; exact ⟨0, by omega, rfl⟩
  · subst z; exact ⟨1, by omega, rfl⟩
  · subst z; exact ⟨2, by omega, rfl⟩
  · subst z; exact ⟨3, by omega, rfl⟩
  · subst z; exact ⟨4, by omega, rfl⟩
  · subst z; exact ⟨5, by omega, rfl⟩
  · subst z; exact ⟨j, by omega, rfl⟩
/-- the first i of them -/
def lkG (j i : Nat) : Nat → Int32 := fun v => if v < i then lkF j v else 0
theorem lkG_0 (j : Nat) : lkG j 0 = fun _ => 0 := by
  funext v
  unfold lkG
  rw [if_neg (Nat.not_lt_zero v)]
theorem lkG_s {j i : Nat} {x : Int32} (h : lkF j i = x) : upd (lkG j i) i x = lkG j (i + 1) := by
  funext v
  unfold lkG
  by_cases q : v = i
  · subst q
    rw [qb_us, if_pos (Nat.lt_succ_self _)]
    exact h.symm
  · rw [qb_un q]
    by_cases d : v < i
    · rw [if_pos d, if_pos (by omega)]
    · rw [if_neg d, if_neg (by omega)]
theorem lkG_8 (j : Nat) : lkG j 8 = lkF j := by
  funext v
  unfold lkG
  by_cases q : v < 8
  · rw [if_pos q]
  · rw [if_neg q]
    unfold lkF
    rw [qb_un (by omega), qb_un (by omega), qb_un (by omega), qb_un (by omega), qb_un (by omega), qb_un (by omega), qb_un (by omega), qb_un (by omega)]
/-- what stands open, and what the law knows of it -/
def lwT (S D : Nat → Int32) : List (Nat × Int32) → Prop
  | [] => True
  | q :: r => ((D (r.length + 1) = 10 ∧ S q.1 = 10) ∨ (D (r.length + 1) = 8 ∧ S q.1 = 8 ∧ q.2 = -1) ∨ D (r.length + 1) = 9) ∧ lwT S D r
theorem lwT_cong {S S' D D' : Nat → Int32} : ∀ {st : List (Nat × Int32)}, (∀ q, q ∈ st → S' q.1 = S q.1) → (∀ i, 1 ≤ i → i ≤ st.length → D' i = D i) → lwT S D st → lwT S' D' st
  | [], _, _, _ => trivial
  | q :: r, h1, h2, h => by
    obtain ⟨h3, h4⟩ := h
    refine ⟨?_, lwT_cong (fun z hz => h1 z (List.mem_cons_of_mem _ hz)) (fun i a b => h2 i a (by rw [List.length_cons]; omega)) h4⟩
    rw [h2 (r.length + 1) (by omega) (by rw [List.length_cons]; exact Nat.le_refl _), h1 q List.mem_cons_self]
    exact h3
/-- what holds of a program as it is written: its first line, its LENDs, what stands open -/
def lwI (n d : Nat) (fs fa fb D : Nat → Int32) : Prop := 1 ≤ n ∧ fs 0 = 0 ∧ fa 0 = 0 ∧ (∀ j, j < n → fs j = 4 → ¬ fb j = 0) ∧ ∃ st, qw_stk fs n = some st ∧ st.length = d ∧ D 0 = nI d ∧ lwT fs D st
theorem lw_stk {S S' : Nat → Int32} : ∀ {n : Nat}, (∀ j, j < n → S' j = S j) → qw_stk S' n = qw_stk S n
  | 0, _ => rfl
  | n + 1, h => by
    have e := lw_stk (n := n) (fun j hj => h j (by omega))
    cases d : qw_stk S n with
    | none => rw [qw_stk_n d, qw_stk_n (e.trans d)]
    | some st =>
      rw [qw_stk_s d, qw_stk_s (e.trans d)]
      have g := qw_goodAt d
      unfold qw_step
      rw [h n (by omega)]
      by_cases c1 : S n = 8 ∨ S n = 10
      · rw [if_pos c1, if_pos c1]
      · rw [if_neg c1, if_neg c1]
        by_cases c2 : S n = 9
        · rw [if_pos c2, if_pos c2]
          match st, g with
          | [], _ => rfl
          | q :: r, g =>
            dsimp only
            rw [h q.1 (by have := (g.2 q List.mem_cons_self).1; omega)]
        · rw [if_neg c2, if_neg c2]
theorem lw_add {n d : Nat} {fs fa fb D : Nat → Int32} {a b c : Int32} {D' : Nat → Int32} {d' : Nat} (h : lwI n d fs fa fb D) (h4 : a = 4 → ¬ c = 0)
    (hs : ∀ st, qw_stk fs n = some st → st.length = d → lwT fs D st → ∃ st', qw_step (upd fs n a) n st = some st' ∧ st'.length = d' ∧ D' 0 = nI d' ∧ lwT (upd fs n a) D' st') : lwI (n + 1) d' (upd fs n a) (upd fa n b) (upd fb n c) D' := by
  obtain ⟨h1, h2, h3, h5, st, s1, s2, s3, s4⟩ := h
  obtain ⟨st', t1, t2, t3, t4⟩ := hs st s1 s2 s4
  refine ⟨by omega, by rw [qb_un (by omega)]; exact h2, by rw [qb_un (by omega)]; exact h3, fun j hj e => ?_, st', ?_, t2, t3, t4⟩
  · by_cases q : j = n
    · subst q
      rw [qb_us] at e ⊢
      exact h4 e
    · rw [qb_un q] at e ⊢
      exact h5 j (by omega) e
  · rw [qw_stk_s ((lw_stk (S := fs) (S' := upd fs n a) (fun j hj => qb_un (by omega))).trans s1)]
    exact t1
/-- the lines below: their sorts stay -/
theorem lw_keep {n : Nat} {fs : Nat → Int32} {a : Int32} {st : List (Nat × Int32)} (s1 : qw_stk fs n = some st) : ∀ q, q ∈ st → upd fs n a q.1 = fs q.1 := fun q hq => qb_un (by have := ((qw_goodAt s1).2 q hq).1; omega)
theorem lw_plain {n d : Nat} {fs fa fb D : Nat → Int32} {a b c : Int32} (h : lwI n d fs fa fb D) (h4 : a = 4 → ¬ c = 0) (h8 : ¬ a = 8) (h9 : ¬ a = 9) (h10 : ¬ a = 10) (h11 : ¬ a = 11) : lwI (n + 1) d (upd fs n a) (upd fa n b) (upd fb n c) D := by
  have hd : D 0 = nI d := by
    obtain ⟨-, -, -, -, st, -, -, s3, -⟩ := h
    exact s3
  refine lw_add h h4 fun st s1 s2 s4 => ⟨st, qw_plain st (by rw [qb_us]; exact h8) (by rw [qb_us]; exact h9) (by rw [qb_us]; exact h10) (by rw [qb_us]; exact h11), s2, hd, lwT_cong (lw_keep s1) (fun _ _ _ => rfl) s4⟩
theorem lw_open {n d : Nat} {fs fa fb D : Nat → Int32} {a b c : Int32} (h : lwI n d fs fa fb D) (ha : a = 8 ∨ a = 10) : lwI (n + 1) (d + 1) (upd fs n a) (upd fa n b) (upd fb n c) (upd (upd D 0 (nI (d + 1))) (d + 1) a) := by
  refine lw_add h (fun e => by rcases ha with z | z <;> (rw [z] at e; exact absurd e (by decide))) fun st s1 s2 s4 => ⟨(n, -1) :: st, qw_open st (by rw [qb_us]; exact ha), by rw [List.length_cons, s2], ?_, ?_, ?_⟩
  · rw [qb_un (by omega), qb_us]
  · show (upd (upd D 0 (nI (d + 1))) (d + 1) a (st.length + 1) = 10 ∧ upd fs n a n = 10) ∨ (upd (upd D 0 (nI (d + 1))) (d + 1) a (st.length + 1) = 8 ∧ upd fs n a n = 8 ∧ (-1 : Int32) = -1) ∨ upd (upd D 0 (nI (d + 1))) (d + 1) a (st.length + 1) = 9
    rw [s2, qb_us, qb_us]
    rcases ha with z | z
    · exact Or.inr (Or.inl ⟨z, z, rfl⟩)
    · exact Or.inl ⟨z, z⟩
  · exact lwT_cong (lw_keep s1) (fun i a b => by rw [qb_un (by omega), qb_un (by omega)]) s4
theorem lw_else {n d : Nat} {fs fa fb D : Nat → Int32} (h : lwI n d fs fa fb D) (hd : 1 ≤ d) (h8 : D d = 8) : lwI (n + 1) d (upd fs n 9) (upd fa n 0) (upd fb n 0) (upd D d 9) := by
  have hd0 : D 0 = nI d := by
    obtain ⟨-, -, -, -, st, -, -, s3, -⟩ := h
    exact s3
  refine lw_add h (fun e => absurd e (by decide)) fun st s1 s2 s4 => ?_
  match st, s1, s2, s4 with
  | [], _, s2, _ => exact absurd s2 (by show ¬ (0 : Nat) = d; omega)
  | q :: r, s1, s2, s4 =>
    have e : r.length + 1 = d := s2
    obtain ⟨t1, t2⟩ := s4
    rw [e, h8] at t1
    have t3 : fs q.1 = 8 ∧ q.2 = -1 := by
      rcases t1 with z | z | z
      · exact absurd z.1 (by decide)
      · exact z.2
      · exact absurd z (by decide)
    refine ⟨(q.1, nI n) :: r, qw_else1 (qb_us _ _ _) ⟨by rw [lw_keep s1 q List.mem_cons_self]; exact t3.1, t3.2⟩, s2, ?_, ?_, ?_⟩
    · rw [qb_un (by omega)]
      exact hd0
    · rw [e, qb_us]
      exact Or.inr (Or.inr rfl)
    · exact lwT_cong (fun z hz => lw_keep s1 z (List.mem_cons_of_mem _ hz)) (fun i a b => qb_un (by omega)) t2
theorem lw_end {n d : Nat} {fs fa fb D : Nat → Int32} (h : lwI n d fs fa fb D) (hd : 1 ≤ d) : lwI (n + 1) (d - 1) (upd fs n 11) (upd fa n 0) (upd fb n 0) (upd D 0 (nI (d - 1))) := by
  refine lw_add h (fun e => absurd e (by decide)) fun st s1 s2 s4 => ?_
  match st, s1, s2, s4 with
  | [], _, s2, _ => exact absurd s2 (by show ¬ (0 : Nat) = d; omega)
  | q :: r, s1, s2, s4 =>
    have e : r.length + 1 = d := s2
    refine ⟨r, qw_end1 (qb_us _ _ _), by omega, qb_us _ _ _, ?_⟩
    exact lwT_cong (fun z hz => lw_keep s1 z (List.mem_cons_of_mem _ hz)) (fun i a b => qb_un (by omega)) s4.2
/-- by what add did -/
theorem lw_lgA {n d n' : Nat} {fs fa fb D fs' fa' fb' : Nat → Int32} {a b c : Int32} (h : lwI n d fs fa fb D) (hA : lgA n fs fa fb a b c n' fs' fa' fb') (h4 : a = 4 → ¬ c = 0) (h8 : ¬ a = 8) (h9 : ¬ a = 9) (h10 : ¬ a = 10) (h11 : ¬ a = 11) : lwI n' d fs' fa' fb' D ∧ n' ≤ n + 1 := by
  rcases hA with ⟨rfl, rfl, rfl, rfl, -⟩ | ⟨-, rfl, rfl, rfl, rfl⟩
  · exact ⟨h, Nat.le_succ _⟩
  · exact ⟨lw_plain h h4 h8 h9 h10 h11, Nat.le_refl _⟩
/-- a line that is added for sure -/
theorem lg_sure {n n' : Nat} {fs fa fb fs' fa' fb' : Nat → Int32} {a b c : Int32} (hA : lgA n fs fa fb a b c n' fs' fa' fb') (hn : n < 32) (h3 : ¬ a = 3) (h4 : ¬ a = 4) : n' = n + 1 ∧ fs' = upd fs n a ∧ fa' = upd fa n b ∧ fb' = upd fb n c := by
  rcases hA with ⟨-, -, -, -, z⟩ | ⟨-, z⟩
  · rcases z with z | z | z
    · omega
    · exact absurd z h3
    · exact absurd z h4
  · exact z
