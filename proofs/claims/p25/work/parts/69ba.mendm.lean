/-! MENDING: a line at fault becomes one that never is -/
theorem lrB_put {G : sxG} {r : Nat → Nat} {fs fa fb : Nat → Int32} {n L a : Nat} {s x y : Int32} (hL : L < n) : (lrB G r fs fa fb n).set L (a, .inl (G.2.1, 3, .inl (upd (upd (upd (fun _ => 0) 0 s) 1 x) 2 y))) = lrB G (fun j => if j = L then a else r j) (upd fs L s) (upd fa L x) (upd fb L y) n := by
  have h := lrB_set (G := G) (r := r) (r' := fun j => if j = L then a else r j) (fs := fs) (fa := fa) (fb := fb) (fs' := upd fs L s) (fa' := upd fa L x) (fb' := upd fb L y) hL (fun i hi hne => ⟨by rw [if_neg hne], by rw [qb_un hne], by rw [qb_un hne], by rw [qb_un hne]⟩)
  rw [if_pos rfl] at h
  rw [← h]
  unfold lrF
  rw [qb_us, qb_us, qb_us]
/-- how many lines may yet be at fault -/
def lmU (fs fa : Nat → Int32) : Nat → Nat
  | 0 => 0
  | n + 1 => lmU fs fa n + (if (fs n = 0 ∧ fa n = 18) ∨ (fs n = 8 ∧ fa n = 0) then 0 else 1)
theorem lmU_le (fs fa : Nat → Int32) : ∀ n, lmU fs fa n ≤ n
  | 0 => Nat.le_refl _
  | n + 1 => by
    have := lmU_le fs fa n
    show lmU fs fa n + _ ≤ n + 1
    split <;> omega
theorem lmU_0 {fs fa : Nat → Int32} : ∀ {n : Nat}, lmU fs fa n = 0 → ∀ j, j < n → qz_safe fs fa j
  | 0, _, j, hj => absurd hj (Nat.not_lt_zero _)
  | n + 1, h, j, hj => by
    have h2 : lmU fs fa n + (if (fs n = 0 ∧ fa n = 18) ∨ (fs n = 8 ∧ fa n = 0) then 0 else 1) = 0 := h
    by_cases e : j = n
    · subst e
      by_cases c : (fs j = 0 ∧ fa j = 18) ∨ (fs j = 8 ∧ fa j = 0)
      · exact c
      · rw [if_neg c] at h2
        omega
    · exact lmU_0 (n := n) (by omega) j (by omega)
theorem lmU_put {fs fa : Nat → Int32} {L : Nat} {s x : Int32} (hs : (s = 0 ∧ x = 18) ∨ (s = 8 ∧ x = 0)) (hL : ¬ qz_safe fs fa L) : ∀ n, L < n → lmU (upd fs L s) (upd fa L x) n + 1 = lmU fs fa n
  | 0, h => absurd h (Nat.not_lt_zero _)
  | n + 1, h => by
    show lmU (upd fs L s) (upd fa L x) n + _ + 1 = lmU fs fa n + _
    by_cases e : L = n
    · subst e
      have hk : ∀ m, m ≤ L → lmU (upd fs L s) (upd fa L x) m = lmU fs fa m := by
        intro m
        induction m with
        | zero => intro _; rfl
        | succ m ih =>
          intro hm
          show lmU (upd fs L s) (upd fa L x) m + _ = lmU fs fa m + _
          rw [ih (by omega), qb_un (by omega), qb_un (by omega)]
      have hL2 : ¬ ((fs L = 0 ∧ fa L = 18) ∨ (fs L = 8 ∧ fa L = 0)) := hL
      rw [hk L (Nat.le_refl _), qb_us, qb_us, if_pos hs, if_neg hL2]
    · have := lmU_put (fs := fs) (fa := fa) hs hL n (by omega)
      rw [qb_un (fun z => e z.symm), qb_un (fun z => e z.symm)]
      omega
theorem lm_ql {fs : Nat → Int32} {L n : Nat} {s : Int32} (h : ql_n fs n ≤ 16) (hL : L < n) (hs : ¬ (s = 3 ∨ s = 4)) : ql_n (upd fs L s) n ≤ 16 := by
  have := qv_ql_set (f := fs) (x := s) n hL
  rw [if_neg hs] at this
  omega
/-- what stands open stays, where a line like any other takes the place of one -/
theorem lm_stk {fs : Nat → Int32} {L : Nat} {s : Int32} (h : ¬ fs L = 8 ∧ ¬ fs L = 9 ∧ ¬ fs L = 10 ∧ ¬ fs L = 11) (h' : ¬ s = 8 ∧ ¬ s = 9 ∧ ¬ s = 10 ∧ ¬ s = 11) : ∀ n, qw_stk (upd fs L s) n = qw_stk fs n
  | 0 => rfl
  | n + 1 => by
    have ih := lm_stk h h' n
    cases d : qw_stk fs n with
    | none => rw [qw_stk_n d, qw_stk_n (ih.trans d)]
    | some st =>
      rw [qw_stk_s d, qw_stk_s (ih.trans d)]
      have g := qw_goodAt d
      by_cases e : n = L
      · subst e
        rw [qw_plain st (by rw [qb_us]; exact h'.1) (by rw [qb_us]; exact h'.2.1) (by rw [qb_us]; exact h'.2.2.1) (by rw [qb_us]; exact h'.2.2.2), qw_plain st h.1 h.2.1 h.2.2.1 h.2.2.2]
      · unfold qw_step
        rw [qb_un e]
        by_cases c1 : fs n = 8 ∨ fs n = 10
        · rw [if_pos c1, if_pos c1]
        · rw [if_neg c1, if_neg c1]
          by_cases c2 : fs n = 9
          · rw [if_pos c2, if_pos c2]
            match st, g with
            | [], _ => rfl
            | q :: r, g =>
              have hq := (g.2 q List.mem_cons_self).2.1
              have hne : ¬ q.1 = L := fun z => by
                rw [z] at hq
                exact hq.elim h.1 h.2.2.1
              dsimp only
              rw [qb_un hne]
          · rw [if_neg c2, if_neg c2]
theorem lm_put {n L : Nat} {fk fs fa fb : Nat → Int32} {s x y : Int32} (hG : qz_G n fk fs fa fb) (h1 : 1 ≤ L) (hL : L < n) (hF : qp_F 8 fk s x y) (hl : ql_n (upd fs L s) n ≤ 16) (h4 : ¬ s = 4) (hs : (fs L = 8 ∧ s = 8) ∨ ((¬ fs L = 8 ∧ ¬ fs L = 9 ∧ ¬ fs L = 10 ∧ ¬ fs L = 11) ∧ (¬ s = 8 ∧ ¬ s = 9 ∧ ¬ s = 10 ∧ ¬ s = 11))) : qz_G n fk (upd fs L s) (upd fa L x) (upd fb L y) := by
  obtain ⟨g1, g2, g3, g4, g5, g6, g7, g8, g9⟩ := hG
  refine ⟨g1, g2, g3, fun j hj => ?_, by rw [qb_un (by omega)]; exact g5, by rw [qb_un (by omega)]; exact g6, hl, fun j hj e => ?_, ?_⟩
  · by_cases q : j = L
    · subst q
      rw [qb_us, qb_us, qb_us]
      exact hF
    · rw [qb_un q, qb_un q, qb_un q]
      exact g4 j hj
  · by_cases q : j = L
    · subst q
      rw [qb_us] at e
      exact absurd e h4
    · rw [qb_un q] at e ⊢
      exact g8 j hj e
  · rcases hs with ⟨e1, e2⟩ | ⟨e1, e2⟩
    · have e : upd fs L s = fs := by
        funext j
        by_cases q : j = L
        · subst q
          rw [qb_us, e2, e1]
        · exact qb_un q
      rw [e]
      exact g9
    · rw [lm_stk e1 e2]
      exact g9
/-- the first line at fault -/
theorem lm_first {n : Nat} {fk fs fa fb : Nat → Int32} {T : qk_T} (hG : qz_G n fk fs fa fb) (hL : qk_L 8 n fk fs fa fb T) (h0 : 0 < qk_fc T) : ∃ L : Nat, 1 ≤ L ∧ L < n ∧ qk_xl T 0 = nI L ∧ ¬ qk_xn T 0 = 5 ∧ ¬ qz_safe fs fa L ∧ ¬ fs L = 9 ∧ ¬ fs L = 10 ∧ ¬ fs L = 11 := by
  have hw := hG.2.2.2.2.2.2.2.2
  have hn := hG.2.2.1
  have h5 := hL.2.2.2.2 hw
  have hfc := h5.2.2.2.2.1
  rw [hfc] at h0
  obtain ⟨L, a, b, c⟩ := qx_n_of h0
  obtain ⟨d, e⟩ := h5.2.2.2.2.2 L a b
  rw [c] at d e
  have h1 : 1 ≤ L := by
    rcases Nat.eq_zero_or_pos L with z | z
    · rw [z] at b
      exact absurd b (qz_bad1 hG hL)
    · exact z
  refine ⟨L, h1, a, d, ?_, fun z => qz_bad2 hG hL a h1 z b, fun z => qz_bad0 hL a (by omega) (Or.inl z) b, fun z => qz_bad0 hL a (by omega) (Or.inr (Or.inl z)) b, fun z => qz_bad0 hL a (by omega) (Or.inr (Or.inr (Or.inl z))) b⟩
  rw [e]
  unfold qk_no qx_no
  repeat' split
  all_goals decide
theorem lm_zero {n : Nat} {fk fs fa fb : Nat → Int32} {T : qk_T} (hG : qz_G n fk fs fa fb) (hL : qk_L 8 n fk fs fa fb T) (h0 : lmU fs fa n = 0) : qk_fc T = 0 := by
  have hw := hG.2.2.2.2.2.2.2.2
  rw [(hL.2.2.2.2 hw).2.2.2.2.1]
  refine qx_n_z fun j hj hb => ?_
  rcases Nat.eq_zero_or_pos j with z | z
  · rw [z] at hb
    exact qz_bad1 hG hL hb
  · exact qz_bad2 hG hL hj z (lmU_0 h0 j hj) hb
/-- an END line's row is one or two long -/
theorem jn_small {fs : Nat → Int32} {n i : Nat} {nl : Nat → Nat} {nc : Nat → Nat → Int32} (hF : jnF fs n nl nc n) (hi : i < n) (h : fs i = 11) : nl i ≤ 2 := by
  obtain ⟨q, r, -, ⟨-, e, -⟩ | ⟨-, e⟩⟩ := (hF i hi h).1 hi
  · omega
  · omega
