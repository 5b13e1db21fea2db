/-! WHAT A LINE USES IS THERE; outside of loops -/
section
variable {n : Nat} {fk fs fa fb : Nat → Int32} {T : qk_T}
theorem ls_kind {s a b x : Int32} (h : qp_Fc 8 fk s a b) (hx : (x = qd_u s a b ∧ ¬ s = 0 ∧ ¬ s = 9 ∧ ¬ s = 10 ∧ ¬ s = 11 ∧ ¬ s = 15) ∨ (s = 12 ∧ x = b)) : ¬ s_X5_kindAt 8 fk x = -1 := by
  have n4 : ∀ y : Int32, (y = 0 ∨ y = 1 ∨ y = 2 ∨ y = 3 ∨ y = 4 ∨ y = 5) → ¬ y = -1 := by
    rintro y (z | z | z | z | z | z) <;> (rw [z]; decide)
  have no : ∀ {k : Int32}, s = k → ¬ k = 12 → (x = qd_u s a b ∧ ¬ s = 0 ∧ ¬ s = 9 ∧ ¬ s = 10 ∧ ¬ s = 11 ∧ ¬ s = 15) := by
    intro k e hk
    rcases hx with z | z
    · exact z
    · exact absurd (e.symm.trans z.1) hk
  rcases h with ⟨e, -⟩ | ⟨e, h1, h2⟩ | ⟨e, h1, h2⟩ | ⟨e, h1, h2⟩ | ⟨e, h1, h2⟩ | ⟨e, h1⟩ | ⟨e, h1, -⟩ | ⟨e, h1⟩ | ⟨e, h1⟩ | ⟨e, -⟩ | ⟨e, -⟩ | ⟨e, -⟩ | ⟨e, h1, h2⟩ | ⟨e, h1⟩ | ⟨e, h1⟩ | ⟨e, -⟩ | ⟨e, h1⟩
  · exact absurd e (no e (by decide)).2.1
  · have g := (no e (by decide)).1
    rw [e] at g
    have g : x = b := g
    rw [g, ← h1]
    rcases h2 with z | z | z | z
    · exact n4 _ (Or.inr (Or.inl z))
    · exact n4 _ (Or.inr (Or.inr (Or.inl z)))
    · exact n4 _ (Or.inr (Or.inr (Or.inr (Or.inr (Or.inr z)))))
    · exact n4 _ (Or.inr (Or.inr (Or.inr (Or.inr (Or.inl z)))))
  · have g := (no e (by decide)).1
    rw [e] at g
    have g : x = b := g
    rw [g, ← h1]
    rcases h2 with z | z | z
    · exact n4 _ (Or.inl z)
    · exact n4 _ (Or.inr (Or.inr (Or.inr (Or.inl z))))
    · exact n4 _ (Or.inr (Or.inr (Or.inr (Or.inr (Or.inr z)))))
  · have g := (no e (by decide)).1
    rw [e] at g
    have g : x = b := g
    rw [g]
    rcases h2 with z | z | z
    · exact n4 _ (Or.inl z)
    · exact n4 _ (Or.inr (Or.inl z))
    · exact n4 _ (Or.inr (Or.inr (Or.inl z)))
  · have g := (no e (by decide)).1
    rw [e] at g
    have g : x = b := g
    rw [g]
    rcases h2 with z | z | z
    · exact n4 _ (Or.inl z)
    · exact n4 _ (Or.inr (Or.inl z))
    · exact n4 _ (Or.inr (Or.inr (Or.inl z)))
  · have g := (no e (by decide)).1
    rw [e] at g
    have g : x = a := g
    rw [g]
    exact h1
  · have g := (no e (by decide)).1
    rw [e] at g
    have g : x = a := g
    rw [g]
    exact h1
  · have g := (no e (by decide)).1
    rw [e] at g
    have g : x = a := g
    rw [g]
    rcases h1 with z | z | z
    · exact n4 _ (Or.inr (Or.inl z))
    · exact n4 _ (Or.inr (Or.inr (Or.inl z)))
    · exact n4 _ (Or.inr (Or.inr (Or.inr (Or.inr (Or.inr z)))))
  · have g := (no e (by decide)).1
    rw [e] at g
    have g : x = a := g
    rw [g]
    exact n4 _ (Or.inl h1)
  · exact absurd e (no e (by decide)).2.2.1
  · exact absurd e (no e (by decide)).2.2.2.1
  · exact absurd e (no e (by decide)).2.2.2.2.1
  · rcases hx with ⟨g, -⟩ | ⟨-, g⟩
    · rw [e] at g
      have g : x = a := g
      rw [g]
      exact n4 _ (Or.inr (Or.inr (Or.inr (Or.inr (Or.inr h1)))))
    · rw [g]
      exact n4 _ (Or.inr (Or.inr (Or.inr (Or.inr (Or.inr h2)))))
  · have g := (no e (by decide)).1
    rw [e] at g
    have g : x = a := g
    rw [g]
    exact n4 _ (Or.inr (Or.inr (Or.inr (Or.inr (Or.inr h1)))))
  · have g := (no e (by decide)).1
    rw [e] at g
    have g : x = a := g
    rw [g]
    exact n4 _ (Or.inr (Or.inr (Or.inr (Or.inr (Or.inr h1)))))
  · exact absurd e (no e (by decide)).2.2.2.2.2
  · have g := (no e (by decide)).1
    rw [e] at g
    have g : x = a := g
    rw [g]
    exact n4 _ (Or.inl h1)
/-- all leaves are there, if none may lack -/
theorem ls_has {L p : Nat} (hK : qp_K 8 fk) (hL : qk_L 8 n fk fs fa fb T) (hw : qw_stk fs n = some []) (hn : n ≤ 32) (hLn : L ≤ n) (hp : p < 24) (r : ¬ qk_cr T L = 0) (z : s_X5_leavesOf 8 fk (nI p) &&& qk_cl T L = 0) : s_X0_stateAt 8 n fk (qk_cr T) (qk_ch T) (qk_cl T) (nI L) (nI p) = 1 := by
  have hcov := (hL.2.2.2.2 hw).1.2.1
  have hlv : ∀ i, qb_t (s_X5_leavesOf 8 fk (nI p)) i = true → qb_t (s_X5_allLeaves 8 fk) i = true := by
    intro i hi
    rw [qp_all (by omega)]
    exact qp_lf_all hK ((qp_leaves (by omega) (by omega)).mp hi)
  have z2 : qk_cl T L &&& s_X5_leavesOf 8 fk (nI p) = 0 := by rw [Int32.and_comm]; exact z
  have hall : (qk_ch T L) &&& (s_X5_leavesOf 8 fk (nI p)) = s_X5_leavesOf 8 fk (nI p) := by
    refine qb_ext fun i _ => ?_
    rw [qb_and]
    cases k : qb_t (s_X5_leavesOf 8 fk (nI p)) i with
    | false => simp
    | true =>
      rcases hcov L i (by omega) r (hlv i k) with h | h
      · have h : qb_t (qk_ch T L) i = true := h
        rw [h]; rfl
      · have h : qb_t (qk_cl T L) i = true := h
        have := qb_dis.mp z i k
        rw [h] at this; cases this
  unfold s_X0_stateAt
  rw [if_neg (show ¬ s_X5_isLineOrEnd n (nI L) = 0 by rw [qp_isEnd (by omega) (by omega), if_pos hLn]; decide), qb_cl (by omega), if_neg r, if_pos hall, if_pos z2]
/-- what a line uses is there, where there are no faults -/
theorem ls_used {i : Nat} {x : Int32} (hK : qp_K 8 fk) (hL : qk_L 8 n fk fs fa fb T) (hw : qw_stk fs n = some []) (hn : n ≤ 32) (hi : i < n) (hF : qp_F 8 fk (fs i) (fa i) (fb i)) (r : ¬ qk_cr T i = 0) (hb : ¬ qk_bad 8 n fk fs fa fb T i) (hx : (x = qd_u (fs i) (fa i) (fb i) ∧ ¬ fs i = 0 ∧ ¬ fs i = 9 ∧ ¬ fs i = 10 ∧ ¬ fs i = 11 ∧ ¬ fs i = 15) ∨ (fs i = 12 ∧ x = fb i)) : ∃ p : Nat, p < 24 ∧ x = nI p ∧ ¬ qp_kd 8 fk p = -1 ∧ s_X0_stateAt 8 n fk (qk_cr T) (qk_ch T) (qk_cl T) (nI i) (nI p) = 1 := by
  have hk := ls_kind (qp_fit hF) hx
  obtain ⟨p, hp, rfl, e⟩ := qp_kind_of (pv := 8) (by omega) hk
  rw [e] at hk
  refine ⟨p, hp, rfl, hk, ls_has hK hL hw hn (by omega) hp r ?_⟩
  obtain ⟨d1, d2, d3, d4, d5, -⟩ := hL.1 i hi
  have nb : qk_dul T i &&& qk_cl T i = 0 ∧ qk_dtl T i &&& qk_cl T i = 0 := by
    refine ⟨Classical.byContradiction fun z => hb ⟨r, Or.inl z⟩, Classical.byContradiction fun z => hb ⟨r, Or.inr (Or.inl z)⟩⟩
  have d4 : qk_dul T i = s_X5_leavesOf 8 fk (qd_u (fs i) (fa i) (fb i)) := d4
  have d5 : qk_dtl T i = s_X5_leavesOf 8 fk (qd_t (fs i) (fb i)) := d5
  rcases hx with ⟨g, -⟩ | ⟨g1, g2⟩
  · rw [d4, ← g] at nb
    exact nb.1
  · rw [d5, g1] at nb
    have e2 : qd_t 12 (fb i) = fb i := rfl
    rw [e2, ← g2] at nb
    exact nb.2
/-- no loop is open: nothing behind leads ahead -/
theorem ls_out {L : Nat} {nl : Nat → Nat} {nc : Nat → Nat → Int32} (hL : qk_L 8 n fk fs fa fb T) (hw : qw_stk fs n = some []) (hn : n ≤ 32) (hLn : L ≤ n) (hF : jnF fs n nl nc n) (hno : ∀ j, L ≤ j → j < n → fs j = 11 → ¬ (1 < nl j ∧ nc j 0 ≤ nI L)) : qj_out T L n := by
  intro j t h1 h2 h3 h4
  refine qj_outside (by omega) ((hL.2.2.1.1 hw).2 j h2).1 h1 h2 h3 (fun k q r k1 k2 k3 k4 k5 => ?_) h4
  obtain ⟨q', r', e, c⟩ := (hF k k2 k3).1 k2
  rw [k4] at e
  cases e
  have hq := ((qw_goodAt k4).2 q List.mem_cons_self).1
  rcases c with ⟨c1, c2, c3⟩ | ⟨c1, -⟩
  · have c4 := hno k k1 k2 k3
    rcases Nat.lt_or_ge L (q.1 + 1) with z | z
    · exact z
    · exact absurd ⟨by omega, by rw [c3]; exact nI_le z (by omega)⟩ c4
  · exact absurd k5 c1
end
