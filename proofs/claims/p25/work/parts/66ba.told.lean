/-! THE LAW'S PROGRAM AND THE MILL'S: the same lines -/
theorem lx_glue {X1 X2 X3 A B C : va_W} (h : A ++ B = C) : lxF [X1, X2, X3, A, B] = lxF [X1, X2, X3, C] := by
  subst h
  unfold lxF
  simp
theorem lrB_new {G : sxG} {r : Nat → Nat} {fs fa fb : Nat → Int32} {n one : Nat} {a b c : Int32} : lrB G r fs fa fb n ++ [(one, .inl (G.2.1, 3, .inl (upd (upd (upd (fun _ => 0) 0 a) 1 b) 2 c)))] = lrB G (fun i => if i < n then r i else one) (upd fs n a) (upd fa n b) (upd fb n c) (n + 1) := by
  rw [lrB_app]
  congr 1
  · refine lrB_cong fun i hi => ⟨by rw [if_pos hi], ?_, ?_, ?_⟩
    · rw [qb_un (by omega)]
    · rw [qb_un (by omega)]
    · rw [qb_un (by omega)]
  · rw [if_neg (Nat.lt_irrefl n)]
    unfold lrF
    rw [qb_us, qb_us, qb_us]
/-- what stands in the rows is what the mill was told -/
abbrev lsI (fk : Nat → Int32) (n : Nat) (rr : Nat → Option Nat) (r : Nat → Nat) (fs fa fb : Nat → Int32) (M : mlS) (rn : Int32) : Prop := (∀ i, i < n → rr i = some (r i)) ∧ mlI 8 fk n fs fa fb M ∧ lgP 8 fk n fs fa fb ∧ M.2.2.2.1 = rn
/-- a line more, or none -/
def lgA (n : Nat) (fs fa fb : Nat → Int32) (a b c : Int32) (n' : Nat) (fs' fa' fb' : Nat → Int32) : Prop := (n' = n ∧ fs' = fs ∧ fa' = fa ∧ fb' = fb ∧ (n = 32 ∨ a = 3 ∨ a = 4)) ∨ (n < 32 ∧ n' = n + 1 ∧ fs' = upd fs n a ∧ fa' = upd fa n b ∧ fb' = upd fb n c)
/-- the kinds as they are told: every kind has a place -/
theorem lk_all {fk : Nat → Int32} (h : qz_K fk) : qp_kd 8 fk 0 = 0 ∧ qp_kd 8 fk 3 = 0 ∧ qp_kd 8 fk 6 = 1 ∧ qp_kd 8 fk 9 = 2 ∧ qp_kd 8 fk 12 = 3 ∧ qp_kd 8 fk 15 = 4 ∧ qp_kd 8 fk 18 = 5 := by
  obtain ⟨h0, h1, h2, h3, h4, h5, h6, h7⟩ := h
  refine ⟨?_, ?_, ?_, ?_, ?_, ?_, ?_⟩
  · unfold qp_kd; rw [if_pos (by decide), if_pos (by decide)]; exact h0
  · unfold qp_kd; rw [if_pos (by decide), if_pos (by decide)]; exact h1
  · unfold qp_kd; rw [if_pos (by decide), if_pos (by decide)]; exact h2
  · unfold qp_kd; rw [if_pos (by decide), if_pos (by decide)]; exact h3
  · unfold qp_kd; rw [if_pos (by decide), if_pos (by decide)]; exact h4
  · unfold qp_kd; rw [if_pos (by decide), if_pos (by decide)]; exact h5
  · unfold qp_kd; rw [if_pos (by decide), if_pos (by decide)]; exact h6
/-- place finds one of the kind that is asked for -/
theorem lk_place {fk : Nat → Int32} {kd : Int32} {p : Nat} (h : qz_K fk) (hk : kd = 0 ∨ kd = 1 ∨ kd = 2 ∨ kd = 3 ∨ kd = 4 ∨ kd = 5) (hp : qp_kd 8 fk p = kd ∨ ∀ j, j < 24 → ¬ qp_kd 8 fk j = kd) : qp_kd 8 fk p = kd := by
  obtain ⟨h0, h1, h2, h3, h4, h5, h6⟩ := lk_all h
  rcases hp with hp | hp
  · exact hp
  · rcases hk with e | e | e | e | e | e
    · exact absurd (h0.trans e.symm) (hp 0 (by omega))
    · exact absurd (h2.trans e.symm) (hp 6 (by omega))
    · exact absurd (h3.trans e.symm) (hp 9 (by omega))
    · exact absurd (h4.trans e.symm) (hp 12 (by omega))
    · exact absurd (h5.trans e.symm) (hp 15 (by omega))
    · exact absurd (h6.trans e.symm) (hp 18 (by omega))
/-- what fits, by kinds -/
theorem lf_kd {fk : Nat → Int32} {p : Nat} (hp : p < 24) : s_X5_kindAt 8 fk (nI p) = qp_kd 8 fk p := qp_kindAt (by omega) (by omega)
theorem lf_small {c d : Nat} (hc : c ≤ 40) (hd : d ≤ 20) : ¬ s_X9_isSmall (nI c - nI d) = 0 := by
  have key : ∀ (c : Fin 41) (d : Fin 21), ¬ s_X9_isSmall (nI c.val - nI d.val) = 0 := by decide +kernel
  exact key ⟨c, by omega⟩ ⟨d, by omega⟩
theorem lf_small0 {c : Nat} (hc : c ≤ 40) : ¬ s_X9_isSmall (nI c) = 0 := by
  have key : ∀ c : Fin 41, ¬ s_X9_isSmall (nI c.val) = 0 := by decide +kernel
  exact key ⟨c, by omega⟩
theorem lf_hold {fk : Nat → Int32} {t : Nat} {a : Int32} (ht : t < 2) (hA : s_X5_kindAt 8 fk a = 5) : qp_F 8 fk (nI (13 + t)) a 0 := by
  rcases (show t = 0 ∨ t = 1 by omega) with e | e
  · subst e
    exact lf13 hA
  · subst e
    exact lf14 hA
