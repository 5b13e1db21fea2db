/-! THE FIRST LINES -/
def lwFi : Nat → Int32 := upd (upd (upd (upd (fun _ => 0) 0 3) 1 6) 2 9) 3 18
theorem lwF_at {i : Nat} (h : i < 4) : ∃ pf : Nat, lwFi i = nI pf ∧ (pf = 3 ∨ pf = 6 ∨ pf = 9 ∨ pf = 18) := by
  rcases (show i = 0 ∨ i = 1 ∨ i = 2 ∨ i = 3 by omega) with z | z | z | z
  · subst z; exact ⟨3, rfl, by omega⟩
  · subst z; exact ⟨6, rfl, by omega⟩
  · subst z; exact ⟨9, rfl, by omega⟩
  · subst z; exact ⟨18, rfl, by omega⟩
theorem lwF_kd {fk : Nat → Int32} {pf : Nat} (h : qz_K fk) (hp : pf = 3 ∨ pf = 6 ∨ pf = 9 ∨ pf = 18) : qp_kd 8 fk pf = 0 ∨ qp_kd 8 fk pf = 1 ∨ qp_kd 8 fk pf = 2 ∨ qp_kd 8 fk pf = 5 := by
  obtain ⟨h0, h1, h2, h3, h4, h5, h6⟩ := lk_all h
  rcases hp with z | z | z | z
  · rw [z]; exact Or.inl h1
  · rw [z]; exact Or.inr (Or.inl h2)
  · rw [z]; exact Or.inr (Or.inr (Or.inl h3))
  · rw [z]; exact Or.inr (Or.inr (Or.inr h6))
theorem lwI_0 (x : Int32) : lwI (0 + 1) 0 (upd (fun _ => 0) 0 0) (upd (fun _ => 0) 0 0) (upd (fun _ => 0) 0 x) (fun _ => 0) := by
  refine ⟨Nat.le_refl _, qb_us _ _ _, qb_us _ _ _, fun j hj e => ?_, [], ?_, rfl, rfl, trivial⟩
  · have z : j = 0 := by omega
    rw [z, qb_us] at e
    exact absurd e (by decide)
  · have e0 : qw_stk (upd (fun _ => 0) 0 0) 0 = some [] := rfl
    rw [qw_stk_s e0]
    exact qw_plain [] (by rw [qb_us]; decide) (by rw [qb_us]; decide) (by rw [qb_us]; decide) (by rw [qb_us]; decide)
theorem lw_whole {fk fs fa fb D : Nat → Int32} {n : Nat} {rr : Nat → Option Nat} {r : Nat → Nat} {M : mlS} {rn : Int32} (hI : lsI fk n rr r fs fa fb M rn) (hK : qz_K fk) (hW : lwI n 0 fs fa fb D) : qz_G n fk fs fa fb := by
  obtain ⟨h1, h2, h3, h4, st, s1, s2, -⟩ := hW
  have e : st = [] := List.length_eq_zero_iff.mp s2
  rw [e] at s1
  exact ⟨hK, h1, hI.2.2.1.2.1, hI.2.2.1.2.2.1, h2, h3, hI.2.2.1.2.2.2, h4, s1⟩
