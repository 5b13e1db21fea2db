/-! WANTED -/
section
variable {dbg dbu yf ys : Nat → Int32} {pn : Nat}
/-- the set of the borrows wanted behind a line -/
def qg_b (yf ys : Nat → Int32) (pn : Nat) (cn : Nat → Int32) (j : Nat) : Int32 := s_X0_wantedBehind (-1) yf ys pn cn (nI j)
def qg_F (dbg dbu yf ys : Nat → Int32) (pn : Nat) (cn : Nat → Int32) (j : Nat) : Int32 := (qg_b yf ys pn cn j &&& (dbg j ^^^ (-1))) ||| dbu j
theorem qg_at {cn : Nat → Int32} {t : Int32} {x : Nat} (hn : pn ≤ 34) : qb_t (s_X0_wantedAt pn cn t) x = true ↔ ∃ i : Nat, i < pn ∧ t = nI i ∧ qb_t (cn i) x = true := by
  unfold s_X0_wantedAt
  by_cases h : s_X5_isLine pn t = 0
  · rw [if_pos h, qb_0]
    refine ⟨fun h => (by cases h), fun ⟨i, hi, e, _⟩ => ?_⟩
    rw [e] at h; exact absurd h (qp_isLine1 hi (by omega))
  · rw [if_neg h]
    obtain ⟨i, hi, rfl⟩ := qp_isLine_of (by omega) h
    rw [qb_cl (by omega)]
    refine ⟨fun h => ⟨i, hi, rfl, h⟩, fun ⟨k, hk, e, h⟩ => ?_⟩
    rw [(nI_eq (by omega) (by omega)).mp e]; exact h
theorem qg_bt {cn : Nat → Int32} {j x : Nat} (hj : j < pn) (hn : pn ≤ 34) : qb_t (qg_b yf ys pn cn j) x = true ↔ ∃ t : Nat, t < pn ∧ qw_E yf ys j t ∧ qb_t (cn t) x = true := by
  unfold qg_b s_X0_wantedBehind
  rw [qf_first hj hn, qf_second hj hn, qb_or, Bool.or_eq_true, qg_at hn, qg_at hn]
  constructor
  · rintro (⟨i, a, b, c⟩ | ⟨i, a, b, c⟩)
    · exact ⟨i, a, Or.inl b, c⟩
    · exact ⟨i, a, Or.inr b, c⟩
  · rintro ⟨i, a, b | b, c⟩
    · exact Or.inl ⟨i, a, b, c⟩
    · exact Or.inr ⟨i, a, b, c⟩
theorem qg_Ft {cn : Nat → Int32} {j x : Nat} : qb_t (qg_F dbg dbu yf ys pn cn j) x = true ↔ (qb_t (qg_b yf ys pn cn j) x = true ∧ qb_t (dbg j) x = false) ∨ qb_t (dbu j) x = true := by
  unfold qg_F
  rw [qb_or, qb_and]
  rcases Nat.lt_or_ge x 32 with h | h
  · rw [qb_not _ h]
    cases qb_t (qg_b yf ys pn cn j) x <;> cases qb_t (dbg j) x <;> cases qb_t (dbu j) x <;> decide
  · rw [qb_ge _ h, qb_ge (dbu j) h]; simp
theorem qg_mono {cn en : Nat → Int32} (hn : pn ≤ 34) (h : ∀ t, t < pn → qb_sub (cn t) (en t)) {j : Nat} (hj : j < pn) : qb_sub (qg_F dbg dbu yf ys pn cn j) (qg_F dbg dbu yf ys pn en j) := by
  intro x hx
  rw [qg_Ft, qg_bt hj hn] at hx ⊢
  rcases hx with ⟨⟨t, a, b, c⟩, d⟩ | d
  · exact Or.inl ⟨⟨t, a, b, h t a x c⟩, d⟩
  · exact Or.inr d
/-- a family that holds what is wanted -/
def qg_fam (dbg dbu yf ys : Nat → Int32) (pn : Nat) (Wn : Nat → Nat → Prop) : Prop := ∀ j x, j < pn → (((∃ t : Nat, t < pn ∧ qw_E yf ys j t ∧ Wn t x) ∧ qb_t (dbg j) x = false) ∨ qb_t (dbu j) x = true) → Wn j x
def qg_Inv (dbg dbu yf ys : Nat → Int32) (pn : Nat) (Wn : Nat → Nat → Prop) (cn : Nat → Int32) : Prop := (∀ j, j < pn → qb_sub (cn j) (qg_F dbg dbu yf ys pn cn j)) ∧ ∀ j x, j < pn → qb_t (cn j) x = true → Wn j x
def qg_m (pn : Nat) (cn : Nat → Int32) : Nat := qb_sum (fun j => qb_m (cn j)) pn
def qg_fix (dbg dbu yf ys : Nat → Int32) (pn : Nat) (cn : Nat → Int32) : Prop := ∀ j, j < pn → cn j = qg_F dbg dbu yf ys pn cn j
theorem qg_go {Wn : Nat → Nat → Prop} {cn : Nat → Int32} (hn : pn ≤ 34) (hF : qg_fam dbg dbu yf ys pn Wn) (hI : qg_Inv dbg dbu yf ys pn Wn cn) {j : Nat} (hj : j < pn) :
    qg_Inv dbg dbu yf ys pn Wn (upd cn j (qg_F dbg dbu yf ys pn cn j)) ∧ (qg_F dbg dbu yf ys pn cn j = cn j → upd cn j (qg_F dbg dbu yf ys pn cn j) = cn) ∧ (¬ qg_F dbg dbu yf ys pn cn j = cn j → qg_m pn (upd cn j (qg_F dbg dbu yf ys pn cn j)) + 1 ≤ qg_m pn cn) := by
  have up : ∀ t, t < pn → qb_sub (cn t) (upd cn j (qg_F dbg dbu yf ys pn cn j) t) := by
    intro t ht
    by_cases z : t = j
    · rw [z, qb_us]; exact hI.1 j hj
    · rw [qb_un z]; exact fun _ h => h
  refine ⟨⟨fun t ht => ?_, fun t x ht hx => ?_⟩, fun h => ?_, fun h => ?_⟩
  · have h1 := qg_mono (dbg := dbg) (dbu := dbu) (yf := yf) (ys := ys) hn up ht
    by_cases z : t = j
    · rw [z] at h1 ⊢
      rw [qb_us]
      exact h1
    · rw [qb_un z]
      exact fun x hx => h1 x (hI.1 t ht x hx)
  · by_cases z : t = j
    · subst z
      rw [qb_us, qg_Ft, qg_bt ht hn] at hx
      refine hF t x ht ?_
      rcases hx with ⟨⟨i, a, b, c⟩, d⟩ | d
      · exact Or.inl ⟨⟨i, a, b, hI.2 i x a c⟩, d⟩
      · exact Or.inr d
    · rw [qb_un z] at hx; exact hI.2 t x ht hx
  · funext i
    rw [qb_up]
    by_cases z : i = j
    · rw [if_pos z, z, h]
    · rw [if_neg z]
  · have e : ∀ i, qb_m (upd cn j (qg_F dbg dbu yf ys pn cn j) i) = if i = j then qb_m (cn j ||| qg_F dbg dbu yf ys pn cn j) else qb_m (cn i) := by
      intro i
      by_cases z : i = j
      · rw [z, qb_us, if_pos rfl]
        congr 1
        exact qb_ext fun i _ => by
          rw [qb_or]
          cases k : qb_t (cn j) i with
          | false => simp
          | true => rw [hI.1 j hj i k]; rfl
      · rw [qb_un z, if_neg z]
    refine qb_sum_lt (j := j) pn (fun i _ => ?_) hj ?_
    · show qb_m (upd cn j (qg_F dbg dbu yf ys pn cn j) i) ≤ qb_m (cn i)
      rw [e]
      by_cases z : i = j
      · rw [if_pos z, z]; exact qb_m_or _ _
      · rw [if_neg z]; exact Nat.le_refl _
    · show qb_m (upd cn j (qg_F dbg dbu yf ys pn cn j) j) + 1 ≤ qb_m (cn j)
      rw [e, if_pos rfl]
      refine qb_m_new fun k => h ?_
      exact qb_ext fun i _ => by
        cases a : qb_t (cn j) i with
        | true => rw [hI.1 j hj i a]
        | false =>
          cases b : qb_t (qg_F dbg dbu yf ys pn cn j) i with
          | false => rfl
          | true => rw [k i b] at a; cases a
theorem qg_inner {Wn : Nat → Nat → Prop} (hn : pn ≤ 34) (hF : qg_fam dbg dbu yf ys pn Wn) {rd M : Nat} {K : Int32 → Nat → (Nat → Int32) → (Nat → Int32)}
    (hK : ∀ (mo : Int32) (cn : Nat → Int32), qg_Inv dbg dbu yf ys pn Wn cn → (mo = 0 → qg_fix dbg dbu yf ys pn cn) → (¬ mo = 0 → qg_m pn cn + 1 ≤ M) → qg_Inv dbg dbu yf ys pn Wn (K mo (rd + 1) cn) ∧ qg_fix dbg dbu yf ys pn (K mo (rd + 1) cn)) :
    ∀ (k : Nat) (mo : Int32) (d : Nat) (cn : Nat → Int32), d ≤ pn → d < k → qg_Inv dbg dbu yf ys pn Wn cn → qg_m pn cn ≤ M → (mo = 0 → ∀ j, d ≤ j → j < pn → cn j = qg_F dbg dbu yf ys pn cn j) → (¬ mo = 0 → qg_m pn cn + 1 ≤ M) →
      qg_Inv dbg dbu yf ys pn Wn (sl_X0_findWanted_L26_2 dbg dbu (-1) yf ys pn rd K k mo d cn) ∧ qg_fix dbg dbu yf ys pn (sl_X0_findWanted_L26_2 dbg dbu (-1) yf ys pn rd K k mo d cn)
  | 0, mo, d, cn, hd, hk, hI, hM, h0, h1 => by omega
  | k + 1, mo, d, cn, hd, hk, hI, hM, h0, h1 => by
    rw [sl_X0_findWanted_L26_2]
    match d, hd, hk, h0 with
    | 0, hd, hk, h0 =>
      rw [if_pos (show nI 0 + (-1) < 0 by decide)]
      exact hK mo cn hI (fun h j hj => h0 h j (Nat.zero_le _) hj) h1
    | d + 1, hd, hk, h0 =>
      rw [if_neg (show ¬ nI (d + 1) + (-1) < 0 by rw [pk_m1]; exact nI_pos (by omega)), show d + 1 - 1 = d from rfl]
      have hj : d < pn := by omega
      obtain ⟨g1, g2, g3⟩ := qg_go hn hF hI hj
      have e : ((s_X0_wantedBehind (-1) yf ys pn cn (nI d)) &&& ((dbg d) ^^^ (-1))) ||| (dbu d) = qg_F dbg dbu yf ys pn cn d := rfl
      rw [e]
      have g4 : qg_m pn (upd cn d (qg_F dbg dbu yf ys pn cn d)) ≤ qg_m pn cn := by
        by_cases z : qg_F dbg dbu yf ys pn cn d = cn d
        · rw [g2 z]; exact Nat.le_refl _
        · have := g3 z; omega
      by_cases c : mo = 0
      · rw [if_pos c]
        by_cases z : qg_F dbg dbu yf ys pn cn d = cn d
        · rw [if_pos z]
          refine qg_inner hn hF hK k 0 d _ (by omega) (by omega) g1 (by omega) (fun _ j a b => ?_) (fun h => absurd rfl h)
          rw [g2 z]
          by_cases y : j = d
          · rw [y]; exact z.symm
          · exact h0 c j (by omega) b
        · rw [if_neg z]
          exact qg_inner hn hF hK k 1 d _ (by omega) (by omega) g1 (by omega) (fun h => absurd h (by decide)) (fun _ => by have := g3 z; omega)
      · rw [if_neg c]
        exact qg_inner hn hF hK k 1 d _ (by omega) (by omega) g1 (by omega) (fun h => absurd h (by decide)) (fun _ => by have := h1 c; omega)
theorem qg_outer {Wn : Nat → Nat → Prop} (hn : pn ≤ 33) (hF : qg_fam dbg dbu yf ys pn Wn) :
    ∀ (k : Nat) (mo : Int32) (rd : Nat) (cn : Nat → Int32), qg_Inv dbg dbu yf ys pn Wn cn → (mo = 0 → qg_fix dbg dbu yf ys pn cn) → (¬ mo = 0 → rd + qg_m pn cn < 100000) → rd ≤ 100000 → 100000 - rd < k →
      qg_Inv dbg dbu yf ys pn Wn (sl_X0_findWanted_L4 dbg dbu (-1) yf ys pn k mo rd cn) ∧ qg_fix dbg dbu yf ys pn (sl_X0_findWanted_L4 dbg dbu (-1) yf ys pn k mo rd cn)
  | 0, mo, rd, cn, hI, h0, h1, hr, hk => by omega
  | k + 1, mo, rd, cn, hI, h0, h1, hr, hk => by
    rw [sl_X0_findWanted_L4]
    by_cases c : mo = 0
    · rw [if_pos c]
      have : (if (100000 : Int32) ≤ nI rd then cn else cn) = cn := by split <;> rfl
      rw [this]
      exact ⟨hI, h0 c⟩
    · have h2 := h1 c
      rw [if_neg c, if_neg (show ¬ (100000 : Int32) ≤ nI rd from nI_ge (b := 100000) (by omega) (by omega))]
      refine qg_inner (M := qg_m pn cn) (by omega) hF (fun mo' X' hI' h0' h1' => ?_) 34 0 pn cn (Nat.le_refl _) (by omega) hI (Nat.le_refl _) (fun _ j a b => by omega) (fun h => absurd rfl h)
      exact qg_outer hn hF k mo' (rd + 1) X' hI' h0' (fun h => by have := h1' h; omega) (by omega) (by omega)
theorem qg_find {Wn : Nat → Nat → Prop} {cn : Nat → Int32} (hn : pn ≤ 33) (hF : qg_fam dbg dbu yf ys pn Wn) (h0 : ∀ j, j < pn → cn j = 0) :
    (∀ j x, j < pn → qb_t (s_X0_findWanted dbg dbu (-1) yf ys pn cn j) x = true → Wn j x) ∧ qg_fix dbg dbu yf ys pn (s_X0_findWanted dbg dbu (-1) yf ys pn cn) := by
  unfold s_X0_findWanted
  have hm : qg_m pn cn ≤ 34 * 32 := by
    have h := qb_sum_bd (f := fun j => qb_m (cn j)) (c := 32) pn fun i _ => qb_m_le _
    have h2 : pn * 32 ≤ 34 * 32 := Nat.mul_le_mul_right _ (by omega)
    unfold qg_m
    omega
  obtain ⟨a, b⟩ := qg_outer hn hF 100001 1 0 cn ⟨fun j hj x hx => (by rw [h0 j hj, qb_0] at hx; cases hx), fun j x hj hx => by rw [h0 j hj, qb_0] at hx; cases hx⟩ (fun h => absurd h (by decide)) (fun _ => by omega) (by omega) (by omega)
  exact ⟨a.2, b⟩
end
