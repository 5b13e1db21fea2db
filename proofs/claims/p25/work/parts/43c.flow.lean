/-! FLOW: to the end -/
abbrev qf_X6 : Type := (Nat → Int32) × (Nat → Int32) × (Nat → Int32) × (Nat → Int32) × (Nat → Int32) × (Nat → Int32)
def qf_c (Z : qf_X6) : qf_X := (Z.1, Z.2.1, Z.2.2.1, Z.2.2.2.1, Z.2.2.2.2.1)
section
variable {dgl dll dbg dg du yo yf ys : Nat → Int32} {pv pn : Nat} {al : Int32} {R : Nat → Prop} {Hv Lk : Nat → Nat → Prop} {Hd : Nat → Nat → Nat → Prop}
def qf_fine (dgl dll dbg dg du yo yf ys : Nat → Int32) (pv pn : Nat) (al : Int32) (R : Nat → Prop) (Hv Lk : Nat → Nat → Prop) (Hd : Nat → Nat → Nat → Prop) (Z : qf_X6) : Prop :=
  qf_Inv dgl dll dbg dg du yo yf ys pv pn al R Hv Lk Hd (qf_c Z) ∧ ∀ j, j < pn → Z.2.1 j = 0
theorem qf_inner (hB : qf_bor dbg dg du yo pv pn) (hR : qf_rng yf ys pn) (hp : pv ≤ 8) (hn : pn ≤ 34) (hF : qf_fam dgl dll dbg dg du yo yf ys pv pn al R Hv Lk Hd) {rd M : Nat}
    {K : Int32 → Nat → (Nat → Int32) → (Nat → Int32) → (Nat → Int32) → (Nat → Int32) → (Nat → Int32) → (Nat → Int32) → qf_X6}
    (hK : ∀ (mo : Int32) (X : qf_X) (eb : Nat → Int32), qf_Inv dgl dll dbg dg du yo yf ys pv pn al R Hv Lk Hd X → (mo = 0 → ∀ j, j < pn → X.2.1 j = 0) → (¬ mo = 0 → qf_m pv pn X + 1 ≤ M) → qf_fine dgl dll dbg dg du yo yf ys pv pn al R Hv Lk Hd (K mo (rd + 1) X.1 X.2.1 X.2.2.1 X.2.2.2.1 X.2.2.2.2 eb)) :
    ∀ (k i : Nat) (mo : Int32) (X : qf_X) (eb : Nat → Int32), qf_Inv dgl dll dbg dg du yo yf ys pv pn al R Hv Lk Hd X → i ≤ pn → pn - i < k → qf_m pv pn X ≤ M → (mo = 0 → ∀ j, j < i → X.2.1 j = 0) → (¬ mo = 0 → qf_m pv pn X + 1 ≤ M) →
      qf_fine dgl dll dbg dg du yo yf ys pv pn al R Hv Lk Hd (sl_X0_followWays_L45_2 dgl dll dbg dg du yo (-1) yf ys pv pn rd K k i mo X.1 X.2.1 X.2.2.1 X.2.2.2.1 X.2.2.2.2 eb)
  | 0, i, mo, X, eb, hI, hi, hk, hM, h0, h1 => by omega
  | k + 1, i, mo, X, eb, hI, hi, hk, hM, h0, h1 => by
    rw [sl_X0_followWays_L45_2]
    by_cases q : pn ≤ i
    · rw [if_pos (nI_le q (by omega))]
      exact hK mo X eb hI (fun h j hj => h0 h j (by omega)) h1
    · rw [if_neg (by rw [qb_le (by omega) (by omega)]; exact q)]
      by_cases c : X.2.1 i = 0
      · rw [if_pos c]
        refine qf_inner hB hR hp hn hF hK k (i + 1) mo X eb hI (by omega) (by omega) hM (fun h j hj => ?_) h1
        by_cases z : j = i
        · rw [z]; exact c
        · exact h0 h j (by omega)
      · rw [if_neg c]
        obtain ⟨Z, hb, e, hZ, hm⟩ := qf_go hB hR hp hn hF hI (show i < pn by omega) c eb
        rw [e]
        exact qf_inner hB hR hp hn hF hK k (i + 1) 1 Z hb hZ (by omega) (by omega) (by omega) (fun h => absurd h (by decide)) (fun _ => by omega)
theorem qf_outer (hB : qf_bor dbg dg du yo pv pn) (hR : qf_rng yf ys pn) (hp : pv ≤ 8) (hn : pn ≤ 34) (hF : qf_fam dgl dll dbg dg du yo yf ys pv pn al R Hv Lk Hd) :
    ∀ (k : Nat) (mo : Int32) (rd : Nat) (X : qf_X) (eb : Nat → Int32), qf_Inv dgl dll dbg dg du yo yf ys pv pn al R Hv Lk Hd X → (mo = 0 → ∀ j, j < pn → X.2.1 j = 0) → (¬ mo = 0 → rd + qf_m pv pn X < 100000) → rd ≤ 100000 → 100000 - rd < k →
      qf_fine dgl dll dbg dg du yo yf ys pv pn al R Hv Lk Hd (sl_X0_followWays_L31 dgl dll dbg dg du yo (-1) yf ys pv pn k mo rd X.1 X.2.1 X.2.2.1 X.2.2.2.1 X.2.2.2.2 eb)
  | 0, mo, rd, X, eb, hI, h0, h1, hr, hk => by omega
  | k + 1, mo, rd, X, eb, hI, h0, h1, hr, hk => by
    rw [sl_X0_followWays_L31]
    by_cases c : mo = 0
    · rw [if_pos c]
      have : (if (100000 : Int32) ≤ nI rd then (X.1, X.2.1, X.2.2.1, X.2.2.2.1, X.2.2.2.2, eb) else (X.1, X.2.1, X.2.2.1, X.2.2.2.1, X.2.2.2.2, eb)) = (X.1, X.2.1, X.2.2.1, X.2.2.2.1, X.2.2.2.2, eb) := by split <;> rfl
      rw [this]
      exact ⟨hI, h0 c⟩
    · have h2 := h1 c
      rw [if_neg c, if_neg (show ¬ (100000 : Int32) ≤ nI rd from nI_ge (b := 100000) (by omega) (by omega))]
      refine qf_inner (M := qf_m pv pn X) hB hR hp hn hF (fun mo' X' eb' hI' h0' h1' => ?_) 35 0 0 X eb hI (Nat.zero_le _) (by omega) (Nat.le_refl _) (fun _ j hj => by omega) (fun h => absurd rfl h)
      exact qf_outer hB hR hp hn hF k mo' (rd + 1) X' eb' hI' h0' (fun h => by have := h1' h; omega) (by omega) (by omega)
theorem qf_follow {fk cr cw ch cl cd cb : Nat → Int32} (hB : qf_bor dbg dg du yo pv pn) (hR : qf_rng yf ys pn) (hp : pv ≤ 8) (hn : pn ≤ 34) (hF : qf_fam dgl dll dbg dg du yo yf ys pv pn (s_X5_allLeaves pv fk) R Hv Lk Hd)
    (h0 : ∀ j, j ≤ pn → cr j = 0 ∧ cw j = 0 ∧ ch j = 0 ∧ cl j = 0) (hd : ∀ i, i < (pn + 1) * 8 → cd i = 0) :
    qf_fine dgl dll dbg dg du yo yf ys pv pn (s_X5_allLeaves pv fk) R Hv Lk Hd (s_X0_followWays dgl dll dbg dg du yo (-1) yf ys pv pn cr cw ch cl cd cb fk) := by
  unfold s_X0_followWays
  refine qf_outer hB hR hp hn hF 100001 1 0 (upd cr 0 1, upd cw 0 1, ch, upd cl 0 (s_X5_allLeaves pv fk), cd) cb ⟨fun j hj h => ?_, fun j hj h1 h2 => ?_, ⟨fun j hj h => ?_, fun j x hj h => ?_, fun j x hj h => ?_, fun j v x hj hv h => ?_⟩, fun j x hj h1 h2 => ?_, ?_, fun x hx => ?_⟩ (fun h => absurd h (by decide)) (fun _ => ?_) (by omega) (by omega)
  · have h : ¬ upd cw 0 1 j = 0 := h
    show ¬ upd cr 0 1 j = 0
    by_cases z : j = 0
    · rw [z, qb_us]; decide
    · rw [qb_un z] at h; exact absurd (h0 j (by omega)).2.1 h
  · have h1 : ¬ upd cr 0 1 j = 0 := h1
    have h2 : upd cw 0 1 j = 0 := h2
    by_cases z : j = 0
    · rw [z, qb_us] at h2; exact absurd h2 (by decide)
    · rw [qb_un z] at h1; exact absurd (h0 j (by omega)).1 h1
  · have h : ¬ upd cr 0 1 j = 0 := h
    by_cases z : j = 0
    · rw [z]; exact hF.1
    · rw [qb_un z] at h; exact absurd (h0 j hj).1 h
  · have h : qb_t (ch j) x = true := h
    rw [(h0 j hj).2.2.1, qb_0] at h; cases h
  · have h : qb_t (upd cl 0 _ j) x = true := h
    by_cases z : j = 0
    · rw [z, qb_us] at h
      rw [z]; exact hF.2.1 x h
    · rw [qb_un z, (h0 j hj).2.2.2, qb_0] at h; cases h
  · have h : qb_t (cd (j * 8 + v)) x = true := h
    rw [hd _ (by omega), qb_0] at h; cases h
  · have h1 : ¬ upd cr 0 1 j = 0 := h1
    by_cases z : j = 0
    · right
      show qb_t (upd cl 0 _ j) x = true
      rw [z, qb_us]; exact h2
    · rw [qb_un z] at h1; exact absurd (h0 j hj).1 h1
  · show ¬ upd cr 0 1 0 = 0
    rw [qb_us]; decide
  · show qb_t (upd cl 0 _ 0) x = true
    rw [qb_us]; exact hx
  · have := qf_m_le pv pn hp hn (upd cr 0 1, upd cw 0 1, ch, upd cl 0 (s_X5_allLeaves pv fk), cd)
    omega
end
