/-! LINES THAT ARE NEVER AT FAULT -/
/-- nothing comes back from behind L, where no loop is open -/
theorem qj_outside {S : Nat → Int32} {n L j t : Nat} {f s : Int32} (hn : n ≤ 34) (h : qw_nx S n j f s) (hLj : L ≤ j) (hj : j < n) (ht : t ≤ n)
    (ho : ∀ (k : Nat) (q : Nat × Int32) (r : List (Nat × Int32)), L ≤ k → k < n → S k = 11 → qw_stk S k = some (q :: r) → S q.1 = 10 → L < q.1 + 1) (hx : f = nI t ∨ s = nI t) : L < t := by
  have eq : ∀ a : Nat, a ≤ n → (nI a : Int32) = nI t → a = t := fun a ha e => (nI_eq (by omega) (by omega)).mp e
  rcases h with ⟨c, hf, e, q, r, he, c11, hs, hq, h⟩ | ⟨c, h, q, r, e, q', r', hs, he, c11, hs', hq, hf⟩ | ⟨c, q, r, hs, h⟩ | ⟨c, hf, h⟩ | ⟨c8, c9, c11, c15, hf, h⟩
  · obtain ⟨g1, g2, g3⟩ := (qw_goodAt hs).2 q List.mem_cons_self
    rcases hx with hx | hx
    · have := eq _ (by omega) (hf.symm.trans hx); omega
    · rw [h] at hx
      rcases g3 with z | ⟨x, x1, x2, x3, x4⟩
      · rw [if_pos z] at hx
        have := eq _ (by omega) hx; omega
      · rw [if_neg (by rw [x3]; exact qb_nem1 (by omega)), x3, nI_1] at hx
        have := eq _ (by omega) hx; omega
  · have g1 := ((qw_goodAt hs').2 q' List.mem_cons_self).1
    have g2 := qw_once c11 hs' hs hq
    have g3 : ¬ j = e := fun z => by rw [← z, c] at c11; exact absurd c11 (by decide)
    rcases hx with hx | hx
    · have := eq _ (by omega) (hf.symm.trans hx); omega
    · exact absurd (h.symm.trans hx).symm (qb_nem1 (by omega))
  · have g1 := ((qw_goodAt hs).2 q List.mem_cons_self).1
    rcases h with ⟨a, b, d⟩ | ⟨a, b, d⟩
    · rcases hx with hx | hx
      · have := eq _ (by omega) (b.symm.trans hx)
        have := ho j q r hLj hj c hs a
        omega
      · have := eq _ (by omega) (d.symm.trans hx); omega
    · rcases hx with hx | hx
      · have := eq _ (by omega) (b.symm.trans hx); omega
      · exact absurd (d.symm.trans hx).symm (qb_nem1 (by omega))
  · rcases hx with hx | hx
    · exact absurd (hf.symm.trans hx).symm (qb_nem1 (by omega))
    · exact absurd (h.symm.trans hx).symm (qb_nem1 (by omega))
  · rcases hx with hx | hx
    · have := eq _ (by omega) (hf.symm.trans hx); omega
    · exact absurd (h.symm.trans hx).symm (qb_nem1 (by omega))
/-- the law's variables -/
def qz_K (fk : Nat → Int32) : Prop := fk 0 = 0 ∧ fk 1 = 0 ∧ fk 2 = 1 ∧ fk 3 = 2 ∧ fk 4 = 3 ∧ fk 5 = 4 ∧ fk 6 = 5 ∧ (fk 7 = 0 ∨ fk 7 = 1 ∨ fk 7 = 2 ∨ fk 7 = 3 ∨ fk 7 = 4 ∨ fk 7 = 5)
theorem qz_KK {fk : Nat → Int32} (h : qz_K fk) : qp_K 8 fk := by
  obtain ⟨h0, h1, h2, h3, h4, h5, h6, h7⟩ := h
  intro v hv
  match v, hv with
  | 0, _ => exact Or.inl h0
  | 1, _ => exact Or.inl h1
  | 2, _ => exact Or.inr (Or.inl h2)
  | 3, _ => exact Or.inr (Or.inr (Or.inl h3))
  | 4, _ => exact Or.inr (Or.inr (Or.inr (Or.inl h4)))
  | 5, _ => exact Or.inr (Or.inr (Or.inr (Or.inr (Or.inl h5))))
  | 6, _ => exact Or.inr (Or.inr (Or.inr (Or.inr (Or.inr h6))))
  | 7, _ => exact h7
/-- the law's programs -/
def qz_G (n : Nat) (fk fs fa fb : Nat → Int32) : Prop := qz_K fk ∧ 1 ≤ n ∧ n ≤ 32 ∧ (∀ j, j < n → qp_F 8 fk (fs j) (fa j) (fb j)) ∧ fs 0 = 0 ∧ fa 0 = 0 ∧ ql_n fs n ≤ 16 ∧ (∀ j, j < n → fs j = 4 → ¬ fb j = 0) ∧ qw_stk fs n = some []
def qz_safe (fs fa : Nat → Int32) (j : Nat) : Prop := (fs j = 0 ∧ fa j = 18) ∨ (fs j = 8 ∧ fa j = 0)
theorem qx_none {lc pv : Nat} {yp ye cd : Nat → Int32} {p1 p2 p3 p4 : Int32} (hl : lc ≤ 16) (h : ∀ k, k < lc → s_X9_meets (yp k) p2 = 0 ∨ (¬ p4 = 0 ∧ ye k = 0)) : s_X0_smallestLoan lc yp ye pv cd p1 p2 p3 p4 = -1 := by
  unfold s_X0_smallestLoan
  by_cases c : p2 = -1
  · rw [if_pos c]
  · rw [if_neg c]
    have go : ∀ (k i : Nat), i ≤ lc → lc - i < k → sl_X0_smallestLoan_L18 lc yp ye pv cd p1 p2 p3 p4 k i = -1 := by
      intro k
      induction k with
      | zero => intro i a b; omega
      | succ k ih =>
        intro i a b
        rw [sl_X0_smallestLoan_L18]
        by_cases q : lc ≤ i
        · rw [if_pos (nI_le q (by omega))]
        · have hi : i < lc := by omega
          rw [if_neg (by rw [qb_le (by omega) (by omega)]; exact q), ih (i + 1) (by omega) (by omega)]
          have e1 : s_X3_placeOf lc yp (nI i) = yp i := by
            unfold s_X3_placeOf
            rw [if_neg (show ¬ s_X3_isLoan lc (nI i) = 0 from qp_isLine1 (pn := lc) hi (by omega)), qb_cl (by omega)]
          have e2 : ye i = 0 → s_X3_isLent lc ye (nI i) = 0 := by
            intro z
            unfold s_X3_isLent
            rw [if_neg (show ¬ s_X3_isLoan lc (nI i) = 0 from qp_isLine1 (pn := lc) hi (by omega)), qb_cl (by omega), if_pos z]
          rw [e1]
          rcases h i hi with z | ⟨z1, z2⟩
          · rw [if_pos z]; split <;> rfl
          · rw [if_neg z1, if_pos (e2 z2)]
            (repeat' split) <;> rfl
    exact go 17 0 (Nat.zero_le _) (by omega)
theorem qx_held0 {lc pv : Nat} {yp ye cd : Nat → Int32} {j : Nat} {p2 p3 p4 : Int32} (hl : lc ≤ 16) (hp : pv ≤ 8) (hj : j < 34) (h : ∀ v, v < pv → cd (j * 8 + v) = 0) : s_X0_smallestLoan lc yp ye pv cd (nI j) p2 p3 p4 = -1 := by
  have hb : ∀ b : Int32, s_X0_heldByAny pv cd (nI j) b = 0 := by
    intro b
    unfold s_X0_heldByAny
    have go : ∀ (k i : Nat), i ≤ pv → pv - i < k → sl_X0_heldByAny_L5 pv cd (nI j) b k 0 i = 0 := by
      intro k
      induction k with
      | zero => intro i a b; omega
      | succ k ih =>
        intro i a1 a2
        rw [sl_X0_heldByAny_L5]
        by_cases q : pv ≤ i
        · rw [if_pos (nI_le q (by omega))]
        · rw [if_neg (by rw [qb_le (by omega) (by omega)]; exact q), qf_heldBy (by omega) (by omega), h i (by omega), show (0 : Int32) ||| 0 = 0 from by decide, ih (i + 1) (by omega) (by omega)]
          split <;> rfl
    exact go 9 0 (Nat.zero_le _) (by omega)
  unfold s_X0_smallestLoan
  by_cases c : p2 = -1
  · rw [if_pos c]
  · rw [if_neg c]
    have go : ∀ (k i : Nat), i ≤ lc → lc - i < k → sl_X0_smallestLoan_L18 lc yp ye pv cd (nI j) p2 p3 p4 k i = -1 := by
      intro k
      induction k with
      | zero => intro i a b; omega
      | succ k ih =>
        intro i a b
        rw [sl_X0_smallestLoan_L18]
        by_cases q : lc ≤ i
        · rw [if_pos (nI_le q (by omega))]
        · rw [if_neg (by rw [qb_le (by omega) (by omega)]; exact q), hb, if_pos (show (0 : Int32) &&& ((1 : Int32) <<< (nI i &&& 31)) = 0 from qb_eq0.mpr fun x _ => by rw [qb_and, qb_0]; rfl), ih (i + 1) (by omega) (by omega)]
    exact go 17 0 (Nat.zero_le _) (by omega)
/-- where a loan lies -/
theorem qz_loan {pv n k : Nat} {fk fs fa fb : Nat → Int32} {T : qk_T} (hv : pv ≤ 8) (hL : qk_L pv n fk fs fa fb T) (hF : ∀ j, j < n → qp_F pv fk (fs j) (fa j) (fb j)) (hk : k < qk_lc T) :
    ∃ i p : Nat, i < n ∧ (fs i = 3 ∨ fs i = 4) ∧ p < 3 * pv ∧ fb i = nI p ∧ (qp_kd pv fk p = 0 ∨ qp_kd pv fk p = 1 ∨ qp_kd pv fk p = 2) ∧ qk_yp T k = nI p ∧ qk_ye T k = (if fs i = 4 then 1 else 0) ∧ ql_n fs i = k := by
  have hk2 : k < ql_n fs n := by have := hL.2.1.1; have : qk_lc T = ql_n fs n := this; omega
  obtain ⟨i, hi, c, rfl⟩ := ql_of hk2
  obtain ⟨a1, a2, a3, a4⟩ := hL.2.1.2.1 i hi c
  have hb : s_X5_kindAt pv fk (fb i) = 0 ∨ s_X5_kindAt pv fk (fb i) = 1 ∨ s_X5_kindAt pv fk (fb i) = 2 := by
    have no : ∀ x : Int32, fs i = x → ¬ x = 3 → ¬ x = 4 → False := fun x e h3 h4 => by
      rw [e] at c; exact c.elim h3 h4
    rcases qp_fit (hF i hi) with ⟨s, f⟩ | ⟨s, f⟩ | ⟨s, f⟩ | ⟨s, f1, f2⟩ | ⟨s, f1, f2⟩ | ⟨s, f⟩ | ⟨s, f⟩ | ⟨s, f⟩ | ⟨s, f⟩ | ⟨s, f⟩ | ⟨s, f⟩ | ⟨s, f⟩ | ⟨s, f⟩ | ⟨s, f⟩ | ⟨s, f⟩ | ⟨s, f⟩ | ⟨s, f⟩
    case inr.inr.inr.inl => exact f2
    case inr.inr.inr.inr.inl => exact f2
    all_goals exact (no _ s (by decide) (by decide)).elim
  obtain ⟨p, p1, p2, p3⟩ := qp_kind_of (fk := fk) (x := fb i) hv (by rcases hb with z | z | z <;> (rw [z]; decide))
  rw [p3] at hb
  exact ⟨i, p, hi, c, p1, p2, hb, a2.trans p2, a3, rfl⟩
section
variable {n : Nat} {fk fs fa fb : Nat → Int32} {T : qk_T}
theorem qz_edge (hG : qz_G n fk fs fa fb) (hL : qk_L 8 n fk fs fa fb T) {j t : Nat} (hj : j < n) (ht : t ≤ n) (hE : qw_E (qk_yf T) (qk_ys T) j t) : 1 ≤ t := by
  obtain ⟨hK, h1, h32, hF, h0, ha0, hl, h4, hw⟩ := hG
  obtain ⟨a, b⟩ := qw_nx_rng ((hL.2.2.1.1 hw).2 j hj).1 hj (by omega)
  have one : ∀ x : Int32, x = nI t → (x = -1 ∨ ∃ t : Nat, 1 ≤ t ∧ t ≤ n ∧ x = nI t) → 1 ≤ t := by
    intro x e h
    rcases h with z | ⟨y, y1, y2, y3⟩
    · exact absurd (e.symm.trans z) (qb_nem1 (by omega))
    · have := (nI_eq (by omega) (by omega)).mp (e.symm.trans y3); omega
  rcases hE with hE | hE
  · exact one _ hE (a.elim (fun z => Or.inl z.1) Or.inr)
  · exact one _ hE (b.elim (fun z => Or.inl z.1) Or.inr)
/-- nothing is held, nothing had, ahead of the first line -/
theorem qz_first (hG : qz_G n fk fs fa fb) (hL : qk_L 8 n fk fs fa fb T) : (∀ v, v < 8 → qk_cd T (0 * 8 + v) = 0) ∧ qk_ch T 0 = 0 := by
  have hw := hG.2.2.2.2.2.2.2.2
  have i := (hL.2.2.2.2 hw).2.1 (fun _ => True) (fun j _ => ¬ j = 0) (fun _ _ => True) (fun j _ _ => ¬ j = 0) (by
    refine ⟨trivial, fun _ _ => trivial, fun j t hj ht _ hE => ?_⟩
    have := qz_edge hG hL hj ht hE
    exact ⟨trivial, fun _ _ => by omega, fun _ _ _ => trivial, fun _ _ _ _ => by omega⟩)
  refine ⟨fun v hv => qb_eq0.mpr fun x _ => ?_, qb_eq0.mpr fun x _ => ?_⟩
  · cases e : qb_t (qk_cd T (0 * 8 + v)) x with
    | false => rfl
    | true => exact absurd rfl (i.2.2.2 0 v x (Nat.zero_le _) hv e)
  · cases e : qb_t (qk_ch T 0) x with
    | false => rfl
    | true => exact absurd rfl (i.2.1 0 x (Nat.zero_le _) e)
/-- the number 0 is there behind the first line -/
theorem qz_num (hG : qz_G n fk fs fa fb) (hL : qk_L 8 n fk fs fa fb T) {j : Nat} (hj : j ≤ n) (h1 : 1 ≤ j) : qb_t (qk_cl T j) 0 = false := by
  obtain ⟨hK, h11, h32, hF, h0, ha0, hl, h4, hw⟩ := id hG
  have hKK := qz_KK hK
  have k0 : ∀ p : Nat, qp_lf 8 fk p 0 → p = 0 := by
    intro p hp
    obtain ⟨a, b, c, d, e⟩ := qp_lf_kd hKK hp
    rcases e with e | ⟨e1, e2, e3⟩
    · exact e.symm
    · omega
  have kd0 : qp_kd 8 fk 0 = 0 := by
    show (if 0 / 3 < 8 then (if 0 % 3 = 0 then fk (0 / 3) else _) else _) = _
    rw [if_pos (by omega), if_pos (by omega)]; exact hK.1
  have i := (hL.2.2.2.2 hw).2.1 (fun _ => True) (fun _ _ => True) (fun j x => x = 0 → j = 0) (fun _ _ _ => True) (by
    refine ⟨trivial, fun _ _ _ => rfl, fun j t hj ht _ hE => ⟨trivial, fun _ _ => trivial, fun x hx hg e => ?_, fun _ _ _ _ => trivial⟩⟩
    subst e
    exfalso
    obtain ⟨d1, d2, d3, d4, d5, d6, d7, d8, d9⟩ := hL.1 j hj
    have d6 : qk_dgl T j = s_X5_leavesOf 8 fk (qd_g (fs j) (fa j)) := d6
    have d7 : qk_dll T j = s_X5_leavesOf 8 fk (qd_l (fs j) (fa j) (fb j)) := d7
    rcases hx with hx | hx
    · have hj0 := hx rfl
      subst hj0
      rw [d6, h0, ha0] at hg
      have : qb_t (s_X5_leavesOf 8 fk (nI 0)) 0 = true := (qp_leaves (by omega) (by omega)).mpr ⟨by rw [kd0]; decide, by rw [kd0, if_neg (by decide)]⟩
      exact absurd (hg.symm.trans this) (by decide)
    · rw [d7] at hx
      have kk : ∀ x : Int32, qb_t (s_X5_leavesOf 8 fk x) 0 = true → s_X5_kindAt 8 fk x = 0 := by
        intro x hx
        by_cases c : s_X5_kindAt 8 fk x = -1
        · unfold s_X5_leavesOf at hx
          rw [if_pos c, qb_0] at hx; cases hx
        · obtain ⟨p, p1, p2, p3⟩ := qp_kind_of (fk := fk) (x := x) (by omega) c
          rw [p2] at hx
          have := k0 p ((qp_leaves (by omega) (by omega)).mp hx)
          rw [p3, this, kd0]
      have := kk _ hx
      have gen : qd_l (fs j) (fa j) (fb j) = -1 → False := fun e => by
        rw [e, qp_kind_m1] at this
        exact absurd this (by decide)
      rcases qp_fit (hF j hj) with ⟨s, f⟩ | ⟨s, f1, f2⟩ | ⟨s, f⟩ | ⟨s, f⟩ | ⟨s, f⟩ | ⟨s, f⟩ | ⟨s, f⟩ | ⟨s, f⟩ | ⟨s, f⟩ | ⟨s, f⟩ | ⟨s, f⟩ | ⟨s, f⟩ | ⟨s, f⟩ | ⟨s, f⟩ | ⟨s, f⟩ | ⟨s, f⟩ | ⟨s, f⟩
      · exact gen (by rw [s]; rfl)
      · have e : qd_l (fs j) (fa j) (fb j) = fb j := by rw [s]; rfl
        rw [e, ← f1] at this
        rw [this] at f2
        rcases f2 with z | z | z | z <;> exact absurd z (by decide)
      · exact gen (by rw [s]; rfl)
      · exact gen (by rw [s]; rfl)
      · exact gen (by rw [s]; rfl)
      · exact gen (by rw [s]; rfl)
      · exact gen (by rw [s]; rfl)
      · have e : qd_l (fs j) (fa j) (fb j) = fa j := by rw [s]; rfl
        rw [e] at this
        rw [this] at f
        rcases f with z | z | z <;> exact absurd z (by decide)
      all_goals exact gen (by rw [s]; rfl))
  cases e : qb_t (qk_cl T j) 0 with
  | false => rfl
  | true =>
    have := i.2.2.1 j 0 hj e rfl
    omega
theorem qz_bad0 {j : Nat} (hL : qk_L 8 n fk fs fa fb T) (hj : j < n) (hn : n ≤ 33) (h : fs j = 9 ∨ fs j = 10 ∨ fs j = 11 ∨ fs j = 15) : ¬ qk_bad 8 n fk fs fa fb T j := by
  obtain ⟨d1, d2, d3, d4, d5, d6, d7, d8, d9⟩ := hL.1 j hj
  have z0 : ∀ x : Int32, (0 : Int32) &&& x = 0 := fun x => qb_eq0.mpr fun i _ => by rw [qb_and, qb_0]; rfl
  have e4 : qk_dul T j = 0 := by
    refine d4.trans ?_
    rcases h with h | h | h | h <;> (rw [h]; exact qp_leaves_m1 8 fk)
  have e5 : qk_dtl T j = 0 := by
    refine d5.trans ?_
    rcases h with h | h | h | h <;> (rw [h]; exact qp_leaves_m1 8 fk)
  have es : ∀ t : Nat, t = 0 ∨ t = 1 → qx_sl (qk_dbg T) (qk_yf T) (qk_ys T) (qk_yp T) (qk_ye T) fk fs fa fb (qk_cd T) (qk_cn T) (qk_lc T) 8 n j t = -1 := by
    intro t ht
    unfold qx_sl
    rw [qd_taken hj (by omega)]
    rcases h with h | h | h | h <;> rcases ht with ht | ht <;> (rw [h, ht]; exact qx_sl_m1)
  rintro ⟨-, b | b | b | b⟩
  · rw [e4] at b; exact b (z0 _)
  · rw [e5] at b; exact b (z0 _)
  · exact b (es 0 (Or.inl rfl))
  · exact b (es 1 (Or.inr rfl))
theorem qz_bad1 (hG : qz_G n fk fs fa fb) (hL : qk_L 8 n fk fs fa fb T) : ¬ qk_bad 8 n fk fs fa fb T 0 := by
  obtain ⟨hK, h11, h32, hF, h0, ha0, hl, h4, hw⟩ := id hG
  obtain ⟨d1, d2, d3, d4, d5, d6, d7, d8, d9⟩ := hL.1 0 (by omega)
  have z0 : ∀ x : Int32, (0 : Int32) &&& x = 0 := fun x => qb_eq0.mpr fun i _ => by rw [qb_and, qb_0]; rfl
  have e4 : qk_dul T 0 = 0 := d4.trans (by rw [h0]; exact qp_leaves_m1 8 fk)
  have e5 : qk_dtl T 0 = 0 := d5.trans (by rw [h0]; exact qp_leaves_m1 8 fk)
  have hlc : qk_lc T ≤ 16 := by have := hL.2.1.1; have : qk_lc T = ql_n fs n := this; omega
  have es : ∀ t : Nat, qx_sl (qk_dbg T) (qk_yf T) (qk_ys T) (qk_yp T) (qk_ye T) fk fs fa fb (qk_cd T) (qk_cn T) (qk_lc T) 8 n 0 t = -1 := fun t => qx_held0 hlc (by omega) (by omega) (qz_first hG hL).1
  rintro ⟨-, b | b | b | b⟩
  · rw [e4] at b; exact b (z0 _)
  · rw [e5] at b; exact b (z0 _)
  · exact b (es 0)
  · exact b (es 1)
theorem qz_bad2 (hG : qz_G n fk fs fa fb) (hL : qk_L 8 n fk fs fa fb T) {j : Nat} (hj : j < n) (h1 : 1 ≤ j) (hs : qz_safe fs fa j) : ¬ qk_bad 8 n fk fs fa fb T j := by
  obtain ⟨hK, h11, h32, hF, h0, ha0, hl, h4, hw⟩ := id hG
  obtain ⟨d1, d2, d3, d4, d5, d6, d7, d8, d9⟩ := hL.1 j hj
  have z0 : ∀ x : Int32, (0 : Int32) &&& x = 0 := fun x => qb_eq0.mpr fun i _ => by rw [qb_and, qb_0]; rfl
  have hlc : qk_lc T ≤ 16 := by have := hL.2.1.1; have : qk_lc T = ql_n fs n := this; omega
  obtain ⟨k0, k1, k2, k3, k4, k5, k6, k7⟩ := hK
  rcases hs with ⟨s, a⟩ | ⟨s, a⟩
  · have e4 : qk_dul T j = 0 := d4.trans (by rw [s]; exact qp_leaves_m1 8 fk)
    have e5 : qk_dtl T j = 0 := d5.trans (by rw [s]; exact qp_leaves_m1 8 fk)
    have es0 : qx_sl (qk_dbg T) (qk_yf T) (qk_ys T) (qk_yp T) (qk_ye T) fk fs fa fb (qk_cd T) (qk_cn T) (qk_lc T) 8 n j 0 = -1 := by
      unfold qx_sl
      rw [qd_taken hj (by omega), s, a]
      refine qx_none hlc fun k hk => Or.inl ?_
      obtain ⟨i, p, i1, i2, p1, p2, p3, p4, p5, -⟩ := qz_loan (by omega) hL hF hk
      rw [p4]
      refine Classical.byContradiction fun z => ?_
      have hm : qp_meet p 18 := (qp_meets (k := p) (j := 18) (by omega) (by omega)).mp z
      have hp6 : p / 3 = 6 := by
        rcases hm with e | ⟨e, -⟩ <;> omega
      have ek : qp_kd 8 fk p = if p % 3 = 0 then 5 else -1 := by
        unfold qp_kd
        rw [hp6, if_pos (by omega), k6, if_neg (show ¬ (5 : Int32) = 2 by decide)]
      rw [ek] at p3
      by_cases y : p % 3 = 0
      · rw [if_pos y] at p3
        rcases p3 with z | z | z <;> exact absurd z (by decide)
      · rw [if_neg y] at p3
        rcases p3 with z | z | z <;> exact absurd z (by decide)
    have es1 : qx_sl (qk_dbg T) (qk_yf T) (qk_ys T) (qk_yp T) (qk_ye T) fk fs fa fb (qk_cd T) (qk_cn T) (qk_lc T) 8 n j 1 = -1 := by
      unfold qx_sl
      rw [qd_taken hj (by omega), s]
      exact qx_sl_m1
    rintro ⟨-, b | b | b | b⟩
    · rw [e4] at b; exact b (z0 _)
    · rw [e5] at b; exact b (z0 _)
    · exact b es0
    · exact b es1
  · have kd0 : qp_kd 8 fk 0 = 0 := by
      show (if 0 / 3 < 8 then (if 0 % 3 = 0 then fk (0 / 3) else _) else _) = _
      rw [if_pos (by omega), if_pos (by omega)]; exact k0
    have e4 : qk_dul T j &&& qk_cl T j = 0 := by
      have e : qk_dul T j = s_X5_leavesOf 8 fk (nI 0) := d4.trans (by rw [s, a]; rfl)
      refine qb_dis.mpr fun i hi => ?_
      rw [e] at hi
      have h := (qp_leaves (by omega) (by omega)).mp hi
      have h2 := h.2
      rw [kd0, if_neg (by decide)] at h2
      rw [h2]
      exact qz_num hG hL (by omega) h1
    have e5 : qk_dtl T j = 0 := d5.trans (by rw [s]; exact qp_leaves_m1 8 fk)
    have es0 : qx_sl (qk_dbg T) (qk_yf T) (qk_ys T) (qk_yp T) (qk_ye T) fk fs fa fb (qk_cd T) (qk_cn T) (qk_lc T) 8 n j 0 = -1 := by
      unfold qx_sl
      rw [qd_taken hj (by omega), qd_read hj (by omega), s, a]
      refine qx_none hlc fun k hk => ?_
      obtain ⟨i, p, i1, i2, p1, p2, p3, p4, p5, -⟩ := qz_loan (by omega) hL hF hk
      rw [p4, p5]
      by_cases c : fs i = 4
      · left
        refine Classical.byContradiction fun z => ?_
        have hm : qp_meet p 0 := (qp_meets (k := p) (j := 0) (by omega) (by omega)).mp z
        have hp0 : p / 3 = 0 := by
          rcases hm with e | ⟨e, -⟩ <;> omega
        have ek : qp_kd 8 fk p = if p % 3 = 0 then 0 else -1 := by
          unfold qp_kd
          rw [hp0, if_pos (by omega), k0, if_neg (show ¬ (0 : Int32) = 2 by decide)]
        by_cases y : p % 3 = 0
        · have : p = 0 := by omega
          rw [this] at p2
          exact h4 i i1 c p2
        · rw [ek, if_neg y] at p3
          rcases p3 with z | z | z <;> exact absurd z (by decide)
      · right
        rw [if_neg c]
        exact ⟨by decide, rfl⟩
    have es1 : qx_sl (qk_dbg T) (qk_yf T) (qk_ys T) (qk_yp T) (qk_ye T) fk fs fa fb (qk_cd T) (qk_cn T) (qk_lc T) 8 n j 1 = -1 := by
      unfold qx_sl
      rw [qd_taken hj (by omega), s]
      exact qx_sl_m1
    rintro ⟨-, b | b | b | b⟩
    · exact b e4
    · rw [e5] at b; exact b (z0 _)
    · exact b es0
    · exact b es1
end
