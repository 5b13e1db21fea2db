/-! A LINE PUT IN, that gives nothing: what is known ahead of it -/
/-- two looks: at a program, and at it with a line put in at L -/
def qj_P (fs fa fb fs' fa' fb' : Nat → Int32) (L n : Nat) : Prop := ∀ j, j < n → fs' (qi_s L j) = fs j ∧ fa' (qi_s L j) = fa j ∧ fb' (qi_s L j) = fb j
theorem qi_y_inv {L n : Nat} {x : Int32} {t : Nat} (hn : n ≤ 34) (hx : x = -1 ∨ ∃ a : Nat, a ≤ n ∧ x = nI a) (ht : t ≤ 34) (h : qi_y L x = nI t) : ∃ a : Nat, a ≤ n ∧ x = nI a ∧ t = qi_t L a := by
  rcases hx with z | ⟨a, h1, h2⟩
  · rw [z, qi_y1] at h
    exact absurd h.symm (qb_nem1 (by omega))
  · rw [h2, qi_yn (by omega)] at h
    refine ⟨a, h1, h2, ?_⟩
    have hb : qi_t L a ≤ a + 1 := by
      unfold qi_t
      split <;> omega
    exact ((nI_eq (by omega) (by omega)).mp h).symm
section
variable {pv n L : Nat} {fk fs fa fb fs' fa' fb' : Nat → Int32} {T T' : qk_T}
/-- what the lines do is as it was -/
theorem qj_data (hL : qk_L pv n fk fs fa fb T) (hL' : qk_L pv (n + 1) fk fs' fa' fb' T') (hQ : qj_P fs fa fb fs' fa' fb' L n) (hLn : L ≤ n) (h3 : ¬ (fs' L = 3 ∨ fs' L = 4)) (hP : qi_P fs fs' L n) (hl : ql_n fs n ≤ 16) :
    (∀ j, j < n → qk_dgl T' (qi_s L j) = qk_dgl T j ∧ qk_dll T' (qi_s L j) = qk_dll T j ∧ qk_dbu T' (qi_s L j) = qk_dbu T j ∧ qk_dbg T' (qi_s L j) = qk_dbg T j ∧ qk_dg T' (qi_s L j) = qk_dg T j ∧ qk_du T' (qi_s L j) = qk_du T j ∧ qk_yo T' (qi_s L j) = qk_yo T j) ∧ qk_lc T' = qk_lc T ∧ (∀ k, k < qk_lc T → qk_yp T' k = qk_yp T k ∧ qk_ye T' k = qk_ye T k) := by
  have hb : ∀ j, j < n → qi_s L j < n + 1 := fun j hj => by have := qi_s_b L j; omega
  have hql : ∀ j, j < n → ql_n fs' (qi_s L j) = ql_n fs j := by
    intro j hj
    obtain ⟨a, b⟩ := qi_loans hP h3 hLn (i := j) (by omega)
    rcases Nat.lt_or_ge j L with z | z
    · rw [qi_s_lt z]; exact a (by omega)
    · rw [qi_s_ge z]; exact b z
  have hlc : ql_n fs' (n + 1) = ql_n fs n := (qi_loans hP h3 hLn (i := n) (Nat.le_refl _)).2 hLn
  refine ⟨fun j hj => ?_, ?_, fun k hk => ?_⟩
  · obtain ⟨d1, d2, d3, d4, d5, d6, d7, d8, d9⟩ := hL.1 j hj
    obtain ⟨k1, k2, k3, k4, k5, k6, k7, k8, k9⟩ := hL'.1 (qi_s L j) (hb j hj)
    obtain ⟨m1, m2, m3⟩ := hQ j hj
    rw [m1, m2, m3] at k1 k7 k8
    rw [m1, m2] at k3 k6 k9
    refine ⟨k6.trans d6.symm, k7.trans d7.symm, k8.trans d8.symm, k9.trans d9.symm, k3.trans d3.symm, k1.trans d1.symm, ?_⟩
    by_cases c : fs j = 3 ∨ fs j = 4
    · have a := (hL.2.1.2.1 j hj c).2.2.2
      have b := (hL'.2.1.2.1 (qi_s L j) (hb j hj) (by rw [m1]; exact c)).2.2.2
      exact b.trans (by rw [hql j hj]; exact a.symm)
    · exact (hL'.2.1.2.2 (qi_s L j) (hb j hj) (by rw [m1]; exact c)).trans (hL.2.1.2.2 j hj c).symm
  · have a := hL.2.1.1
    have b := hL'.2.1.1
    exact b.trans (hlc.trans a.symm)
  · have hk2 : k < ql_n fs n := by have := hL.2.1.1; have : qk_lc T = ql_n fs n := this; omega
    obtain ⟨i, hi, c, rfl⟩ := ql_of hk2
    obtain ⟨a1, a2, a3, a4⟩ := hL.2.1.2.1 i hi c
    obtain ⟨m1, m2, m3⟩ := hQ i hi
    obtain ⟨b1, b2, b3, b4⟩ := hL'.2.1.2.1 (qi_s L i) (hb i hi) (by rw [m1]; exact c)
    rw [hql i hi] at b2 b3
    exact ⟨b2.trans (m3.trans a2.symm), b3.trans (by rw [m1]; exact a3.symm)⟩
/-- the edges -/
theorem qj_edges (hL : qk_L pv n fk fs fa fb T) (hL' : qk_L pv (n + 1) fk fs' fa' fb' T') (hP : qi_P fs fs' L n) (hn : n ≤ 33) (hLn : L ≤ n) (hE : L < n → ¬ fs L = 11) (h15 : ¬ fs' L = 15) (hw : qw_stk fs n = some []) :
    (∀ j, j < n → (qk_yf T j = -1 ∨ ∃ a : Nat, a ≤ n ∧ qk_yf T j = nI a) ∧ (qk_ys T j = -1 ∨ ∃ a : Nat, a ≤ n ∧ qk_ys T j = nI a) ∧ qk_yf T' (qi_s L j) = qi_y L (qk_yf T j) ∧ qk_ys T' (qi_s L j) = qi_y L (qk_ys T j)) ∧
    qk_yf T' L = nI (L + 1) ∧ qk_ys T' L = -1 := by
  have hw' := qi_whole hP hn hLn hw
  have x1 := (hL.2.2.1.1 hw).2
  have x2 := (hL'.2.2.1.1 hw').2
  refine ⟨fun j hj => ?_, qi_nxL h15 hP (x2 L (by omega)).1⟩
  have hb : qi_s L j < n + 1 := by have := qi_s_b L j; omega
  obtain ⟨a, b⟩ := qw_nx_rng (x1 j hj).1 hj (by omega)
  refine ⟨?_, ?_, qw_nx_det (x2 _ hb).1 (qi_nx hP hn hLn hE hj (x1 j hj).1)⟩
  · rcases a with ⟨a, -⟩ | ⟨t, -, a1, a2⟩
    · exact Or.inl a
    · exact Or.inr ⟨t, a1, a2⟩
  · rcases b with ⟨b, -⟩ | ⟨t, -, b1, b2⟩
    · exact Or.inl b
    · exact Or.inr ⟨t, b1, b2⟩
/-- nothing comes back from behind L -/
def qj_out (T : qk_T) (L n : Nat) : Prop := ∀ j t : Nat, L ≤ j → j < n → t ≤ n → qw_E (qk_yf T) (qk_ys T) j t → L < t
theorem qj_main (hL : qk_L pv n fk fs fa fb T) (hL' : qk_L pv (n + 1) fk fs' fa' fb' T') (hQ : qj_P fs fa fb fs' fa' fb' L n) (hLn : L ≤ n) (hp : pv ≤ 8) (hn : n ≤ 32) (h3 : ¬ (fs' L = 3 ∨ fs' L = 4)) (hP : qi_P fs fs' L n) (hl : ql_n fs n ≤ 16) (hE : L < n → ¬ fs L = 11) (h15 : ¬ fs' L = 15) (hw : qw_stk fs n = some []) (ho : qj_out T L n) :
    (qk_cr T' L = 0 ↔ qk_cr T L = 0) ∧ qk_ch T' L = qk_ch T L ∧ qk_cl T' L = qk_cl T L ∧ (∀ v, v < pv → qk_cd T' (L * 8 + v) = qk_cd T (L * 8 + v)) ∧ (∀ j, L ≤ j → j < n → qk_cn T' (j + 1) = qk_cn T j) := by
  obtain ⟨hd, hlc, hyp⟩ := qj_data hL hL' hQ hLn h3 hP hl
  obtain ⟨he, hf1, hf2⟩ := qj_edges hL hL' hP (by omega) hLn hE h15 hw
  have hw' := qi_whole hP (by omega) hLn hw
  have f1 := qk_self hL hw
  have f2 := qk_self hL' hw'
  -- an edge ahead of L, from either side
  have ed : ∀ j t : Nat, j < L → t ≤ L → (qw_E (qk_yf T') (qk_ys T') j t ↔ qw_E (qk_yf T) (qk_ys T) j t) := by
    intro j t hj ht
    obtain ⟨a, b, c, d⟩ := he j (by omega)
    rw [qi_s_lt hj] at c d
    have one : ∀ x y : Int32, (x = -1 ∨ ∃ a : Nat, a ≤ n ∧ x = nI a) → y = qi_y L x → (y = nI t ↔ x = nI t) := by
      intro x y hx hy
      constructor
      · intro h
        rw [hy] at h
        obtain ⟨a, a1, a2, a3⟩ := qi_y_inv (by omega) hx (by omega) h
        have : a = t := by
          rcases Nat.lt_or_ge L a with z | z
          · rw [qi_t_gt z] at a3; omega
          · rw [qi_t_le z] at a3; exact a3.symm
        rw [a2, this]
      · intro h
        rw [hy, h, qi_yn (by omega), qi_t_le ht]
    unfold qw_E
    rw [one _ _ a c, one _ _ b d]
  -- an edge of the new program that comes to L or ahead of it comes from ahead of L
  have bk : ∀ j t : Nat, j < n + 1 → t ≤ L → qw_E (qk_yf T') (qk_ys T') j t → j < L := by
    intro j t hj ht hx
    rcases Nat.lt_trichotomy j L with z | z | z
    · exact z
    · subst z
      rcases hx with h | h
      · rw [hf1] at h
        have := (nI_eq (by omega) (by omega)).mp h
        omega
      · rw [hf2] at h
        exact absurd h.symm (qb_nem1 (by omega))
    · obtain ⟨a, b, c, d⟩ := he (j - 1) (by omega)
      rw [qi_s_ge (by omega), show j - 1 + 1 = j from by omega] at c d
      have one : ∀ x : Int32, (x = -1 ∨ ∃ a : Nat, a ≤ n ∧ x = nI a) → qi_y L x = nI t → (∀ a : Nat, a ≤ n → x = nI a → L < a) → j < L := by
        intro x hx h hgt
        obtain ⟨a, a1, a2, a3⟩ := qi_y_inv (by omega) hx (by omega) h
        have := hgt a a1 a2
        rw [qi_t_gt this] at a3
        omega
      rcases hx with h | h
      · exact one _ a (by rw [← c]; exact h) fun x x1 x2 => ho (j - 1) x (by omega) (by omega) x1 (Or.inl x2)
      · exact one _ b (by rw [← d]; exact h) fun x x1 x2 => ho (j - 1) x (by omega) (by omega) x1 (Or.inr x2)
  have i1 := (hL'.2.2.2.2 hw').2.1 (fun j => j ≤ L → ¬ qk_cr T j = 0) (fun j x => j ≤ L → qb_t (qk_ch T j) x = true) (fun j x => j ≤ L → qb_t (qk_cl T j) x = true) (fun j v x => j ≤ L → qb_t (qk_cd T (j * 8 + v)) x = true) (by
    refine ⟨fun _ => f1.1, fun x hx _ => f1.2.1 x hx, fun j t hj ht hr hx => ?_⟩
    by_cases c : t ≤ L
    · have hjL := bk j t hj c hx
      obtain ⟨a, b, d, f⟩ := f1.2.2 j t (by omega) (by omega) (hr (by omega)) ((ed j t hjL c).mp hx)
      obtain ⟨e1, e2, e3, e4, e5, e6, e7⟩ := hd j (by omega)
      rw [qi_s_lt hjL] at e1 e2 e3 e4 e5 e6 e7
      refine ⟨fun _ => a, fun x hx _ => b x ?_, fun x hx hg _ => d x ?_ (by rw [← e1]; exact hg), fun v x hv hx _ => f v x hv ?_⟩
      · rw [e1, e2] at hx
        exact hx.elim (fun z => Or.inl ⟨z.1 (by omega), z.2⟩) Or.inr
      · rw [e2] at hx
        exact hx.elim (fun z => Or.inl (z (by omega))) Or.inr
      · have hx := qf_H_c e4 e5 e6 e7 hx
        rcases hx with ⟨x1, x2, ⟨x3, x4⟩ | ⟨x3, x4⟩⟩ | ⟨x1, x2⟩
        · exact Or.inl ⟨x1, x2, Or.inl ⟨x3, x4 (by omega)⟩⟩
        · exact Or.inl ⟨x1, x2, Or.inr ⟨x3, x4⟩⟩
        · exact Or.inr ⟨x1, x2 (by omega)⟩
    · exact ⟨fun h => absurd h c, fun x _ h => absurd h c, fun x _ _ h => absurd h c, fun v x _ _ h => absurd h c⟩)
  have i2 := (hL.2.2.2.2 hw).2.1 (fun j => j ≤ L → ¬ qk_cr T' j = 0) (fun j x => j ≤ L → qb_t (qk_ch T' j) x = true) (fun j x => j ≤ L → qb_t (qk_cl T' j) x = true) (fun j v x => j ≤ L → qb_t (qk_cd T' (j * 8 + v)) x = true) (by
    refine ⟨fun _ => f2.1, fun x hx _ => f2.2.1 x hx, fun j t hj ht hr hx => ?_⟩
    by_cases c : t ≤ L
    · have hjL : j < L := by
        rcases Nat.lt_or_ge j L with z | z
        · exact z
        · have := ho j t z hj ht hx; omega
      obtain ⟨a, b, d, f⟩ := f2.2.2 j t (by omega) (by omega) (hr (by omega)) ((ed j t hjL c).mpr hx)
      obtain ⟨e1, e2, e3, e4, e5, e6, e7⟩ := hd j (by omega)
      rw [qi_s_lt hjL] at e1 e2 e3 e4 e5 e6 e7
      refine ⟨fun _ => a, fun x hx _ => b x ?_, fun x hx hg _ => d x ?_ (by rw [e1]; exact hg), fun v x hv hx _ => f v x hv ?_⟩
      · rw [e1, e2]
        exact hx.elim (fun z => Or.inl ⟨z.1 (by omega), z.2⟩) Or.inr
      · rw [e2]
        exact hx.elim (fun z => Or.inl (z (by omega))) Or.inr
      · have hx := qf_H_c e4.symm e5.symm e6.symm e7.symm hx
        rcases hx with ⟨x1, x2, ⟨x3, x4⟩ | ⟨x3, x4⟩⟩ | ⟨x1, x2⟩
        · exact Or.inl ⟨x1, x2, Or.inl ⟨x3, x4 (by omega)⟩⟩
        · exact Or.inl ⟨x1, x2, Or.inr ⟨x3, x4⟩⟩
        · exact Or.inr ⟨x1, x2 (by omega)⟩
    · exact ⟨fun h => absurd h c, fun x _ h => absurd h c, fun x _ _ h => absurd h c, fun v x _ _ h => absurd h c⟩)
  have g1 := (hL.2.2.2.2 hw).2.2
  have g2 := (hL'.2.2.2.2 hw').2.2
  have s1 := qg_self (show n ≤ 34 by omega) g1.1
  have s2 := qg_self (show n + 1 ≤ 34 by omega) g2.1
  -- an edge behind L, from either side
  have ef : ∀ j t : Nat, L ≤ j → j < n → L < t → t ≤ n → (qw_E (qk_yf T') (qk_ys T') (j + 1) (t + 1) ↔ qw_E (qk_yf T) (qk_ys T) j t) := by
    intro j t hj hjn ht htn
    obtain ⟨a, b, c, d⟩ := he j hjn
    rw [qi_s_ge hj] at c d
    have one : ∀ x y : Int32, (x = -1 ∨ ∃ a : Nat, a ≤ n ∧ x = nI a) → y = qi_y L x → (y = nI (t + 1) ↔ x = nI t) := by
      intro x y hx hy
      constructor
      · intro h
        rw [hy] at h
        obtain ⟨a, a1, a2, a3⟩ := qi_y_inv (by omega) hx (by omega) h
        have : a = t := by
          rcases Nat.lt_or_ge L a with z | z
          · rw [qi_t_gt z] at a3; omega
          · rw [qi_t_le z] at a3; omega
        rw [a2, this]
      · intro h
        rw [hy, h, qi_yn (by omega), qi_t_gt ht]
    unfold qw_E
    rw [one _ _ a c, one _ _ b d]
  have w1 := g2.2.1 (fun j' x => ∀ j, j' = j + 1 → L ≤ j → qb_t (qk_cn T j) x = true) (by
    intro j' x hj' hx j e hLj
    subst e
    obtain ⟨e1, e2, e3, e4, e5, e6, e7⟩ := hd j (by omega)
    rw [qi_s_ge hLj] at e3 e4
    refine s1 j x (by omega) ?_
    rw [e3, e4] at hx
    rcases hx with ⟨⟨t', a, b, c⟩, d⟩ | d
    · refine Or.inl ⟨?_, d⟩
      have hgt : L < t' - 1 ∧ 1 ≤ t' := by
        rcases Nat.lt_or_ge L t' with z | z
        · have hge : ¬ t' = L + 1 := by
            intro z
            obtain ⟨p1, p2, p3, p4⟩ := he j (by omega)
            rw [qi_s_ge hLj] at p3 p4
            have one : ∀ x : Int32, (x = -1 ∨ ∃ a : Nat, a ≤ n ∧ x = nI a) → qi_y L x = nI t' → (∀ a : Nat, a ≤ n → x = nI a → L < a) → False := by
              intro x hx h hgt
              obtain ⟨a, a1, a2, a3⟩ := qi_y_inv (by omega) hx (by omega) h
              have := hgt a a1 a2
              rw [qi_t_gt this] at a3
              omega
            rcases b with h | h
            · exact one _ p1 (by rw [← p3]; exact h) fun x x1 x2 => ho j x hLj (by omega) x1 (Or.inl x2)
            · exact one _ p2 (by rw [← p4]; exact h) fun x x1 x2 => ho j x hLj (by omega) x1 (Or.inr x2)
          omega
        · have := bk (j + 1) t' hj' z b
          omega
      refine ⟨t' - 1, by omega, (ef j (t' - 1) hLj (by omega) hgt.1 (by omega)).mp (by rw [show t' - 1 + 1 = t' from by omega]; exact b), c (t' - 1) (by omega) (by omega)⟩
    · exact Or.inr d)
  have w2 := g1.2.1 (fun j x => L ≤ j → qb_t (qk_cn T' (j + 1)) x = true) (by
    intro j x hj hx hLj
    obtain ⟨e1, e2, e3, e4, e5, e6, e7⟩ := hd j (by omega)
    rw [qi_s_ge hLj] at e3 e4
    refine s2 (j + 1) x (by omega) ?_
    rw [e3, e4]
    rcases hx with ⟨⟨t, a, b, c⟩, d⟩ | d
    · have hgt := ho j t hLj hj (by omega) b
      exact Or.inl ⟨⟨t + 1, by omega, (ef j t hLj hj hgt (by omega)).mpr b, c (by omega)⟩, d⟩
    · exact Or.inr d)
  refine ⟨⟨fun h => ?_, fun h => ?_⟩, qb_anti (fun x hx => i1.2.1 L x (by omega) hx (Nat.le_refl _)) (fun x hx => i2.2.1 L x (by omega) hx (Nat.le_refl _)), qb_anti (fun x hx => i1.2.2.1 L x (by omega) hx (Nat.le_refl _)) (fun x hx => i2.2.2.1 L x (by omega) hx (Nat.le_refl _)), fun v hv => qb_anti (fun x hx => i1.2.2.2 L v x (by omega) hv hx (Nat.le_refl _)) (fun x hx => i2.2.2.2 L v x (by omega) hv hx (Nat.le_refl _)), fun j hLj hj => qb_anti (fun x hx => w1 (j + 1) x (by omega) hx j rfl hLj) (fun x hx => w2 j x hj hx hLj)⟩
  · exact Classical.byContradiction fun z => i2.1 L (by omega) z (Nat.le_refl _) h
  · exact Classical.byContradiction fun z => i1.1 L (by omega) z (Nat.le_refl _) h
end
