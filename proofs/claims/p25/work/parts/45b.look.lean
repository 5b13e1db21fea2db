/-! A LOOK AS A WHOLE: what it gives -/
theorem qk_clear {cr cw ch cl cd cn : Nat → Int32} : (∀ j, j < 34 → (s_X0_clear cr cw ch cl cd cn).1 j = 0 ∧ (s_X0_clear cr cw ch cl cd cn).2.1 j = 0 ∧ (s_X0_clear cr cw ch cl cd cn).2.2.1 j = 0 ∧ (s_X0_clear cr cw ch cl cd cn).2.2.2.1 j = 0 ∧ (s_X0_clear cr cw ch cl cd cn).2.2.2.2.2.1 j = 0) ∧
    (∀ i, i < 272 → (s_X0_clear cr cw ch cl cd cn).2.2.2.2.1 i = 0) := by
  have go : ∀ (k i : Nat) (cr cw ch cl cn : Nat → Int32), i ≤ 34 → 34 - i < k → (∀ j, j < i → cr j = 0 ∧ cw j = 0 ∧ ch j = 0 ∧ cl j = 0 ∧ cn j = 0) →
      (∀ j, j < 34 → (sl_X0_clear_L2 cd k i cr cw ch cl cn).1 j = 0 ∧ (sl_X0_clear_L2 cd k i cr cw ch cl cn).2.1 j = 0 ∧ (sl_X0_clear_L2 cd k i cr cw ch cl cn).2.2.1 j = 0 ∧ (sl_X0_clear_L2 cd k i cr cw ch cl cn).2.2.2.1 j = 0 ∧ (sl_X0_clear_L2 cd k i cr cw ch cl cn).2.2.2.2.2.1 j = 0) ∧
      (∀ i', i' < 272 → (sl_X0_clear_L2 cd k i cr cw ch cl cn).2.2.2.2.1 i' = 0) := by
    intro k
    induction k with
    | zero => intro i cr cw ch cl cn hi hk; omega
    | succ k ih =>
      intro i cr cw ch cl cn hi hk h
      rw [sl_X0_clear_L2]
      by_cases q : 34 ≤ i
      · rw [if_pos (show (34 : Int32) ≤ nI i from nI_le (a := 34) q (by omega))]
        dsimp only
        exact ⟨fun j hj => h j (by omega), fun i' hi' => qw_filled (n := 272) (by omega) cd 0 hi'⟩
      · rw [if_neg (show ¬ (34 : Int32) ≤ nI i from nI_ge (b := 34) (by omega) (by omega))]
        refine ih (i + 1) _ _ _ _ _ (by omega) (by omega) fun j hj => ?_
        by_cases z : j = i
        · rw [z, qb_us, qb_us, qb_us, qb_us, qb_us]; exact ⟨rfl, rfl, rfl, rfl, rfl⟩
        · rw [qb_un z, qb_un z, qb_un z, qb_un z, qb_un z]; exact h j (by omega)
  exact go 35 0 cr cw ch cl cn (Nat.zero_le _) (by omega) fun j hj => by omega
/-- the set of a borrow, of nothing else -/
theorem qk_bset {pv : Nat} {fk : Nat → Int32} {p : Int32} (hv : pv ≤ 8) (h : ¬ s_X1_borrowSet pv fk p = 0) : ∃ k : Nat, k < 3 * pv ∧ p = nI k ∧ (s_X5_kindAt pv fk p = 3 ∨ s_X5_kindAt pv fk p = 4) := by
  unfold s_X1_borrowSet at h
  by_cases q : s_X9_isBorrowKind (s_X5_kindAt pv fk p) = 0
  · rw [if_pos q] at h; exact absurd rfl h
  · have q2 := qp_bor.mp q
    obtain ⟨k, a, b, -⟩ := qp_kind_of (fk := fk) (x := p) hv (by rcases q2 with z | z <;> (rw [z]; decide))
    exact ⟨k, a, b, q2⟩
theorem qk_bor {pv pn : Nat} {fk fs fa fb dbg dg du yo : Nat → Int32} (hv : pv ≤ 8) (hF : ∀ j, j < pn → qp_F pv fk (fs j) (fa j) (fb j))
    (h1 : ∀ j, j < pn → du j = qd_u (fs j) (fa j) (fb j) ∧ dg j = qd_g (fs j) (fa j) ∧ dbg j = s_X1_borrowSet pv fk (qd_g (fs j) (fa j))) (h2 : ∀ j, j < pn → (fs j = 3 ∨ fs j = 4) → ¬ yo j = -1) : qf_bor dbg dg du yo pv pn := by
  intro j hj hd
  obtain ⟨a, b, c⟩ := h1 j hj
  rw [c] at hd
  obtain ⟨k, k1, k2, k3⟩ := qk_bset hv hd
  rw [b, a]
  refine ⟨⟨k / 3, by omega, by rw [k2, qb_div3 (by omega)]⟩, fun hy => ?_⟩
  have hn : ¬ (fs j = 3 ∨ fs j = 4) := fun z => h2 j hj z hy
  have kk : ∀ p : Int32, s_X5_kindAt pv fk (qd_g (fs j) (fa j)) = s_X5_kindAt pv fk p → ∃ u, u < pv ∧ p / 3 = nI u := by
    intro p e
    obtain ⟨u, u1, u2, -⟩ := qp_kind_of (fk := fk) (x := p) hv (by rw [← e]; rcases k3 with z | z <;> (rw [z]; decide))
    exact ⟨u / 3, by omega, by rw [u2, qb_div3 (by omega)]⟩
  have no : ∀ x : Int32, qd_g (fs j) (fa j) = x → s_X5_kindAt pv fk x = -1 → False := by
    intro x e e2
    rw [e, e2] at k3
    rcases k3 with z | z <;> exact absurd z (by decide)
  rcases qp_fit (hF j hj) with ⟨s, f1, f2⟩ | ⟨s, f1, f2⟩ | ⟨s, f1, f2⟩ | ⟨s, f1, f2⟩ | ⟨s, f1, f2⟩ | ⟨s, f⟩ | ⟨s, f⟩ | ⟨s, f⟩ | ⟨s, f⟩ | ⟨s, f⟩ | ⟨s, f⟩ | ⟨s, f⟩ | ⟨s, f⟩ | ⟨s, f⟩ | ⟨s, f⟩ | ⟨s, f⟩ | ⟨s, f⟩
  · have e : qd_g (fs j) (fa j) = fa j := by rw [s]; rfl
    rw [e] at k3
    exact absurd k3 f2
  · have e : qd_g (fs j) (fa j) = fa j := by rw [s]; rfl
    have e2 : qd_u (fs j) (fa j) (fb j) = fb j := by rw [s]; rfl
    rw [e2]
    exact kk (fb j) (by rw [e]; exact f1)
  · have e : qd_g (fs j) (fa j) = fa j := by rw [s]; rfl
    have e2 : qd_u (fs j) (fa j) (fb j) = fb j := by rw [s]; rfl
    rw [e2]
    exact kk (fb j) (by rw [e]; exact f1)
  · exact absurd (Or.inl s) hn
  · exact absurd (Or.inr s) hn
  all_goals exact (no (-1) (by rw [s]; rfl) (qp_kind_m1 pv fk)).elim
abbrev qw_R : Type := (Nat → Int32) × (Nat → Int32) × (Nat → Int32) × (Nat → Int32) × (Nat → Int32) × (Nat → Int32) × Int32 × Int32
abbrev qk_C : Type := (Nat → Int32) × (Nat → Int32) × (Nat → Int32) × (Nat → Int32) × (Nat → Int32) × (Nat → Int32) × Nat × Int32
/-- a look, put together -/
def qk_mk (pv pn : Nat) (fk fs fa fb xn xl xp xo cb : Nat → Int32) (D : qd_R) (Q : ql_R) (V : qw_R) (C : qk_C) (Z : qf_X6) (N : Nat → Int32) : qk_T := if (s_X8_isWhole (V.2.2.2.2.2.2.2)) = 0 then (D.1, D.2.1, D.2.2.1, D.2.2.2.1, D.2.2.2.2.1, D.2.2.2.2.2.1, D.2.2.2.2.2.2.1, D.2.2.2.2.2.2.2.1, D.2.2.2.2.2.2.2.2, Q.1, Q.2.1, Q.2.2.1, Q.2.2.2.1, (Q.2.2.2.2), V.1, V.2.1, V.2.2.1, V.2.2.2.1, V.2.2.2.2.1, V.2.2.2.2.2.1, V.2.2.2.2.2.2.1, V.2.2.2.2.2.2.2, (s_X2_addFault 0 xn xl xp xo 5 (V.2.2.2.2.2.2.2) (-1) (-1)).1, (s_X2_addFault 0 xn xl xp xo 5 (V.2.2.2.2.2.2.2) (-1) (-1)).2.1, (s_X2_addFault 0 xn xl xp xo 5 (V.2.2.2.2.2.2.2) (-1) (-1)).2.2.1, (s_X2_addFault 0 xn xl xp xo 5 (V.2.2.2.2.2.2.2) (-1) (-1)).2.2.2.1, ((s_X2_addFault 0 xn xl xp xo 5 (V.2.2.2.2.2.2.2) (-1) (-1)).2.2.2.2), C.1, C.2.1, C.2.2.1, C.2.2.2.1, C.2.2.2.2.1, cb, C.2.2.2.2.2.1, C.2.2.2.2.2.2.2) else sl_X0_look_L63 pv pn fk fs fa fb  35 0 (D.1) (D.2.1) (D.2.2.1) (D.2.2.2.1) (D.2.2.2.2.1) (D.2.2.2.2.2.1) (D.2.2.2.2.2.2.1) (D.2.2.2.2.2.2.2.1) (D.2.2.2.2.2.2.2.2) (Q.1) (Q.2.1) (Q.2.2.1) (Q.2.2.2.1) (Q.2.2.2.2) (V.1) (V.2.1) (V.2.2.1) (V.2.2.2.1) (V.2.2.2.2.1) (V.2.2.2.2.2.1) (V.2.2.2.2.2.2.1) (V.2.2.2.2.2.2.2) xn xl xp xo 0 (Z.1) (Z.2.1) (Z.2.2.1) (Z.2.2.2.1) (Z.2.2.2.2.1) (Z.2.2.2.2.2) N (C.2.2.2.2.2.2.2)
theorem qk_eq (pv pn : Nat) (du dt dg dul dtl dgl dll dbu dbg yl yp ye yo yf ys yop yel yen yst xn xl xp xo fk fs fa fb cr cw ch cl cd cb cn : Nat → Int32) :
    s_X0_look du dt dg dul dtl dgl dll dbu dbg yl yp ye yo yf ys yop yel yen yst xn xl xp xo pv pn fk fs fa fb cr cw ch cl cd cb cn =
      (fun (D : qd_R) (Q : ql_R) (V : qw_R) (C : qk_C) => qk_mk pv pn fk fs fa fb xn xl xp xo cb D Q V C (s_X0_followWays (D.2.2.2.2.2.1) (D.2.2.2.2.2.2.1) (D.2.2.2.2.2.2.2.2) (D.2.2.1) (D.1) (Q.2.2.2.1) (V.2.2.2.2.2.2.2) (V.1) (V.2.1) pv pn (C.1) (C.2.1) (C.2.2.1) (C.2.2.2.1) (C.2.2.2.2.1) cb fk) (s_X0_findWanted (D.2.2.2.2.2.2.2.2) (D.2.2.2.2.2.2.2.1) (V.2.2.2.2.2.2.2) (V.1) (V.2.1) pn (C.2.2.2.2.2.1))) (s_X1_look du dt dg dul dtl dgl dll dbu dbg pv pn fk fs fa fb) (s_X3_look yl yp ye yo pn fs fb) (s_X8_look yf ys yop yel yen yst pn fs) (s_X0_clear cr cw ch cl cd cn) := rfl
theorem qk_Lof {pv pn : Nat} {fk fs fa fb du dt dg dul dtl dgl dll dbu dbg yl yp ye yo yf ys yop yel yen yst xn xl xp xo cr cw ch cl cd cb cn : Nat → Int32} {lc fc : Nat} {wdp flg : Int32} (hw : qw_stk fs pn = some [])
    (sD : ∀ j, j < pn → qd_at pv fk fs fa fb (du, dt, dg, dul, dtl, dgl, dll, dbu, dbg) j) (sQ : ql_fin fs fb pn (yl, yp, ye, yo, lc)) (sW : qw_fin fs pn (yf, ys, yop, yel, yen, yst, wdp, -1))
    (s1 : ∀ j, j < pn → ¬ cr j = 0 → qf_done dgl dll dbg dg du yo yf ys pv pn (cr, cw, ch, cl, cd) j) (s2 : qf_cov pn (s_X5_allLeaves pv fk) (cr, cw, ch, cl, cd)) (s3 : ¬ cr 0 = 0) (s4 : qb_sub (s_X5_allLeaves pv fk) (cl 0))
    (s5 : ∀ (R : Nat → Prop) (Hv Lk : Nat → Nat → Prop) (Hd : Nat → Nat → Nat → Prop), qf_fam dgl dll dbg dg du yo yf ys pv pn (s_X5_allLeaves pv fk) R Hv Lk Hd → qf_in pv pn R Hv Lk Hd (cr, cw, ch, cl, cd))
    (s6 : qg_fix dbg dbu yf ys pn cn) (s7 : ∀ Wn : Nat → Nat → Prop, qg_fam dbg dbu yf ys pn Wn → ∀ j x, j < pn → qb_t (cn j) x = true → Wn j x)
    (s8 : fc = qx_n (fun j => ¬ cr j = 0 ∧ qx_bad dul dtl dbg yf ys yp ye fk fs fa fb cl cd cn lc pv pn j) pn)
    (s9 : ∀ j, j < pn → (fun j => ¬ cr j = 0 ∧ qx_bad dul dtl dbg yf ys yp ye fk fs fa fb cl cd cn lc pv pn j) j → xl (qx_n (fun j => ¬ cr j = 0 ∧ qx_bad dul dtl dbg yf ys yp ye fk fs fa fb cl cd cn lc pv pn j) j) = nI j ∧ xn (qx_n (fun j => ¬ cr j = 0 ∧ qx_bad dul dtl dbg yf ys yp ye fk fs fa fb cl cd cn lc pv pn j) j) = qx_no dul dtl dbg yf ys yp ye fk fs fa fb ch cl cd cn lc pv pn j) :
    qk_L pv pn fk fs fa fb (du, dt, dg, dul, dtl, dgl, dll, dbu, dbg, yl, yp, ye, yo, lc, yf, ys, yop, yel, yen, yst, wdp, -1, xn, xl, xp, xo, fc, cr, cw, ch, cl, cd, cb, cn, flg) :=
  ⟨sD, sQ, sW, fun z => absurd hw z, fun _ => ⟨⟨s1, s2, s3, s4⟩, s5, s6, s7, s8, s9⟩⟩
theorem qk_mkL {pv pn : Nat} {fk fs fa fb xn xl xp xo cb : Nat → Int32} (hp : pv ≤ 8) (hn : pn ≤ 33) (hF : ∀ j, j < pn → qp_F pv fk (fs j) (fa j) (fb j)) (hl : ql_n fs pn ≤ 16) {D : qd_R} {Q : ql_R} {V : qw_R} {C : qk_C}
    (sD : ∀ j, j < pn → qd_at pv fk fs fa fb D j) (sQ : ql_fin fs fb pn Q) (sW : qw_fin fs pn V) (sC1 : ∀ j, j < 34 → C.1 j = 0 ∧ C.2.1 j = 0 ∧ C.2.2.1 j = 0 ∧ C.2.2.2.1 j = 0 ∧ C.2.2.2.2.2.1 j = 0) (sC2 : ∀ i, i < 272 → C.2.2.2.2.1 i = 0) :
    qk_L pv pn fk fs fa fb (qk_mk pv pn fk fs fa fb xn xl xp xo cb D Q V C (s_X0_followWays (D.2.2.2.2.2.1) (D.2.2.2.2.2.2.1) (D.2.2.2.2.2.2.2.2) (D.2.2.1) (D.1) (Q.2.2.2.1) (V.2.2.2.2.2.2.2) (V.1) (V.2.1) pv pn (C.1) (C.2.1) (C.2.2.1) (C.2.2.2.1) (C.2.2.2.2.1) cb fk) (s_X0_findWanted (D.2.2.2.2.2.2.2.2) (D.2.2.2.2.2.2.2.1) (V.2.2.2.2.2.2.2) (V.1) (V.2.1) pn (C.2.2.2.2.2.1))) := by
  obtain ⟨du, dt, dg, dul, dtl, dgl, dll, dbu, dbg⟩ := D
  obtain ⟨yl, yp, ye, yo, lc⟩ := Q
  obtain ⟨yf, ys, yop, yel, yen, yst, wdp, wwr⟩ := V
  obtain ⟨cr0, cw0, ch0, cl0, cd0, cn, fc0, flg0⟩ := C
  dsimp only at sC1 sC2
  by_cases c : wwr = -1
  · subst c
    have hw : qw_stk fs pn = some [] := Classical.byContradiction fun z => sW.2 z rfl
    obtain ⟨-, hnx⟩ := sW.1 hw
    have hB : qf_bor dbg dg du yo pv pn := qk_bor hp hF (fun j hj => ⟨(sD j hj).1, (sD j hj).2.2.1, (sD j hj).2.2.2.2.2.2.2.2⟩) (fun j hj z => by
      have e := (sQ.2.1 j hj z).2.2.2
      have e : yo j = nI (ql_n fs j) := e
      rw [e]
      exact qb_nem1 (by have := ql_lt hj z; omega))
    have hR : qf_rng yf ys pn := fun j hj => by
      obtain ⟨a, b⟩ := qw_nx_rng (hnx j hj).1 hj (by omega)
      refine ⟨?_, ?_⟩
      · rcases a with ⟨a, -⟩ | ⟨t, -, a1, a2⟩
        · exact Or.inl a
        · exact Or.inr ⟨t, a1, a2⟩
      · rcases b with ⟨b, -⟩ | ⟨t, -, b1, b2⟩
        · exact Or.inl b
        · exact Or.inr ⟨t, b1, b2⟩
    show qk_L pv pn fk fs fa fb (qk_mk pv pn fk fs fa fb xn xl xp xo cb (du, dt, dg, dul, dtl, dgl, dll, dbu, dbg) (yl, yp, ye, yo, lc) (yf, ys, yop, yel, yen, yst, wdp, -1) (cr0, cw0, ch0, cl0, cd0, cn, fc0, flg0) (s_X0_followWays dgl dll dbg dg du yo (-1) yf ys pv pn cr0 cw0 ch0 cl0 cd0 cb fk) (s_X0_findWanted dbg dbu (-1) yf ys pn cn))
    have sF := fun (R : Nat → Prop) (Hv Lk : Nat → Nat → Prop) (Hd : Nat → Nat → Nat → Prop) (f : qf_fam dgl dll dbg dg du yo yf ys pv pn (s_X5_allLeaves pv fk) R Hv Lk Hd) =>
      qf_follow (cr := cr0) (cw := cw0) (ch := ch0) (cl := cl0) (cd := cd0) (cb := cb) hB hR hp (show pn ≤ 34 by omega) f (fun j hj => by obtain ⟨a, b, c, d, -⟩ := sC1 j (by omega); exact ⟨a, b, c, d⟩) (fun i hi => sC2 i (by omega))
    generalize s_X0_followWays dgl dll dbg dg du yo (-1) yf ys pv pn cr0 cw0 ch0 cl0 cd0 cb fk = Z at sF ⊢
    have sN := fun (Wn : Nat → Nat → Prop) (f : qg_fam dbg dbu yf ys pn Wn) => qg_find (cn := cn) hn f (fun j hj => (sC1 j (by omega)).2.2.2.2)
    generalize s_X0_findWanted dbg dbu (-1) yf ys pn cn = N at sN ⊢
    obtain ⟨cr, cw, ch, cl, cd, cb'⟩ := Z
    have e0 : qk_mk pv pn fk fs fa fb xn xl xp xo cb (du, dt, dg, dul, dtl, dgl, dll, dbu, dbg) (yl, yp, ye, yo, lc) (yf, ys, yop, yel, yen, yst, wdp, -1) (cr0, cw0, ch0, cl0, cd0, cn, fc0, flg0) (cr, cw, ch, cl, cd, cb') N = sl_X0_look_L63 pv pn fk fs fa fb 35 0 du dt dg dul dtl dgl dll dbu dbg yl yp ye yo lc yf ys yop yel yen yst wdp (-1) xn xl xp xo 0 cr cw ch cl cd cb' N flg0 := by
      unfold qk_mk
      rw [if_neg (show ¬ s_X8_isWhole (-1) = 0 by decide)]
    obtain ⟨xn', xl', xp', xo', flg', e, hx⟩ := qk_loop (du := du) (dt := dt) (dg := dg) (dul := dul) (dtl := dtl) (dgl := dgl) (dll := dll) (dbu := dbu) (dbg := dbg) (yl := yl) (yp := yp) (ye := ye) (yo := yo) (yf := yf) (ys := ys) (yop := yop) (yel := yel) (yen := yen) (yst := yst) (cr := cr) (cw := cw) (ch := ch) (cl := cl) (cd := cd) (cb := cb') (cn := N) (fk := fk) (fs := fs) (fa := fa) (fb := fb) (lc := lc) (pv := pv) (wdp := wdp) (show pn ≤ 34 by omega) 35 0 xn xl xp xo 0 flg0 (Nat.zero_le _) (by omega) rfl (fun j hj => by omega)
    have tF := sF (fun _ => True) (fun _ _ => True) (fun _ _ => True) (fun _ _ _ => True) ⟨trivial, fun _ _ => trivial, fun _ _ _ _ _ _ => ⟨trivial, fun _ _ => trivial, fun _ _ _ => trivial, fun _ _ _ _ => trivial⟩⟩
    have tN := sN (fun _ _ => True) (fun _ _ _ _ => trivial)
    have e2 := e0.trans e
    rw [show qk_mk pv pn fk fs fa fb xn xl xp xo cb (du, dt, dg, dul, dtl, dgl, dll, dbu, dbg) (yl, yp, ye, yo, lc) (yf, ys, yop, yel, yen, yst, wdp, -1) _ (cr, cw, ch, cl, cd, cb') N = _ from e2]
    exact qk_Lof hw sD sQ sW (fun j hj hr => tF.1.2.1 j hj hr (tF.2 j hj)) tF.1.2.2.2.1 tF.1.2.2.2.2.1 tF.1.2.2.2.2.2 (fun R Hv Lk Hd f => (sF R Hv Lk Hd f).1.2.2.1) tN.2 (fun Wn f => (sN Wn f).1) rfl hx
  · have e : s_X8_isWhole wwr = 0 := by
      unfold s_X8_isWhole
      rw [if_neg c]
    have hw : ¬ qw_stk fs pn = some [] := fun z => c (sW.1 z).1
    unfold qk_mk
    dsimp only
    rw [if_pos e]
    refine ⟨sD, sQ, sW, fun _ => ?_, fun z => absurd z hw⟩
    show (s_X2_addFault 0 xn xl xp xo 5 wwr (-1) (-1)).2.2.2.2 = 1
    rw [qx_add (by omega)]
theorem qk_look {pv pn : Nat} {du dt dg dul dtl dgl dll dbu dbg yl yp ye yo yf ys yop yel yen yst xn xl xp xo fk fs fa fb cr cw ch cl cd cb cn : Nat → Int32} (hp : pv ≤ 8) (hn : pn ≤ 33) (hF : ∀ j, j < pn → qp_F pv fk (fs j) (fa j) (fb j)) (hl : ql_n fs pn ≤ 16) :
    qk_L pv pn fk fs fa fb (s_X0_look du dt dg dul dtl dgl dll dbu dbg yl yp ye yo yf ys yop yel yen yst xn xl xp xo pv pn fk fs fa fb cr cw ch cl cd cb cn) := by
  rw [qk_eq]
  obtain ⟨sC1, sC2⟩ := qk_clear (cr := cr) (cw := cw) (ch := ch) (cl := cl) (cd := cd) (cn := cn)
  exact qk_mkL hp hn hF hl (qd_look (show pn ≤ 34 by omega)) (ql_look (show pn ≤ 34 by omega) hl) (qw_look (show pn ≤ 34 by omega)) sC1 sC2
