/-! A LINE TAKEN OUT; a number that is tried -/
/-- how many faults there would be without a line: whatever look tells it -/
def fwQ (fk : Nat → Int32) (n : Nat) (fs fa fb : Nat → Int32) (L c : Nat) : Prop := ∃ (hs ha hb : Nat → Int32) (T1 : qk_T), (∀ j, j < n - 1 → hs j = qv_dn L fs j ∧ ha j = qv_dn L fa j ∧ hb j = qv_dn L fb j) ∧ qk_L 8 (n - 1) fk hs ha hb T1 ∧ c = qk_fc T1
noncomputable def fwN (fk : Nat → Int32) (n : Nat) (fs fa fb : Nat → Int32) (L : Nat) : Nat := Classical.epsilon (fwQ fk n fs fa fb L)
theorem fw_one {fk fs fa fb : Nat → Int32} {n L c d : Nat} (hP : lgP 8 fk n fs fa fb) (hL : L < n) (h : fwQ fk n fs fa fb L c) (h' : fwQ fk n fs fa fb L d) : c = d := by
  obtain ⟨hs, ha, hb, T1, e1, e2, e3⟩ := h
  obtain ⟨hs', ha', hb', T1', e1', e2', e3'⟩ := h'
  rw [e3, e3']
  have hl : ql_n hs (n - 1) ≤ 16 := by
    rw [qv_ql (f := hs) (g := qv_dn L fs) (fun j hj => (e1 j hj).1)]
    have := qv_ql_dn (f := fs) (L := L) (n - 1)
    rw [show n - 1 + 1 = n by omega] at this
    have := hP.2.2.2
    omega
  exact (qm_same (Nat.le_refl _) (by have := hP.2.1; omega) hl e2 e2' (fun j hj => by
    obtain ⟨a1, a2, a3⟩ := e1 j hj
    obtain ⟨b1, b2, b3⟩ := e1' j hj
    exact ⟨a1.trans b1.symm, a2.trans b2.symm, Or.inl (a3.trans b3.symm)⟩)).2.1
theorem fw_is {fk fs fa fb : Nat → Int32} {n L c : Nat} (hP : lgP 8 fk n fs fa fb) (hL : L < n) (h : fwQ fk n fs fa fb L c) : c = fwN fk n fs fa fb L := fw_one hP hL h (Classical.epsilon_spec ⟨c, h⟩)
theorem ml_remF {fk fs fa fb hs ha hb : Nat → Int32} {n L : Nat} (hF : ∀ j, j < n → qp_F 8 fk (fs j) (fa j) (fb j)) (e : ∀ j, j < n - 1 → hs j = qv_dn L fs j ∧ ha j = qv_dn L fa j ∧ hb j = qv_dn L fb j) : ∀ j, j < n - 1 → qp_F 8 fk (hs j) (ha j) (hb j) := by
  intro j hj
  obtain ⟨e1, e2, e3⟩ := e j hj
  rw [e1, e2, e3]
  unfold qv_dn
  by_cases c1 : j < L
  · rw [if_pos c1, if_pos c1, if_pos c1]
    exact hF j (by omega)
  · rw [if_neg c1, if_neg c1, if_neg c1]
    exact hF (j + 1) (by omega)
section
variable {l : Launch} {G : sxG} {k : lxC} {q : Nat → Nat} {n : Nat} {fk fs fa fb : Nat → Int32} {M : mlS}
set_option maxHeartbeats 4000000 in
set_option maxRecDepth 100000 in
theorem m_faultsWithout {L : Nat} (hM : mlI 8 fk n fs fa fb M) (hP : lgP 8 fk n fs fa fb) (hL : L < n) : lyM l yX9_faultsWithout wdX9_faultsWithout 5 122 0 0 G k [mlW G q M] [.ref (q 0), .int (nI L)] (fun B v => ∃ M' : mlS, B = [mlW G q M'] ∧ v = some (.int (nI (fwN fk n fs fa fb L))) ∧ fwN fk n fs fa fb L ≤ 34 ∧ M'.1 = M.1 ∧ mlI 8 fk n fs fa fb M' ∧ M'.2.1 = M.2.1 ∧ M'.2.2.1 = M.2.2.1 ∧ M'.2.2.2.1 = M.2.2.2.1) := by
  obtain ⟨P, T, Y, r, ⟨fk2, fs2, fa2, fb2, pv2, pn2⟩, T2, Y2⟩ := M
  obtain ⟨h1, h2, h3, h4, h5, h6⟩ := hM
  have h1 : P = (fk, fs, fa, fb, 8, n) := h1
  subst h1
  have hn := hP.2.1
  obtain ⟨z1, z2, z3, z4⟩ := h5
  obtain ⟨y1, y2, y3, y4⟩ := h6
  obtain ⟨hs, ha, hb, e1, e2, e3⟩ := qv_rem fs fa fb hL (show n ≤ 33 by omega)
  have hF := ml_remF hP.2.2.1 e2
  have hl : ql_n hs (n - 1) ≤ 16 := by
    rw [qv_ql (f := hs) (g := qv_dn L fs) (fun j hj => (e2 j hj).1)]
    have := qv_ql_dn (f := fs) (L := L) (n - 1)
    rw [show n - 1 + 1 = n by omega] at this
    have := hP.2.2.2
    omega
  obtain ⟨T1, hT⟩ : ∃ T1, s_X0_look (qk_du T2) (qk_dt T2) (qk_dg T2) (qk_dul T2) (qk_dtl T2) (qk_dgl T2) (qk_dll T2) (qk_dbu T2) (qk_dbg T2) (qk_yl T2) (qk_yp T2) (qk_ye T2) (qk_yo T2) (qk_yf T2) (qk_ys T2) (qk_yop T2) (qk_yel T2) (qk_yen T2) (qk_yst T2) (qk_xn T2) (qk_xl T2) (qk_xp T2) (qk_xo T2) 8 (n - 1) fk hs ha hb (qk_cr T2) (qk_cw T2) (qk_ch T2) (qk_cl T2) (qk_cd T2) (qk_cb T2) (qk_cn T2) = T1 := ⟨_, rfl⟩
  have hLk : qk_L 8 (n - 1) fk hs ha hb T1 := by
    rw [← hT]
    exact qk_look (Nat.le_refl _) (by omega) hF hl
  have hX : x_X9_faultsWithout n (nI L) = 0 := by
    unfold x_X9_faultsWithout
    rw [if_neg (qp_isLine1 hL (by omega))]
  have hfc := qv_fc hLk (show n - 1 ≤ 33 by omega)
  have hq : qk_fc T1 = fwN fk n fs fa fb L := fw_is hP hL ⟨hs, ha, hb, T1, e2, hLk, rfl⟩
  refine ly_one (pg_X9_faultsWithout l G k q ((fk, fs, fa, fb, 8, n), T, Y, r, (fk2, fs2, fa2, fb2, pv2, pn2), T2, Y2) (nI L) (by show n ≤ 33; omega) (Nat.le_refl _) hX (e_faultsWithout (zb_cpy z1 y1) (zb_cpy z2 y2) (zb_cpy z3 y3) (zb_cpy z4 y4) hL hn e1 hT rfl)) (lxF_one _) [_] (lxF_one _).symm ?_
  exact ⟨_, rfl, by rw [hq], by rw [← hq]; exact hfc, rfl, ⟨rfl, h2, h3, h4, ⟨z1, z2, z3, z4⟩, ⟨z1, fun j hj => (e3 j hj).1.trans (z2 j hj), fun j hj => (e3 j hj).2.1.trans (z3 j hj), fun j hj => (e3 j hj).2.2.trans (z4 j hj)⟩⟩, rfl, rfl, rfl⟩
end
