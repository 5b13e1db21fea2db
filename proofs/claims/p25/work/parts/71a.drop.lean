/-! A DROP PUT IN -/
theorem ml_insF {fk fs fa fb hs ha hb : Nat → Int32} {n L : Nat} {a b c : Int32} (hF : ∀ j, j < n → qp_F 8 fk (fs j) (fa j) (fb j)) (hL : L ≤ n) (h : qp_F 8 fk a b c) (e : ∀ j, j ≤ n → hs j = qv_up L fs a j ∧ ha j = qv_up L fa b j ∧ hb j = qv_up L fb c j) : ∀ j, j < n + 1 → qp_F 8 fk (hs j) (ha j) (hb j) := by
  intro j hj
  obtain ⟨e1, e2, e3⟩ := e j (by omega)
  rw [e1, e2, e3]
  unfold qv_up
  by_cases c1 : j < L
  · rw [if_pos c1, if_pos c1, if_pos c1]
    exact hF j (by omega)
  · rw [if_neg c1, if_neg c1, if_neg c1]
    by_cases c2 : j = L
    · rw [if_pos c2, if_pos c2, if_pos c2]
      exact h
    · rw [if_neg c2, if_neg c2, if_neg c2]
      exact hF (j - 1) (by omega)
theorem ml_insP {fs fa fb hs ha hb : Nat → Int32} {n L : Nat} {a b c : Int32} (hL : L ≤ n) (e : ∀ j, j ≤ n → hs j = qv_up L fs a j ∧ ha j = qv_up L fa b j ∧ hb j = qv_up L fb c j) : qj_P fs fa fb hs ha hb L n ∧ hs L = a ∧ ha L = b := by
  refine ⟨fun j hj => ?_, ?_, ?_⟩
  · by_cases q : j < L
    · rw [qi_s_lt q]
      obtain ⟨e1, e2, e3⟩ := e j (by omega)
      rw [e1, e2, e3]
      unfold qv_up
      rw [if_pos q, if_pos q, if_pos q]
      exact ⟨rfl, rfl, rfl⟩
    · rw [qi_s_ge (by omega)]
      obtain ⟨e1, e2, e3⟩ := e (j + 1) (by omega)
      rw [e1, e2, e3]
      unfold qv_up
      rw [if_neg (by omega), if_neg (by omega), if_neg (by omega), if_neg (by omega), if_neg (by omega), if_neg (by omega)]
      exact ⟨rfl, rfl, rfl⟩
  · rw [(e L hL).1]
    unfold qv_up
    rw [if_neg (by omega), if_pos rfl]
  · rw [(e L hL).2.1]
    unfold qv_up
    rw [if_neg (by omega), if_pos rfl]
section
variable {l : Launch} {G : sxG} {k : lxC} {q : Nat → Nat} {n : Nat} {fk fs fa fb : Nat → Int32} {M : mlS}
set_option maxHeartbeats 4000000 in
set_option maxRecDepth 100000 in
theorem m_couldDrop {L p : Nat} (hM : mlI 8 fk n fs fa fb M) (hP : lgP 8 fk n fs fa fb) (hw : qw_stk fs n = some []) (hL : L ≤ n) (hp : p < 24) (ho : qp_kd 8 fk p = 1 ∨ qp_kd 8 fk p = 2 ∨ qp_kd 8 fk p = 5) : lyM l yX9_couldDrop wdX9_couldDrop 5 122 0 0 G k [mlW G q M] [.ref (q 0), .int (nI L), .int (nI p)] (fun B v => ∃ (M' : mlS) (T1 : qk_T) (hs ha hb : Nat → Int32), B = [mlW G q M'] ∧ v = some (.int (s_X2_numberOfLine (qk_fc T1) (qk_xn T1) (qk_xl T1) (nI L))) ∧ mlI 8 fk n fs fa fb M' ∧ M'.2.1 = M.2.1 ∧ M'.2.2.1 = M.2.2.1 ∧ M'.2.2.2.1 = M.2.2.2.1 ∧ qk_L 8 (n + 1) fk hs ha hb T1 ∧ (∀ j, j ≤ n → hs j = qv_up L fs 7 j ∧ ha j = qv_up L fa (nI p) j ∧ hb j = qv_up L fb 0 j)) := by
  obtain ⟨P, T, Y, r, ⟨fk2, fs2, fa2, fb2, pv2, pn2⟩, T2, Y2⟩ := M
  obtain ⟨h1, h2, h3, h4, h5, h6⟩ := hM
  have h1 : P = (fk, fs, fa, fb, 8, n) := h1
  subst h1
  have hn := hP.2.1
  obtain ⟨z1, z2, z3, z4⟩ := h5
  obtain ⟨y1, y2, y3, y4⟩ := h6
  obtain ⟨hs, ha, hb, e1, e2, e3⟩ := qv_ins (a := 7) (b := nI p) (c := 0) fs fa fb hL hn
  have hF := ml_insF hP.2.2.1 hL (lf7 (kA := qp_kd 8 fk p) (lf_kd hp) ho) e2
  have hl : ql_n hs (n + 1) ≤ 16 := by
    rw [qv_ql (f := hs) (g := qv_up L fs 7) (fun j hj => (e2 j (by omega)).1), qv_ql_up (by decide) n hL]
    exact hP.2.2.2
  obtain ⟨hQ, q7, q8⟩ := ml_insP hL e2
  have hw2 : qw_stk hs (n + 1) = some [] := qi_whole (S := fs) (S' := hs) (L := L) ⟨fun j hj => (hQ j hj).1, by rw [q7]; decide, by rw [q7]; decide, by rw [q7]; decide, by rw [q7]; decide⟩ (by omega) hL hw
  obtain ⟨T1, hT⟩ : ∃ T1, s_X0_look (qk_du T2) (qk_dt T2) (qk_dg T2) (qk_dul T2) (qk_dtl T2) (qk_dgl T2) (qk_dll T2) (qk_dbu T2) (qk_dbg T2) (qk_yl T2) (qk_yp T2) (qk_ye T2) (qk_yo T2) (qk_yf T2) (qk_ys T2) (qk_yop T2) (qk_yel T2) (qk_yen T2) (qk_yst T2) (qk_xn T2) (qk_xl T2) (qk_xp T2) (qk_xo T2) 8 (n + 1) fk hs ha hb (qk_cr T2) (qk_cw T2) (qk_ch T2) (qk_cl T2) (qk_cd T2) (qk_cb T2) (qk_cn T2) = T1 := ⟨_, rfl⟩
  have hLk : qk_L 8 (n + 1) fk hs ha hb T1 := by
    rw [← hT]
    exact qk_look (Nat.le_refl _) (by omega) hF hl
  have hwh : ¬ s_X8_isWhole (qk_wwr T1) = 0 := by
    have e : qk_wwr T1 = -1 := (hLk.2.2.1.1 hw2).1
    rw [e]
    decide
  have c2 : ¬ s_X9_isOwned (qp_kd 8 fk p) = 0 := by
    rw [qp_own]
    exact ho
  have hX : x_X9_couldDrop 8 n fk fs fa fb (qk_du T2) (qk_dt T2) (qk_dg T2) (qk_dul T2) (qk_dtl T2) (qk_dgl T2) (qk_dll T2) (qk_dbu T2) (qk_dbg T2) (qk_yl T2) (qk_yp T2) (qk_ye T2) (qk_yo T2) (qk_yf T2) (qk_ys T2) (qk_yop T2) (qk_yel T2) (qk_yen T2) (qk_yst T2) (qk_xn T2) (qk_xl T2) (qk_xp T2) (qk_xo T2) fk2 fs2 fa2 fb2 (qk_cr T2) (qk_cw T2) (qk_ch T2) (qk_cl T2) (qk_cd T2) (qk_cb T2) (qk_cn T2) (nI L) (nI p) = 0 := by
    unfold x_X9_couldDrop
    rw [if_neg (by rw [qp_isEnd (by omega) (by omega), if_pos hL]; decide), if_neg (by rw [qp_kindAt (by omega) (by omega)]; exact c2)]
    split <;> rfl
  refine ly_one (pg_X9_couldDrop l G k q ((fk, fs, fa, fb, 8, n), T, Y, r, (fk2, fs2, fa2, fb2, pv2, pn2), T2, Y2) (nI L) (nI p) (by show n ≤ 32; omega) (Nat.le_refl _) hX (e_couldDrop (zb_cpy z1 y1) (zb_cpy z2 y2) (zb_cpy z3 y3) (zb_cpy z4 y4) hL hn (by omega) (Nat.le_refl _) c2 e1 hT hwh rfl rfl)) (lxF_one _) [_] (lxF_one _).symm ?_
  exact ⟨_, T1, hs, ha, hb, rfl, rfl, ⟨rfl, h2, h3, h4, ⟨z1, z2, z3, z4⟩, ⟨z1, fun j hj => (e3 j hj).1.trans (z2 j hj), fun j hj => (e3 j hj).2.1.trans (z3 j hj), fun j hj => (e3 j hj).2.2.trans (z4 j hj)⟩⟩, rfl, rfl, rfl, hLk, e2⟩
end
