/-! LEAKEDBY, by what the mill knows -/
section
variable {l : Launch} {G : sxG} {k : lxC} {q : Nat → Nat} {n : Nat} {fk fs fa fb : Nat → Int32} {M : mlS}
set_option maxHeartbeats 4000000 in
set_option maxRecDepth 100000 in
theorem m_leakedBy {L : Nat} (hM : mlI 8 fk n fs fa fb M) (hP : lgP 8 fk n fs fa fb) (hK : qp_K 8 fk) (hL : L < n) : lyM l yX9_leakedBy wdX9_leakedBy 6 136 0 0 G k [mlW G q M] [.ref (q 0), .int (nI L)] (fun B v => ∃ M' : mlS, B = [mlW G q M'] ∧ v = some (.int (lkN n fk fs fa fb L)) ∧ lkQ n fk fs fa fb L (lkN n fk fs fa fb L) ∧ M'.1 = M.1 ∧ mlI 8 fk n fs fa fb M' ∧ M'.2.1 = M.2.1 ∧ M'.2.2.1 = M.2.2.1 ∧ M'.2.2.2.1 = M.2.2.2.1) := by
  obtain ⟨P, T, Y, r, ⟨fk2, fs2, fa2, fb2, pv2, pn2⟩, T2, Y2⟩ := M
  obtain ⟨h1, h2, h3, h4, h5, h6⟩ := hM
  have h1 : P = (fk, fs, fa, fb, 8, n) := h1
  subst h1
  have hn := hP.2.1
  obtain ⟨z1, z2, z3, z4⟩ := h5
  obtain ⟨y1, y2, y3, y4⟩ := h6
  have hF : ∀ j, j < n → qp_F 8 fk ((upd fs L 15) j) ((upd fa L 0) j) ((upd fb L 0) j) := by
    intro j hj
    by_cases z : j = L
    · rw [z, qb_us, qb_us, qb_us]
      exact lf15
    · rw [qb_un z, qb_un z, qb_un z]
      exact hP.2.2.1 j hj
  have hl := lm_ql (s := 15) hP.2.2.2 hL (by decide)
  obtain ⟨T1, hT⟩ : ∃ T1, s_X0_look (qk_du T2) (qk_dt T2) (qk_dg T2) (qk_dul T2) (qk_dtl T2) (qk_dgl T2) (qk_dll T2) (qk_dbu T2) (qk_dbg T2) (qk_yl T2) (qk_yp T2) (qk_ye T2) (qk_yo T2) (qk_yf T2) (qk_ys T2) (qk_yop T2) (qk_yel T2) (qk_yen T2) (qk_yst T2) (qk_xn T2) (qk_xl T2) (qk_xp T2) (qk_xo T2) 8 n fk (upd fs L 15) (upd fa L 0) (upd fb L 0) (qk_cr T2) (qk_cw T2) (qk_ch T2) (qk_cl T2) (qk_cd T2) (qk_cb T2) (qk_cn T2) = T1 := ⟨_, rfl⟩
  have hLk : qk_L 8 n fk (upd fs L 15) (upd fa L 0) (upd fb L 0) T1 := by
    rw [← hT]
    exact qk_look (Nat.le_refl _) (by omega) hF hl
  have hX : x_X9_leakedBy 8 n fk fs fa fb (qk_du T2) (qk_dt T2) (qk_dg T2) (qk_dul T2) (qk_dtl T2) (qk_dgl T2) (qk_dll T2) (qk_dbu T2) (qk_dbg T2) (qk_yl T2) (qk_yp T2) (qk_ye T2) (qk_yo T2) (qk_yf T2) (qk_ys T2) (qk_yop T2) (qk_yel T2) (qk_yen T2) (qk_yst T2) (qk_xn T2) (qk_xl T2) (qk_xp T2) (qk_xo T2) fk2 fs2 fa2 fb2 (qk_cr T2) (qk_cw T2) (qk_ch T2) (qk_cl T2) (qk_cd T2) (qk_cb T2) (qk_cn T2) (nI L) = 0 := by
    unfold x_X9_leakedBy
    rw [if_neg (qp_isLine1 hL (by omega))]
    split <;> rfl
  by_cases h0 : qk_fc T1 = 0
  · obtain ⟨hw, hwr, hb⟩ := ml_good hLk h0
    obtain ⟨Z, hZ0, hY⟩ : ∃ Z : qr_Y, Z = s_X6_go (qr_yokd Y2) (qr_yoco Y2) (-1) (qk_yf T1) (qk_ys T1) (qk_yop T1) 8 n fk (upd fs L 15) (upd fa L 0) (upd fb L 0) (qr_ybh Y2) (qr_ybv Y2) (qr_ybr Y2) (qr_ybo Y2) (qr_yvn Y2) (qr_yvc Y2) (qr_yvl Y2) (qr_yvh Y2) (qr_yzs Y2) (qr_yzn Y2) (qr_yzl Y2) ∧ s_X6_go (qr_yokd Y2) (qr_yoco Y2) (T1.2.2.2.2.2.2.2.2.2.2.2.2.2.2.2.2.2.2.2.2.2.1) (T1.2.2.2.2.2.2.2.2.2.2.2.2.2.2.1) (T1.2.2.2.2.2.2.2.2.2.2.2.2.2.2.2.1) (T1.2.2.2.2.2.2.2.2.2.2.2.2.2.2.2.2.1) 8 n fk (upd fs L 15) (upd fa L 0) (upd fb L 0) (qr_ybh Y2) (qr_ybv Y2) (qr_ybr Y2) (qr_ybo Y2) (qr_yvn Y2) (qr_yvc Y2) (qr_yvl Y2) (qr_yvh Y2) (qr_yzs Y2) (qr_yzn Y2) (qr_yzl Y2) = Z := by
      refine ⟨_, rfl, ?_⟩
      show s_X6_go (qr_yokd Y2) (qr_yoco Y2) (qk_wwr T1) (qk_yf T1) (qk_ys T1) (qk_yop T1) 8 n fk (upd fs L 15) (upd fa L 0) (upd fb L 0) (qr_ybh Y2) (qr_ybv Y2) (qr_ybr Y2) (qr_ybo Y2) (qr_yvn Y2) (qr_yvc Y2) (qr_yvl Y2) (qr_yvh Y2) (qr_yzs Y2) (qr_yzn Y2) (qr_yzl Y2) = _
      rw [hwr]
    have hb3 : ylk Z := by
      have hZ := qr_go (okd := qr_yokd Y2) (oco := qr_yoco Y2) (bh := qr_ybh Y2) (bv := qr_ybv Y2) (br := qr_ybr Y2) (bo := qr_ybo Y2) (vn := qr_yvn Y2) (vc := qr_yvc Y2) (vl := qr_yvl Y2) (vh := qr_yvh Y2) (zs := qr_yzs Y2) (zn := qr_yzn Y2) (zl := qr_yzl Y2) hK (Nat.le_refl _) (show n ≤ 33 by omega) hF hl hLk hw hb
      have ho : qr_yoct Z ≤ 2 := by
        rw [hZ0]
        exact qv_go_oct (show n ≤ 33 by omega)
      rw [← hZ0] at hZ
      obtain ⟨x1, x2, x3, x4, -, -, -, -, -, -, -, -, a1, a2, -⟩ := hZ
      exact ⟨ho, a1, a2⟩
    have hq : qr_ybxm Z + nI (qr_ynm Z) - qr_ybxd Z - qr_yng Z = lkN n fk fs fa fb L := lk_is hn hP.2.2.2 hL ⟨T1, hLk, Or.inl ⟨h0, Z, ⟨_, _, _, _, _, _, _, _, _, _, _, _, _, hZ0⟩, rfl⟩⟩
    refine ly_one (pg_X9_leakedBy l G k q ((fk, fs, fa, fb, 8, n), T, Y, r, (fk2, fs2, fa2, fb2, pv2, pn2), T2, Y2) (nI L) (by show n ≤ 33; omega) (Nat.le_refl _) h4.1 h4.2.1 h4.2.2 hX ((e_leakedBy (zb_cpy z1 y1) (zb_cpy z2 y2) (zb_cpy z3 y3) (zb_cpy z4 y4) hL hn hT hY rfl).1 (by rw [h0]; decide))) (lxF_one _) [_] (lxF_one _).symm ?_
    exact ⟨_, rfl, by rw [hq], by rw [← hq]; exact ⟨T1, hLk, Or.inl ⟨h0, Z, ⟨_, _, _, _, _, _, _, _, _, _, _, _, _, hZ0⟩, rfl⟩⟩, rfl, ⟨rfl, h2, h3, hb3, ⟨z1, z2, z3, z4⟩, ⟨z1, zb_upd z2 (by omega), zb_upd z3 (by omega), zb_upd z4 (by omega)⟩⟩, rfl, rfl, rfl⟩
  · have hq : (-1 : Int32) = lkN n fk fs fa fb L := lk_is hn hP.2.2.2 hL ⟨T1, hLk, Or.inr ⟨h0, rfl⟩⟩
    have hfc := qv_fc hLk (show n ≤ 33 by omega)
    refine ly_one (pg_X9_leakedBy l G k q ((fk, fs, fa, fb, 8, n), T, Y, r, (fk2, fs2, fa2, fb2, pv2, pn2), T2, Y2) (nI L) (by show n ≤ 33; omega) (Nat.le_refl _) h4.1 h4.2.1 h4.2.2 hX ((e_leakedBy (zb_cpy z1 y1) (zb_cpy z2 y2) (zb_cpy z3 y3) (zb_cpy z4 y4) hL hn hT rfl rfl).2 (by rw [show (0 : Int32) = nI 0 from rfl, qb_le (by omega) (by omega)]; omega))) (lxF_one _) [_] (lxF_one _).symm ?_
    exact ⟨_, rfl, by rw [hq], by rw [← hq]; exact ⟨T1, hLk, Or.inr ⟨h0, rfl⟩⟩, rfl, ⟨rfl, h2, h3, h4, ⟨z1, z2, z3, z4⟩, ⟨z1, zb_upd z2 (by omega), zb_upd z3 (by omega), zb_upd z4 (by omega)⟩⟩, rfl, rfl, rfl⟩
end
