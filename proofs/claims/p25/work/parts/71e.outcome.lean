/-! OUTCOMEWITH, by what the mill knows -/
theorem up_self {L : Nat} (f : Nat → Int32) : upd f L (f L) = f := by
  funext j
  by_cases z : j = L
  · rw [z, qb_us]
  · rw [qb_un z]
theorem lf_b0 {fk : Nat → Int32} {x a b b' : Int32} (e : x = 0) (h : qp_F 8 fk x a b) (hs : ¬ s_X9_isSmall b' = 0) : qp_F 8 fk x a b' := by
  subst e
  unfold qp_F s_X5_fits at h ⊢
  rw [if_pos rfl] at h ⊢
  obtain ⟨c1, h⟩ := qp_if0 h
  obtain ⟨c2, h⟩ := qp_if1 h
  rw [if_neg c1, if_pos c2, if_neg hs]
  decide
theorem lf_b6 {fk : Nat → Int32} {x a b b' : Int32} (e : x = 6) (h : qp_F 8 fk x a b) (hs : ¬ s_X9_isSmall b' = 0) : qp_F 8 fk x a b' := by
  subst e
  unfold qp_F s_X5_fits at h ⊢
  rw [if_neg (by decide), if_neg (by decide), if_neg (by decide), if_neg (by decide), if_neg (by decide), if_neg (by decide), if_pos rfl] at h ⊢
  obtain ⟨c1, h⟩ := qp_if0 h
  obtain ⟨c2, h⟩ := qp_if0 h
  obtain ⟨c3, h⟩ := qp_if0 h
  rw [if_neg c1, if_neg c2, if_neg c3, if_neg hs]
  decide
/-- another number in a line that makes or writes -/
theorem lg_numF {n L : Nat} {fk fs fa fb : Nat → Int32} {b : Int32} (hF : ∀ j, j < n → qp_F 8 fk (fs j) (fa j) (fb j)) (hL : L < n) (h6 : fs L = 0 ∨ fs L = 6) (hsm : ¬ s_X9_isSmall b = 0) : ∀ j, j < n → qp_F 8 fk (fs j) (fa j) ((upd fb L b) j) := by
  intro j hj
  by_cases z : j = L
  · subst z
    rw [qb_us]
    have no : ∀ x : Int32, fs j = x → ¬ x = 0 → ¬ x = 6 → qp_F 8 fk (fs j) (fa j) b := fun x e y0 y6 => by
      rw [e] at h6
      rcases h6 with z | z
      · exact absurd z y0
      · exact absurd z y6
    rcases qp_fit (hF j hj) with ⟨s, f⟩ | ⟨s, f⟩ | ⟨s, f⟩ | ⟨s, f⟩ | ⟨s, f⟩ | ⟨s, f⟩ | ⟨s, f⟩ | ⟨s, f⟩ | ⟨s, f⟩ | ⟨s, f⟩ | ⟨s, f⟩ | ⟨s, f⟩ | ⟨s, f⟩ | ⟨s, f⟩ | ⟨s, f⟩ | ⟨s, f⟩ | ⟨s, f⟩
    case inl => exact lf_b0 s (hF j hj) hsm
    case inr.inr.inr.inr.inr.inr.inl => exact lf_b6 s (hF j hj) hsm
    all_goals exact no _ s (by decide) (by decide)
  · rw [qb_un z]
    exact hF j hj
theorem lg_num {n L : Nat} {fk fs fa fb : Nat → Int32} {b : Int32} (hG : qz_G n fk fs fa fb) (hL : L < n) (h6 : fs L = 0 ∨ fs L = 6) (hsm : ¬ s_X9_isSmall b = 0) : qz_G n fk fs fa (upd fb L b) := by
  obtain ⟨g1, g2, g3, g4, g5, g6, g7, g8, g9⟩ := hG
  refine ⟨g1, g2, g3, lg_numF g4 hL h6 hsm, g5, g6, g7, fun j hj h4 => ?_, g9⟩
  by_cases z : j = L
  · rw [z] at h4
    rw [h4] at h6
    rcases h6 with z | z <;> exact absurd z (by decide)
  · rw [qb_un z]
    exact g8 j hj h4
section
variable {l : Launch} {G : sxG} {k : lxC} {q : Nat → Nat} {n : Nat} {fk fs fa fb : Nat → Int32} {M : mlS}
/-- a line's number is not looked at -/
theorem lg_numT {L : Nat} {b : Int32} {T T1 : qk_T} (hn : n ≤ 33) (hl : ql_n fs n ≤ 16) (hL : L < n) (h6 : fs L = 0 ∨ fs L = 6) (h : qk_L 8 n fk fs fa fb T) (h' : qk_L 8 n fk fs fa (upd fb L b) T1) (h0 : qk_fc T = 0) : qk_fc T1 = 0 := by
  rw [← (qm_same (Nat.le_refl _) hn hl h h' (fun j _ => ⟨rfl, rfl, ?_⟩)).2.1]
  · exact h0
  · by_cases z : j = L
    · rw [z]
      exact Or.inr h6
    · exact Or.inl (qb_un z).symm
set_option maxHeartbeats 4000000 in
set_option maxRecDepth 100000 in
theorem m_outcomeWith {L : Nat} {b : Int32} (hM : mlI 8 fk n fs fa fb M) (hP : lgP 8 fk n fs fa fb) (hK : qp_K 8 fk) (hL : L < n) (h6 : fs L = 0 ∨ fs L = 6) (hsm : ¬ s_X9_isSmall b = 0) (h0 : qk_fc M.2.1 = 0) : lyM l yX9_outcomeWith wdX9_outcomeWith 6 136 0 0 G k [mlW G q M] [.ref (q 0), .int (nI L), .int b] (fun B v => ∃ (M' : mlS) (T1 : qk_T) (Z : qr_Y), B = [mlW G q M'] ∧ v = some (.int (qr_yoco Z)) ∧ mlI 8 fk n fs fa fb M' ∧ M'.2.1 = M.2.1 ∧ M'.2.2.1 = M.2.2.1 ∧ M'.2.2.2.1 = M.2.2.2.1 ∧ qk_L 8 n fk fs fa (upd fb L b) T1 ∧ goQ n fk fs fa (upd fb L b) T1 Z) := by
  obtain ⟨P, T, Y, r, ⟨fk2, fs2, fa2, fb2, pv2, pn2⟩, T2, Y2⟩ := M
  obtain ⟨h1, h2, h3, h4, h5, h6⟩ := hM
  have h1 : P = (fk, fs, fa, fb, 8, n) := h1
  subst h1
  have hn := hP.2.1
  obtain ⟨z1, z2, z3, z4⟩ := h5
  obtain ⟨y1, y2, y3, y4⟩ := h6
  have h2 : qk_L 8 n fk fs fa fb T := h2
  have h0 : qk_fc T = 0 := h0
  have hF := lg_numF hP.2.2.1 hL h6 hsm
  have hl := hP.2.2.2
  have us := up_self (L := L) fs
  have ua := up_self (L := L) fa
  obtain ⟨T1, hT⟩ : ∃ T1, s_X0_look (qk_du T2) (qk_dt T2) (qk_dg T2) (qk_dul T2) (qk_dtl T2) (qk_dgl T2) (qk_dll T2) (qk_dbu T2) (qk_dbg T2) (qk_yl T2) (qk_yp T2) (qk_ye T2) (qk_yo T2) (qk_yf T2) (qk_ys T2) (qk_yop T2) (qk_yel T2) (qk_yen T2) (qk_yst T2) (qk_xn T2) (qk_xl T2) (qk_xp T2) (qk_xo T2) 8 n fk fs fa (upd fb L b) (qk_cr T2) (qk_cw T2) (qk_ch T2) (qk_cl T2) (qk_cd T2) (qk_cb T2) (qk_cn T2) = T1 := ⟨_, rfl⟩
  have hLk : qk_L 8 n fk fs fa (upd fb L b) T1 := by
    rw [← hT]
    exact qk_look (Nat.le_refl _) (by omega) hF hl
  have hX : x_X9_outcomeWith 8 n fk fs fa fb (qk_du T2) (qk_dt T2) (qk_dg T2) (qk_dul T2) (qk_dtl T2) (qk_dgl T2) (qk_dll T2) (qk_dbu T2) (qk_dbg T2) (qk_yl T2) (qk_yp T2) (qk_ye T2) (qk_yo T2) (qk_yf T2) (qk_ys T2) (qk_yop T2) (qk_yel T2) (qk_yen T2) (qk_yst T2) (qk_xn T2) (qk_xl T2) (qk_xp T2) (qk_xo T2) fk2 fs2 fa2 fb2 (qk_cr T2) (qk_cw T2) (qk_ch T2) (qk_cl T2) (qk_cd T2) (qk_cb T2) (qk_cn T2) (nI L) b = 0 := by
    have e2 : s_X5_sortAt n fs (nI L) = fs L := qp_sortAt hL (by omega)
    unfold x_X9_outcomeWith
    rcases h6 with h6 | h6
    · rw [if_pos (e2.trans h6), if_neg hsm]
      split <;> rfl
    · rw [if_neg (by rw [e2, h6]; decide), if_pos (e2.trans h6), if_neg hsm]
      split <;> rfl
  have h01 := lg_numT (show n ≤ 33 by omega) hl hL h6 h2 hLk h0
  obtain ⟨hw, hwr, hb⟩ := ml_good hLk h01
  obtain ⟨Z, hZ0, hY⟩ : ∃ Z : qr_Y, Z = s_X6_go (qr_yokd Y2) (qr_yoco Y2) (-1) (qk_yf T1) (qk_ys T1) (qk_yop T1) 8 n fk fs fa (upd fb L b) (qr_ybh Y2) (qr_ybv Y2) (qr_ybr Y2) (qr_ybo Y2) (qr_yvn Y2) (qr_yvc Y2) (qr_yvl Y2) (qr_yvh Y2) (qr_yzs Y2) (qr_yzn Y2) (qr_yzl Y2) ∧ s_X6_go (qr_yokd Y2) (qr_yoco Y2) (T1.2.2.2.2.2.2.2.2.2.2.2.2.2.2.2.2.2.2.2.2.2.1) (T1.2.2.2.2.2.2.2.2.2.2.2.2.2.2.1) (T1.2.2.2.2.2.2.2.2.2.2.2.2.2.2.2.1) (T1.2.2.2.2.2.2.2.2.2.2.2.2.2.2.2.2.1) 8 n fk fs fa (upd fb L b) (qr_ybh Y2) (qr_ybv Y2) (qr_ybr Y2) (qr_ybo Y2) (qr_yvn Y2) (qr_yvc Y2) (qr_yvl Y2) (qr_yvh Y2) (qr_yzs Y2) (qr_yzn Y2) (qr_yzl Y2) = Z := by
    refine ⟨_, rfl, ?_⟩
    show s_X6_go (qr_yokd Y2) (qr_yoco Y2) (qk_wwr T1) (qk_yf T1) (qk_ys T1) (qk_yop T1) 8 n fk fs fa (upd fb L b) (qr_ybh Y2) (qr_ybv Y2) (qr_ybr Y2) (qr_ybo Y2) (qr_yvn Y2) (qr_yvc Y2) (qr_yvl Y2) (qr_yvh Y2) (qr_yzs Y2) (qr_yzn Y2) (qr_yzl Y2) = _
    rw [hwr]
  have hb3 : ylk Z := by
    have hZ := qr_go (okd := qr_yokd Y2) (oco := qr_yoco Y2) (bh := qr_ybh Y2) (bv := qr_ybv Y2) (br := qr_ybr Y2) (bo := qr_ybo Y2) (vn := qr_yvn Y2) (vc := qr_yvc Y2) (vl := qr_yvl Y2) (vh := qr_yvh Y2) (zs := qr_yzs Y2) (zn := qr_yzn Y2) (zl := qr_yzl Y2) hK (Nat.le_refl _) (show n ≤ 33 by omega) hF hl hLk hw hb
    have ho : qr_yoct Z ≤ 2 := by
      rw [hZ0]
      exact qv_go_oct (show n ≤ 33 by omega)
    rw [← hZ0] at hZ
    obtain ⟨x1, x2, x3, x4, -, -, -, -, -, -, -, -, a1, a2, -⟩ := hZ
    exact ⟨ho, a1, a2⟩
  have e := e_outcomeWith (zb_cpy z1 y1) (zb_cpy z2 y2) (zb_cpy z3 y3) (zb_cpy z4 y4) hL hn h6 hsm (T1 := T1) (Y1 := Z) (okd_ := qr_yokd Y2) (oct_ := qr_yoct Y2) (hre_ := qr_yhre Y2) (oco_ := qr_yoco Y2) (stp_ := qr_ystp Y2) (bxm_ := qr_ybxm Y2) (bxd_ := qr_ybxd Y2) (pnl_ := qr_ypnl Y2) (iab_ := qr_yiab Y2) (nm_ := qr_ynm Y2) (ng_ := qr_yng Y2) (sc_ := qr_ysc Y2) (by rw [us, ua]; exact hT) (by rw [us, ua]; exact hY) (Eq.refl (nI L))
  refine ly_one (pg_X9_outcomeWith l G k q ((fk, fs, fa, fb, 8, n), T, Y, r, (fk2, fs2, fa2, fb2, pv2, pn2), T2, Y2) (nI L) b (by show n ≤ 33; omega) (Nat.le_refl _) h4.1 h4.2.1 h4.2.2 hX (e.1 (by rw [h01]; decide))) (lxF_one _) [_] (lxF_one _).symm ?_
  exact ⟨_, T1, Z, rfl, rfl, ⟨rfl, h2, h3, hb3, ⟨z1, z2, z3, z4⟩, ⟨z1, zb_upd z2 (by omega), zb_upd z3 (by omega), zb_upd z4 (by omega)⟩⟩, rfl, rfl, rfl, hLk, ⟨_, _, _, _, _, _, _, _, _, _, _, _, _, hZ0⟩⟩
end
