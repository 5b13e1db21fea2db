section MM
variable {l : Launch} {G : sxG} {k : lxC} {q : Nat → Nat} {pv n : Nat} {fk fs fa fb : Nat → Int32} {M : mlS}
/-- without faults it is whole, and no line is bad -/
theorem ml_good {T : qk_T} (hL : qk_L pv n fk fs fa fb T) (h0 : qk_fc T = 0) : qw_stk fs n = some [] ∧ qk_wwr T = -1 ∧ ∀ j, j < n → ¬ qk_bad pv n fk fs fa fb T j := by
  have hw : qw_stk fs n = some [] := Classical.byContradiction fun z => by
    have := hL.2.2.2.1 z
    omega
  refine ⟨hw, (hL.2.2.1.1 hw).1, fun j hj hb => ?_⟩
  have e := (hL.2.2.2.2 hw).2.2.2.2.1
  have := qx_n_lt hj hb
  omega
theorem m_run (hM : mlI pv fk n fs fa fb M) (hP : lgP pv fk n fs fa fb) (hK : qp_K pv fk) (h0 : qk_fc M.2.1 = 0) : lyM l yX9_run wdX9_run 6 136 0 0 G k [mlW G q M] [.ref (q 0)] (fun B v => ∃ M' : mlS, B = [mlW G q M'] ∧ v = some (.int (qr_yoco M'.2.2.1)) ∧ mlI pv fk n fs fa fb M' ∧ M'.2.1 = M.2.1 ∧ qr_Z n M'.2.2.1 ∧ M'.2.2.2.1 = M.2.2.2.1 + 1 ∧
    ∃ (okd oco : Int32) (bh bv br bo vn vc vl vh zs zn zl : Nat → Int32), M'.2.2.1 = s_X6_go okd oco (-1) (qk_yf M.2.1) (qk_ys M.2.1) (qk_yop M.2.1) pv n fk fs fa fb bh bv br bo vn vc vl vh zs zn zl) := by
  obtain ⟨P, T, Y, r, P2, T2, Y2⟩ := M
  obtain ⟨h1, h2, h3, h4, h5, h6⟩ := hM
  have h1 : P = (fk, fs, fa, fb, pv, n) := h1
  subst h1
  have h0 : qk_fc T = 0 := h0
  have h2 : qk_L pv n fk fs fa fb T := h2
  have hn := hP.2.1
  obtain ⟨hw, hwr, hb⟩ := ml_good h2 h0
  have hX : x_X9_run (qk_fc T) = 0 := by
    unfold x_X9_run
    rw [h0]
    rfl
  have hZ := qr_go (okd := qr_yokd Y) (oco := qr_yoco Y) (bh := qr_ybh Y) (bv := qr_ybv Y) (br := qr_ybr Y) (bo := qr_ybo Y) (vn := qr_yvn Y) (vc := qr_yvc Y) (vl := qr_yvl Y) (vh := qr_yvh Y) (zs := qr_yzs Y) (zn := qr_yzn Y) (zl := qr_yzl Y) hK hP.1 (by omega) hP.2.2.1 hP.2.2.2 h2 hw hb
  obtain ⟨Z, hZ0, e⟩ : ∃ Z : qr_Y, Z = s_X6_go (qr_yokd Y) (qr_yoco Y) (-1) (qk_yf T) (qk_ys T) (qk_yop T) pv n fk fs fa fb (qr_ybh Y) (qr_ybv Y) (qr_ybr Y) (qr_ybo Y) (qr_yvn Y) (qr_yvc Y) (qr_yvl Y) (qr_yvh Y) (qr_yzs Y) (qr_yzn Y) (qr_yzl Y) ∧ ms_X9_run ((fk, fs, fa, fb, pv, n), T, Y, r, P2, T2, Y2) = ((r + 1, Z), qr_yoco Z) := by
    refine ⟨_, rfl, ?_⟩
    rw [← hwr]
    exact e_run h0
  have ho : qr_yoct Z ≤ 2 := by
    rw [hZ0]
    exact qv_go_oct (show n ≤ 33 by omega)
  rw [← hZ0] at hZ
  have hb3 : ylk Z := by
    obtain ⟨s, m, d, g, -, -, -, -, -, -, -, -, a1, a2, -⟩ := hZ
    exact ⟨ho, a1, a2⟩
  refine ly_one (pg_X9_run l G k q ((fk, fs, fa, fb, pv, n), T, Y, r, P2, T2, Y2) (by show n ≤ 33; omega) hP.1 h3.1 h3.2.1 (qv_fc h2 (by omega)) h3.2.2 hX e) (lxF_one _) [_] (lxF_one _).symm ?_
  exact ⟨_, rfl, rfl, ⟨rfl, h2, hb3, h4, h5, h6⟩, rfl, hZ, rfl, _, _, _, _, _, _, _, _, _, _, _, _, _, hZ0⟩
end MM
