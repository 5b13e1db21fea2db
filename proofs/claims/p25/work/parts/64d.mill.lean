/-! what is asked of it -/
theorem qv_many (flg wwr : Int32) (lc fc pv pn : Nat) (cr cn : Nat → Int32) : s_X9_many flg wwr lc fc pv pn cr cn 2 = nI fc := by
  unfold s_X9_many
  rw [if_neg (by decide), if_pos (by decide), if_neg (by decide), if_neg (by decide), if_pos rfl]
section QO
variable (rns oco : Int32) (stp : Nat) (bxm bxd pnl sc : Int32) (nm : Nat) (ng : Int32)
theorem qo_0 : s_X9_ofRun rns oco stp bxm bxd pnl sc nm ng 0 = oco := by
  unfold s_X9_ofRun
  rw [if_neg (by decide), if_pos (by decide), if_pos rfl]
theorem qo_1 : s_X9_ofRun rns oco stp bxm bxd pnl sc nm ng 1 = nI stp := by
  unfold s_X9_ofRun
  rw [if_neg (by decide), if_pos (by decide), if_neg (by decide), if_pos rfl]
theorem qo_2 : s_X9_ofRun rns oco stp bxm bxd pnl sc nm ng 2 = sc := by
  unfold s_X9_ofRun
  rw [if_neg (by decide), if_pos (by decide), if_neg (by decide), if_neg (by decide), if_pos rfl]
theorem qo_3 : s_X9_ofRun rns oco stp bxm bxd pnl sc nm ng 3 = bxm := by
  unfold s_X9_ofRun
  rw [if_neg (by decide), if_pos (by decide), if_neg (by decide), if_neg (by decide), if_neg (by decide), if_pos rfl]
theorem qo_4 : s_X9_ofRun rns oco stp bxm bxd pnl sc nm ng 4 = nI nm := by
  unfold s_X9_ofRun
  rw [if_neg (by decide), if_pos (by decide), if_neg (by decide), if_neg (by decide), if_neg (by decide), if_neg (by decide), if_pos rfl]
theorem qo_5 : s_X9_ofRun rns oco stp bxm bxd pnl sc nm ng 5 = bxd := by
  unfold s_X9_ofRun
  rw [if_neg (by decide), if_pos (by decide), if_neg (by decide), if_neg (by decide), if_neg (by decide), if_neg (by decide), if_neg (by decide), if_pos rfl]
theorem qo_6 : s_X9_ofRun rns oco stp bxm bxd pnl sc nm ng 6 = ng := by
  unfold s_X9_ofRun
  rw [if_neg (by decide), if_pos (by decide), if_neg (by decide), if_neg (by decide), if_neg (by decide), if_neg (by decide), if_neg (by decide), if_neg (by decide), if_pos rfl]
theorem qo_7 : s_X9_ofRun rns oco stp bxm bxd pnl sc nm ng 7 = bxm + nI nm - bxd - ng := by
  unfold s_X9_ofRun
  rw [if_neg (by decide), if_pos (by decide), if_neg (by decide), if_neg (by decide), if_neg (by decide), if_neg (by decide), if_neg (by decide), if_neg (by decide), if_neg (by decide), if_pos rfl]
  rfl
theorem qo_8 (h : ¬ rns = 0) : s_X9_ofRun rns oco stp bxm bxd pnl sc nm ng 8 = pnl := by
  unfold s_X9_ofRun
  rw [if_neg (by decide), if_pos (by decide), if_neg (by decide), if_neg (by decide), if_neg (by decide), if_neg (by decide), if_neg (by decide), if_neg (by decide), if_neg (by decide), if_neg (by decide), if_pos rfl, if_neg h]
end QO
theorem qv_isFault {fc : Nat} (h : 0 < fc) (hf : fc ≤ 34) : ¬ s_X2_isFault fc 0 = 0 := sx_isFault1 (n := fc) (i := 0) h (by omega)
section MR
variable {l : Launch} {G : sxG} {k : lxC} {q : Nat → Nat} {pv n : Nat} {fk fs fa fb : Nat → Int32} {M : mlS}
theorem m_many2 (hM : mlI pv fk n fs fa fb M) (hP : lgP pv fk n fs fa fb) : lyM l yX9_many wdX9_many 3 64 0 0 G k [mlW G q M] [.ref (q 0), .int 2] (fun B v => B = [mlW G q M] ∧ v = some (.int (nI (qk_fc M.2.1)))) := by
  have h1 := hM.1
  have hn := hP.2.1
  refine ly_one (p_X9_many l G k q M 2 (by rw [h1]; show n ≤ 33; omega) (sx_x_many (w := 2) (by omega))) (lxF_one _) [_] (lxF_one _).symm ⟨rfl, ?_⟩
  rw [qv_many]
theorem m_fault1 (hM : mlI pv fk n fs fa fb M) (hP : lgP pv fk n fs fa fb) (h0 : 0 < qk_fc M.2.1) : lyM l yX9_fault wdX9_fault 3 70 0 0 G k [mlW G q M] [.ref (q 0), .int 0, .int 1] (fun B v => B = [mlW G q M] ∧ v = some (.int (qk_xl M.2.1 0))) := by
  have h1 := hM.1
  have hn := hP.2.1
  have hf := qv_fc hM.2.1 (show n ≤ 33 by omega)
  refine ly_one (p_X9_fault l G k q M 0 1 (by rw [h1]; show n ≤ 33; omega) (by rw [h1]; exact hP.1) (qv_lc hM.2.1 hP.2.2.2) hf (sx_x_fault (qk_fc M.2.1) (i := 0) (w := 1) h0 hf (by omega))) (lxF_one _) [_] (lxF_one _).symm ⟨rfl, ?_⟩
  unfold s_X9_fault s_X2_fact
  rw [if_neg (qv_isFault h0 hf), if_neg (by decide), if_pos (by decide), if_neg (by decide), if_neg (qv_isFault h0 hf), if_neg (by decide), if_pos rfl]
  rfl
theorem m_fault0 (hM : mlI pv fk n fs fa fb M) (hP : lgP pv fk n fs fa fb) (h0 : 0 < qk_fc M.2.1) : lyM l yX9_fault wdX9_fault 3 70 0 0 G k [mlW G q M] [.ref (q 0), .int 0, .int 0] (fun B v => B = [mlW G q M] ∧ v = some (.int (qk_xn M.2.1 0))) := by
  have h1 := hM.1
  have hn := hP.2.1
  have hf := qv_fc hM.2.1 (show n ≤ 33 by omega)
  refine ly_one (p_X9_fault l G k q M 0 0 (by rw [h1]; show n ≤ 33; omega) (by rw [h1]; exact hP.1) (qv_lc hM.2.1 hP.2.2.2) hf (sx_x_fault (qk_fc M.2.1) (i := 0) (w := 0) h0 hf (by omega))) (lxF_one _) [_] (lxF_one _).symm ⟨rfl, ?_⟩
  unfold s_X9_fault s_X2_fact
  rw [if_neg (qv_isFault h0 hf), if_neg (by decide), if_pos (by decide), if_neg (by decide), if_neg (qv_isFault h0 hf), if_pos rfl]
  rfl
theorem m_ofRun {p1 v1 : Int32} (hX : x_X9_ofRun M.2.2.2.1 p1 = 0) (e : s_X9_ofRun M.2.2.2.1 (qr_yoco M.2.2.1) (qr_ystp M.2.2.1) (qr_ybxm M.2.2.1) (qr_ybxd M.2.2.1) (qr_ypnl M.2.2.1) (qr_ysc M.2.2.1) (qr_ynm M.2.2.1) (qr_yng M.2.2.1) p1 = v1) : lyM l yX9_ofRun wdX9_ofRun 1 20 0 0 G k [mlW G q M] [.ref (q 0), .int p1] (fun B v => B = [mlW G q M] ∧ v = some (.int v1)) := by
  refine ly_one (p_X9_ofRun l G k q M p1 hX) (lxF_one _) [_] (lxF_one _).symm ⟨rfl, ?_⟩
  rw [e]
theorem m_told0 {j s : Nat} (hs : qr_ysc M.2.2.1 = nI s) (hs2 : s < 2 ^ 31) (hj : j < s) (hj2 : j < 60) : lyM l yX9_told wdX9_told 4 84 0 0 G k [mlW G q M] [.ref (q 0), .int (nI j), .int 0] (fun B v => B = [mlW G q M] ∧ v = some (.int (qr_yzs M.2.2.1 j))) := by
  have hk : ¬ s_X7_countKept (qr_ysc M.2.2.1) ≤ nI j := by
    rw [hs]
    unfold s_X7_countKept s_mmin
    split
    · exact fun z => absurd ((nI_leI (a := 60) (b := j) (by omega) (by omega)).mp z) (by omega)
    · exact fun z => absurd ((nI_leI (a := s) (b := j) (by omega) (by omega)).mp z) (by omega)
  have hk2 : ¬ s_X7_isKept (qr_ysc M.2.2.1) (nI j) = 0 := by
    unfold s_X7_isKept
    rw [if_neg (nI_pos (by omega)), if_neg hk]
    decide
  refine ly_one (p_X9_told l G k q M (nI j) 0 (sx_x_told _ (i := j) (w := 0) (by omega) hk (by omega))) (lxF_one _) [_] (lxF_one _).symm ⟨rfl, ?_⟩
  unfold s_X9_told s_X7_fact
  rw [if_neg hk2, if_neg (by decide), if_pos (by decide), if_neg hk2, if_pos rfl, nI_clamp (by omega)]
theorem m_state {L p : Nat} (hM : mlI pv fk n fs fa fb M) (hP : lgP pv fk n fs fa fb) (hL : L ≤ n) (hp : p < 24) (hk : ¬ qp_kd pv fk p = -1) : lyM l yX9_state wdX9_state 3 67 0 0 G k [mlW G q M] [.ref (q 0), .int (nI L), .int (nI p)] (fun B v => B = [mlW G q M] ∧ v = some (.int (s_X0_stateAt pv n fk (qk_cr M.2.1) (qk_ch M.2.1) (qk_cl M.2.1) (nI L) (nI p)))) := by
  obtain ⟨P, T, Y, r, P2, T2, Y2⟩ := M
  obtain ⟨h1, h2⟩ := hM
  have h1 : P = (fk, fs, fa, fb, pv, n) := h1
  subst h1
  have hn := hP.2.1
  have c1 : ¬ s_X5_isLineOrEnd n (nI L) = 0 := by
    rw [qp_isEnd (by omega) (by omega), if_pos hL]
    decide
  have c2 : ¬ s_X5_kindAt pv fk (nI p) = -1 := by
    rw [qp_kindAt (by omega) (by have := hP.1; omega)]
    exact hk
  refine ly_one (p_X9_state l G k q ((fk, fs, fa, fb, pv, n), T, Y, r, P2, T2, Y2) (nI L) (nI p) (by show n ≤ 33; omega) hP.1 (by show x_X9_state pv n fk (nI L) (nI p) = 0; unfold x_X9_state; rw [if_neg c1, if_neg c2])) (lxF_one _) [_] (lxF_one _).symm ⟨rfl, ?_⟩
  show some (Value.int (s_X9_state pv n fk (qk_cr T) (qk_ch T) (qk_cl T) (nI L) (nI p))) = _
  unfold s_X9_state
  rw [if_neg c1, if_neg c2]
theorem m_inTheWay {L p : Nat} (hM : mlI pv fk n fs fa fb M) (hP : lgP pv fk n fs fa fb) (hL : L ≤ n) (hp : p < 24) (hk : ¬ qp_kd pv fk p = -1) : lyM l yX9_inTheWay wdX9_inTheWay 3 74 0 0 G k [mlW G q M] [.ref (q 0), .int (nI L), .int (nI p)] (fun B v => B = [mlW G q M] ∧ v = some (.int (s_X0_smallestLoan (qk_lc M.2.1) (qk_yp M.2.1) (qk_ye M.2.1) pv (qk_cd M.2.1) (nI L) (nI p) (s_X0_wantedAt n (qk_cn M.2.1) (nI L)) 0))) := by
  obtain ⟨P, T, Y, r, P2, T2, Y2⟩ := M
  obtain ⟨h1, h2⟩ := hM
  have h1 : P = (fk, fs, fa, fb, pv, n) := h1
  subst h1
  have hn := hP.2.1
  have c1 : ¬ s_X5_isLineOrEnd n (nI L) = 0 := by
    rw [qp_isEnd (by omega) (by omega), if_pos hL]
    decide
  have c2 : ¬ s_X5_kindAt pv fk (nI p) = -1 := by
    rw [qp_kindAt (by omega) (by have := hP.1; omega)]
    exact hk
  refine ly_one (p_X9_inTheWay l G k q ((fk, fs, fa, fb, pv, n), T, Y, r, P2, T2, Y2) (nI L) (nI p) (by show n ≤ 33; omega) hP.1 (qv_lc h2.1 hP.2.2.2) (by show x_X9_inTheWay pv n fk (nI L) (nI p) = 0; unfold x_X9_inTheWay; rw [if_neg c1, if_neg c2])) (lxF_one _) [_] (lxF_one _).symm ⟨rfl, ?_⟩
  show some (Value.int (s_X9_inTheWay (qk_lc T) (qk_yp T) (qk_ye T) pv n fk (qk_cd T) (qk_cn T) (nI L) (nI p))) = _
  unfold s_X9_inTheWay
  rw [if_neg c1, if_neg c2]
theorem m_dead {L : Nat} (hM : mlI pv fk n fs fa fb M) (hP : lgP pv fk n fs fa fb) (hL : L < n) (hw : qk_wwr M.2.1 = -1) : lyM l yX9_ofLine wdX9_ofLine 2 42 0 0 G k [mlW G q M] [.ref (q 0), .int (nI L), .int 5] (fun B v => B = [mlW G q M] ∧ v = some (.int (if qk_cr M.2.1 L = 0 then 1 else 0))) := by
  obtain ⟨P, T, Y, r, P2, T2, Y2⟩ := M
  obtain ⟨h1, h2⟩ := hM
  have h1 : P = (fk, fs, fa, fb, pv, n) := h1
  subst h1
  have hn := hP.2.1
  have hw : qk_wwr T = -1 := hw
  have c1 : ¬ s_X5_isLine n (nI L) = 0 := qp_isLine1 hL (by omega)
  have cw : ¬ s_X8_isWhole (-1) = 0 := by decide
  refine ly_one (p_X9_ofLine l G k q ((fk, fs, fa, fb, pv, n), T, Y, r, P2, T2, Y2) (nI L) 5 (by show n ≤ 33; omega) (by
    show x_X9_ofLine (qk_wwr T) n (qk_cr T) (nI L) 5 = 0
    unfold x_X9_ofLine
    rw [if_neg c1, if_neg (by decide), if_pos (by decide), if_neg (by decide), if_neg (by decide), if_neg (by decide), if_neg (by decide), if_neg (by decide)]
    split <;> rfl)) (lxF_one _) [_] (lxF_one _).symm ⟨rfl, ?_⟩
  show some (Value.int (s_X9_ofLine (qk_wwr T) (qk_yf T) (qk_ys T) n fs fa fb (qk_cr T) (nI L) 5)) = some (Value.int (if qk_cr T L = 0 then 1 else 0))
  unfold s_X9_ofLine s_X0_isDead
  rw [hw, if_neg c1, if_neg (by decide), if_pos (by decide), if_neg (by decide), if_neg (by decide), if_neg (by decide), if_neg (by decide), if_neg (by decide), if_neg cw, if_neg c1, nI_clamp (by omega)]
  by_cases d : qk_cr T L = 0
  · rw [if_pos d, if_neg (by decide)]
  · rw [if_neg d, if_pos rfl]
end MR
