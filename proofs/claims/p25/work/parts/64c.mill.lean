/-! THE MILL'S METHODS by what it knows -/
theorem qv_o1 {n : Nat} {U : qr_V} {vn vl vh bv br : Nat → Int32} {nm stp : Nat} {bxm : Int32} (h : U.2.2.2.1 ≤ 2) : qr_yoct (qr_fin n U vn vl vh bv br nm stp bxm) ≤ 2 := by
  unfold qr_fin
  split
  · split
    · exact h
    · exact h
  · exact h
theorem qv_o2 {pv n : Nat} {fk fs fa fb yf ys yop : Nat → Int32} {zs zn zl : Nat → Int32} {sc : Int32} {vn vc vl vh : Nat → Int32} {nm : Nat} {ng : Int32} {bh bv br bo : Nat → Int32} {okd : Int32} {oct : Nat} {hre oco : Int32} {stp : Nat} {bxm bxd pnl iab : Int32} : qr_yoct (sl_X6_go_L4 (-1) yf ys yop pv n fk fs fa fb 0 zs zn zl sc vn vc vl vh nm ng bh bv br bo okd oct hre oco stp bxm bxd pnl iab) ≤ 2 := by
  rw [sl_X6_go_L4]
  exact Nat.zero_le 2
def qv_OC (pv n : Nat) (fk fs fa fb yf ys yop : Nat → Int32) (k : Nat) : Prop := ∀ (zs zn zl : Nat → Int32) (sc : Int32) (vn vc vl vh : Nat → Int32) (nm : Nat) (ng : Int32) (bh bv br bo : Nat → Int32) (okd : Int32) (oct : Nat) (hre oco : Int32) (stp : Nat) (bxm bxd pnl iab : Int32), oct ≤ 2 → nm ≤ 500 → stp ≤ 500 → qr_yoct (sl_X6_go_L4 (-1) yf ys yop pv n fk fs fa fb k zs zn zl sc vn vc vl vh nm ng bh bv br bo okd oct hre oco stp bxm bxd pnl iab) ≤ 2
theorem qv_o3 {pv n : Nat} {fk fs fa fb yf ys yop : Nat → Int32} (hn : n ≤ 33) {k : Nat} (ih : qv_OC pv n fk fs fa fb yf ys yop k) : qv_OC pv n fk fs fa fb yf ys yop (k + 1) := by
  intro zs zn zl sc vn vc vl vh nm ng bh bv br bo okd oct hre oco stp bxm bxd pnl iab ho hm hs
  by_cases c : s_X5_isLine n hre = 0 ∨ ¬ pnl = -1
  · rw [qr_go2 hs c]
    exact qv_o1 (b_X6_unwind_3 okd oct (nI n) bxd pnl iab pv fk bh bv bo nm ng vn vc vl sc zs zn zl ho hm)
  · have c1 : ¬ s_X5_isLine n hre = 0 := fun z => c (Or.inl z)
    have c2 : pnl = -1 := Classical.byContradiction fun z => c (Or.inr z)
    subst c2
    obtain ⟨t, ht, rfl⟩ := qp_isLine_of (by omega) c1
    by_cases d : stp < 500
    · have h4 := b_X6_doLine_4 okd oct (nI t) bxm (-1) iab pv fk bh bv bo nm vn vc vl vh sc zs zn zl (fs t) (fa t) (fb t) ho hm
      have h9 := b_X6_doLine_9 okd oct (nI t) bxm (-1) iab pv fk bh bv bo nm vn vc vl vh sc zs zn zl (fs t) (fa t) (fb t) ho hm
      obtain ⟨D, hD⟩ : ∃ D, s_X6_doLine okd oct (nI t) bxm (-1) iab pv fk bh bv bo nm vn vc vl vh sc zs zn zl (fs t) (fa t) (fb t) = D := ⟨_, rfl⟩
      rw [hD] at h4 h9
      obtain ⟨bh', bv', bo', okd', oct', vn', vc', vl', vh', nm', bxm', zs', zn', zl', sc', pnl', iab'⟩ := D
      have h4 : oct' ≤ 2 := h4
      have h9 : nm' ≤ 500 := h9
      have h5 := b_X6_dropOlds_9 okd' oct' (nI t) bxd pnl' iab' bo' nm' ng vn' vc' vl' sc' zs' zn' zl' h4 h9
      obtain ⟨E, hO⟩ : ∃ E, s_X6_dropOlds okd' oct' (nI t) bxd pnl' iab' bo' nm' ng vn' vc' vl' sc' zs' zn' zl' = E := ⟨_, rfl⟩
      rw [hO] at h5
      obtain ⟨vc2, ng2, zs2, zn2, zl2, sc2, bxd2, pnl2, iab2, oct2⟩ := E
      have h5 : oct2 ≤ 2 := h5
      rw [qr_go1 d ht (by omega) hD hO]
      by_cases x : pnl2 = -1
      · rw [if_pos x]
        exact ih _ _ _ _ _ _ _ _ _ _ _ _ _ _ _ _ _ _ _ _ _ _ _ h5 h9 (by omega)
      · rw [if_neg x]
        exact ih _ _ _ _ _ _ _ _ _ _ _ _ _ _ _ _ _ _ _ _ _ _ _ h5 h9 (by omega)
    · rw [qr_go3 (by omega) c1]
      exact ho
theorem qv_oct {pv n : Nat} {fk fs fa fb yf ys yop : Nat → Int32} (hn : n ≤ 33) (k : Nat) : qv_OC pv n fk fs fa fb yf ys yop k := by
  induction k with
  | zero =>
    intro zs zn zl sc vn vc vl vh nm ng bh bv br bo okd oct hre oco stp bxm bxd pnl iab ho hm hs
    exact qv_o2
  | succ k ih => exact qv_o3 hn ih
theorem qv_go_oct {pv n : Nat} {fk fs fa fb yf ys yop bh bv br bo vn vc vl vh zs zn zl : Nat → Int32} {okd oco : Int32} (hn : n ≤ 33) : qr_yoct (s_X6_go okd oco (-1) yf ys yop pv n fk fs fa fb bh bv br bo vn vc vl vh zs zn zl) ≤ 2 := by
  obtain ⟨bh0, bv0, br0, e, -, -⟩ := qt_clear bh bv br
  unfold s_X6_go
  rw [e]
  exact qv_oct hn 501 _ _ _ _ _ _ _ _ _ _ _ _ _ _ _ _ _ _ _ _ _ _ _ (Nat.zero_le _) (Nat.zero_le _) (Nat.zero_le _)
theorem lg_loans (a : Int32) : s_X9_loansOf a = nI (if a = 3 ∨ a = 4 then 1 else 0) := by
  rw [qp_loanOf]
  split <;> rfl
theorem lg_put {pv n L : Nat} {fk fs fa fb : Nat → Int32} {a b c : Int32} (hP : lgP pv fk n fs fa fb) (_hL : L < n) (hF : qp_F pv fk a b c) (hl : ql_n (upd fs L a) n ≤ 16) : lgP pv fk n (upd fs L a) (upd fa L b) (upd fb L c) := by
  refine ⟨hP.1, hP.2.1, fun j hj => ?_, hl⟩
  by_cases q : j = L
  · subst q
    rw [qb_us, qb_us, qb_us]
    exact hF
  · rw [qb_un q, qb_un q, qb_un q]
    exact hP.2.2.1 j hj
theorem lg_add {pv n : Nat} {fk fs fa fb : Nat → Int32} {a b c : Int32} (hP : lgP pv fk n fs fa fb) (hn : n < 32) (hF : qp_F pv fk a b c) (hl : ql_n fs n + (if a = 3 ∨ a = 4 then 1 else 0) ≤ 16) : lgP pv fk (n + 1) (upd fs n a) (upd fa n b) (upd fb n c) := by
  refine ⟨hP.1, hn, fun j hj => ?_, ?_⟩
  · by_cases q : j = n
    · subst q
      rw [qb_us, qb_us, qb_us]
      exact hF
    · rw [qb_un q, qb_un q, qb_un q]
      exact hP.2.2.1 j (by omega)
  · show ql_n (upd fs n a) n + _ ≤ 16
    rw [qb_us, qv_ql (f := upd fs n a) (g := fs) (fun j hj => qb_un (by omega))]
    exact hl
theorem ml_look {pv n : Nat} {fk fs fa fb : Nat → Int32} {T : qk_T} (hP : lgP pv fk n fs fa fb) (e : T = s_X0_look (qk_du T) (qk_dt T) (qk_dg T) (qk_dul T) (qk_dtl T) (qk_dgl T) (qk_dll T) (qk_dbu T) (qk_dbg T) (qk_yl T) (qk_yp T) (qk_ye T) (qk_yo T) (qk_yf T) (qk_ys T) (qk_yop T) (qk_yel T) (qk_yen T) (qk_yst T) (qk_xn T) (qk_xl T) (qk_xp T) (qk_xo T) pv n fk fs fa fb (qk_cr T) (qk_cw T) (qk_ch T) (qk_cl T) (qk_cd T) (qk_cb T) (qk_cn T)) : qk_L pv n fk fs fa fb T := by
  rw [e]
  exact qk_look hP.1 (by have := hP.2.1; omega) hP.2.2.1 hP.2.2.2
section MM
variable {l : Launch} {G : sxG} {k : lxC} {q : Nat → Nat} {pv n : Nat} {fk fs fa fb : Nat → Int32} {M : mlS}
theorem m_variable {t : Nat} (hM : mlI pv fk 0 fs fa fb M) (hv : pv < 8) (ht : t ≤ 5) : lyM l yX9_variable wdX9_variable 5 122 0 0 G k [mlW G q M] [.ref (q 0), .int (nI t)] (fun B v => ∃ M' : mlS, B = [mlW G q M'] ∧ v = some (.int (nI pv)) ∧ mlI (pv + 1) (upd fk pv (nI t)) 0 fs fa fb M' ∧ M'.2.2.2.1 = M.2.2.2.1) := by
  obtain ⟨P, T, Y, r, P2, T2, Y2⟩ := M
  obtain ⟨h1, h2, h3, h4, h5, h6⟩ := hM
  have h1 : P = (fk, fs, fa, fb, pv, 0) := h1
  subst h1
  have c0 : ¬ nI t < 0 := nI_pos (by omega)
  have c5 : nI t ≤ 5 := show nI t ≤ nI 5 from nI_le ht (by omega)
  have hX : x_X9_variable pv (nI t) = 0 := by
    unfold x_X9_variable
    have c8 : nI pv < 8 := show nI pv < nI 8 from (nI_ltI (by omega) (by omega)).mpr hv
    rw [if_neg c0, if_pos c5, if_pos c8]
  obtain ⟨T1, hT, e⟩ : ∃ T1 : qk_T, qk_L (pv + 1) 0 (upd fk pv (nI t)) fs fa fb T1 ∧ ms_X9_variable ((fk, fs, fa, fb, pv, 0), T, Y, r, P2, T2, Y2) (nI t) = ((upd fk pv (nI t), pv + 1, T1), nI pv) := by
    refine ⟨_, ?_, e_variable c0 c5 hv⟩
    exact qk_look (show pv + 1 ≤ 8 by omega) (by omega) (fun j hj => absurd hj (Nat.not_lt_zero _)) (Nat.zero_le _)
  refine ly_one (pg_X9_variable l G k q ((fk, fs, fa, fb, pv, 0), T, Y, r, P2, T2, Y2) (nI t) (by show 0 ≤ 33; omega) (by show pv ≤ 8; omega) hX e) (lxF_one _) [_] (lxF_one _).symm ?_
  exact ⟨_, rfl, rfl, ⟨rfl, hT, h3, h4, ⟨zb_upd h5.1 hv, h5.2.1, h5.2.2.1, h5.2.2.2⟩, h6⟩, rfl⟩
theorem m_add {a b c : Int32} (hM : mlI pv fk n fs fa fb M) (hP : lgP pv fk n fs fa fb) (hn : n < 32) (hF : qp_F pv fk a b c) (hl : ql_n fs n + (if a = 3 ∨ a = 4 then 1 else 0) ≤ 16) : lyM l yX9_add wdX9_add 5 122 0 0 G k [mlW G q M] [.ref (q 0), .int a, .int b, .int c] (fun B v => ∃ M' : mlS, B = [mlW G q M'] ∧ v = some (.int (nI n)) ∧ mlI pv fk (n + 1) (upd fs n a) (upd fa n b) (upd fb n c) M' ∧ M'.2.2.2.1 = M.2.2.2.1) := by
  obtain ⟨P, T, Y, r, P2, T2, Y2⟩ := M
  obtain ⟨h1, h2, h3, h4, h5, h6⟩ := hM
  have h1 : P = (fk, fs, fa, fb, pv, n) := h1
  subst h1
  have hl2 := (lg_add hP hn hF hl)
  have hc : s_X5_countLoans n fs + s_X9_loansOf a ≤ 16 := by
    rw [ql_count (by omega), lg_loans, nI_add]
    exact nI_le (b := 16) hl (by omega)
  have hX : x_X9_add pv n fk fs a b c = 0 := by
    unfold x_X9_add
    have c32 : nI n < 32 := show nI n < nI 32 from (nI_ltI (by omega) (by omega)).mpr hn
    rw [if_neg hF, if_pos c32, if_pos hc]
  obtain ⟨T1, hT, e⟩ : ∃ T1 : qk_T, qk_L pv (n + 1) fk (upd fs n a) (upd fa n b) (upd fb n c) T1 ∧ ms_X9_add ((fk, fs, fa, fb, pv, n), T, Y, r, P2, T2, Y2) a b c = ((upd fs n a, upd fa n b, upd fb n c, n + 1, T1), nI n) := by
    refine ⟨_, ?_, e_add hF hn hc⟩
    exact qk_look hl2.1 (by omega) hl2.2.2.1 hl2.2.2.2
  refine ly_one (pg_X9_add l G k q ((fk, fs, fa, fb, pv, n), T, Y, r, P2, T2, Y2) a b c (by show n ≤ 33; omega) hP.1 hX e) (lxF_one _) [_] (lxF_one _).symm ?_
  exact ⟨_, rfl, rfl, ⟨rfl, hT, h3, h4, ⟨h5.1, zb_upd h5.2.1 (by omega), zb_upd h5.2.2.1 (by omega), zb_upd h5.2.2.2 (by omega)⟩, h6⟩, rfl⟩
theorem m_put {L : Nat} {a b c : Int32} (hM : mlI pv fk n fs fa fb M) (hP : lgP pv fk n fs fa fb) (hL : L < n) (hF : qp_F pv fk a b c) (hl : ql_n (upd fs L a) n ≤ 16) : lyM l yX9_put wdX9_put 5 122 0 0 G k [mlW G q M] [.ref (q 0), .int (nI L), .int a, .int b, .int c] (fun B v => ∃ M' : mlS, B = [mlW G q M'] ∧ v = some (.int (fs L)) ∧ mlI pv fk n (upd fs L a) (upd fa L b) (upd fb L c) M' ∧ M'.2.2.2.1 = M.2.2.2.1) := by
  obtain ⟨P, T, Y, r, P2, T2, Y2⟩ := M
  obtain ⟨h1, h2, h3, h4, h5, h6⟩ := hM
  have h1 : P = (fk, fs, fa, fb, pv, n) := h1
  subst h1
  have hn := hP.2.1
  have hl2 := (lg_put hP hL hF hl)
  have hset := qv_ql_set (f := fs) (x := a) n hL
  have hc : s_X5_countLoans n fs - s_X9_loansOf (fs L) + s_X9_loansOf a ≤ 16 := by
    have hle : (if fs L = 3 ∨ fs L = 4 then 1 else 0) ≤ ql_n fs n := by
      split
      · rename_i z
        have := ql_lt hL z
        omega
      · exact Nat.zero_le _
    rw [ql_count (by omega), lg_loans, lg_loans, pk_sub hle, nI_add]
    exact nI_le (b := 16) (by omega) (by omega)
  have hX : x_X9_put pv n fk fs (nI L) a b c = 0 := by
    unfold x_X9_put
    rw [if_neg (qp_isLine1 hL (by omega)), if_neg hF, qp_sortAt hL (by omega), if_pos hc]
  obtain ⟨T1, hT, e⟩ : ∃ T1 : qk_T, qk_L pv n fk (upd fs L a) (upd fa L b) (upd fb L c) T1 ∧ ms_X9_put ((fk, fs, fa, fb, pv, n), T, Y, r, P2, T2, Y2) (nI L) a b c = ((upd fs L a, upd fa L b, upd fb L c, T1), fs L) := by
    refine ⟨_, ?_, e_put hL hn hF hc rfl⟩
    exact qk_look hl2.1 (by omega) hl2.2.2.1 hl2.2.2.2
  refine ly_one (pg_X9_put l G k q ((fk, fs, fa, fb, pv, n), T, Y, r, P2, T2, Y2) (nI L) a b c (by show n ≤ 33; omega) hP.1 hX e) (lxF_one _) [_] (lxF_one _).symm ?_
  exact ⟨_, rfl, rfl, ⟨rfl, hT, h3, h4, ⟨h5.1, zb_upd h5.2.1 (by omega), zb_upd h5.2.2.1 (by omega), zb_upd h5.2.2.2 (by omega)⟩, h6⟩, rfl⟩
end MM
