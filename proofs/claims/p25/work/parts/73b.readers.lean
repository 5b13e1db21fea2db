/-! THE READERS over the mill, answers as they are -/
section
variable {l : Launch} {G : sxG} {k : lxC} {q : Nat → Nat} {n : Nat} {fk fs fa fb : Nat → Int32} {T T2 : qk_T} {Y Y2 : qr_Y} {r : Int32} {P2 : mlP}
theorem d_line {i : Nat} (hi : i ≤ n) (hn : n ≤ 32) : ¬ s_X5_isLineOrEnd n (nI i) = 0 := by
  rw [qp_isEnd (by omega) (by omega), if_pos hi]
  decide
theorem d_kind {v : Nat} (hK : qp_K 8 fk) (hv : v < 8) : ¬ s_X5_kindAt 8 fk (nI (3 * v)) = -1 := by
  rw [qp_kindAt (by omega) (by omega)]
  show ¬ (if 3 * v / 3 < 8 then (if 3 * v % 3 = 0 then fk (3 * v / 3) else _) else _) = -1
  rw [if_pos (by omega), if_pos (by omega), show 3 * v / 3 = v by omega]
  rcases hK v hv with z | z | z | z | z | z <;> (rw [z]; decide)
theorem d_many {w : Nat} (hn : n ≤ 32) (hw : w ≤ 6) : lyM l yX9_many wdX9_many 3 64 0 0 G k [mlW G q ((fk, fs, fa, fb, 8, n), T, Y, r, P2, T2, Y2)] [.ref (q 0), .int (nI w)] (fun B v => B = [mlW G q ((fk, fs, fa, fb, 8, n), T, Y, r, P2, T2, Y2)] ∧ v = some (.int (dgMany T n (nI w)))) := by
  refine ly_one (p_X9_many l G k q ((fk, fs, fa, fb, 8, n), T, Y, r, P2, T2, Y2) (nI w) (show n ≤ 33 by omega) (sx_x_many hw)) (lxF_one _) [_] (lxF_one _).symm ⟨rfl, rfl⟩
theorem d_ofVariable {v w : Nat} (hn : n ≤ 32) (hv : v < 8) (hw : w ≤ 3) : lyM l yX9_ofVariable wdX9_ofVariable 3 67 0 0 G k [mlW G q ((fk, fs, fa, fb, 8, n), T, Y, r, P2, T2, Y2)] [.ref (q 0), .int (nI v), .int (nI w)] (fun B v_ => B = [mlW G q ((fk, fs, fa, fb, 8, n), T, Y, r, P2, T2, Y2)] ∧ v_ = some (.int (dgVar T n fk (nI v) (nI w)))) := by
  refine ly_one (p_X9_ofVariable l G k q ((fk, fs, fa, fb, 8, n), T, Y, r, P2, T2, Y2) (nI v) (nI w) (show n ≤ 33 by omega) (Nat.le_refl _) (sx_x_ofVariable 8 hv (Nat.le_refl _) hw)) (lxF_one _) [_] (lxF_one _).symm ⟨rfl, rfl⟩
theorem d_ofLine {i w : Nat} (hn : n ≤ 32) (hi : i < n) (hw : w ≤ 2) : lyM l yX9_ofLine wdX9_ofLine 2 42 0 0 G k [mlW G q ((fk, fs, fa, fb, 8, n), T, Y, r, P2, T2, Y2)] [.ref (q 0), .int (nI i), .int (nI (w + 3))] (fun B v => B = [mlW G q ((fk, fs, fa, fb, 8, n), T, Y, r, P2, T2, Y2)] ∧ v = some (.int (dgLine T n fs fa fb (nI i) (nI (w + 3))))) := by
  have c1 : ¬ s_X5_isLine n (nI i) = 0 := qp_isLine1 hi (by omega)
  have c2 : nI (w + 3) ≤ 5 := nI_le (b := 5) (by omega) (by omega)
  have hX : x_X9_ofLine (qk_wwr T) n (qk_cr T) (nI i) (nI (w + 3)) = 0 := by
    unfold x_X9_ofLine
    rw [if_neg c1, if_neg (nI_pos (by omega)), if_pos c2]
    (repeat' split) <;> rfl
  refine ly_one (p_X9_ofLine l G k q ((fk, fs, fa, fb, 8, n), T, Y, r, P2, T2, Y2) (nI i) (nI (w + 3)) (show n ≤ 33 by omega) hX) (lxF_one _) [_] (lxF_one _).symm ⟨rfl, rfl⟩
theorem d_state {i v : Nat} (hK : qp_K 8 fk) (hn : n ≤ 32) (hi : i ≤ n) (hv : v < 8) : lyM l yX9_state wdX9_state 3 67 0 0 G k [mlW G q ((fk, fs, fa, fb, 8, n), T, Y, r, P2, T2, Y2)] [.ref (q 0), .int (nI i), .int (nI (3 * v))] (fun B v_ => B = [mlW G q ((fk, fs, fa, fb, 8, n), T, Y, r, P2, T2, Y2)] ∧ v_ = some (.int (dgState T n fk (nI i) (nI (3 * v))))) := by
  refine ly_one (p_X9_state l G k q ((fk, fs, fa, fb, 8, n), T, Y, r, P2, T2, Y2) (nI i) (nI (3 * v)) (show n ≤ 33 by omega) (Nat.le_refl _) (by show x_X9_state 8 n fk (nI i) (nI (3 * v)) = 0; unfold x_X9_state; rw [if_neg (d_line hi hn), if_neg (d_kind hK hv)])) (lxF_one _) [_] (lxF_one _).symm ⟨rfl, rfl⟩
theorem d_inTheWay {i v : Nat} (hK : qp_K 8 fk) (hn : n ≤ 32) (hi : i ≤ n) (hv : v < 8) (hl : qk_lc T ≤ 16) : lyM l yX9_inTheWay wdX9_inTheWay 3 74 0 0 G k [mlW G q ((fk, fs, fa, fb, 8, n), T, Y, r, P2, T2, Y2)] [.ref (q 0), .int (nI i), .int (nI (3 * v))] (fun B v_ => B = [mlW G q ((fk, fs, fa, fb, 8, n), T, Y, r, P2, T2, Y2)] ∧ v_ = some (.int (dgWay T n fk (nI i) (nI (3 * v))))) := by
  refine ly_one (p_X9_inTheWay l G k q ((fk, fs, fa, fb, 8, n), T, Y, r, P2, T2, Y2) (nI i) (nI (3 * v)) (show n ≤ 33 by omega) (Nat.le_refl _) hl (by show x_X9_inTheWay 8 n fk (nI i) (nI (3 * v)) = 0; unfold x_X9_inTheWay; rw [if_neg (d_line hi hn), if_neg (d_kind hK hv)])) (lxF_one _) [_] (lxF_one _).symm ⟨rfl, rfl⟩
theorem d_holds {i v : Nat} (hn : n ≤ 32) (hi : i ≤ n) (hb : ¬ s_X5_isBorrow 8 fk (nI v) = 0) : lyM l yX9_holds wdX9_holds 2 42 0 0 G k [mlW G q ((fk, fs, fa, fb, 8, n), T, Y, r, P2, T2, Y2)] [.ref (q 0), .int (nI i), .int (nI v)] (fun B v_ => B = [mlW G q ((fk, fs, fa, fb, 8, n), T, Y, r, P2, T2, Y2)] ∧ v_ = some (.int (dgHolds T n fk (nI i) (nI v)))) := by
  refine ly_one (p_X9_holds l G k q ((fk, fs, fa, fb, 8, n), T, Y, r, P2, T2, Y2) (nI i) (nI v) (show n ≤ 33 by omega) (Nat.le_refl _) (by show x_X9_holds 8 n fk (nI i) (nI v) = 0; unfold x_X9_holds; rw [if_neg (d_line hi hn), if_neg hb])) (lxF_one _) [_] (lxF_one _).symm ⟨rfl, rfl⟩
theorem d_isWanted {i v : Nat} (hn : n ≤ 32) (hi : i ≤ n) (hb : ¬ s_X5_isBorrow 8 fk (nI v) = 0) : lyM l yX9_isWanted wdX9_isWanted 2 42 0 0 G k [mlW G q ((fk, fs, fa, fb, 8, n), T, Y, r, P2, T2, Y2)] [.ref (q 0), .int (nI i), .int (nI v)] (fun B v_ => B = [mlW G q ((fk, fs, fa, fb, 8, n), T, Y, r, P2, T2, Y2)] ∧ v_ = some (.int (dgWant T n fk (nI i) (nI v)))) := by
  refine ly_one (p_X9_isWanted l G k q ((fk, fs, fa, fb, 8, n), T, Y, r, P2, T2, Y2) (nI i) (nI v) (show n ≤ 33 by omega) (Nat.le_refl _) (by show x_X9_isWanted 8 n fk (qk_cn T) (nI i) (nI v) = 0; unfold x_X9_isWanted; rw [if_neg (d_line hi hn), if_neg hb]; split <;> rfl)) (lxF_one _) [_] (lxF_one _).symm ⟨rfl, rfl⟩
theorem pb_12 {α : Type} (a b c : α) (t : List α) : (a :: b :: c :: t).Perm ([b, c] ++ (a :: t)) := (List.Perm.swap b a _).trans ((List.Perm.swap c a _).cons b)
theorem d_borrow {v : Nat} : lyM l yX5_isBorrow wdX5_isBorrow 1 21 0 0 G k [mlW G q ((fk, fs, fa, fb, 8, n), T, Y, r, P2, T2, Y2)] [.ref (q 1), .int (nI v)] (fun B v_ => B = [mlW G q ((fk, fs, fa, fb, 8, n), T, Y, r, P2, T2, Y2)] ∧ v_ = some (.int (s_X5_isBorrow 8 fk (nI v)))) :=
  ly_one (lx_readM k (c_X5_isBorrow l G (q 1) (q 2) (q 3) (q 4) (q 5) 8 n fk (nI v) (Nat.le_refl _)) (pb_12 _ _ _ _)) (lxF_one _) [_] (lxF_one _).symm ⟨rfl, rfl⟩
theorem d_without {i : Nat} (hM : mlI 8 fk n fs fa fb ((fk, fs, fa, fb, 8, n), T, Y, r, P2, T2, Y2)) (hP : lgP 8 fk n fs fa fb) (hi : i < n) : lyM l yX9_faultsWithout wdX9_faultsWithout 5 122 0 0 G k [mlW G q ((fk, fs, fa, fb, 8, n), T, Y, r, P2, T2, Y2)] [.ref (q 0), .int (nI i)] (fun B v => ∃ (P2x : mlP) (T2x : qk_T) (Y2x : qr_Y), B = [mlW G q ((fk, fs, fa, fb, 8, n), T, Y, r, P2x, T2x, Y2x)] ∧ v = some (.int (nI (fwN fk n fs fa fb i))) ∧ mlI 8 fk n fs fa fb ((fk, fs, fa, fb, 8, n), T, Y, r, P2x, T2x, Y2x)) :=
  ly_weak (m_faultsWithout hM hP hi) (fun B v h => by
    obtain ⟨⟨PX, TX, YX, rX, P2x, T2x, Y2x⟩, h1, h2, -, e1, hMx, e2, e3, e4⟩ := h
    have e1 : PX = (fk, fs, fa, fb, 8, n) := e1
    have e2 : TX = T := e2
    have e3 : YX = Y := e3
    have e4 : rX = r := e4
    rw [e1, e2, e3, e4] at h1 hMx
    exact ⟨P2x, T2x, Y2x, h1, h2, hMx⟩)
theorem d_leaked {i : Nat} (hM : mlI 8 fk n fs fa fb ((fk, fs, fa, fb, 8, n), T, Y, r, P2, T2, Y2)) (hP : lgP 8 fk n fs fa fb) (hK : qp_K 8 fk) (hi : i < n) : lyM l yX9_leakedBy wdX9_leakedBy 6 136 0 0 G k [mlW G q ((fk, fs, fa, fb, 8, n), T, Y, r, P2, T2, Y2)] [.ref (q 0), .int (nI i)] (fun B v => ∃ (P2x : mlP) (T2x : qk_T) (Y2x : qr_Y), B = [mlW G q ((fk, fs, fa, fb, 8, n), T, Y, r, P2x, T2x, Y2x)] ∧ v = some (.int (lkN n fk fs fa fb i)) ∧ mlI 8 fk n fs fa fb ((fk, fs, fa, fb, 8, n), T, Y, r, P2x, T2x, Y2x)) :=
  ly_weak (m_leakedBy hM hP hK hi) (fun B v h => by
    obtain ⟨⟨PX, TX, YX, rX, P2x, T2x, Y2x⟩, h1, h2, -, e1, hMx, e2, e3, e4⟩ := h
    have e1 : PX = (fk, fs, fa, fb, 8, n) := e1
    have e2 : TX = T := e2
    have e3 : YX = Y := e3
    have e4 : rX = r := e4
    rw [e1, e2, e3, e4] at h1 hMx
    exact ⟨P2x, T2x, Y2x, h1, h2, hMx⟩)
theorem d_loans {d : Int64} (hn : n ≤ 32) (hl : qk_lc T ≤ 16) (hf : qk_fc T ≤ 34) : lyM l yX9_withLoansAndFaults wdX9_withLoansAndFaults 4 92 0 0 G k [mlW G q ((fk, fs, fa, fb, 8, n), T, Y, r, P2, T2, Y2)] [.ref (q 0), .long d] (fun B v => B = [mlW G q ((fk, fs, fa, fb, 8, n), T, Y, r, P2, T2, Y2)] ∧ v = some (.long (dgA T n r d))) := by
  have h := p_X9_withLoansAndFaults l G k q ((fk, fs, fa, fb, 8, n), T, Y, r, P2, T2, Y2) d (show n ≤ 33 by omega) (Nat.le_refl _) hl hf
  have e : (s_X9_withLoansAndFaults r (qk_dbu T) (qk_lc T) (qk_yl T) (qk_yp T) (qk_ye T) 8 n (qk_cd T) (qk_fc T) (qk_xn T) (qk_xl T) (qk_xp T) (qk_xo T) d).1 = r := dg_a1 hf hl 17 0 d (by omega) (by omega)
  refine ly_one h (lxF_one _) [_] (lxF_one _).symm ⟨?_, rfl⟩
  show [mlW G q ((fk, fs, fa, fb, 8, n), T, Y, (s_X9_withLoansAndFaults r (qk_dbu T) (qk_lc T) (qk_yl T) (qk_yp T) (qk_ye T) 8 n (qk_cd T) (qk_fc T) (qk_xn T) (qk_xl T) (qk_xp T) (qk_xo T) d).1, P2, T2, Y2)] = _
  rw [e]
theorem d_latest {d : Int64} : lyM l yX9_withLatestRun wdX9_withLatestRun 5 106 0 0 G k [mlW G q ((fk, fs, fa, fb, 8, n), T, Y, r, P2, T2, Y2)] [.ref (q 0), .long d] (fun B v => B = [mlW G q ((fk, fs, fa, fb, 8, n), T, Y, r, P2, T2, Y2)] ∧ v = some (.long (dgB Y r d))) := by
  have h := p_X9_withLatestRun l G k q ((fk, fs, fa, fb, 8, n), T, Y, r, P2, T2, Y2) d
  have e : (s_X9_withLatestRun r (qr_yoco Y) (qr_ystp Y) (qr_ybxm Y) (qr_ybxd Y) (qr_ypnl Y) (qr_ysc Y) (qr_ynm Y) (qr_yng Y) (qr_yzs Y) (qr_yzn Y) (qr_yzl Y) d).1 = r := dg_b1 11 0 d (by omega) (by omega)
  refine ly_one h (lxF_one _) [_] (lxF_one _).symm ⟨?_, rfl⟩
  show [mlW G q ((fk, fs, fa, fb, 8, n), T, Y, (s_X9_withLatestRun r (qr_yoco Y) (qr_ystp Y) (qr_ybxm Y) (qr_ybxd Y) (qr_ypnl Y) (qr_ysc Y) (qr_ynm Y) (qr_yng Y) (qr_yzs Y) (qr_yzn Y) (qr_yzl Y) d).1, P2, T2, Y2)] = _
  rw [e]
end
