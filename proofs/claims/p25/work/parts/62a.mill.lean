/-! THE MILL AS ONE BLOCK of 109 cells -/
abbrev mlP : Type := (Nat → Int32) × (Nat → Int32) × (Nat → Int32) × (Nat → Int32) × Nat × Nat
/-- program, check, latest; runs; the other program, its check, the trial -/
abbrev mlS : Type := mlP × qk_T × qr_Y × Int32 × mlP × qk_T × qr_Y
def mlW (G : sxG) (q : Nat → Nat) (M : mlS) : va_W := [(q 0, .inr (9, [.ref (q 1), .ref (q 6), .ref (q 41), .ref (q 55), .ref (q 60), .ref (q 95), .int M.2.2.2.1])),
  (q 1, .inr (5, [.ref (q 2), .ref (q 3), .ref (q 4), .ref (q 5), .int (nI M.1.2.2.2.2.1), .int (nI M.1.2.2.2.2.2)])),
  (q 2, .inl (G.2.1, 8, .inl M.1.1)),
  (q 3, .inl (G.2.1, 34, .inl M.1.2.1)),
  (q 4, .inl (G.2.1, 34, .inl M.1.2.2.1)),
  (q 5, .inl (G.2.1, 34, .inl M.1.2.2.2.1)),
  (q 6, .inr (0, [.ref (q 1), .ref (q 7), .ref (q 17), .ref (q 24), .ref (q 29), .ref (q 34), .ref (q 35), .ref (q 36), .ref (q 37), .ref (q 38), .ref (q 39), .ref (q 40), .int (qk_flg M.2.1)])),
  (q 7, .inr (1, [.ref (q 1), .ref (q 8), .ref (q 9), .ref (q 10), .ref (q 11), .ref (q 12), .ref (q 13), .ref (q 14), .ref (q 15), .ref (q 16)])),
  (q 8, .inl (G.2.1, 34, .inl (qk_du M.2.1))),
  (q 9, .inl (G.2.1, 34, .inl (qk_dt M.2.1))),
  (q 10, .inl (G.2.1, 34, .inl (qk_dg M.2.1))),
  (q 11, .inl (G.2.1, 34, .inl (qk_dul M.2.1))),
  (q 12, .inl (G.2.1, 34, .inl (qk_dtl M.2.1))),
  (q 13, .inl (G.2.1, 34, .inl (qk_dgl M.2.1))),
  (q 14, .inl (G.2.1, 34, .inl (qk_dll M.2.1))),
  (q 15, .inl (G.2.1, 34, .inl (qk_dbu M.2.1))),
  (q 16, .inl (G.2.1, 34, .inl (qk_dbg M.2.1))),
  (q 17, .inr (8, [.ref (q 1), .ref (q 18), .ref (q 19), .ref (q 20), .ref (q 21), .ref (q 22), .ref (q 23), .int (qk_wdp M.2.1), .int (qk_wwr M.2.1)])),
  (q 18, .inl (G.2.1, 34, .inl (qk_yf M.2.1))),
  (q 19, .inl (G.2.1, 34, .inl (qk_ys M.2.1))),
  (q 20, .inl (G.2.1, 34, .inl (qk_yop M.2.1))),
  (q 21, .inl (G.2.1, 34, .inl (qk_yel M.2.1))),
  (q 22, .inl (G.2.1, 34, .inl (qk_yen M.2.1))),
  (q 23, .inl (G.2.1, 34, .inl (qk_yst M.2.1))),
  (q 24, .inr (3, [.ref (q 1), .ref (q 25), .ref (q 26), .ref (q 27), .ref (q 28), .int (nI (qk_lc M.2.1))])),
  (q 25, .inl (G.2.1, 16, .inl (qk_yl M.2.1))),
  (q 26, .inl (G.2.1, 16, .inl (qk_yp M.2.1))),
  (q 27, .inl (G.2.2, 16, .inl (qk_ye M.2.1))),
  (q 28, .inl (G.2.1, 34, .inl (qk_yo M.2.1))),
  (q 29, .inr (2, [.ref (q 30), .ref (q 31), .ref (q 32), .ref (q 33), .int (nI (qk_fc M.2.1))])),
  (q 30, .inl (G.2.1, 34, .inl (qk_xn M.2.1))),
  (q 31, .inl (G.2.1, 34, .inl (qk_xl M.2.1))),
  (q 32, .inl (G.2.1, 34, .inl (qk_xp M.2.1))),
  (q 33, .inl (G.2.1, 34, .inl (qk_xo M.2.1))),
  (q 34, .inl (G.2.2, 34, .inl (qk_cr M.2.1))),
  (q 35, .inl (G.2.2, 34, .inl (qk_cw M.2.1))),
  (q 36, .inl (G.2.1, 34, .inl (qk_ch M.2.1))),
  (q 37, .inl (G.2.1, 34, .inl (qk_cl M.2.1))),
  (q 38, .inl (G.2.1, 272, .inl (qk_cd M.2.1))),
  (q 39, .inl (G.2.1, 8, .inl (qk_cb M.2.1))),
  (q 40, .inl (G.2.1, 34, .inl (qk_cn M.2.1))),
  (q 41, .inr (6, [.ref (q 1), .ref (q 17), .ref (q 42), .ref (q 46), .ref (q 51), .ref (q 52), .ref (q 53), .ref (q 54), .int (qr_yokd M.2.2.1), .int (nI (qr_yoct M.2.2.1)), .int (qr_yhre M.2.2.1), .int (qr_yoco M.2.2.1), .int (nI (qr_ystp M.2.2.1)), .int (qr_ybxm M.2.2.1), .int (qr_ybxd M.2.2.1), .int (qr_ypnl M.2.2.1), .int (qr_yiab M.2.2.1)])),
  (q 42, .inr (7, [.ref (q 43), .ref (q 44), .ref (q 45), .int (qr_ysc M.2.2.1)])),
  (q 43, .inl (G.2.1, 60, .inl (qr_yzs M.2.2.1))),
  (q 44, .inl (G.2.1, 60, .inl (qr_yzn M.2.2.1))),
  (q 45, .inl (G.2.1, 60, .inl (qr_yzl M.2.2.1))),
  (q 46, .inr (4, [.ref (q 47), .ref (q 48), .ref (q 49), .ref (q 50), .int (nI (qr_ynm M.2.2.1)), .int (qr_yng M.2.2.1)])),
  (q 47, .inl (G.2.1, 500, .inl (qr_yvn M.2.2.1))),
  (q 48, .inl (G.2.1, 500, .inl (qr_yvc M.2.2.1))),
  (q 49, .inl (G.2.1, 500, .inl (qr_yvl M.2.2.1))),
  (q 50, .inl (G.2.2, 500, .inl (qr_yvh M.2.2.1))),
  (q 51, .inl (G.2.2, 24, .inl (qr_ybh M.2.2.1))),
  (q 52, .inl (G.2.1, 24, .inl (qr_ybv M.2.2.1))),
  (q 53, .inl (G.2.1, 34, .inl (qr_ybr M.2.2.1))),
  (q 54, .inl (G.2.1, 2, .inl (qr_ybo M.2.2.1))),
  (q 55, .inr (5, [.ref (q 56), .ref (q 57), .ref (q 58), .ref (q 59), .int (nI M.2.2.2.2.1.2.2.2.2.1), .int (nI M.2.2.2.2.1.2.2.2.2.2)])),
  (q 56, .inl (G.2.1, 8, .inl M.2.2.2.2.1.1)),
  (q 57, .inl (G.2.1, 34, .inl M.2.2.2.2.1.2.1)),
  (q 58, .inl (G.2.1, 34, .inl M.2.2.2.2.1.2.2.1)),
  (q 59, .inl (G.2.1, 34, .inl M.2.2.2.2.1.2.2.2.1)),
  (q 60, .inr (0, [.ref (q 55), .ref (q 61), .ref (q 71), .ref (q 78), .ref (q 83), .ref (q 88), .ref (q 89), .ref (q 90), .ref (q 91), .ref (q 92), .ref (q 93), .ref (q 94), .int (qk_flg M.2.2.2.2.2.1)])),
  (q 61, .inr (1, [.ref (q 55), .ref (q 62), .ref (q 63), .ref (q 64), .ref (q 65), .ref (q 66), .ref (q 67), .ref (q 68), .ref (q 69), .ref (q 70)])),
  (q 62, .inl (G.2.1, 34, .inl (qk_du M.2.2.2.2.2.1))),
  (q 63, .inl (G.2.1, 34, .inl (qk_dt M.2.2.2.2.2.1))),
  (q 64, .inl (G.2.1, 34, .inl (qk_dg M.2.2.2.2.2.1))),
  (q 65, .inl (G.2.1, 34, .inl (qk_dul M.2.2.2.2.2.1))),
  (q 66, .inl (G.2.1, 34, .inl (qk_dtl M.2.2.2.2.2.1))),
  (q 67, .inl (G.2.1, 34, .inl (qk_dgl M.2.2.2.2.2.1))),
  (q 68, .inl (G.2.1, 34, .inl (qk_dll M.2.2.2.2.2.1))),
  (q 69, .inl (G.2.1, 34, .inl (qk_dbu M.2.2.2.2.2.1))),
  (q 70, .inl (G.2.1, 34, .inl (qk_dbg M.2.2.2.2.2.1))),
  (q 71, .inr (8, [.ref (q 55), .ref (q 72), .ref (q 73), .ref (q 74), .ref (q 75), .ref (q 76), .ref (q 77), .int (qk_wdp M.2.2.2.2.2.1), .int (qk_wwr M.2.2.2.2.2.1)])),
  (q 72, .inl (G.2.1, 34, .inl (qk_yf M.2.2.2.2.2.1))),
  (q 73, .inl (G.2.1, 34, .inl (qk_ys M.2.2.2.2.2.1))),
  (q 74, .inl (G.2.1, 34, .inl (qk_yop M.2.2.2.2.2.1))),
  (q 75, .inl (G.2.1, 34, .inl (qk_yel M.2.2.2.2.2.1))),
  (q 76, .inl (G.2.1, 34, .inl (qk_yen M.2.2.2.2.2.1))),
  (q 77, .inl (G.2.1, 34, .inl (qk_yst M.2.2.2.2.2.1))),
  (q 78, .inr (3, [.ref (q 55), .ref (q 79), .ref (q 80), .ref (q 81), .ref (q 82), .int (nI (qk_lc M.2.2.2.2.2.1))])),
  (q 79, .inl (G.2.1, 16, .inl (qk_yl M.2.2.2.2.2.1))),
  (q 80, .inl (G.2.1, 16, .inl (qk_yp M.2.2.2.2.2.1))),
  (q 81, .inl (G.2.2, 16, .inl (qk_ye M.2.2.2.2.2.1))),
  (q 82, .inl (G.2.1, 34, .inl (qk_yo M.2.2.2.2.2.1))),
  (q 83, .inr (2, [.ref (q 84), .ref (q 85), .ref (q 86), .ref (q 87), .int (nI (qk_fc M.2.2.2.2.2.1))])),
  (q 84, .inl (G.2.1, 34, .inl (qk_xn M.2.2.2.2.2.1))),
  (q 85, .inl (G.2.1, 34, .inl (qk_xl M.2.2.2.2.2.1))),
  (q 86, .inl (G.2.1, 34, .inl (qk_xp M.2.2.2.2.2.1))),
  (q 87, .inl (G.2.1, 34, .inl (qk_xo M.2.2.2.2.2.1))),
  (q 88, .inl (G.2.2, 34, .inl (qk_cr M.2.2.2.2.2.1))),
  (q 89, .inl (G.2.2, 34, .inl (qk_cw M.2.2.2.2.2.1))),
  (q 90, .inl (G.2.1, 34, .inl (qk_ch M.2.2.2.2.2.1))),
  (q 91, .inl (G.2.1, 34, .inl (qk_cl M.2.2.2.2.2.1))),
  (q 92, .inl (G.2.1, 272, .inl (qk_cd M.2.2.2.2.2.1))),
  (q 93, .inl (G.2.1, 8, .inl (qk_cb M.2.2.2.2.2.1))),
  (q 94, .inl (G.2.1, 34, .inl (qk_cn M.2.2.2.2.2.1))),
  (q 95, .inr (6, [.ref (q 55), .ref (q 71), .ref (q 96), .ref (q 100), .ref (q 105), .ref (q 106), .ref (q 107), .ref (q 108), .int (qr_yokd M.2.2.2.2.2.2), .int (nI (qr_yoct M.2.2.2.2.2.2)), .int (qr_yhre M.2.2.2.2.2.2), .int (qr_yoco M.2.2.2.2.2.2), .int (nI (qr_ystp M.2.2.2.2.2.2)), .int (qr_ybxm M.2.2.2.2.2.2), .int (qr_ybxd M.2.2.2.2.2.2), .int (qr_ypnl M.2.2.2.2.2.2), .int (qr_yiab M.2.2.2.2.2.2)])),
  (q 96, .inr (7, [.ref (q 97), .ref (q 98), .ref (q 99), .int (qr_ysc M.2.2.2.2.2.2)])),
  (q 97, .inl (G.2.1, 60, .inl (qr_yzs M.2.2.2.2.2.2))),
  (q 98, .inl (G.2.1, 60, .inl (qr_yzn M.2.2.2.2.2.2))),
  (q 99, .inl (G.2.1, 60, .inl (qr_yzl M.2.2.2.2.2.2))),
  (q 100, .inr (4, [.ref (q 101), .ref (q 102), .ref (q 103), .ref (q 104), .int (nI (qr_ynm M.2.2.2.2.2.2)), .int (qr_yng M.2.2.2.2.2.2)])),
  (q 101, .inl (G.2.1, 500, .inl (qr_yvn M.2.2.2.2.2.2))),
  (q 102, .inl (G.2.1, 500, .inl (qr_yvc M.2.2.2.2.2.2))),
  (q 103, .inl (G.2.1, 500, .inl (qr_yvl M.2.2.2.2.2.2))),
  (q 104, .inl (G.2.2, 500, .inl (qr_yvh M.2.2.2.2.2.2))),
  (q 105, .inl (G.2.2, 24, .inl (qr_ybh M.2.2.2.2.2.2))),
  (q 106, .inl (G.2.1, 24, .inl (qr_ybv M.2.2.2.2.2.2))),
  (q 107, .inl (G.2.1, 34, .inl (qr_ybr M.2.2.2.2.2.2))),
  (q 108, .inl (G.2.1, 2, .inl (qr_ybo M.2.2.2.2.2.2)))]
theorem mlW_len (G : sxG) (q : Nat → Nat) (M : mlS) : (mlW G q M).length = 109 := rfl
theorem ml_pm {ws wc wr : va_W} {n : Nat} (isC isR : List Nat) (hC : isC.filterMap (fun i => ws[i]?) = wc) (hR : isR.filterMap (fun i => ws[i]?) = wr) (hl : ws.length = n) (hp : (isC ++ isR).Perm (List.range n)) : ws.Perm (wc ++ wr) := by
  subst hl; subst hC; subst hR
  rw [← List.filterMap_append]
  have h := hp.filterMap (fun i => ws[i]?)
  have e : ∀ X : va_W, (List.range X.length).filterMap (fun i => X[i]?) = X := by
    intro X
    induction X with
    | nil => rfl
    | cons x t ih =>
      rw [List.length_cons, List.range_succ_eq_map, List.filterMap_cons, List.filterMap_map]
      show x :: List.filterMap (fun i => t[i]?) (List.range t.length) = x :: t
      rw [ih]
  rw [e] at h
  exact h.symm

theorem lx_readJ {σ : Type} {l : Launch} {y : MethodName} {wd : List Cond} {fr lo : Nat} {G : sxG} {ws ws' wc wr : va_W} {av : List Value} {wOf : σ → va_W} {S : σ × Int64} (k : lxC) (h : sxJ l y wd fr lo G wc av wOf S) (hp : ws.Perm (wc ++ wr)) (hp2 : (wOf S.1 ++ wr).Perm ws') : lxM l y wd fr lo 0 0 G k ws av (fun _ : Unit => some (.long S.2)) (fun _ => ws') := by
  intro sz
  refine lx_met (h sz) (fun a U h1 => ?_) (fun a U o t h1 h2 => ?_) (lx_cells (A := fun _ => True) hp)
  · obtain ⟨h1, h3, h4, h5, h6, h7⟩ := h1
    refine ⟨h1, h3, lx_Pm h4 (fun x hx => hp.mem_iff.mpr (List.mem_append_left _ hx)), ?_, h6⟩
    have := lx_Dm h5 hp
    rw [lx_Dn] at this ⊢
    rw [List.map_append] at this
    exact ⟨(List.nodup_append.mp this.1).1, fun _ _ => trivial⟩
  · obtain ⟨h1, h3, h4, h5, h6, h7⟩ := h1
    obtain ⟨⟨r, u, e1, ⟨e2, e3⟩, e4, e5⟩, f1, f2⟩ := h2
    subst e2; subst e3; subst h3
    obtain ⟨g1, g2⟩ := lx_grow hp h4 h5 f2 e4 e5
    exact ⟨⟨(), e1, lx_Pm g1 (fun x hx => hp2.mem_iff.mpr hx), lx_Dm g2 hp2⟩, f1, fun q q1 q2 => f2 q q1 (fun z => q2 (lx_cells (A := fun _ => True) hp q z))⟩

set_option maxHeartbeats 4000000 in
set_option maxRecDepth 100000 in
theorem p_X9_ofLine (l : Launch) (G : sxG) (k : lxC) (q : Nat → Nat) (M : mlS) (p1 : Int32) (p2 : Int32) (hn : M.1.2.2.2.2.2 ≤ 33) (hX : x_X9_ofLine (qk_wwr M.2.1) M.1.2.2.2.2.2 (qk_cr M.2.1) p1 p2 = 0) : lxM l yX9_ofLine wdX9_ofLine 2 42 0 0 G k (mlW G q M) [.ref (q 0), .int p1, .int p2] (fun _ : Unit => some (.int (s_X9_ofLine (qk_wwr M.2.1) (qk_yf M.2.1) (qk_ys M.2.1) M.1.2.2.2.2.2 M.1.2.1 M.1.2.2.1 M.1.2.2.2.1 (qk_cr M.2.1) p1 p2))) (fun _ => mlW G q M) :=
  lx_readM k (c_X9_ofLine l G (q 0) (q 1) (q 6) (q 41) (q 55) (q 60) (q 95) M.2.2.2.1 (q 7) (q 17) (q 24) (q 29) (q 34) (q 35) (q 36) (q 37) (q 38) (q 39) (q 40) (qk_flg M.2.1) (q 18) (q 19) (q 20) (q 21) (q 22) (q 23) (qk_wdp M.2.1) (qk_wwr M.2.1) (qk_yf M.2.1) (qk_ys M.2.1) (q 2) (q 3) (q 4) (q 5) M.1.2.2.2.2.1 M.1.2.2.2.2.2 M.1.2.1 M.1.2.2.1 M.1.2.2.2.1 (qk_cr M.2.1) p1 p2 hn hX) (ml_pm [0, 6, 17, 18, 19, 1, 3, 4, 5, 34] [2, 7, 8, 9, 10, 11, 12, 13, 14, 15, 16, 20, 21, 22, 23, 24, 25, 26, 27, 28, 29, 30, 31, 32, 33, 35, 36, 37, 38, 39, 40, 41, 42, 43, 44, 45, 46, 47, 48, 49, 50, 51, 52, 53, 54, 55, 56, 57, 58, 59, 60, 61, 62, 63, 64, 65, 66, 67, 68, 69, 70, 71, 72, 73, 74, 75, 76, 77, 78, 79, 80, 81, 82, 83, 84, 85, 86, 87, 88, 89, 90, 91, 92, 93, 94, 95, 96, 97, 98, 99, 100, 101, 102, 103, 104, 105, 106, 107, 108] rfl rfl (mlW_len G q M) (by decide +kernel))

set_option maxHeartbeats 4000000 in
set_option maxRecDepth 100000 in
theorem p_X9_state (l : Launch) (G : sxG) (k : lxC) (q : Nat → Nat) (M : mlS) (p1 : Int32) (p2 : Int32) (hn : M.1.2.2.2.2.2 ≤ 33) (hv : M.1.2.2.2.2.1 ≤ 8) (hX : x_X9_state M.1.2.2.2.2.1 M.1.2.2.2.2.2 M.1.1 p1 p2 = 0) : lxM l yX9_state wdX9_state 3 67 0 0 G k (mlW G q M) [.ref (q 0), .int p1, .int p2] (fun _ : Unit => some (.int (s_X9_state M.1.2.2.2.2.1 M.1.2.2.2.2.2 M.1.1 (qk_cr M.2.1) (qk_ch M.2.1) (qk_cl M.2.1) p1 p2))) (fun _ => mlW G q M) :=
  lx_readM k (c_X9_state l G (q 0) (q 1) (q 6) (q 41) (q 55) (q 60) (q 95) M.2.2.2.1 (q 7) (q 17) (q 24) (q 29) (q 34) (q 35) (q 36) (q 37) (q 38) (q 39) (q 40) (qk_flg M.2.1) (q 2) (q 3) (q 4) (q 5) M.1.2.2.2.2.1 M.1.2.2.2.2.2 M.1.1 (qk_cr M.2.1) (qk_ch M.2.1) (qk_cl M.2.1) p1 p2 hn hv hX) (ml_pm [0, 6, 1, 2, 34, 36, 37] [3, 4, 5, 7, 8, 9, 10, 11, 12, 13, 14, 15, 16, 17, 18, 19, 20, 21, 22, 23, 24, 25, 26, 27, 28, 29, 30, 31, 32, 33, 35, 38, 39, 40, 41, 42, 43, 44, 45, 46, 47, 48, 49, 50, 51, 52, 53, 54, 55, 56, 57, 58, 59, 60, 61, 62, 63, 64, 65, 66, 67, 68, 69, 70, 71, 72, 73, 74, 75, 76, 77, 78, 79, 80, 81, 82, 83, 84, 85, 86, 87, 88, 89, 90, 91, 92, 93, 94, 95, 96, 97, 98, 99, 100, 101, 102, 103, 104, 105, 106, 107, 108] rfl rfl (mlW_len G q M) (by decide +kernel))

set_option maxHeartbeats 4000000 in
set_option maxRecDepth 100000 in
theorem p_X9_holds (l : Launch) (G : sxG) (k : lxC) (q : Nat → Nat) (M : mlS) (p1 : Int32) (p2 : Int32) (hn : M.1.2.2.2.2.2 ≤ 33) (hv : M.1.2.2.2.2.1 ≤ 8) (hX : x_X9_holds M.1.2.2.2.2.1 M.1.2.2.2.2.2 M.1.1 p1 p2 = 0) : lxM l yX9_holds wdX9_holds 2 42 0 0 G k (mlW G q M) [.ref (q 0), .int p1, .int p2] (fun _ : Unit => some (.int (s_X9_holds M.1.2.2.2.2.1 M.1.2.2.2.2.2 M.1.1 (qk_cd M.2.1) p1 p2))) (fun _ => mlW G q M) :=
  lx_readM k (c_X9_holds l G (q 0) (q 1) (q 6) (q 41) (q 55) (q 60) (q 95) M.2.2.2.1 (q 7) (q 17) (q 24) (q 29) (q 34) (q 35) (q 36) (q 37) (q 38) (q 39) (q 40) (qk_flg M.2.1) (q 2) (q 3) (q 4) (q 5) M.1.2.2.2.2.1 M.1.2.2.2.2.2 M.1.1 (qk_cd M.2.1) p1 p2 hn hv hX) (ml_pm [0, 6, 1, 2, 38] [3, 4, 5, 7, 8, 9, 10, 11, 12, 13, 14, 15, 16, 17, 18, 19, 20, 21, 22, 23, 24, 25, 26, 27, 28, 29, 30, 31, 32, 33, 34, 35, 36, 37, 39, 40, 41, 42, 43, 44, 45, 46, 47, 48, 49, 50, 51, 52, 53, 54, 55, 56, 57, 58, 59, 60, 61, 62, 63, 64, 65, 66, 67, 68, 69, 70, 71, 72, 73, 74, 75, 76, 77, 78, 79, 80, 81, 82, 83, 84, 85, 86, 87, 88, 89, 90, 91, 92, 93, 94, 95, 96, 97, 98, 99, 100, 101, 102, 103, 104, 105, 106, 107, 108] rfl rfl (mlW_len G q M) (by decide +kernel))

set_option maxHeartbeats 4000000 in
set_option maxRecDepth 100000 in
theorem p_X9_isWanted (l : Launch) (G : sxG) (k : lxC) (q : Nat → Nat) (M : mlS) (p1 : Int32) (p2 : Int32) (hn : M.1.2.2.2.2.2 ≤ 33) (hv : M.1.2.2.2.2.1 ≤ 8) (hX : x_X9_isWanted M.1.2.2.2.2.1 M.1.2.2.2.2.2 M.1.1 (qk_cn M.2.1) p1 p2 = 0) : lxM l yX9_isWanted wdX9_isWanted 2 42 0 0 G k (mlW G q M) [.ref (q 0), .int p1, .int p2] (fun _ : Unit => some (.int (s_X9_isWanted M.1.2.2.2.2.1 M.1.2.2.2.2.2 M.1.1 (qk_cn M.2.1) p1 p2))) (fun _ => mlW G q M) :=
  lx_readM k (c_X9_isWanted l G (q 0) (q 1) (q 6) (q 41) (q 55) (q 60) (q 95) M.2.2.2.1 (q 7) (q 17) (q 24) (q 29) (q 34) (q 35) (q 36) (q 37) (q 38) (q 39) (q 40) (qk_flg M.2.1) (q 2) (q 3) (q 4) (q 5) M.1.2.2.2.2.1 M.1.2.2.2.2.2 M.1.1 (qk_cn M.2.1) p1 p2 hn hv hX) (ml_pm [0, 6, 1, 2, 40] [3, 4, 5, 7, 8, 9, 10, 11, 12, 13, 14, 15, 16, 17, 18, 19, 20, 21, 22, 23, 24, 25, 26, 27, 28, 29, 30, 31, 32, 33, 34, 35, 36, 37, 38, 39, 41, 42, 43, 44, 45, 46, 47, 48, 49, 50, 51, 52, 53, 54, 55, 56, 57, 58, 59, 60, 61, 62, 63, 64, 65, 66, 67, 68, 69, 70, 71, 72, 73, 74, 75, 76, 77, 78, 79, 80, 81, 82, 83, 84, 85, 86, 87, 88, 89, 90, 91, 92, 93, 94, 95, 96, 97, 98, 99, 100, 101, 102, 103, 104, 105, 106, 107, 108] rfl rfl (mlW_len G q M) (by decide +kernel))

set_option maxHeartbeats 4000000 in
set_option maxRecDepth 100000 in
theorem p_X9_inTheWay (l : Launch) (G : sxG) (k : lxC) (q : Nat → Nat) (M : mlS) (p1 : Int32) (p2 : Int32) (hn : M.1.2.2.2.2.2 ≤ 33) (hv : M.1.2.2.2.2.1 ≤ 8) (hl0 : (qk_lc M.2.1) ≤ 16) (hX : x_X9_inTheWay M.1.2.2.2.2.1 M.1.2.2.2.2.2 M.1.1 p1 p2 = 0) : lxM l yX9_inTheWay wdX9_inTheWay 3 74 0 0 G k (mlW G q M) [.ref (q 0), .int p1, .int p2] (fun _ : Unit => some (.int (s_X9_inTheWay (qk_lc M.2.1) (qk_yp M.2.1) (qk_ye M.2.1) M.1.2.2.2.2.1 M.1.2.2.2.2.2 M.1.1 (qk_cd M.2.1) (qk_cn M.2.1) p1 p2))) (fun _ => mlW G q M) :=
  lx_readM k (c_X9_inTheWay l G (q 0) (q 1) (q 6) (q 41) (q 55) (q 60) (q 95) M.2.2.2.1 (q 7) (q 17) (q 24) (q 29) (q 34) (q 35) (q 36) (q 37) (q 38) (q 39) (q 40) (qk_flg M.2.1) (q 25) (q 26) (q 27) (q 28) (qk_lc M.2.1) (qk_yp M.2.1) (qk_ye M.2.1) (q 2) (q 3) (q 4) (q 5) M.1.2.2.2.2.1 M.1.2.2.2.2.2 M.1.1 (qk_cd M.2.1) (qk_cn M.2.1) p1 p2 hn hv hl0 hX) (ml_pm [0, 6, 24, 26, 27, 1, 2, 38, 40] [3, 4, 5, 7, 8, 9, 10, 11, 12, 13, 14, 15, 16, 17, 18, 19, 20, 21, 22, 23, 25, 28, 29, 30, 31, 32, 33, 34, 35, 36, 37, 39, 41, 42, 43, 44, 45, 46, 47, 48, 49, 50, 51, 52, 53, 54, 55, 56, 57, 58, 59, 60, 61, 62, 63, 64, 65, 66, 67, 68, 69, 70, 71, 72, 73, 74, 75, 76, 77, 78, 79, 80, 81, 82, 83, 84, 85, 86, 87, 88, 89, 90, 91, 92, 93, 94, 95, 96, 97, 98, 99, 100, 101, 102, 103, 104, 105, 106, 107, 108] rfl rfl (mlW_len G q M) (by decide +kernel))

set_option maxHeartbeats 4000000 in
set_option maxRecDepth 100000 in
theorem p_X9_fault (l : Launch) (G : sxG) (k : lxC) (q : Nat → Nat) (M : mlS) (p1 : Int32) (p2 : Int32) (hn : M.1.2.2.2.2.2 ≤ 33) (hv : M.1.2.2.2.2.1 ≤ 8) (hl0 : (qk_lc M.2.1) ≤ 16) (hf : (qk_fc M.2.1) ≤ 34) (hX : x_X9_fault (qk_fc M.2.1) p1 p2 = 0) : lxM l yX9_fault wdX9_fault 3 70 0 0 G k (mlW G q M) [.ref (q 0), .int p1, .int p2] (fun _ : Unit => some (.int (s_X9_fault (qk_dbu M.2.1) (qk_lc M.2.1) (qk_fc M.2.1) (qk_xn M.2.1) (qk_xl M.2.1) (qk_xp M.2.1) (qk_xo M.2.1) M.1.2.2.2.2.1 M.1.2.2.2.2.2 (qk_cd M.2.1) p1 p2))) (fun _ => mlW G q M) :=
  lx_readM k (c_X9_fault l G (q 0) (q 1) (q 6) (q 41) (q 55) (q 60) (q 95) M.2.2.2.1 (q 7) (q 17) (q 24) (q 29) (q 34) (q 35) (q 36) (q 37) (q 38) (q 39) (q 40) (qk_flg M.2.1) (q 8) (q 9) (q 10) (q 11) (q 12) (q 13) (q 14) (q 15) (q 16) (qk_dbu M.2.1) (q 25) (q 26) (q 27) (q 28) (qk_lc M.2.1) (q 30) (q 31) (q 32) (q 33) (qk_fc M.2.1) (qk_xn M.2.1) (qk_xl M.2.1) (qk_xp M.2.1) (qk_xo M.2.1) (q 2) (q 3) (q 4) (q 5) M.1.2.2.2.2.1 M.1.2.2.2.2.2 (qk_cd M.2.1) p1 p2 hn hv hl0 hf hX) (ml_pm [0, 6, 7, 15, 24, 29, 30, 31, 32, 33, 1, 38] [2, 3, 4, 5, 8, 9, 10, 11, 12, 13, 14, 16, 17, 18, 19, 20, 21, 22, 23, 25, 26, 27, 28, 34, 35, 36, 37, 39, 40, 41, 42, 43, 44, 45, 46, 47, 48, 49, 50, 51, 52, 53, 54, 55, 56, 57, 58, 59, 60, 61, 62, 63, 64, 65, 66, 67, 68, 69, 70, 71, 72, 73, 74, 75, 76, 77, 78, 79, 80, 81, 82, 83, 84, 85, 86, 87, 88, 89, 90, 91, 92, 93, 94, 95, 96, 97, 98, 99, 100, 101, 102, 103, 104, 105, 106, 107, 108] rfl rfl (mlW_len G q M) (by decide +kernel))

set_option maxHeartbeats 4000000 in
set_option maxRecDepth 100000 in
theorem p_X9_ofRun (l : Launch) (G : sxG) (k : lxC) (q : Nat → Nat) (M : mlS) (p1 : Int32) (hX : x_X9_ofRun M.2.2.2.1 p1 = 0) : lxM l yX9_ofRun wdX9_ofRun 1 20 0 0 G k (mlW G q M) [.ref (q 0), .int p1] (fun _ : Unit => some (.int (s_X9_ofRun M.2.2.2.1 (qr_yoco M.2.2.1) (qr_ystp M.2.2.1) (qr_ybxm M.2.2.1) (qr_ybxd M.2.2.1) (qr_ypnl M.2.2.1) (qr_ysc M.2.2.1) (qr_ynm M.2.2.1) (qr_yng M.2.2.1) p1))) (fun _ => mlW G q M) :=
  lx_readM k (c_X9_ofRun l G (q 0) (q 1) (q 6) (q 41) (q 55) (q 60) (q 95) M.2.2.2.1 (q 17) (q 42) (q 46) (q 51) (q 52) (q 53) (q 54) (qr_yokd M.2.2.1) (qr_yoct M.2.2.1) (qr_yhre M.2.2.1) (qr_yoco M.2.2.1) (qr_ystp M.2.2.1) (qr_ybxm M.2.2.1) (qr_ybxd M.2.2.1) (qr_ypnl M.2.2.1) (qr_yiab M.2.2.1) (q 43) (q 44) (q 45) (qr_ysc M.2.2.1) (q 47) (q 48) (q 49) (q 50) (qr_ynm M.2.2.1) (qr_yng M.2.2.1) p1 hX) (ml_pm [0, 41, 42, 46] [1, 2, 3, 4, 5, 6, 7, 8, 9, 10, 11, 12, 13, 14, 15, 16, 17, 18, 19, 20, 21, 22, 23, 24, 25, 26, 27, 28, 29, 30, 31, 32, 33, 34, 35, 36, 37, 38, 39, 40, 43, 44, 45, 47, 48, 49, 50, 51, 52, 53, 54, 55, 56, 57, 58, 59, 60, 61, 62, 63, 64, 65, 66, 67, 68, 69, 70, 71, 72, 73, 74, 75, 76, 77, 78, 79, 80, 81, 82, 83, 84, 85, 86, 87, 88, 89, 90, 91, 92, 93, 94, 95, 96, 97, 98, 99, 100, 101, 102, 103, 104, 105, 106, 107, 108] rfl rfl (mlW_len G q M) (by decide +kernel))

set_option maxHeartbeats 4000000 in
set_option maxRecDepth 100000 in
theorem p_X9_told (l : Launch) (G : sxG) (k : lxC) (q : Nat → Nat) (M : mlS) (p1 : Int32) (p2 : Int32) (hX : x_X9_told (qr_ysc M.2.2.1) p1 p2 = 0) : lxM l yX9_told wdX9_told 4 84 0 0 G k (mlW G q M) [.ref (q 0), .int p1, .int p2] (fun _ : Unit => some (.int (s_X9_told (qr_ysc M.2.2.1) (qr_yzs M.2.2.1) (qr_yzn M.2.2.1) (qr_yzl M.2.2.1) p1 p2))) (fun _ => mlW G q M) :=
  lx_readM k (c_X9_told l G (q 0) (q 1) (q 6) (q 41) (q 55) (q 60) (q 95) M.2.2.2.1 (q 17) (q 42) (q 46) (q 51) (q 52) (q 53) (q 54) (qr_yokd M.2.2.1) (qr_yoct M.2.2.1) (qr_yhre M.2.2.1) (qr_yoco M.2.2.1) (qr_ystp M.2.2.1) (qr_ybxm M.2.2.1) (qr_ybxd M.2.2.1) (qr_ypnl M.2.2.1) (qr_yiab M.2.2.1) (q 43) (q 44) (q 45) (qr_ysc M.2.2.1) (qr_yzs M.2.2.1) (qr_yzn M.2.2.1) (qr_yzl M.2.2.1) p1 p2 hX) (ml_pm [0, 41, 42, 43, 44, 45] [1, 2, 3, 4, 5, 6, 7, 8, 9, 10, 11, 12, 13, 14, 15, 16, 17, 18, 19, 20, 21, 22, 23, 24, 25, 26, 27, 28, 29, 30, 31, 32, 33, 34, 35, 36, 37, 38, 39, 40, 46, 47, 48, 49, 50, 51, 52, 53, 54, 55, 56, 57, 58, 59, 60, 61, 62, 63, 64, 65, 66, 67, 68, 69, 70, 71, 72, 73, 74, 75, 76, 77, 78, 79, 80, 81, 82, 83, 84, 85, 86, 87, 88, 89, 90, 91, 92, 93, 94, 95, 96, 97, 98, 99, 100, 101, 102, 103, 104, 105, 106, 107, 108] rfl rfl (mlW_len G q M) (by decide +kernel))

set_option maxHeartbeats 4000000 in
set_option maxRecDepth 100000 in
theorem p_X9_many (l : Launch) (G : sxG) (k : lxC) (q : Nat → Nat) (M : mlS) (p1 : Int32) (hn : M.1.2.2.2.2.2 ≤ 33) (hX : x_X9_many p1 = 0) : lxM l yX9_many wdX9_many 3 64 0 0 G k (mlW G q M) [.ref (q 0), .int p1] (fun _ : Unit => some (.int (s_X9_many (qk_flg M.2.1) (qk_wwr M.2.1) (qk_lc M.2.1) (qk_fc M.2.1) M.1.2.2.2.2.1 M.1.2.2.2.2.2 (qk_cr M.2.1) (qk_cn M.2.1) p1))) (fun _ => mlW G q M) :=
  lx_readM k (c_X9_many l G (q 0) (q 1) (q 6) (q 41) (q 55) (q 60) (q 95) M.2.2.2.1 (q 7) (q 17) (q 24) (q 29) (q 34) (q 35) (q 36) (q 37) (q 38) (q 39) (q 40) (qk_flg M.2.1) (q 18) (q 19) (q 20) (q 21) (q 22) (q 23) (qk_wdp M.2.1) (qk_wwr M.2.1) (q 25) (q 26) (q 27) (q 28) (qk_lc M.2.1) (q 30) (q 31) (q 32) (q 33) (qk_fc M.2.1) (q 2) (q 3) (q 4) (q 5) M.1.2.2.2.2.1 M.1.2.2.2.2.2 (qk_cr M.2.1) (qk_cn M.2.1) p1 hn hX) (ml_pm [0, 6, 17, 24, 29, 1, 34, 40] [2, 3, 4, 5, 7, 8, 9, 10, 11, 12, 13, 14, 15, 16, 18, 19, 20, 21, 22, 23, 25, 26, 27, 28, 30, 31, 32, 33, 35, 36, 37, 38, 39, 41, 42, 43, 44, 45, 46, 47, 48, 49, 50, 51, 52, 53, 54, 55, 56, 57, 58, 59, 60, 61, 62, 63, 64, 65, 66, 67, 68, 69, 70, 71, 72, 73, 74, 75, 76, 77, 78, 79, 80, 81, 82, 83, 84, 85, 86, 87, 88, 89, 90, 91, 92, 93, 94, 95, 96, 97, 98, 99, 100, 101, 102, 103, 104, 105, 106, 107, 108] rfl rfl (mlW_len G q M) (by decide +kernel))

set_option maxHeartbeats 4000000 in
set_option maxRecDepth 100000 in
theorem p_X9_ofVariable (l : Launch) (G : sxG) (k : lxC) (q : Nat → Nat) (M : mlS) (p1 : Int32) (p2 : Int32) (hn : M.1.2.2.2.2.2 ≤ 33) (hv : M.1.2.2.2.2.1 ≤ 8) (hX : x_X9_ofVariable M.1.2.2.2.2.1 p1 p2 = 0) : lxM l yX9_ofVariable wdX9_ofVariable 3 67 0 0 G k (mlW G q M) [.ref (q 0), .int p1, .int p2] (fun _ : Unit => some (.int (s_X9_ofVariable (qk_flg M.2.1) (qk_du M.2.1) (qk_dt M.2.1) (qk_dg M.2.1) M.1.2.2.2.2.1 M.1.2.2.2.2.2 M.1.1 p1 p2))) (fun _ => mlW G q M) :=
  lx_readM k (c_X9_ofVariable l G (q 0) (q 1) (q 6) (q 41) (q 55) (q 60) (q 95) M.2.2.2.1 (q 7) (q 17) (q 24) (q 29) (q 34) (q 35) (q 36) (q 37) (q 38) (q 39) (q 40) (qk_flg M.2.1) (q 8) (q 9) (q 10) (q 11) (q 12) (q 13) (q 14) (q 15) (q 16) (qk_du M.2.1) (qk_dt M.2.1) (qk_dg M.2.1) (q 2) (q 3) (q 4) (q 5) M.1.2.2.2.2.1 M.1.2.2.2.2.2 M.1.1 p1 p2 hn hv hX) (ml_pm [0, 6, 7, 8, 9, 10, 1, 2] [3, 4, 5, 11, 12, 13, 14, 15, 16, 17, 18, 19, 20, 21, 22, 23, 24, 25, 26, 27, 28, 29, 30, 31, 32, 33, 34, 35, 36, 37, 38, 39, 40, 41, 42, 43, 44, 45, 46, 47, 48, 49, 50, 51, 52, 53, 54, 55, 56, 57, 58, 59, 60, 61, 62, 63, 64, 65, 66, 67, 68, 69, 70, 71, 72, 73, 74, 75, 76, 77, 78, 79, 80, 81, 82, 83, 84, 85, 86, 87, 88, 89, 90, 91, 92, 93, 94, 95, 96, 97, 98, 99, 100, 101, 102, 103, 104, 105, 106, 107, 108] rfl rfl (mlW_len G q M) (by decide +kernel))
