/-! HOW A RUN ENDS, whatever its rows held -/
def goQ (n : Nat) (fk fs fa fb : Nat → Int32) (T : qk_T) (Z : qr_Y) : Prop := ∃ (okd oco : Int32) (bh bv br bo vn vc vl vh zs zn zl : Nat → Int32), Z = s_X6_go okd oco (-1) (qk_yf T) (qk_ys T) (qk_yop T) 8 n fk fs fa fb bh bv br bo vn vc vl vh zs zn zl
theorem go_one {n : Nat} {fk fs fa fb : Nat → Int32} {T T' : qk_T} {Z Z' : qr_Y} (hn : n ≤ 33) (hl : ql_n fs n ≤ 16) (hL : qk_L 8 n fk fs fa fb T) (hL' : qk_L 8 n fk fs fa fb T') (h0 : qk_fc T = 0) (h : goQ n fk fs fa fb T Z) (h' : goQ n fk fs fa fb T' Z') : qt_Y Z Z' := by
  obtain ⟨a1, a2, a3, a4, a5, a6, a7, a8, a9, a10, a11, a12, a13, rfl⟩ := h
  obtain ⟨b1, b2, b3, b4, b5, b6, b7, b8, b9, b10, b11, b12, b13, rfl⟩ := h'
  obtain ⟨hw, -, -⟩ := ml_good hL h0
  have e := ((qm_same (Nat.le_refl _) hn hl hL hL' (fun j _ => ⟨rfl, rfl, Or.inl rfl⟩)).2.2 hw).1.1
  refine qt_go hn (fun j hj => ?_)
  obtain ⟨-, -, -, -, -, -, -, -, -, e1, e2⟩ := e j hj
  refine ⟨e1, e2, fun h11 => ?_⟩
  obtain ⟨u, r, c1, c2⟩ := ((hL.2.2.1.1 hw).2 j hj).2 h11
  obtain ⟨u', r', d1, d2⟩ := ((hL'.2.2.1.1 hw).2 j hj).2 h11
  rw [c1] at d1
  cases d1
  exact c2.trans d2.symm
/-- what leaks if a line panicked -/
def lkQ (n : Nat) (fk fs fa fb : Nat → Int32) (L : Nat) (c : Int32) : Prop := ∃ T1 : qk_T, qk_L 8 n fk (upd fs L 15) (upd fa L 0) (upd fb L 0) T1 ∧ ((qk_fc T1 = 0 ∧ ∃ Z : qr_Y, goQ n fk (upd fs L 15) (upd fa L 0) (upd fb L 0) T1 Z ∧ c = qr_ybxm Z + nI (qr_ynm Z) - qr_ybxd Z - qr_yng Z) ∨ (¬ qk_fc T1 = 0 ∧ c = -1))
noncomputable def lkN (n : Nat) (fk fs fa fb : Nat → Int32) (L : Nat) : Int32 := Classical.epsilon (lkQ n fk fs fa fb L)
theorem lk_one {n L : Nat} {fk fs fa fb : Nat → Int32} {c d : Int32} (hn : n ≤ 32) (hl : ql_n fs n ≤ 16) (hL : L < n) (h : lkQ n fk fs fa fb L c) (h' : lkQ n fk fs fa fb L d) : c = d := by
  obtain ⟨T, e1, e2⟩ := h
  obtain ⟨T', f1, f2⟩ := h'
  have hl2 := lm_ql (s := 15) hl hL (by decide)
  have hfc : qk_fc T = qk_fc T' := (qm_same (Nat.le_refl _) (by omega) hl2 e1 f1 (fun j _ => ⟨rfl, rfl, Or.inl rfl⟩)).2.1
  rcases e2 with ⟨z, Z, e3, e4⟩ | ⟨z, e4⟩
  · rcases f2 with ⟨y, Z', f3, f4⟩ | ⟨y, f4⟩
    · obtain ⟨-, g1, g2, g3, g4⟩ := go_one (by omega) hl2 e1 f1 z e3 f3
      rw [e4, f4, g1, g2, g3, g4]
    · exact absurd (hfc.symm.trans z) y
  · rcases f2 with ⟨y, Z', f3, f4⟩ | ⟨y, f4⟩
    · exact absurd (hfc.trans y) z
    · exact e4.trans f4.symm
theorem lk_is {n L : Nat} {fk fs fa fb : Nat → Int32} {c : Int32} (hn : n ≤ 32) (hl : ql_n fs n ≤ 16) (hL : L < n) (h : lkQ n fk fs fa fb L c) : c = lkN n fk fs fa fb L := lk_one hn hl hL h (Classical.epsilon_spec ⟨c, h⟩)
/-! a run whose first line panics -/
theorem go_aside {okd kd x : Int32} {oct : Nat} {bh bv bo : Nat → Int32} (h : ∀ i, i < 24 → bh i = 0) : s_X6_setAside okd oct bh bv bo kd x = (bh, bo, okd, oct) := by
  unfold s_X6_setAside
  rcases qt_ix x with a | ⟨a, b⟩ | ⟨i, hi, rfl⟩
  · rw [if_pos a]
  · rw [if_neg a, if_pos b]
  · have a : ¬ nI i < 0 := nI_pos (by omega)
    have b : ¬ (24 : Int32) ≤ nI i := nI_ge (b := 24) hi (by omega)
    rw [if_neg a, if_neg b, qb_cl (by omega), if_pos (h i hi)]
theorem go_drop {okd x : Int32} {pv oct : Nat} {fk bh bv bo : Nat → Int32} (h : ∀ i, i < 24 → bh i = 0) : s_X6_drop okd oct pv fk bh bv bo x = (bh, bo, okd, oct) := by
  unfold s_X6_drop
  split
  · rw [go_aside h, go_aside h]
  · rw [go_aside h]
theorem go_olds {okd hre bxd pnl iab ng sc : Int32} {nm : Nat} {bo vn vc vl zs zn zl : Nat → Int32} : s_X6_dropOlds okd 0 hre bxd pnl iab bo nm ng vn vc vl sc zs zn zl = (vc, ng, zs, zn, zl, sc, bxd, pnl, iab, 0) := by
  unfold s_X6_dropOlds
  rw [sl_X6_dropOlds_L2, if_pos (Int32.le_refl _)]
theorem go_unwind {hre : Int32} {pv nm : Nat} {fk bv vn vl : Nat → Int32} : ∀ (i d : Nat) (bh bo : Nat → Int32) (okd : Int32) (vc zs zn zl : Nat → Int32) (sc pnl iab : Int32), (∀ j, j < 24 → bh j = 0) → (sl_X6_unwind_L10 hre pv fk bv nm vn vl i d bh bo okd 0 vc 0 zs zn zl sc 0 pnl iab).2.2.2.2.2.1 = 0 ∧ (sl_X6_unwind_L10 hre pv fk bv nm vn vl i d bh bo okd 0 vc 0 zs zn zl sc 0 pnl iab).2.2.2.2.2.2.2.2.2.2.1 = 0
  | 0, d, bh, bo, okd, vc, zs, zn, zl, sc, pnl, iab, h => ⟨rfl, rfl⟩
  | i + 1, d, bh, bo, okd, vc, zs, zn, zl, sc, pnl, iab, h => by
    rw [sl_X6_unwind_L10]
    split
    · exact ⟨rfl, rfl⟩
    · split
      · split
        · exact go_unwind i _ _ _ _ _ _ _ _ _ _ _ h
        · rw [go_drop h, go_olds]
          exact go_unwind i _ _ _ _ _ _ _ _ _ _ _ h
      · exact ⟨rfl, rfl⟩
theorem go_fin (n nm stp : Nat) (U : qr_V) (vn vl vh bv br : Nat → Int32) (bxm : Int32) : qr_ynm (qr_fin n U vn vl vh bv br nm stp bxm) = nm ∧ qr_yng (qr_fin n U vn vl vh bv br nm stp bxm) = U.2.2.2.2.2.1 ∧ qr_ybxm (qr_fin n U vn vl vh bv br nm stp bxm) = bxm ∧ qr_ybxd (qr_fin n U vn vl vh bv br nm stp bxm) = U.2.2.2.2.2.2.2.2.2.2.1 := by
  unfold qr_fin
  split
  · split <;> exact ⟨rfl, rfl, rfl, rfl⟩
  · exact ⟨rfl, rfl, rfl, rfl⟩
theorem go_panic {okd iab hre bxm sc : Int32} {pv oct nm : Nat} {fk bh bv bo vn vc vl vh zs zn zl : Nat → Int32} (a b : Int32) : s_X6_doLine okd oct hre bxm (-1) iab pv fk bh bv bo nm vn vc vl vh sc zs zn zl 15 a b = (bh, bv, bo, okd, oct, vn, vc, vl, vh, nm, bxm, zs, zn, zl, sc, hre, iab) := by
  unfold s_X6_doLine
  rw [if_neg (by decide), if_neg (by decide), if_neg (by decide), if_neg (by decide), if_neg (by decide), if_neg (by decide), if_neg (by decide), if_neg (by decide), if_neg (by decide), if_neg (by decide), if_neg (by decide), if_neg (by decide), if_neg (by decide), if_neg (by decide), if_neg (by decide), if_pos rfl]
  unfold s_X6_panic
  rw [if_pos rfl]
theorem go_zero {n : Nat} {fk fs fa fb : Nat → Int32} {T : qk_T} {Z : qr_Y} (h1 : 1 ≤ n) (hn : n ≤ 33) (h15 : fs 0 = 15) (h : goQ n fk fs fa fb T Z) : qr_ybxm Z + nI (qr_ynm Z) - qr_ybxd Z - qr_yng Z = 0 := by
  obtain ⟨okd, oco, bh, bv, br, bo, vn, vc, vl, vh, zs, zn, zl, rfl⟩ := h
  obtain ⟨bh0, bv0, br0, e, h0, -⟩ := qt_clear bh bv br
  unfold s_X6_go
  rw [e]
  dsimp only
  have hD := go_panic (okd := okd) (iab := 0) (hre := nI 0) (bxm := 0) (sc := 0) (pv := 8) (oct := 0) (nm := 0) (fk := fk) (bh := bh0) (bv := bv0) (bo := bo) (vn := vn) (vc := vc) (vl := vl) (vh := vh) (zs := zs) (zn := zn) (zl := zl) (fa 0) (fb 0)
  rw [← h15] at hD
  have h2 := qr_go1 (k := 500) (t := 0) (stp := 0) (n := n) (yf := qk_yf T) (ys := qk_ys T) (yop := qk_yop T) (br := br0) (oco := oco) (by omega) (by omega) (by omega) hD (go_olds (bxd := 0) (ng := 0))
  rw [if_neg (show ¬ nI 0 = -1 by decide)] at h2
  have h3 : ∀ X : qr_Y, sl_X6_go_L4 (-1) (qk_yf T) (qk_ys T) (qk_yop T) 8 n fk fs fa fb (500 + 1) zs zn zl 0 vn vc vl vh 0 0 bh0 bv0 br0 bo okd 0 (nI 0) oco 0 0 0 (-1) 0 = X → qr_ybxm X + nI (qr_ynm X) - qr_ybxd X - qr_yng X = 0 := by
    intro X hX
    rw [← hX, h2, qr_go2 (k := 499) (by omega) (Or.inr (show ¬ nI 0 = -1 by decide))]
    obtain ⟨f1, f2, f3, f4⟩ := go_fin n 0 (0 + 1) (s_X6_unwind okd 0 (nI n) 0 (nI 0) 0 8 fk bh0 bv0 bo 0 0 vn vc vl 0 zs zn zl) vn vl vh bv0 br0 0
    rw [f1, f2, f3, f4]
    obtain ⟨g1, g2⟩ := go_unwind (hre := nI n) (pv := 8) (nm := 0) (fk := fk) (bv := bv0) (vn := vn) (vl := vl) 9 8 bh0 bo okd vc zs zn zl 0 (nI 0) 0 (fun j hj => (h0 j hj).1)
    rw [show (s_X6_unwind okd 0 (nI n) 0 (nI 0) 0 8 fk bh0 bv0 bo 0 0 vn vc vl 0 zs zn zl) = sl_X6_unwind_L10 (nI n) 8 fk bv0 0 vn vl 9 8 bh0 bo okd 0 vc 0 zs zn zl 0 0 (nI 0) 0 from rfl, g1, g2]
    decide
  exact h3 _ rfl
/-- behind a first line that panics nothing comes to be, and nothing leaks -/
theorem lk_zero {n : Nat} {fk fs fa fb : Nat → Int32} {c : Int32} (hG : qz_G n fk fs fa fb) (h : lkQ n fk fs fa fb 0 c) : c = 0 := by
  obtain ⟨T1, hL, h⟩ := h
  have g0 := hG.2.2.2.2.1
  have h1 := hG.2.1
  have hn := hG.2.2.1
  have hw : qw_stk (upd fs 0 15) n = some [] := by
    rw [lm_stk (by rw [g0]; decide) (by decide)]
    exact hG.2.2.2.2.2.2.2.2
  have h15 : upd fs 0 15 0 = 15 := qb_us _ _ _
  have i := (hL.2.2.2.2 hw).2.1 (fun j => j = 0) (fun _ _ => True) (fun _ _ => True) (fun _ _ _ => True) (by
    refine ⟨rfl, fun _ _ => trivial, fun j t hj ht hR hE => ?_⟩
    exfalso
    have hR : j = 0 := hR
    subst hR
    have nx := ((hL.2.2.1.1 hw).2 0 hj).1
    have no : qk_yf T1 0 = -1 ∧ qk_ys T1 0 = -1 := by
      rcases nx with z | z | z | z | z
      · rw [h15] at z; exact absurd z.1 (by decide)
      · rw [h15] at z; exact absurd z.1 (by decide)
      · rw [h15] at z; exact absurd z.1 (by decide)
      · exact z.2
      · exact absurd h15 z.2.2.2.1
    rcases hE with z | z
    · exact absurd (z.symm.trans no.1) (qb_nem1 (by omega))
    · exact absurd (z.symm.trans no.2) (qb_nem1 (by omega)))
  have hfc : qk_fc T1 = 0 := by
    rw [(hL.2.2.2.2 hw).2.2.2.2.1]
    refine qx_n_z fun j hj hb => ?_
    have z : j = 0 := i.1 j (by omega) hb.1
    subst z
    exact qz_bad0 hL hj (by omega) (Or.inr (Or.inr (Or.inr h15))) hb
  rcases h with ⟨-, Z, h2, h3⟩ | ⟨z, -⟩
  · rw [h3]
    exact go_zero h1 (by omega) h15 h2
  · exact absurd hfc z
