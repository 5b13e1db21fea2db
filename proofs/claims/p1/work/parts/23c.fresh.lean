theorem fr_x_variable {v : Int32} (h : s_isIn v 0 5 = 1) : x_X9_variable 0 v = 0 := by
  obtain ⟨h1, h2⟩ := fr_isInT h
  unfold x_X9_variable
  rw [if_neg h1, if_pos h2, if_pos (by decide)]
theorem fr_x_add (fk fs : Nat → Int32) {a b c : Int32} (h : s_X5_fits 0 fk a b c = 1) (n3 : ¬ a = 3) (n4 : ¬ a = 4) : x_X9_add 0 0 fk fs a b c = 0 := by
  unfold x_X9_add
  rw [h, if_neg (by decide), if_pos (by decide)]
  have e1 : s_X5_countLoans 0 fs = 0 := rfl
  have e2 : s_X9_loansOf a = 0 := by
    unfold s_X9_loansOf
    rw [if_neg n3, if_neg n4]
  rw [e1, e2, if_pos (by decide)]
theorem fr_x_ofRun {v : Int32} (h : s_isIn v 0 9 = 1) : x_X9_ofRun 0 v = 0 := by
  obtain ⟨h1, h2⟩ := fr_isInT h
  unfold x_X9_ofRun
  rw [if_neg h1, if_pos h2]
  (repeat' split) <;> rfl
theorem fr_x_many {v : Int32} (h : s_isIn v 0 6 = 1) : x_X9_many v = 0 := by
  obtain ⟨h1, h2⟩ := fr_isInT h
  unfold x_X9_many
  rw [if_neg h1, if_pos h2]
  (repeat' split) <;> rfl
theorem fr_countKept : s_X7_countKept 0 = 0 := by decide

theorem fr_insert (fs fa fb : Nat → Int32) (a b c : Int32) : (s_X5_insertLine 0 fs fa fb (nI 0) a b c).2.2.2 = 1 := by
  unfold s_X5_insertLine
  rw [if_neg (show ¬ s_X5_isLineOrEnd 0 (nI 0) = 0 from by decide), if_pos (show nI 0 < 33 from by decide), sl_X5_insertLine_L24, if_pos (show nI 0 ≤ nI 0 from by decide)]
theorem fr_clearL (br : Nat → Int32) : ∀ (k i : Nat) (bh bv : Nat → Int32), i ≤ 24 → 24 - i < k → ∃ f g, sl_X6_clear_L17 br k i bh bv = (0, 0, 0, f, g, s_J7_fill_53178 34 br 0, 0, 0, 0, 0, 0, (-1), 0) := by
  intro k
  induction k with
  | zero => intro i bh bv _ h; exact absurd h (Nat.not_lt_zero _)
  | succ k ih =>
    intro i bh bv h1 h2
    rw [sl_X6_clear_L17]
    by_cases h : (24 : Int32) ≤ nI i
    · rw [if_pos h]
      exact ⟨bh, bv, rfl⟩
    · rw [if_neg h]
      have h3 : ¬ 24 ≤ i := fun q => h ((nI_leI (a := 24) (b := i) (by omega) (by omega)).mpr q)
      exact ih (i + 1) _ _ (by omega) (by omega)
theorem fr_unwind (okd : Int32) (oct : Nat) (hre bxd pnl iab : Int32) (fk bh bv bo : Nat → Int32) (nm : Nat) (ng : Int32) (vn vc vl : Nat → Int32) (sc : Int32) (zs zn zl : Nat → Int32) : s_X6_unwind okd oct hre bxd pnl iab 0 fk bh bv bo nm ng vn vc vl sc zs zn zl = (bh, bo, okd, oct, vc, ng, zs, zn, zl, sc, bxd, pnl, iab) := by
  unfold s_X6_unwind
  rw [sl_X6_unwind_L10, if_pos (by decide)]
theorem fr_go (okd oco wwr : Int32) (yf ys yop fk fs fa fb bh bv br bo vn vc vl vh zs zn zl : Nat → Int32) : (s_X6_go okd oco wwr yf ys yop 0 0 fk fs fa fb bh bv br bo vn vc vl vh zs zn zl).2.2.2.2.2.2.2.2.2.2.2.2.2.2.2.2.2.1 = 0 := by
  obtain ⟨f, g, hc⟩ := fr_clearL br 25 0 bh bv (by decide) (by decide)
  have hC : s_X6_clear bh bv br = (0, 0, 0, f, g, s_J7_fill_53178 34 br 0, 0, 0, 0, 0, 0, (-1), 0) := hc
  unfold s_X6_go
  rw [hC]
  dsimp only
  rw [sl_X6_go_L4, if_neg (show ¬ (500 : Int32) ≤ nI 0 from by decide), if_pos (fr_isLine 0), if_pos rfl, fr_unwind]
  dsimp only
  rw [if_pos rfl, if_pos rfl]

set_option maxRecDepth 100000 in
theorem fr_variable (du : Nat → Int32) (dt : Nat → Int32) (dg : Nat → Int32) (dul : Nat → Int32) (dtl : Nat → Int32) (dgl : Nat → Int32) (dll : Nat → Int32) (dbu : Nat → Int32) (dbg : Nat → Int32) (yl : Nat → Int32) (yp : Nat → Int32) (ye : Nat → Int32) (yo : Nat → Int32) (yf : Nat → Int32) (ys : Nat → Int32) (yop : Nat → Int32) (yel : Nat → Int32) (yen : Nat → Int32) (yst : Nat → Int32) (xn : Nat → Int32) (xl : Nat → Int32) (xp : Nat → Int32) (xo : Nat → Int32) (fk : Nat → Int32) (fs : Nat → Int32) (fa : Nat → Int32) (fb : Nat → Int32) (cr : Nat → Int32) (cw : Nat → Int32) (ch : Nat → Int32) (cl : Nat → Int32) (cd : Nat → Int32) (cb : Nat → Int32) (cn : Nat → Int32) (p1 : Int32) (h : s_isIn p1 0 5 = 1) : (s_X9_variable du dt dg dul dtl dgl dll dbu dbg yl yp ye yo yf ys yop yel yen yst xn xl xp xo 0 0 fk fs fa fb cr cw ch cl cd cb cn p1).2 = 0 := by
  obtain ⟨h1, h2⟩ := fr_isInT h
  unfold s_X9_variable
  rw [if_neg h1, if_pos h2, if_pos (by decide)]
  rfl

set_option maxRecDepth 100000 in
theorem fr_add (du : Nat → Int32) (dt : Nat → Int32) (dg : Nat → Int32) (dul : Nat → Int32) (dtl : Nat → Int32) (dgl : Nat → Int32) (dll : Nat → Int32) (dbu : Nat → Int32) (dbg : Nat → Int32) (yl : Nat → Int32) (yp : Nat → Int32) (ye : Nat → Int32) (yo : Nat → Int32) (yf : Nat → Int32) (ys : Nat → Int32) (yop : Nat → Int32) (yel : Nat → Int32) (yen : Nat → Int32) (yst : Nat → Int32) (xn : Nat → Int32) (xl : Nat → Int32) (xp : Nat → Int32) (xo : Nat → Int32) (fk : Nat → Int32) (fs : Nat → Int32) (fa : Nat → Int32) (fb : Nat → Int32) (cr : Nat → Int32) (cw : Nat → Int32) (ch : Nat → Int32) (cl : Nat → Int32) (cd : Nat → Int32) (cb : Nat → Int32) (cn : Nat → Int32) (p1 : Int32) (p2 : Int32) (p3 : Int32) (h : s_X5_fits 0 fk p1 p2 p3 = 1) (n3 : ¬ p1 = 3) (n4 : ¬ p1 = 4) : (s_X9_add du dt dg dul dtl dgl dll dbu dbg yl yp ye yo yf ys yop yel yen yst xn xl xp xo 0 0 fk fs fa fb cr cw ch cl cd cb cn p1 p2 p3).2 = 0 := by
  have e1 : s_X5_countLoans 0 fs = 0 := rfl
  have e2 : s_X9_loansOf p1 = 0 := by
    unfold s_X9_loansOf
    rw [if_neg n3, if_neg n4]
  unfold s_X9_add
  rw [h, if_neg (by decide), if_pos (by decide), e1, e2, if_pos (by decide)]
  show nI ((s_X5_insertLine 0 fs fa fb (nI 0) p1 p2 p3).2.2.2) + (-1) = 0
  rw [fr_insert]
  decide

set_option maxRecDepth 100000 in
theorem fr_run (wwr : Int32) (yf : Nat → Int32) (ys : Nat → Int32) (yop : Nat → Int32) (fk : Nat → Int32) (fs : Nat → Int32) (fa : Nat → Int32) (fb : Nat → Int32) (bh : Nat → Int32) (bv : Nat → Int32) (br : Nat → Int32) (bo : Nat → Int32) (vn : Nat → Int32) (vc : Nat → Int32) (vl : Nat → Int32) (vh : Nat → Int32) (zs : Nat → Int32) (zn : Nat → Int32) (zl : Nat → Int32)  : (s_X9_run 0 0 (-1) 0 wwr yf ys yop 0 0 fk fs fa fb bh bv br bo vn vc vl vh zs zn zl).2 = 0 := by
  unfold s_X9_run
  rw [if_pos (by decide)]
  dsimp only
  exact fr_go _ _ _ _ _ _ _ _ _ _ _ _ _ _ _ _ _ _ _ _ _

set_option maxRecDepth 100000 in
theorem fr_ofRun (p1 : Int32)  : (s_X9_ofRun 0 0 0 0 0 (-1) 0 0 0 p1) = 0 := by
  unfold s_X9_ofRun
  (repeat' split) <;> first | rfl | exact absurd rfl (by assumption)

set_option maxRecDepth 100000 in
theorem fr_many (wwr : Int32) (cr : Nat → Int32) (cn : Nat → Int32) (p1 : Int32)  : (s_X9_many 0 wwr 0 0 0 0 cr cn p1) = 0 := by
  unfold s_X9_many
  (repeat' split) <;> rfl
