/-! TWO RUNS: unwinding, the loop, all -/
abbrev qt_V : Type := (Nat → Int32) × (Nat → Int32) × Int32 × Nat × (Nat → Int32) × Int32 × (Nat → Int32) × (Nat → Int32) × (Nat → Int32) × Int32 × Int32 × Int32 × Int32
def qt_W (U U' : qt_V) : Prop := U.2.2.2.2.2.1 = U'.2.2.2.2.2.1 ∧ U.2.2.2.2.2.2.2.2.2.2 = U'.2.2.2.2.2.2.2.2.2.2
theorem qt_Wof {oct oct' : Nat} {bh bo vc bh' bo' vc' zs zn zl zs' zn' zl' : Nat → Int32} {okd okd' ng ng' sc sc' : Int32} {r r' : Int32 × Int32 × Int32} (h1 : ng = ng') (h2 : r = r') : qt_W (bh, bo, okd, oct, vc, ng, zs, zn, zl, sc, r) (bh', bo', okd', oct', vc', ng', zs', zn', zl', sc', r') := ⟨h1, h2⟩
section
variable {pv nm : Nat} {fk bv bv' vn vn' vl vl' : Nat → Int32} {hre : Int32}
theorem qt_unwind_L (hm : nm ≤ 500) (h2 : qt_A 24 bv bv') (hl : qt_A nm vl vl') : ∀ (k dd : Nat) (bh bo bh' bo' : Nat → Int32) (okd okd' : Int32) (oct oct' : Nat) (vc vc' : Nat → Int32) (ng : Int32) (zs zn zl : Nat → Int32) (sc : Int32) (zs' zn' zl' : Nat → Int32) (sc' bxd pnl iab : Int32),
    qt_A 24 bh bh' → qt_O okd oct bo okd' oct' bo' → qt_A nm vc vc' →
    qt_W (sl_X6_unwind_L10 hre pv fk bv nm vn vl k dd bh bo okd oct vc ng zs zn zl sc bxd pnl iab) (sl_X6_unwind_L10 hre pv fk bv' nm vn' vl' k dd bh' bo' okd' oct' vc' ng zs' zn' zl' sc' bxd pnl iab)
  | 0, dd, bh, bo, bh', bo', okd, okd', oct, oct', vc, vc', ng, zs, zn, zl, sc, zs', zn', zl', sc', bxd, pnl, iab, h1, h3, h4 => ⟨rfl, rfl⟩
  | k + 1, dd, bh, bo, bh', bo', okd, okd', oct, oct', vc, vc', ng, zs, zn, zl, sc, zs', zn', zl', sc', bxd, pnl, iab, h1, h3, h4 => by
    rw [sl_X6_unwind_L10, sl_X6_unwind_L10]
    by_cases q1 : nI dd + (-1) < 0
    · rw [if_pos q1, if_pos q1]; exact qt_Wof rfl rfl
    · rw [if_neg q1, if_neg q1]
      by_cases q2 : iab = 0
      · rw [if_pos q2, if_pos q2]
        by_cases q3 : s_X9_isOwned (s_X5_kindAt pv fk (nI (3 * (dd - 1)))) = 0
        · rw [if_pos q3, if_pos q3]
          exact qt_unwind_L hm h2 hl k _ _ _ _ _ _ _ _ _ _ _ _ _ _ _ _ _ _ _ _ _ _ _ h1 h3 h4
        · rw [if_neg q3, if_neg q3]
          obtain ⟨a1, a2⟩ := qt_drop (pv := pv) (fk := fk) (p := nI (3 * (dd - 1))) h1 h2 h3
          obtain ⟨b1, b2, b3, b4⟩ := qt_olds (hre := hre) (bxd := bxd) (pnl := pnl) (iab := iab) (ng := ng) (vn := vn) (vn' := vn') (vh := vl) (vh' := vl') (sc := sc) (zs := zs) (zn := zn) (zl := zl) (sc' := sc') (zs' := zs') (zn' := zn') (zl' := zl') ⟨rfl, h4, hl, hl, hm⟩ a2
          rw [b4, ← b2, (congrArg (fun z => z.2.2.2) b3).symm.trans b4, ← congrArg Prod.fst b3, ← congrArg (fun z => z.2.1) b3, ← congrArg (fun z => z.2.2.1) b3]
          exact qt_unwind_L hm h2 hl k _ _ _ _ _ _ _ _ _ _ _ _ _ _ _ _ _ _ _ _ _ _ _ a1 ⟨rfl, fun i hi => absurd hi (Nat.not_lt_zero i), Or.inr rfl, Nat.zero_le 2⟩ b1
      · rw [if_neg q2, if_neg q2]; exact qt_Wof rfl rfl
end
/-- two runs' ends -/
def qt_Y (Z Z' : qr_Y) : Prop := qr_yoco Z = qr_yoco Z' ∧ qr_ynm Z = qr_ynm Z' ∧ qr_yng Z = qr_yng Z' ∧ qr_ybxm Z = qr_ybxm Z' ∧ qr_ybxd Z = qr_ybxd Z'
theorem qt_Yof {nm nm' oct oct' stp stp' : Nat} {zs zn zl vn vc vl vh bh bv br bo zs' zn' zl' vn' vc' vl' vh' bh' bv' br' bo' : Nat → Int32} {sc ng okd hre oco bxm bxd pnl iab sc' ng' okd' hre' oco' bxm' bxd' pnl' iab' : Int32} (h1 : oco = oco') (h2 : nm = nm') (h3 : ng = ng') (h4 : bxm = bxm') (h5 : bxd = bxd') :
    qt_Y (zs, zn, zl, sc, vn, vc, vl, vh, nm, ng, bh, bv, br, bo, okd, oct, hre, oco, stp, bxm, bxd, pnl, iab) (zs', zn', zl', sc', vn', vc', vl', vh', nm', ng', bh', bv', br', bo', okd', oct', hre', oco', stp', bxm', bxd', pnl', iab') := ⟨h1, h2, h3, h4, h5⟩
theorem qt_fin {n nm stp : Nat} {U U' : qr_V} {vn vl vh bv br vn' vl' vh' bv' br' : Nat → Int32} {bxm : Int32} (h : qt_W U U') : qt_Y (qr_fin n U vn vl vh bv br nm stp bxm) (qr_fin n U' vn' vl' vh' bv' br' nm stp bxm) := by
  obtain ⟨e1, e2⟩ := h
  have e3 := congrArg Prod.fst e2
  have e4 := congrArg (fun z => z.2.1) e2
  have e5 := congrArg (fun z => z.2.2) e2
  unfold qr_fin
  by_cases a : U.2.2.2.2.2.2.2.2.2.2.2.2 = 0
  · have a2 : U'.2.2.2.2.2.2.2.2.2.2.2.2 = 0 := e5.symm.trans a
    rw [if_pos a, if_pos a2]
    by_cases b : U.2.2.2.2.2.2.2.2.2.2.2.1 = -1
    · have b2 : U'.2.2.2.2.2.2.2.2.2.2.2.1 = -1 := e4.symm.trans b
      rw [if_pos b, if_pos b2]
      exact qt_Yof rfl rfl e1 rfl e3
    · have b2 : ¬ U'.2.2.2.2.2.2.2.2.2.2.2.1 = -1 := fun z => b (e4.trans z)
      rw [if_neg b, if_neg b2]
      exact qt_Yof rfl rfl e1 rfl e3
  · have a2 : ¬ U'.2.2.2.2.2.2.2.2.2.2.2.2 = 0 := fun z => a (e5.trans z)
    rw [if_neg a, if_neg a2]
    exact qt_Yof rfl rfl e1 rfl e3
section
variable {pv n : Nat} {fk fs fa fb yf ys yop yf' ys' yop' : Nat → Int32}
theorem qt_loop (hn : n ≤ 33) (hf : ∀ j, j < n → yf j = yf' j ∧ ys j = ys' j ∧ (fs j = 11 → yop j = yop' j)) : ∀ (k stp nm : Nat) (zs zn zl vn vc vl vh bh bv br bo zs' zn' zl' vn' vc' vl' vh' bh' bv' br' bo' : Nat → Int32) (sc sc' ng okd okd' oco oco' bxm bxd pnl iab hre : Int32) (oct oct' nm' : Nat), stp ≤ 500 → 500 - stp < k →
    qt_A 24 bh bh' → qt_A 24 bv bv' → qt_A 34 br br' → qt_O okd oct bo okd' oct' bo' → qt_N nm vc vl vh nm' vc' vl' vh' →
    qt_Y (sl_X6_go_L4 (-1) yf ys yop pv n fk fs fa fb k zs zn zl sc vn vc vl vh nm ng bh bv br bo okd oct hre oco stp bxm bxd pnl iab) (sl_X6_go_L4 (-1) yf' ys' yop' pv n fk fs fa fb k zs' zn' zl' sc' vn' vc' vl' vh' nm' ng bh' bv' br' bo' okd' oct' hre oco' stp bxm bxd pnl iab)
  | 0, stp, nm, zs, zn, zl, vn, vc, vl, vh, bh, bv, br, bo, zs', zn', zl', vn', vc', vl', vh', bh', bv', br', bo', sc, sc', ng, okd, okd', oco, oco', bxm, bxd, pnl, iab, hre, oct, oct', nm', hs, hk, h1, h2, hr, h3, h4 => by omega
  | k + 1, stp, nm, zs, zn, zl, vn, vc, vl, vh, bh, bv, br, bo, zs', zn', zl', vn', vc', vl', vh', bh', bv', br', bo', sc, sc', ng, okd, okd', oco, oco', bxm, bxd, pnl, iab, hre, oct, oct', nm', hs, hk, h1, h2, hr, h3, h4 => by
    obtain ⟨e4, n1, n2, n3, n4⟩ := id h4
    by_cases c1 : s_X5_isLine n hre = 0 ∨ ¬ pnl = -1
    · rw [qr_go2 hs c1, qr_go2 hs c1, ← e4]
      exact qt_fin (qt_unwind_L n4 h2 n2 9 pv bh bo bh' bo' okd okd' oct oct' vc vc' ng zs zn zl sc zs' zn' zl' sc' bxd pnl iab h1 h3 n1)
    · have c2 : ¬ s_X5_isLine n hre = 0 := fun z => c1 (Or.inl z)
      have c3 : pnl = -1 := Classical.byContradiction fun z => c1 (Or.inr z)
      by_cases c4 : stp < 500
      · obtain ⟨t, ht, et⟩ := qp_isLine_of (by omega) c2
        rw [c3, et]
        have hD := qt_line (pv := pv) (fk := fk) (hre := nI t) (bxm := bxm) (pnl := -1) (iab := iab) (s := fs t) (a := fa t) (b := fb t) (vn := vn) (vn' := vn') (sc := sc) (zs := zs) (zn := zn) (zl := zl) (sc' := sc') (zs' := zs') (zn' := zn') (zl' := zl') h1 h2 h3 h4
        generalize eD : s_X6_doLine okd oct (nI t) bxm (-1) iab pv fk bh bv bo nm vn vc vl vh sc zs zn zl (fs t) (fa t) (fb t) = D at hD
        generalize eD' : s_X6_doLine okd' oct' (nI t) bxm (-1) iab pv fk bh' bv' bo' nm' vn' vc' vl' vh' sc' zs' zn' zl' (fs t) (fa t) (fb t) = D' at hD
        obtain ⟨dbh, dbv, dbo, dokd, doct, dvn, dvc, dvl, dvh, dnm, dbxm, dzs, dzn, dzl, dsc, dpnl, diab⟩ := D
        obtain ⟨dbh', dbv', dbo', dokd', doct', dvn', dvc', dvl', dvh', dnm', dbxm', dzs', dzn', dzl', dsc', dpnl', diab'⟩ := D'
        obtain ⟨d1, d2, d3, d4, d5, d6, d7⟩ := hD
        dsimp only at d1 d2 d3 d4 d5 d6 d7
        have hO := qt_olds (hre := nI t) (bxd := bxd) (pnl := dpnl) (iab := diab) (ng := ng) (vn := dvn) (vn' := dvn') (sc := dsc) (zs := dzs) (zn := dzn) (zl := dzl) (sc' := dsc') (zs' := dzs') (zn' := dzn') (zl' := dzl') d4 d3
        generalize eO : s_X6_dropOlds dokd doct (nI t) bxd dpnl diab dbo dnm ng dvn dvc dvl dsc dzs dzn dzl = Q at hO
        generalize eO' : s_X6_dropOlds dokd' doct' (nI t) bxd dpnl diab dbo' dnm' ng dvn' dvc' dvl' dsc' dzs' dzn' dzl' = Q' at hO
        rw [d6, d7] at eO'
        obtain ⟨qvc, qng, qzs, qzn, qzl, qsc, qbxd, qpnl, qiab, qoct⟩ := Q
        obtain ⟨qvc', qng', qzs', qzn', qzl', qsc', qbxd', qpnl', qiab', qoct'⟩ := Q'
        obtain ⟨q1, q2, q3, q4⟩ := hO
        dsimp only at q1 q2 q3 q4
        rw [qr_go1 c4 ht (by omega) eD eO, qr_go1 c4 ht (by omega) eD' eO']
        cases q2
        cases q3
        cases q4
        cases d5
        obtain ⟨f1, f2, f3⟩ := hf t ht
        obtain ⟨b1, b2⟩ := qt_behind (pv := pv) (fk := fk) (yf := yf) (ys := ys) (yop := yop) (yf' := yf') (ys' := ys') (yop' := yop') ht hn d2 hr f1 f2 rfl rfl (fun _ _ => rfl) f3
        obtain ⟨e6, m1, m2, m3, m4⟩ := d4
        have ho : qt_O dokd 0 dbo dokd' 0 dbo' := ⟨rfl, fun i hi => absurd hi (Nat.not_lt_zero i), Or.inr rfl, Nat.zero_le 2⟩
        by_cases c5 : qpnl = -1
        · rw [if_pos c5, if_pos c5, ← b2]
          exact qt_loop hn hf k (stp + 1) _ _ _ _ _ _ _ _ _ _ _ _ _ _ _ _ _ _ _ _ _ _ _ _ _ _ _ _ _ _ _ _ _ _ _ _ _ _ (by omega) (by omega) d1 d2 b1 ho ⟨e6, q1, m2, m3, m4⟩
        · rw [if_neg c5, if_neg c5]
          exact qt_loop hn hf k (stp + 1) _ _ _ _ _ _ _ _ _ _ _ _ _ _ _ _ _ _ _ _ _ _ _ _ _ _ _ _ _ _ _ _ _ _ _ _ _ _ (by omega) (by omega) d1 d2 hr ho ⟨e6, q1, m2, m3, m4⟩
      · rw [c3, qr_go3 (show stp = 500 by omega) c2, qr_go3 (show stp = 500 by omega) c2]
        exact qt_Yof rfl e4 rfl rfl rfl
theorem qt_clear (bh bv br : Nat → Int32) : ∃ bh0 bv0 br0 : Nat → Int32, s_X6_clear bh bv br = (0, 0, 0, bh0, bv0, br0, 0, 0, 0, 0, 0, -1, 0) ∧ (∀ i, i < 24 → bh0 i = 0 ∧ bv0 i = 0) ∧ (∀ i, i < 34 → br0 i = 0) := by
  have go : ∀ (k i : Nat) (bh bv : Nat → Int32), i ≤ 24 → 24 - i < k → (∀ j, j < i → bh j = 0 ∧ bv j = 0) → ∃ bh0 bv0 br0 : Nat → Int32, sl_X6_clear_L17 br k i bh bv = (0, 0, 0, bh0, bv0, br0, 0, 0, 0, 0, 0, -1, 0) ∧ (∀ i, i < 24 → bh0 i = 0 ∧ bv0 i = 0) ∧ (∀ i, i < 34 → br0 i = 0) := by
    intro k
    induction k with
    | zero => intro i bh bv a b; omega
    | succ k ih =>
      intro i bh bv a b h
      rw [sl_X6_clear_L17]
      by_cases q : 24 ≤ i
      · rw [if_pos (show (24 : Int32) ≤ nI i from nI_le (a := 24) q (by omega))]
        exact ⟨_, _, _, rfl, fun j hj => h j (by omega), fun j hj => qw_filled (by omega) _ _ hj⟩
      · rw [if_neg (show ¬ (24 : Int32) ≤ nI i from nI_ge (b := 24) (by omega) (by omega))]
        refine ih (i + 1) _ _ (by omega) (by omega) fun j hj => ?_
        by_cases z : j = i
        · rw [z, qb_us, qb_us]; exact ⟨rfl, rfl⟩
        · rw [qb_un z, qb_un z]; exact h j (by omega)
  exact go 25 0 bh bv (Nat.zero_le _) (by omega) fun j hj => by omega
/-- TWO RUNS of one program end alike -/
theorem qt_go {okd okd' oco oco' : Int32} {bh bv br bo vn vc vl vh zs zn zl bh' bv' br' bo' vn' vc' vl' vh' zs' zn' zl' : Nat → Int32} (hn : n ≤ 33) (hf : ∀ j, j < n → yf j = yf' j ∧ ys j = ys' j ∧ (fs j = 11 → yop j = yop' j)) :
    qt_Y (s_X6_go okd oco (-1) yf ys yop pv n fk fs fa fb bh bv br bo vn vc vl vh zs zn zl) (s_X6_go okd' oco' (-1) yf' ys' yop' pv n fk fs fa fb bh' bv' br' bo' vn' vc' vl' vh' zs' zn' zl') := by
  obtain ⟨a1, a2, a3, e, h0, h1⟩ := qt_clear bh bv br
  obtain ⟨b1, b2, b3, e', k0, k1⟩ := qt_clear bh' bv' br'
  unfold s_X6_go
  rw [e, e']
  dsimp only
  exact qt_loop hn hf 501 0 0 _ _ _ _ _ _ _ _ _ _ _ _ _ _ _ _ _ _ _ _ _ _ _ _ _ _ _ _ _ _ _ _ _ _ _ _ _ (by omega) (by omega) (fun i hi => (h0 i hi).1.trans (k0 i hi).1.symm) (fun i hi => (h0 i hi).2.trans (k0 i hi).2.symm) (fun i hi => (h1 i hi).trans (k1 i hi).symm)
    ⟨rfl, fun i hi => absurd hi (Nat.not_lt_zero i), Or.inr rfl, Nat.zero_le 2⟩ ⟨rfl, fun i hi => absurd hi (Nat.not_lt_zero i), fun i hi => absurd hi (Nat.not_lt_zero i), fun i hi => absurd hi (Nat.not_lt_zero i), Nat.zero_le 500⟩
end
