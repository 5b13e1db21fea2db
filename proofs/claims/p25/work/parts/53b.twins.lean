/-! TWO RUNS: a line, what was set aside, the next line -/
theorem qt_Rof {nm nm' oct oct' : Nat} {bh bv bo bh' bv' bo' vn vn' vc vl vh vc' vl' vh' zs zn zl zs' zn' zl' : Nat → Int32} {okd okd' bxm bxm' pnl pnl' iab iab' sc sc' : Int32} (h1 : qt_A 24 bh bh') (h2 : qt_A 24 bv bv') (h3 : qt_O okd oct bo okd' oct' bo') (h4 : qt_N nm vc vl vh nm' vc' vl' vh') (h5 : bxm = bxm') (h6 : pnl = pnl') (h7 : iab = iab') :
    qt_R (bh, bv, bo, okd, oct, vn, vc, vl, vh, nm, bxm, zs, zn, zl, sc, pnl, iab) (bh', bv', bo', okd', oct', vn', vc', vl', vh', nm', bxm', zs', zn', zl', sc', pnl', iab') := ⟨h1, h2, h3, h4, h5, h6, h7⟩
section
variable {pv nm nm' oct oct' : Nat} {fk bh bv bo bh' bv' bo' vn vn' vc vl vh vc' vl' vh' zs zn zl zs' zn' zl' : Nat → Int32} {okd okd' hre bxm pnl iab sc sc' : Int32}
theorem qt_move {p q : Int32} (h1 : qt_A 24 bh bh') (h2 : qt_A 24 bv bv') (h3 : qt_O okd oct bo okd' oct' bo') :
    qt_A 24 (s_X6_move okd oct pv fk bh bv bo p q).1 (s_X6_move okd' oct' pv fk bh' bv' bo' p q).1 ∧ qt_A 24 (s_X6_move okd oct pv fk bh bv bo p q).2.1 (s_X6_move okd' oct' pv fk bh' bv' bo' p q).2.1 ∧
    qt_O (s_X6_move okd oct pv fk bh bv bo p q).2.2.2.1 (s_X6_move okd oct pv fk bh bv bo p q).2.2.2.2 (s_X6_move okd oct pv fk bh bv bo p q).2.2.1 (s_X6_move okd' oct' pv fk bh' bv' bo' p q).2.2.2.1 (s_X6_move okd' oct' pv fk bh' bv' bo' p q).2.2.2.2 (s_X6_move okd' oct' pv fk bh' bv' bo' p q).2.2.1 := by
  have e1 := qt_setEmpty (s_X6_firstLeaf pv fk q) h1
  unfold s_X6_move
  rw [qt_valueAt _ h2, qt_valueAt _ h2]
  by_cases c : s_X5_kindAt pv fk q = 2
  · rw [if_pos c, if_pos c]
    exact qt_give (qt_setEmpty (s_X6_firstLeaf pv fk q + 1) e1) h2 h3
  · rw [if_neg c, if_neg c]
    exact qt_give e1 h2 h3
theorem qt_ite2 {c : Prop} [Decidable c] {A B A' B' : qt_D} (h1 : c → qt_R A A') (h2 : ¬ c → qt_R B B') : qt_R (if c then A else B) (if c then A' else B') := by
  by_cases z : c
  · rw [if_pos z, if_pos z]; exact h1 z
  · rw [if_neg z, if_neg z]; exact h2 z
abbrev qt_M : Type := (Nat → Int32) × (Nat → Int32) × (Nat → Int32) × Int32 × Nat × (Nat → Int32) × (Nat → Int32) × (Nat → Int32) × (Nat → Int32) × Nat × Int32
def qt_RM (D D' : qt_M) : Prop := qt_A 24 D.1 D'.1 ∧ qt_A 24 D.2.1 D'.2.1 ∧ qt_O D.2.2.2.1 D.2.2.2.2.1 D.2.2.1 D'.2.2.2.1 D'.2.2.2.2.1 D'.2.2.1 ∧
  qt_N D.2.2.2.2.2.2.2.2.2.1 D.2.2.2.2.2.2.1 D.2.2.2.2.2.2.2.1 D.2.2.2.2.2.2.2.2.1 D'.2.2.2.2.2.2.2.2.2.1 D'.2.2.2.2.2.2.1 D'.2.2.2.2.2.2.2.1 D'.2.2.2.2.2.2.2.2.1 ∧
  D.2.2.2.2.2.2.2.2.2.2 = D'.2.2.2.2.2.2.2.2.2.2
theorem qt_RMof {nm nm' oct oct' : Nat} {bh bv bo bh' bv' bo' vn vn' vc vl vh vc' vl' vh' : Nat → Int32} {okd okd' bxm bxm' : Int32} (h1 : qt_A 24 bh bh') (h2 : qt_A 24 bv bv') (h3 : qt_O okd oct bo okd' oct' bo') (h4 : qt_N nm vc vl vh nm' vc' vl' vh') (h5 : bxm = bxm') :
    qt_RM (bh, bv, bo, okd, oct, vn, vc, vl, vh, nm, bxm) (bh', bv', bo', okd', oct', vn', vc', vl', vh', nm', bxm') := ⟨h1, h2, h3, h4, h5⟩
theorem qt_ite3 {c : Prop} [Decidable c] {A B A' B' : qt_M} (h1 : c → qt_RM A A') (h2 : ¬ c → qt_RM B B') : qt_RM (if c then A else B) (if c then A' else B') := by
  by_cases z : c
  · rw [if_pos z, if_pos z]; exact h1 z
  · rw [if_neg z, if_neg z]; exact h2 z
theorem qt_make {a b : Int32} (h1 : qt_A 24 bh bh') (h2 : qt_A 24 bv bv') (h3 : qt_O okd oct bo okd' oct' bo') (hN : qt_N nm vc vl vh nm vc' vl' vh') :
    qt_RM (s_X6_make okd oct bxm pv fk bh bv bo nm vn vc vl vh a b) (s_X6_make okd' oct' bxm pv fk bh' bv' bo' nm vn' vc' vl' vh' a b) := by
  obtain ⟨m1, m2⟩ := qt_newNode (vn := vn) (vn' := vn') (x := b) hN
  have gv := fun x y : Int32 => qt_give (pv := pv) (fk := fk) (p := a) (x := x) (y := y) h1 h2 h3
  unfold s_X6_make
  rw [m2]
  obtain ⟨g1, g2, g3⟩ := gv b (b + 1)
  obtain ⟨k1, k2, k3⟩ := gv (s_X4_newNode nm vn' vc' vl' vh' b).2 (b + 1)
  refine qt_ite3 (fun _ => qt_ite3 (fun _ => ?_) (fun _ => ?_)) (fun _ => qt_ite3 (fun _ => qt_ite3 (fun _ => ?_) (fun _ => ?_)) (fun _ => qt_ite3 (fun _ => ?_) (fun _ => ?_)))
  · exact qt_RMof k1 k2 k3 m1 rfl
  · exact qt_RMof g1 g2 g3 hN rfl
  · exact qt_RMof k1 k2 k3 m1 rfl
  · exact qt_RMof g1 g2 g3 hN rfl
  · exact qt_RMof k1 k2 k3 m1 rfl
  · exact qt_RMof g1 g2 g3 hN rfl
theorem qt_copy {a b : Int32} (h1 : qt_A 24 bh bh') (h2 : qt_A 24 bv bv') (h3 : qt_O okd oct bo okd' oct' bo') (hm : nm ≤ 500) (n1 : qt_A nm vc vc') :
    qt_A 24 (s_X6_copy okd oct pv fk bh bv bo nm vc a b).1 (s_X6_copy okd' oct' pv fk bh' bv' bo' nm vc' a b).1 ∧ qt_A 24 (s_X6_copy okd oct pv fk bh bv bo nm vc a b).2.1 (s_X6_copy okd' oct' pv fk bh' bv' bo' nm vc' a b).2.1 ∧
    qt_O (s_X6_copy okd oct pv fk bh bv bo nm vc a b).2.2.2.1 (s_X6_copy okd oct pv fk bh bv bo nm vc a b).2.2.2.2.1 (s_X6_copy okd oct pv fk bh bv bo nm vc a b).2.2.1 (s_X6_copy okd' oct' pv fk bh' bv' bo' nm vc' a b).2.2.2.1 (s_X6_copy okd' oct' pv fk bh' bv' bo' nm vc' a b).2.2.2.2.1 (s_X6_copy okd' oct' pv fk bh' bv' bo' nm vc' a b).2.2.1 ∧
    qt_A nm (s_X6_copy okd oct pv fk bh bv bo nm vc a b).2.2.2.2.2 (s_X6_copy okd' oct' pv fk bh' bv' bo' nm vc' a b).2.2.2.2.2 := by
  obtain ⟨g1, g2, g3⟩ := qt_give (pv := pv) (fk := fk) (p := a) (x := s_X6_valueAt bv' b) (y := 0) h1 h2 h3
  unfold s_X6_copy
  rw [qt_valueAt (bv := bv) (bv' := bv') _ h2]
  by_cases k5 : s_X5_kindAt pv fk b = 5
  · rw [if_pos k5, if_pos k5]
    exact ⟨g1, g2, g3, qt_countUp _ hm n1⟩
  · rw [if_neg k5, if_neg k5]
    exact ⟨g1, g2, g3, n1⟩
theorem qt_read {a : Int32} (h2 : qt_A 24 bv bv') (hm : nm ≤ 500) (n3 : qt_A nm vh vh') : (s_X6_read hre pnl iab pv fk bv nm vn vh sc zs zn zl a).2.2.2.2 = (s_X6_read hre pnl iab pv fk bv' nm vn' vh' sc' zs' zn' zl' a).2.2.2.2 := by
  unfold s_X6_read
  rw [qt_valueAt (bv := bv) (bv' := bv') _ h2, qt_isHeld _ hm n3]
  by_cases k5 : s_X5_kindAt pv fk a = 5
  · by_cases k6 : s_X4_isHeldNow nm vh' (s_X6_valueAt bv' a) = 0
    · simp only [if_pos k5, if_pos k6]
    · simp only [if_pos k5, if_neg k6]
  · by_cases k6 : s_X9_isBorrowKind (s_X5_kindAt pv fk a) = 0
    · simp only [if_neg k5, if_pos k6]
    · simp only [if_neg k5, if_neg k6]
theorem qt_write {a b : Int32} (h1 : qt_A 24 bh bh') (h2 : qt_A 24 bv bv') (hm : nm ≤ 500) (n3 : qt_A nm vh vh') :
    qt_A 24 (s_X6_write hre pnl iab pv fk bh bv nm vn vh a b).1 (s_X6_write hre pnl iab pv fk bh' bv' nm vn' vh' a b).1 ∧ qt_A 24 (s_X6_write hre pnl iab pv fk bh bv nm vn vh a b).2.1 (s_X6_write hre pnl iab pv fk bh' bv' nm vn' vh' a b).2.1 ∧
    (s_X6_write hre pnl iab pv fk bh bv nm vn vh a b).2.2.2 = (s_X6_write hre pnl iab pv fk bh' bv' nm vn' vh' a b).2.2.2 := by
  unfold s_X6_write
  rw [qt_valueAt (bv := bv) (bv' := bv') _ h2, qt_isHeld _ hm n3]
  by_cases k5 : s_X5_kindAt pv fk a = 5
  · rw [if_pos k5, if_pos k5]
    by_cases k6 : s_X4_isHeldNow nm vh' (s_X6_valueAt bv' a) = 0
    · rw [if_pos k6, if_pos k6]; exact ⟨h1, h2, rfl⟩
    · rw [if_neg k6, if_neg k6]; exact ⟨h1, h2, rfl⟩
  · rw [if_neg k5, if_neg k5]
    by_cases k6 : s_X9_isBorrowKind (s_X5_kindAt pv fk a) = 0
    · rw [if_pos k6, if_pos k6]
      obtain ⟨w1, w2⟩ := qt_writeNumber (pv := pv) (fk := fk) a b h1 h2
      exact ⟨w1, w2, rfl⟩
    · rw [if_neg k6, if_neg k6]
      obtain ⟨w1, w2⟩ := qt_writeNumber (pv := pv) (fk := fk) (s_X6_valueAt bv' a) b h1 h2
      exact ⟨w1, w2, rfl⟩
theorem qt_link {x y : Int32} (h3 : qt_O okd oct bo okd' oct' bo') (hm : nm ≤ 500) (n1 : qt_A nm vc vc') (n2 : qt_A nm vl vl') :
    qt_O (s_X6_link okd oct bo nm vc vl x y).2.1 (s_X6_link okd oct bo nm vc vl x y).2.2.1 (s_X6_link okd oct bo nm vc vl x y).1 (s_X6_link okd' oct' bo' nm vc' vl' x y).2.1 (s_X6_link okd' oct' bo' nm vc' vl' x y).2.2.1 (s_X6_link okd' oct' bo' nm vc' vl' x y).1 ∧
    qt_A nm (s_X6_link okd oct bo nm vc vl x y).2.2.2.1 (s_X6_link okd' oct' bo' nm vc' vl' x y).2.2.2.1 ∧ qt_A nm (s_X6_link okd oct bo nm vc vl x y).2.2.2.2 (s_X6_link okd' oct' bo' nm vc' vl' x y).2.2.2.2 := by
  obtain ⟨e, o1, o2, o3⟩ := h3
  cases e
  unfold s_X6_link
  rw [qt_linkOf _ hm n2]
  have q1 := qt_countUp y hm n1
  have q2 := qt_setLink x y n2
  by_cases k5 : s_X4_linkOf nm vl' x = -1
  · rw [if_pos k5, if_pos k5]
    exact ⟨⟨rfl, o1, o2, o3⟩, q1, q2⟩
  · rw [if_neg k5, if_neg k5]
    by_cases d : (2 : Int32) ≤ nI oct
    · rw [if_pos d, if_pos d]
      exact ⟨⟨rfl, o1, o2, o3⟩, q1, q2⟩
    · rw [if_neg d, if_neg d]
      refine ⟨⟨rfl, fun i hi => ?_, Or.inl rfl, ?_⟩, q1, q2⟩
      · show upd bo oct _ i = upd bo' oct _ i
        have hi : i < oct + 1 := hi
        rw [qb_up, qb_up]
        by_cases z : i = oct
        · rw [if_pos z, if_pos z]
        · rw [if_neg z, if_neg z]; exact o1 i (by omega)
      · show oct + 1 ≤ 2
        rcases Nat.lt_or_ge oct 2 with z | z
        · omega
        · exact absurd (nI_le (a := 2) z (by omega)) d
theorem qt_hold {x : Int32} (hm : nm ≤ 500) (n3 : qt_A nm vh vh') : qt_A nm (s_X6_hold hre pnl iab nm vh x).1 (s_X6_hold hre pnl iab nm vh' x).1 ∧ (s_X6_hold hre pnl iab nm vh x).2 = (s_X6_hold hre pnl iab nm vh' x).2 := by
  unfold s_X6_hold
  rw [qt_isHeld _ hm n3]
  by_cases k6 : s_X4_isHeldNow nm vh' x = 0
  · rw [if_pos k6, if_pos k6]
    exact ⟨qt_setHeld _ _ n3, rfl⟩
  · rw [if_neg k6, if_neg k6]
    exact ⟨n3, rfl⟩
theorem qt_line {s a b : Int32} (h1 : qt_A 24 bh bh') (h2 : qt_A 24 bv bv') (h3 : qt_O okd oct bo okd' oct' bo') (hN : qt_N nm vc vl vh nm' vc' vl' vh') :
    qt_R (s_X6_doLine okd oct hre bxm pnl iab pv fk bh bv bo nm vn vc vl vh sc zs zn zl s a b) (s_X6_doLine okd' oct' hre bxm pnl iab pv fk bh' bv' bo' nm' vn' vc' vl' vh' sc' zs' zn' zl' s a b) := by
  obtain ⟨e, n1, n2, n3, n4⟩ := hN
  cases e
  have hN : qt_N nm vc vl vh nm vc' vl' vh' := ⟨rfl, n1, n2, n3, n4⟩
  have ev : ∀ p, s_X6_valueAt bv p = s_X6_valueAt bv' p := fun p => qt_valueAt p h2
  unfold s_X6_doLine
  refine qt_ite2 (fun _ => ?_) (fun _ => qt_ite2 (fun _ => ?_) (fun _ => qt_ite2 (fun _ => ?_) (fun _ => qt_ite2 (fun _ => ?_) (fun _ => qt_ite2 (fun _ => ?_) (fun _ => qt_ite2 (fun _ => ?_) (fun _ => qt_ite2 (fun _ => ?_) (fun _ => qt_ite2 (fun _ => ?_) (fun _ => qt_ite2 (fun _ => ?_) (fun _ => qt_ite2 (fun _ => ?_) (fun _ => qt_ite2 (fun _ => ?_) (fun _ => qt_ite2 (fun _ => ?_) (fun _ => qt_ite2 (fun _ => ?_) (fun _ => qt_ite2 (fun _ => ?_) (fun _ => qt_ite2 (fun _ => ?_) (fun _ => qt_ite2 (fun _ => ?_) (fun _ => qt_ite2 (fun _ => ?_) (fun _ => ?_)))))))))))))))))
  · obtain ⟨m1, m2, m3, m4, m5⟩ := qt_make (pv := pv) (fk := fk) (bxm := bxm) (vn := vn) (vn' := vn') (a := a) (b := b) h1 h2 h3 hN
    exact qt_Rof m1 m2 m3 m4 m5 rfl rfl
  · obtain ⟨g1, g2, g3⟩ := qt_move (pv := pv) (fk := fk) (p := a) (q := b) h1 h2 h3
    exact qt_Rof g1 g2 g3 hN rfl rfl rfl
  · obtain ⟨g1, g2, g3, g4⟩ := qt_copy (pv := pv) (fk := fk) (a := a) (b := b) h1 h2 h3 n4 n1
    exact qt_Rof g1 g2 g3 ⟨rfl, g4, n2, n3, n4⟩ rfl rfl rfl
  · obtain ⟨g1, g2, g3⟩ := qt_give (pv := pv) (fk := fk) (p := a) (x := b) (y := 0) h1 h2 h3
    exact qt_Rof g1 g2 g3 hN rfl rfl rfl
  · obtain ⟨g1, g2, g3⟩ := qt_give (pv := pv) (fk := fk) (p := a) (x := b) (y := 0) h1 h2 h3
    exact qt_Rof g1 g2 g3 hN rfl rfl rfl
  · have r := qt_read (pv := pv) (fk := fk) (hre := hre) (pnl := pnl) (iab := iab) (vn := vn) (vn' := vn') (sc := sc) (zs := zs) (zn := zn) (zl := zl) (sc' := sc') (zs' := zs') (zn' := zn') (zl' := zl') (a := a) h2 n4 n3
    exact qt_Rof h1 h2 h3 hN rfl (congrArg Prod.fst r) (congrArg Prod.snd r)
  · obtain ⟨g1, g2, r⟩ := qt_write (pv := pv) (fk := fk) (hre := hre) (pnl := pnl) (iab := iab) (vn := vn) (vn' := vn') (a := a) (b := b) h1 h2 n4 n3
    exact qt_Rof g1 g2 h3 hN rfl (congrArg Prod.fst r) (congrArg Prod.snd r)
  · obtain ⟨g1, g2⟩ := qt_drop (pv := pv) (fk := fk) (p := a) h1 h2 h3
    exact qt_Rof g1 h2 g2 hN rfl rfl rfl
  · exact qt_Rof h1 h2 h3 hN rfl rfl rfl
  · exact qt_Rof h1 h2 h3 hN rfl rfl rfl
  · exact qt_Rof h1 h2 h3 hN rfl rfl rfl
  · exact qt_Rof h1 h2 h3 hN rfl rfl rfl
  · rw [ev, ev]
    obtain ⟨g1, g2, g3⟩ := qt_link (x := s_X6_valueAt bv' a) (y := s_X6_valueAt bv' b) h3 n4 n1 n2
    exact qt_Rof h1 h2 g1 ⟨rfl, g2, g3, n3, n4⟩ rfl rfl rfl
  · rw [ev]
    obtain ⟨g1, r⟩ := qt_hold (hre := hre) (pnl := pnl) (iab := iab) (x := s_X6_valueAt bv' a) n4 n3
    exact qt_Rof h1 h2 h3 ⟨rfl, n1, n2, g1, n4⟩ rfl (congrArg Prod.fst r) (congrArg Prod.snd r)
  · rw [ev]
    exact qt_Rof h1 h2 h3 ⟨rfl, n1, n2, qt_setHeld _ _ n3, n4⟩ rfl rfl rfl
  · exact qt_Rof h1 h2 h3 hN rfl rfl rfl
  · rw [ev]
    obtain ⟨b1, b2⟩ := qt_setValue a (s_X6_valueAt bv' a + b) h1 h2
    exact qt_Rof b1 b2 h3 hN rfl rfl rfl
  · exact qt_Rof h1 h2 h3 hN rfl rfl rfl
theorem qt_letDown_L {hre' : Int32} (hm : nm ≤ 500) (h2 : qt_A nm vl vl') : ∀ (k : Nat) (nx : Int32) (i : Nat) (vc vc' : Nat → Int32) (ng : Int32) (zs zn zl : Nat → Int32) (sc : Int32) (zs' zn' zl' : Nat → Int32) (sc' : Int32), qt_A nm vc vc' →
    qt_A nm (sl_X6_letDown_L4 hre nm vn vl k nx i vc ng zs zn zl sc).1 (sl_X6_letDown_L4 hre' nm vn' vl' k nx i vc' ng zs' zn' zl' sc').1 ∧ (sl_X6_letDown_L4 hre nm vn vl k nx i vc ng zs zn zl sc).2.1 = (sl_X6_letDown_L4 hre' nm vn' vl' k nx i vc' ng zs' zn' zl' sc').2.1
  | 0, nx, i, vc, vc', ng, zs, zn, zl, sc, zs', zn', zl', sc', h => ⟨fun _ _ => rfl, rfl⟩
  | k + 1, nx, i, vc, vc', ng, zs, zn, zl, sc, zs', zn', zl', sc', h => by
    rw [sl_X6_letDown_L4, sl_X6_letDown_L4]
    by_cases q : (500 : Int32) ≤ nI i
    · rw [if_pos q, if_pos q]; exact ⟨h, rfl⟩
    · rw [if_neg q, if_neg q]
      obtain ⟨a1, a2, a3⟩ := qt_isAtEnd (ng := ng) nx hm h
      rw [← a3, ← a2, ← qt_linkOf nx hm h2]
      by_cases c : (s_X4_isAtEnd nm ng vc nx).2 = 0
      · rw [if_pos c, if_pos c]; exact ⟨a1, rfl⟩
      · rw [if_neg c, if_neg c]
        exact qt_letDown_L hm h2 k _ _ _ _ _ _ _ _ _ _ _ _ _ a1
theorem qt_letDown {ng nx hre' : Int32} (hm : nm ≤ 500) (h1 : qt_A nm vc vc') (h2 : qt_A nm vl vl') :
    qt_A nm (s_X6_letDown hre nm ng vn vc vl sc zs zn zl nx).1 (s_X6_letDown hre' nm ng vn' vc' vl' sc' zs' zn' zl' nx).1 ∧ (s_X6_letDown hre nm ng vn vc vl sc zs zn zl nx).2.1 = (s_X6_letDown hre' nm ng vn' vc' vl' sc' zs' zn' zl' nx).2.1 :=
  qt_letDown_L hm h2 501 nx 0 vc vc' ng zs zn zl sc zs' zn' zl' sc' h1
theorem qt_dropBox {bxd p : Int32} : (s_X6_dropBox hre bxd pnl iab sc zs zn zl p).2.2.2.2.1 = (s_X6_dropBox hre bxd pnl iab sc' zs' zn' zl' p).2.2.2.2.1 ∧ (s_X6_dropBox hre bxd pnl iab sc zs zn zl p).2.2.2.2.2.1 = (s_X6_dropBox hre bxd pnl iab sc' zs' zn' zl' p).2.2.2.2.2.1 ∧ (s_X6_dropBox hre bxd pnl iab sc zs zn zl p).2.2.2.2.2.2 = (s_X6_dropBox hre bxd pnl iab sc' zs' zn' zl' p).2.2.2.2.2.2 := by
  by_cases c : 0 ≤ p
  · simp only [s_X6_dropBox, if_pos c]
    exact ⟨trivial, trivial, trivial⟩
  · simp only [s_X6_dropBox, if_neg c]
    exact ⟨trivial, trivial, trivial⟩
abbrev qt_P : Type := (Nat → Int32) × Int32 × (Nat → Int32) × (Nat → Int32) × (Nat → Int32) × Int32 × Int32 × Int32 × Int32 × Nat
def qt_Q (nm : Nat) (O O' : qt_P) : Prop := qt_A nm O.1 O'.1 ∧ O.2.1 = O'.2.1 ∧ O.2.2.2.2.2.2 = O'.2.2.2.2.2.2 ∧ O.2.2.2.2.2.2.2.2.2 = 0
theorem qt_olds_L (hm : nm ≤ 500) (h2 : qt_A nm vl vl') (o1 : qt_A oct bo bo') (o3 : oct ≤ 2) : ∀ (k i : Nat) (vc vc' : Nat → Int32) (ng : Int32) (zs zn zl : Nat → Int32) (sc : Int32) (zs' zn' zl' : Nat → Int32) (sc' bxd pnl iab : Int32), qt_A nm vc vc' → i ≤ 2 → 2 - i < k →
    qt_Q nm (sl_X6_dropOlds_L2 okd oct hre bo nm vn vl k i vc ng zs zn zl sc bxd pnl iab) (sl_X6_dropOlds_L2 okd oct hre bo' nm vn' vl' k i vc' ng zs' zn' zl' sc' bxd pnl iab)
  | 0, i, vc, vc', ng, zs, zn, zl, sc, zs', zn', zl', sc', bxd, pnl, iab, h, hi2, hk => by omega
  | k + 1, i, vc, vc', ng, zs, zn, zl, sc, zs', zn', zl', sc', bxd, pnl, iab, h, hi2, hk => by
    rw [sl_X6_dropOlds_L2, sl_X6_dropOlds_L2]
    by_cases q : nI oct ≤ nI i
    · rw [if_pos q, if_pos q]; exact ⟨h, rfl, rfl, rfl⟩
    · rw [if_neg q, if_neg q]
      by_cases q2 : (2 : Int32) ≤ nI i
      · rw [if_pos q2, if_pos q2]; exact ⟨h, rfl, rfl, rfl⟩
      · rw [if_neg q2, if_neg q2]
        by_cases q3 : iab = 0
        · rw [if_pos q3, if_pos q3]
          have hi : i < oct := by
            rcases Nat.lt_or_ge i oct with z | z
            · exact z
            · exact absurd (nI_le z (by omega)) q
          have hi1 : i < 2 := by omega
          rw [← o1 i hi]
          by_cases q4 : okd = 5
          · rw [if_pos q4, if_pos q4]
            obtain ⟨a1, a2⟩ := qt_letDown (hre := hre) (hre' := hre) (ng := ng) (nx := bo i) (vn := vn) (vn' := vn') (sc := sc) (zs := zs) (zn := zn) (zl := zl) (sc' := sc') (zs' := zs') (zn' := zn') (zl' := zl') hm h h2
            rw [← a2]
            exact qt_olds_L hm h2 o1 o3 k (i + 1) _ _ _ _ _ _ _ _ _ _ _ _ _ _ a1 (by omega) (by omega)
          · rw [if_neg q4, if_neg q4]
            by_cases q5 : s_X9_isOwned okd = 0
            · rw [if_pos q5, if_pos q5]
              exact qt_olds_L hm h2 o1 o3 k (i + 1) _ _ _ _ _ _ _ _ _ _ _ _ _ _ h (by omega) (by omega)
            · rw [if_neg q5, if_neg q5]
              obtain ⟨e1, e2, e3⟩ := qt_dropBox (hre := hre) (pnl := pnl) (iab := iab) (sc := sc) (zs := zs) (zn := zn) (zl := zl) (sc' := sc') (zs' := zs') (zn' := zn') (zl' := zl') (bxd := bxd) (p := bo i)
              rw [← e1, ← e2, ← e3]
              exact qt_olds_L hm h2 o1 o3 k (i + 1) _ _ _ _ _ _ _ _ _ _ _ _ _ _ h (by omega) (by omega)
        · rw [if_neg q3, if_neg q3]; exact ⟨h, rfl, rfl, rfl⟩
theorem qt_olds {bxd ng : Int32} (hN : qt_N nm vc vl vh nm' vc' vl' vh') (ho : qt_O okd oct bo okd' oct' bo') :
    qt_Q nm (s_X6_dropOlds okd oct hre bxd pnl iab bo nm ng vn vc vl sc zs zn zl) (s_X6_dropOlds okd' oct' hre bxd pnl iab bo' nm' ng vn' vc' vl' sc' zs' zn' zl') := by
  obtain ⟨e, n1, n2, n3, n4⟩ := hN
  cases e
  obtain ⟨e, o1, o2, o3⟩ := ho
  cases e
  rcases o2 with o2 | o2
  · cases o2
    exact qt_olds_L n4 n2 o1 o3 3 0 vc vc' ng zs zn zl sc zs' zn' zl' sc' bxd pnl iab n1 (by omega) (by omega)
  · unfold s_X6_dropOlds
    cases o2
    rw [sl_X6_dropOlds_L2, if_pos (show nI 0 ≤ nI 0 by decide), sl_X6_dropOlds_L2, if_pos (show nI 0 ≤ nI 0 by decide)]
    exact ⟨n1, rfl, rfl, rfl⟩
end
/-- the next line, alike -/
theorem qt_behind {pv n t : Nat} {yf ys yop yf' ys' yop' fk fs fa fs' fa' bv bv' br br' : Nat → Int32} (ht : t < n) (hn : n ≤ 33) (h1 : qt_A 24 bv bv') (h2 : qt_A 34 br br') (hf : yf t = yf' t) (hs : ys t = ys' t) (e1 : fs t = fs' t) (e2 : fa t = fa' t) (hS : ∀ j, j < n → fs j = fs' j) (ho : fs t = 11 → yop t = yop' t) :
    qt_A 34 (s_X6_lineBehind (-1) yf ys yop pv n fk fs fa bv br (nI t)).1 (s_X6_lineBehind (-1) yf' ys' yop' pv n fk fs' fa' bv' br' (nI t)).1 ∧ (s_X6_lineBehind (-1) yf ys yop pv n fk fs fa bv br (nI t)).2 = (s_X6_lineBehind (-1) yf' ys' yop' pv n fk fs' fa' bv' br' (nI t)).2 := by
  have so : ∀ x : Int32, s_X5_sortAt n fs x = s_X5_sortAt n fs' x := by
    intro x
    unfold s_X5_sortAt
    by_cases c : s_X5_isLine n x = 0
    · rw [if_pos c, if_pos c]
    · obtain ⟨i, hi, rfl⟩ := qp_isLine_of (by omega) c
      rw [if_neg c, if_neg c, qb_cl (by omega), hS i hi]
  have eA : s_X5_aAt n fa (nI t) = s_X5_aAt n fa' (nI t) := by rw [qp_aAt ht (by omega), qp_aAt ht (by omega), e2]
  have eo : ∀ f : Nat → Int32, s_X8_openerAt n f (nI t) = f t := fun f => by
    unfold s_X8_openerAt
    rw [if_neg (qp_isLine1 ht (by omega)), qb_cl (by omega)]
  unfold s_X6_lineBehind
  rw [so (nI t), qp_sortAt (fs := fs') ht (by omega), eA, qt_numberAt _ h1, qf_first ht (by omega), qf_first ht (by omega), qf_second ht (by omega), qf_second ht (by omega), hf, hs, eo, eo, so (yop t)]
  by_cases c8 : fs' t = 8
  · rw [if_pos c8, if_pos c8]
    by_cases d : s_X6_numberAt pv fk bv' (s_X5_aAt n fa' (nI t)) ≤ 0
    · rw [if_pos d, if_pos d]; exact ⟨h2, rfl⟩
    · rw [if_neg d, if_neg d]; exact ⟨h2, rfl⟩
  · rw [if_neg c8, if_neg c8]
    by_cases c10 : fs' t = 10
    · have c11 : ¬ fs' t = 11 := by rw [c10]; decide
      rw [if_pos c10, if_pos c10]
      by_cases d : s_X9_isIndexOf 34 (nI t) = 0
      · rw [if_pos d, if_pos d, if_neg c11, if_neg c11]; exact ⟨h2, rfl⟩
      · rw [if_neg d, if_neg d, if_neg c11, if_neg c11]; exact ⟨qt_A_u h2, rfl⟩
    · rw [if_neg c10, if_neg c10]
      by_cases c11 : fs' t = 11
      · rw [if_pos c11, if_pos c11, ho (by rw [e1]; exact c11)]
        by_cases d : s_X5_sortAt n fs' (yop' t) = 10
        · rw [if_pos d, if_pos d]
          by_cases f : s_X9_isIndexOf 34 (yop' t) = 0
          · rw [if_pos f, if_pos f]; exact ⟨h2, rfl⟩
          · obtain ⟨k, hk, ek⟩ := qp_ix_of (by omega) f
            rw [if_neg f, if_neg f, ek, qb_cl (by omega), h2 k hk, qb_us, qb_us]
            by_cases g : br' k - 1 ≤ 0
            · rw [if_pos g, if_pos g]; exact ⟨qt_A_u h2, rfl⟩
            · rw [if_neg g, if_neg g]; exact ⟨qt_A_u h2, rfl⟩
        · rw [if_neg d, if_neg d]; exact ⟨h2, rfl⟩
      · rw [if_neg c11, if_neg c11]; exact ⟨h2, rfl⟩
