/-! A RUN: a line, sort by sort -/
section
variable {pv : Nat} {fk : Nat → Int32}
theorem qr_pan (hre : Int32) : s_X6_panic hre (-1) 0 = (hre, 0) := by
  unfold s_X6_panic
  rw [if_pos rfl]
theorem qr_Egive {s a b hre ng bxm okd okd' sc x y : Int32} {bh bv bo bh' bv' bo' vc vl vc' vl' zs : Nat → Int32} {nm nm' K d R k oct' : Nat} (hK : qp_K pv fk) (hp : pv ≤ 8) (hk : k < 24) (c1 : ¬ qp_kd pv fk k = -1) (hg : qd_g s a = nI k) (hl : qd_l s a b = -1)
    (h1 : ∀ i, bh' i = if qb_t (qr_lv pv fk k) i = true then 1 else bh i) (h2 : ∀ i, bv' i = qr_gv pv fk bv k x y i) (h3 : qr_old pv fk bh bv k bo' okd' oct')
    (hx : ∀ v, v < pv → (fk v = 3 ∨ fk v = 4) → k = 3 * v → x = if s = 3 ∨ s = 4 then b else s_X6_valueAt bv b)
    (hN : qr_N pv fk nm' ng vc' vl' bh' bv' (fun m => if okd' = 5 ∧ ¬ oct' = 0 ∧ bo' 0 = nI m then 1 else 0) (K + 1)) (hn1 : nm ≤ nm') (hn2 : nm' ≤ nm + 1) (hT : qr_T sc zs d (qr_dead nm' vc') (R + 1)) (h15 : ¬ s = 15) :
    qr_E pv fk s a b hre bh bv nm ng K bxm d R bh' bv' bo' okd' oct' vc' vl' nm' (bxm + nI (if qp_kd pv fk k = 2 then 2 else (if qp_kd pv fk k = 1 then 1 else 0))) zs sc (-1) 0 := by
  obtain ⟨g1, g2, g3, g4, g5, -, -⟩ := qr_gives hK hp hk c1 h1 h2 h3
  refine ⟨fun i hi => ?_, fun v hv hb => ?_, ⟨_, ?_, rfl, g3⟩, hN, hn1, hn2, hT, rfl, Or.inl rfl, fun z => absurd z h15, g4, g5⟩
  · rw [hg, hl, qp_leaves_m1, qb_0, g1 i]
    exact ⟨fun h => h.elim (fun z => Or.inl ⟨z, rfl⟩) Or.inr, fun h => h.elim (fun z => Or.inl z.1) Or.inr⟩
  · rw [g2 v hv hb, hg]
    by_cases z : k = 3 * v
    · rw [if_pos z, if_pos (by rw [z]), hx v hv hb z]
    · rw [if_neg z, if_neg fun w => z ((nI_eq (by omega) (by omega)).mp w)]
  · split
    · omega
    · split <;> omega
theorem qr_val {k : Nat} {bv : Nat → Int32} {p : Int32} (e : p = nI k) (h : k < 24) : s_X6_valueAt bv p = bv k := by rw [e]; exact qr_valueAt h
theorem qr_doLine {s a b hre ng bxm okd sc : Int32} {bh bv bo vn vc vl vh zs zn zl : Nat → Int32} {nm K d R : Nat} (hK : qp_K pv fk) (hp : pv ≤ 8) (hF : qp_F pv fk s a b) (hm : nm < 500) (hK2 : K < 2 ^ 29) (hb : d + 500 + R < 2 ^ 19)
    (hN : qr_N pv fk nm ng vc vl bh bv (fun _ => 0) K) (hT : qr_T sc zs d (qr_dead nm vc) R)
    (hU : ∀ i, qb_t (s_X5_leavesOf pv fk (qd_u s a b)) i = true → ¬ bh i = 0) (hU2 : ∀ i, qb_t (s_X5_leavesOf pv fk (qd_t s b)) i = true → ¬ bh i = 0)
    (hA : s = 6 → s_X5_kindAt pv fk a = 4 → ∃ p, p < 24 ∧ s_X6_valueAt bv a = nI p ∧ (qp_kd pv fk p = 0 ∨ qp_kd pv fk p = 1 ∨ qp_kd pv fk p = 2) ∧ ∀ i, qb_t (qr_lv pv fk p) i = true → ¬ bh i = 0) :
    ∃ (bh' bv' bo' : Nat → Int32) (okd' : Int32) (oct' : Nat) (vn' vc' vl' vh' : Nat → Int32) (nm' : Nat) (bxm' : Int32) (zs' zn' zl' : Nat → Int32) (sc' pnl' iab' : Int32),
      s_X6_doLine okd 0 hre bxm (-1) 0 pv fk bh bv bo nm vn vc vl vh sc zs zn zl s a b = (bh', bv', bo', okd', oct', vn', vc', vl', vh', nm', bxm', zs', zn', zl', sc', pnl', iab') ∧
      qr_E pv fk s a b hre bh bv nm ng K bxm d R bh' bv' bo' okd' oct' vc' vl' nm' bxm' zs' sc' pnl' iab' := by
  have hT1 : qr_T sc zs d (qr_dead nm vc) (R + 1) := qr_T_w hT (by omega)
  have bd := qr_dead_le nm vc
  have e0 : ∀ k : Nat, ¬ (qp_kd pv fk k = 1 ∨ qp_kd pv fk k = 2) → bxm + nI (if qp_kd pv fk k = 2 then 2 else (if qp_kd pv fk k = 1 then 1 else 0)) = bxm := by
    intro k h
    rw [if_neg fun z => h (Or.inr z), if_neg fun z => h (Or.inl z), nI_0, Int32.add_zero]
  -- a counted place that is used: its node
  have nod : ∀ p : Int32, s_X5_kindAt pv fk p = 5 → (∀ i, qb_t (s_X5_leavesOf pv fk p) i = true → ¬ bh i = 0) → ∃ k j : Nat, k < 24 ∧ p = nI k ∧ qp_kd pv fk k = 5 ∧ ¬ bh k = 0 ∧ j < nm ∧ bv k = nI j ∧ ¬ vc j = 0 := by
    intro p c hh
    obtain ⟨k, k1, k2, k3⟩ := qp_kind_of (fk := fk) (x := p) hp (by rw [c]; decide)
    rw [k3] at c
    have hk : ¬ bh k = 0 := hh k (by rw [k2]; exact (qr_lv1 hp (by omega) (by rw [c]; decide) (by rw [c]; decide)).mpr rfl)
    obtain ⟨j, j1, j2⟩ := hN.2.1 k (by omega) c hk
    exact ⟨k, j, by omega, k2, c, hk, j1, j2, qr_alive hN (by omega) (by omega) c hk j2 j1⟩
  rcases qp_fit hF with ⟨s0, f1, f2⟩ | ⟨s0, f1, f2⟩ | ⟨s0, f1, f2⟩ | ⟨s0, f1, f2⟩ | ⟨s0, f1, f2⟩ | ⟨s0, f⟩ | ⟨s0, f1, f2, f3⟩ | ⟨s0, f⟩ | ⟨s0, f⟩ | ⟨s0, f⟩ | ⟨s0, f1, f2⟩ | ⟨s0, f⟩ | ⟨s0, f1, f2⟩ | ⟨s0, f⟩ | ⟨s0, f⟩ | ⟨s0, f⟩ | ⟨s0, f⟩
  · -- MAKE
    subst s0
    obtain ⟨k, k1, rfl, k3⟩ := qp_kind_of (fk := fk) (x := a) hp f1
    have hk : k < 24 := by omega
    rw [k3] at f1 f2
    by_cases c5 : qp_kd pv fk k = 5
    · have en : s_X4_newNode nm vn vc vl vh b = ((upd vn nm b, upd vc nm 1, upd vl nm (-1), upd vh nm 0, nm + 1), nI nm) := by
        unfold s_X4_newNode
        rw [if_neg (qp_ix1 (show nm < 500 by omega) (by omega)), pk_m1]
      obtain ⟨bh', bv', bo', okd', oct', e, h1, h2, h3⟩ := qr_give (okd := okd) (x := nI nm) (y := b + 1) (bh := bh) (bv := bv) (bo := bo) hp hk f1
      have n1 : ¬ qp_kd pv fk k = 1 := by rw [c5]; decide
      have n2 : ¬ qp_kd pv fk k = 2 := by rw [c5]; decide
      refine ⟨bh', bv', bo', okd', oct', upd vn nm b, upd vc nm 1, upd vl nm (-1), upd vh nm 0, nm + 1, bxm, zs, zn, zl, sc, -1, 0, ?_, ?_⟩
      · unfold s_X6_doLine s_X6_make
        rw [if_pos rfl, k3, if_neg n1, if_neg n2, if_pos c5, en]
        dsimp only
        rw [e]
      · have N1 := qr_N_new (pd' := fun m => if m = nm then 1 else 0) (K := K + 1) (qr_N_w hN (show K ≤ K + 1 by omega) fun n hn => Nat.le_refl _) hm (by omega) (fun n hn => by
          show (if n = nm then 1 else 0) ≤ 0
          rw [if_neg (by omega)]; exact Nat.le_refl _) (by show (if nm = nm then 1 else 0) ≤ 1; rw [if_pos rfl]; exact Nat.le_refl _)
        have N2 := (qr_gives hK hp hk f1 h1 h2 h3).2.2.2.2.2.2 c5 (nm + 1) ng _ _ _ nm (by omega) (by omega) rfl N1
        have hd := qr_deq hN N2 (by omega) (by omega)
        have := qr_Egive (hre := hre) (s := 0) (a := nI k) (b := b) (bxm := bxm) (okd := okd) (bo := bo) (vc := vc) (vl := vl) (nm := nm) hK hp hk f1 rfl rfl h1 h2 h3 (fun v hv hb z => by
          rw [z, qr_kd3 hv] at c5
          rw [c5] at hb
          rcases hb with w | w <;> exact absurd w (by decide)) N2 (by omega) (by omega) (by rw [hd]; exact hT1) (by decide)
        rw [e0 k fun z => z.elim n1 n2] at this
        exact this
    · obtain ⟨bh', bv', bo', okd', oct', e, h1, h2, h3⟩ := qr_give (okd := okd) (x := b) (y := b + 1) (bh := bh) (bv := bv) (bo := bo) hp hk f1
      refine ⟨bh', bv', bo', okd', oct', vn, vc, vl, vh, nm, bxm + nI (if qp_kd pv fk k = 2 then 2 else (if qp_kd pv fk k = 1 then 1 else 0)), zs, zn, zl, sc, -1, 0, ?_, ?_⟩
      · unfold s_X6_doLine s_X6_make
        rw [if_pos rfl, k3]
        by_cases d1 : qp_kd pv fk k = 1
        · rw [if_pos d1, if_neg c5, e, if_neg (show ¬ qp_kd pv fk k = 2 by rw [d1]; decide), if_pos d1]; rfl
        · by_cases d2 : qp_kd pv fk k = 2
          · rw [if_neg d1, if_pos d2, if_neg c5, e, if_pos d2]; rfl
          · rw [if_neg d1, if_neg d2, if_neg c5, e, if_neg d2, if_neg d1, nI_0, Int32.add_zero]
      · have N1 := (qr_gives hK hp hk f1 h1 h2 h3).2.2.2.2.2.1 c5 nm ng vc vl (K + 1) (qr_N_w hN (by omega) fun n hn => Nat.le_refl _)
        refine qr_Egive (okd := okd) (bo := bo) (vc := vc) (vl := vl) hK hp hk f1 rfl rfl h1 h2 h3 (fun v hv hb z => ?_) N1 (by omega) (by omega) hT1 (by decide)
        rw [z, qr_kd3 hv] at f2
        exact absurd hb f2
  · -- MOVE
    subst s0
    have na : ¬ s_X5_kindAt pv fk a = -1 := by rcases f2 with z | z | z | z <;> (rw [z]; decide)
    obtain ⟨k, k1, rfl, k3⟩ := qp_kind_of (fk := fk) (x := a) hp na
    obtain ⟨l, l1, rfl, l3⟩ := qp_kind_of (fk := fk) (x := b) hp (by rw [← f1]; exact na)
    have hk : k < 24 := by omega
    have hl : l < 24 := by omega
    rw [k3] at na f2
    rw [k3, l3] at f1
    have nb : ¬ qp_kd pv fk l = -1 := by rw [← f1]; exact na
    have hU : ∀ i, qb_t (qr_lv pv fk l) i = true → ¬ bh i = 0 := hU
    -- b is emptied
    have em : ∃ bh1 : Nat → Int32, (∀ i, bh1 i = if qb_t (qr_lv pv fk l) i = true then 0 else bh i) ∧ ∃ x y : Int32, (¬ qp_kd pv fk l = 2 → x = bv l) ∧ s_X6_move okd 0 pv fk bh bv bo (nI k) (nI l) = s_X6_give okd 0 pv fk bh1 bv bo (nI k) x y := by
      unfold s_X6_move
      rw [l3, qr_firstLeaf hl hp]
      by_cases c : qp_kd pv fk l = 2
      · have h24 := qr_pair hp c
        rw [if_pos c, if_pos c, qr_setEmpty (show l + 1 < 24 by omega), nI_1, qr_setEmpty (show l + 1 + 1 < 24 by omega)]
        refine ⟨_, fun i => ?_, _, _, fun z => absurd c z, rfl⟩
        rw [qb_up, qb_up]
        by_cases z : qb_t (qr_lv pv fk l) i = true
        · rw [if_pos z]
          rcases (qr_lv2 hp hl c).mp z with w | w
          · rw [if_neg (by omega), if_pos w]
          · rw [if_pos (by omega)]
        · rw [if_neg z, if_neg fun w => z ((qr_lv2 hp hl c).mpr (Or.inr w)), if_neg fun w => z ((qr_lv2 hp hl c).mpr (Or.inl w))]
      · rw [if_neg c, if_neg c, qr_setEmpty hl]
        refine ⟨_, fun i => ?_, _, _, fun _ => qr_valueAt hl, rfl⟩
        rw [qb_up]
        by_cases z : qb_t (qr_lv pv fk l) i = true
        · rw [if_pos z, if_pos ((qr_lv1 hp hl c nb).mp z)]
        · rw [if_neg z, if_neg fun w => z ((qr_lv1 hp hl c nb).mpr w)]
    obtain ⟨bh1, hb1, x, y, hx, em⟩ := em
    obtain ⟨bh', bv', bo', okd', oct', e, h1, h2, h3⟩ := qr_give (okd := okd) (x := x) (y := y) (bh := bh1) (bv := bv) (bo := bo) hp hk na
    obtain ⟨g1, g2, g3, g4, g5, g6, g7⟩ := qr_gives hK hp hk na h1 h2 h3
    refine ⟨bh', bv', bo', okd', oct', vn, vc, vl, vh, nm, bxm, zs, zn, zl, sc, -1, 0, ?_, fun i hi => ?_, fun v hv hbr => ?_, ⟨0, by omega, by rw [nI_0, Int32.add_zero], ?_⟩, ?_, Nat.le_refl _, by omega, hT1, rfl, Or.inl rfl, fun z => absurd z (by decide), g4, g5⟩
    · unfold s_X6_doLine
      rw [if_neg (show ¬ (1 : Int32) = 0 by decide), if_pos rfl, em, e]
    · rw [g1 i, hb1 i]
      show _ ↔ (¬ bh i = 0 ∧ qb_t (qr_lv pv fk l) i = false) ∨ qb_t (qr_lv pv fk k) i = true
      cases z : qb_t (qr_lv pv fk l) i with
      | true => simp
      | false => simp
    · rw [g2 v hv hbr]
      show _ = if nI k = nI (3 * v) then (if (1 : Int32) = 3 ∨ (1 : Int32) = 4 then nI l else s_X6_valueAt bv (nI l)) else bv (3 * v)
      rw [if_neg (show ¬ ((1 : Int32) = 3 ∨ (1 : Int32) = 4) by decide), qr_valueAt hl]
      by_cases z : k = 3 * v
      · rw [if_pos z, if_pos (by rw [z])]
        refine hx fun w => ?_
        rw [← f1, z, qr_kd3 hv] at w
        rw [w] at hbr
        rcases hbr with w | w <;> exact absurd w (by decide)
      · rw [if_neg z, if_neg fun w => z ((nI_eq (by omega) (by omega)).mp w)]
    · rw [g3, Nat.add_zero]
      by_cases c : qp_kd pv fk k = 1 ∨ qp_kd pv fk k = 2
      · have cl : qp_kd pv fk l = 1 ∨ qp_kd pv fk l = 2 := by rw [← f1]; exact c
        have q1 := qr_cb_clr hK hp hl cl hb1
        have q2 := qr_hd_full hp hl cl hU
        rw [← q1, q2, ← f1]
        rcases c with c | c
        · have h2 : ¬ qp_kd pv fk k = 2 := by rw [c]; decide
          rw [if_neg h2, if_neg h2, if_pos c]
        · rw [if_pos c, if_pos c]
      · rw [if_neg fun z => c (Or.inr z), if_neg fun z => c (Or.inl z), Nat.add_zero]
        exact qr_cb_no hK hp hl (by rw [← f1]; exact c) fun i hi => by rw [hb1 i, if_neg hi]
    · by_cases c5 : qp_kd pv fk k = 5
      · have c5l : qp_kd pv fk l = 5 := by rw [← f1]; exact c5
        have n2 : ¬ qp_kd pv fk l = 2 := by rw [c5l]; decide
        obtain ⟨k', j, hk', ek, -, hbl, hj, ej, -⟩ := nod (nI l) (by rw [l3]; exact c5l) hU
        have : k' = l := ((nI_eq (by omega) (by omega)).mp ek).symm
        subst this
        have N1 := qr_N_drop (bh' := bh1) (pd' := fun m => if m = j then 1 else 0) (K := K + 1) (qr_N_w hN (show K ≤ K + 1 by omega) fun n hn => Nat.le_refl _) hl c5l (fun i => by
          rw [hb1 i]
          by_cases z : i = k'
          · rw [if_pos z, if_pos ((qr_lv1 hp hl n2 nb).mpr z)]
          · rw [if_neg z, if_neg fun w => z ((qr_lv1 hp hl n2 nb).mp w)]) (fun n hn => by
          show (if n = j then 1 else 0) ≤ 0 + _
          by_cases z : n = j
          · have w2 : ¬ bh k' = 0 ∧ bv k' = nI n := ⟨hbl, by rw [z]; exact ej⟩
            rw [if_pos z, if_pos w2]; omega
          · rw [if_neg z]; omega)
        exact g7 c5 nm ng vc vl (K + 1) j (by omega) hj (by rw [hx n2]; exact ej) N1
      · have N1 : qr_N pv fk nm ng vc vl bh1 bv (fun _ => 0) (K + 1) := qr_N_bh (qr_N_w hN (by omega) fun n hn => Nat.le_refl _) fun i hi ci => by
          have ni : ¬ qb_t (qr_lv pv fk l) i = true := fun z => c5 (by rw [f1]; exact (qr_lv_kd hK hp hl z).2.1.mp ci)
          exact ⟨by rw [hb1 i, if_neg ni], fun _ => rfl⟩
        exact g6 c5 nm ng vc vl (K + 1) N1
  · -- COPY
    subst s0
    have na : ¬ s_X5_kindAt pv fk a = -1 := by rcases f2 with z | z | z <;> (rw [z]; decide)
    obtain ⟨k, k1, rfl, k3⟩ := qp_kind_of (fk := fk) (x := a) hp na
    obtain ⟨l, l1, rfl, l3⟩ := qp_kind_of (fk := fk) (x := b) hp (by rw [← f1]; exact na)
    have hk : k < 24 := by omega
    have hl : l < 24 := by omega
    rw [k3] at na f2
    rw [k3, l3] at f1
    obtain ⟨bh', bv', bo', okd', oct', e, h1, h2, h3⟩ := qr_give (okd := okd) (x := bv l) (y := 0) (bh := bh) (bv := bv) (bo := bo) hp hk na
    have n12 : ¬ (qp_kd pv fk k = 1 ∨ qp_kd pv fk k = 2) := by
      rintro (z | z) <;> (rw [z] at f2; rcases f2 with w | w | w <;> exact absurd w (by decide))
    have hx : ∀ v, v < pv → (fk v = 3 ∨ fk v = 4) → k = 3 * v → bv l = if (2 : Int32) = 3 ∨ (2 : Int32) = 4 then nI l else s_X6_valueAt bv (nI l) := by
      intro v _ _ _
      rw [if_neg (by decide), qr_valueAt hl]
    by_cases c5 : qp_kd pv fk k = 5
    · have c5l : qp_kd pv fk l = 5 := by rw [← f1]; exact c5
      obtain ⟨k', j, hk', ek, -, hbl, hj, ej, hvj⟩ := nod (nI l) (by rw [l3]; exact c5l) hU
      have : k' = l := ((nI_eq (by omega) (by omega)).mp ek).symm
      subst this
      refine ⟨bh', bv', bo', okd', oct', vn, upd vc j (vc j + 1), vl, vh, nm, bxm, zs, zn, zl, sc, -1, 0, ?_, ?_⟩
      · unfold s_X6_doLine s_X6_copy
        rw [if_neg (show ¬ (2 : Int32) = 0 by decide), if_neg (show ¬ (2 : Int32) = 1 by decide), if_pos rfl, l3, if_pos c5l, qr_valueAt hl, e, ej, qr_countUp hj (by omega)]
      · have N1 := qr_N_up (pd' := fun m => if m = j then 1 else 0) hN (by omega) hj hvj fun n hn => by show (if n = j then 1 else 0) ≤ 0 + _; omega
        have N2 := (qr_gives hK hp hk na h1 h2 h3).2.2.2.2.2.2 c5 nm ng _ _ _ j (by omega) hj ej N1
        have hd := qr_deq hN N2 (by omega) (by omega)
        have := qr_Egive (hre := hre) (s := 2) (a := nI k) (b := nI k') (bxm := bxm) (okd := okd) (bo := bo) (vc := vc) (vl := vl) (nm := nm) hK hp hk na rfl rfl h1 h2 h3 hx N2 (by omega) (by omega) (by rw [hd]; exact hT1) (by decide)
        rw [e0 k n12] at this
        exact this
    · refine ⟨bh', bv', bo', okd', oct', vn, vc, vl, vh, nm, bxm, zs, zn, zl, sc, -1, 0, ?_, ?_⟩
      · unfold s_X6_doLine s_X6_copy
        rw [if_neg (show ¬ (2 : Int32) = 0 by decide), if_neg (show ¬ (2 : Int32) = 1 by decide), if_pos rfl, l3, if_neg (show ¬ qp_kd pv fk l = 5 by rw [← f1]; exact c5), qr_valueAt hl, e]
      · have N1 := (qr_gives hK hp hk na h1 h2 h3).2.2.2.2.2.1 c5 nm ng vc vl (K + 1) (qr_N_w hN (by omega) fun n hn => Nat.le_refl _)
        have := qr_Egive (hre := hre) (s := 2) (a := nI k) (b := nI l) (bxm := bxm) (okd := okd) (bo := bo) (vc := vc) (vl := vl) (nm := nm) hK hp hk na rfl rfl h1 h2 h3 hx N1 (by omega) (by omega) hT1 (by decide)
        rw [e0 k n12] at this
        exact this
  · -- BORROW
    subst s0
    obtain ⟨k, k1, rfl, k3⟩ := qp_kind_of (fk := fk) (x := a) hp (by rw [f1]; decide)
    have hk : k < 24 := by omega
    rw [k3] at f1
    have na : ¬ qp_kd pv fk k = -1 := by rw [f1]; decide
    have n5 : ¬ qp_kd pv fk k = 5 := by rw [f1]; decide
    obtain ⟨bh', bv', bo', okd', oct', e, h1, h2, h3⟩ := qr_give (okd := okd) (x := b) (y := 0) (bh := bh) (bv := bv) (bo := bo) hp hk na
    refine ⟨bh', bv', bo', okd', oct', vn, vc, vl, vh, nm, bxm, zs, zn, zl, sc, -1, 0, ?_, ?_⟩
    · unfold s_X6_doLine
      rw [if_neg (show ¬ (3 : Int32) = 0 by decide), if_neg (show ¬ (3 : Int32) = 1 by decide), if_neg (show ¬ (3 : Int32) = 2 by decide), if_pos rfl, e]
    · have N1 := (qr_gives hK hp hk na h1 h2 h3).2.2.2.2.2.1 n5 nm ng vc vl (K + 1) (qr_N_w hN (by omega) fun n hn => Nat.le_refl _)
      have := qr_Egive (hre := hre) (s := 3) (a := nI k) (b := b) (bxm := bxm) (okd := okd) (bo := bo) (vc := vc) (vl := vl) (nm := nm) hK hp hk na rfl rfl h1 h2 h3 (fun v _ _ _ => by rw [if_pos (by decide)]) N1 (by omega) (by omega) hT1 (by decide)
      rw [e0 k (by rw [f1]; decide)] at this
      exact this
  · -- LEND
    subst s0
    obtain ⟨k, k1, rfl, k3⟩ := qp_kind_of (fk := fk) (x := a) hp (by rw [f1]; decide)
    have hk : k < 24 := by omega
    rw [k3] at f1
    have na : ¬ qp_kd pv fk k = -1 := by rw [f1]; decide
    have n5 : ¬ qp_kd pv fk k = 5 := by rw [f1]; decide
    obtain ⟨bh', bv', bo', okd', oct', e, h1, h2, h3⟩ := qr_give (okd := okd) (x := b) (y := 0) (bh := bh) (bv := bv) (bo := bo) hp hk na
    refine ⟨bh', bv', bo', okd', oct', vn, vc, vl, vh, nm, bxm, zs, zn, zl, sc, -1, 0, ?_, ?_⟩
    · unfold s_X6_doLine
      rw [if_neg (show ¬ (4 : Int32) = 0 by decide), if_neg (show ¬ (4 : Int32) = 1 by decide), if_neg (show ¬ (4 : Int32) = 2 by decide), if_neg (show ¬ (4 : Int32) = 3 by decide), if_pos rfl, e]
    · have N1 := (qr_gives hK hp hk na h1 h2 h3).2.2.2.2.2.1 n5 nm ng vc vl (K + 1) (qr_N_w hN (by omega) fun n hn => Nat.le_refl _)
      have := qr_Egive (hre := hre) (s := 4) (a := nI k) (b := b) (bxm := bxm) (okd := okd) (bo := bo) (vc := vc) (vl := vl) (nm := nm) hK hp hk na rfl rfl h1 h2 h3 (fun v _ _ _ => by rw [if_pos (by decide)]) N1 (by omega) (by omega) hT1 (by decide)
      rw [e0 k (by rw [f1]; decide)] at this
      exact this
  · -- READ
    subst s0
    have rd : ∃ (zs' zn' zl' : Nat → Int32) (sc' pnl' : Int32), s_X6_read hre (-1) 0 pv fk bv nm vn vh sc zs zn zl a = (zs', zn', zl', sc', pnl', 0) ∧ qr_T sc' zs' d (qr_dead nm vc) (R + 1) ∧ (pnl' = -1 ∨ pnl' = hre) := by
      unfold s_X6_read
      rw [qr_pan]
      have tl : ∀ y : Int32, ∃ (zs' zn' zl' : Nat → Int32), s_X7_tell sc zs zn zl 0 y hre = (zs', zn', zl', sc + 1) ∧ qr_T (sc + 1) zs' d (qr_dead nm vc) (R + 1) := by
        intro y
        obtain ⟨zs', zn', zl', e, t0, -, -⟩ := qr_tell (zn := zn) (zl := zl) (x := 0) (y := y) (z := hre) hT (by omega)
        exact ⟨zs', zn', zl', e, t0 rfl⟩
      by_cases c : s_X5_kindAt pv fk a = 5
      · rw [if_pos c]
        by_cases h : s_X4_isHeldNow nm vh (s_X6_valueAt bv a) = 0
        · rw [if_pos h]
          obtain ⟨zs', zn', zl', e, t⟩ := tl (s_X4_numberOf nm vn (s_X6_valueAt bv a))
          rw [e]
          exact ⟨_, _, _, _, _, rfl, t, Or.inl rfl⟩
        · rw [if_neg h]
          exact ⟨_, _, _, _, _, rfl, hT1, Or.inr rfl⟩
      · rw [if_neg c]
        by_cases h : s_X9_isBorrowKind (s_X5_kindAt pv fk a) = 0
        · rw [if_pos h]
          obtain ⟨zs', zn', zl', e, t⟩ := tl (s_X6_numberAt pv fk bv a)
          rw [e]
          exact ⟨_, _, _, _, _, rfl, t, Or.inl rfl⟩
        · rw [if_neg h]
          obtain ⟨zs', zn', zl', e, t⟩ := tl (s_X6_numberAt pv fk bv (s_X6_valueAt bv a))
          rw [e]
          exact ⟨_, _, _, _, _, rfl, t, Or.inl rfl⟩
    obtain ⟨zs', zn', zl', sc', pnl', e, t1, q1⟩ := rd
    refine ⟨bh, bv, bo, okd, 0, vn, vc, vl, vh, nm, bxm, zs', zn', zl', sc', pnl', 0, ?_, qr_Eplain rfl rfl hN hp t1 rfl q1 fun z => absurd z (by decide)⟩
    unfold s_X6_doLine
    rw [if_neg (show ¬ (5 : Int32) = 0 by decide), if_neg (show ¬ (5 : Int32) = 1 by decide), if_neg (show ¬ (5 : Int32) = 2 by decide), if_neg (show ¬ (5 : Int32) = 3 by decide), if_neg (show ¬ (5 : Int32) = 4 by decide), if_pos rfl, e]
  · -- WRITE
    subst s0
    have e : s_X6_doLine okd 0 hre bxm (-1) 0 pv fk bh bv bo nm vn vc vl vh sc zs zn zl 6 a b = ((s_X6_write hre (-1) 0 pv fk bh bv nm vn vh a b).1, (s_X6_write hre (-1) 0 pv fk bh bv nm vn vh a b).2.1, bo, okd, 0, (s_X6_write hre (-1) 0 pv fk bh bv nm vn vh a b).2.2.1, vc, vl, vh, nm, bxm, zs, zn, zl, sc, (s_X6_write hre (-1) 0 pv fk bh bv nm vn vh a b).2.2.2.1, (s_X6_write hre (-1) 0 pv fk bh bv nm vn vh a b).2.2.2.2) := by
      unfold s_X6_doLine
      rw [if_neg (show ¬ (6 : Int32) = 0 by decide), if_neg (show ¬ (6 : Int32) = 1 by decide), if_neg (show ¬ (6 : Int32) = 2 by decide), if_neg (show ¬ (6 : Int32) = 3 by decide), if_neg (show ¬ (6 : Int32) = 4 by decide), if_neg (show ¬ (6 : Int32) = 5 by decide), if_pos rfl]
    refine ⟨_, _, _, _, _, _, _, _, _, _, _, _, _, _, _, _, _, e, ?_⟩
    obtain ⟨k, k1, rfl, k3⟩ := qp_kind_of (fk := fk) (x := a) hp f1
    have hk : k < 24 := by omega
    unfold s_X6_write
    rw [qr_pan]
    by_cases c5 : s_X5_kindAt pv fk (nI k) = 5
    · rw [if_pos c5]
      by_cases h : s_X4_isHeldNow nm vh (s_X6_valueAt bv (nI k)) = 0
      · rw [if_pos h]
        exact qr_Eplain rfl rfl hN hp hT1 rfl (Or.inl rfl) fun z => absurd z (by decide)
      · rw [if_neg h]
        exact qr_Eplain rfl rfl hN hp hT1 rfl (Or.inr rfl) fun z => absurd z (by decide)
    · rw [if_neg c5]
      by_cases h : s_X9_isBorrowKind (s_X5_kindAt pv fk (nI k)) = 0
      · rw [if_pos h]
        rw [k3] at f1 f2 f3 c5 h
        have hkd : qp_kd pv fk k = 0 ∨ qp_kd pv fk k = 1 ∨ qp_kd pv fk k = 2 := by
          have h4 : ¬ qp_kd pv fk k = 4 := fun z => qp_bor.mpr (Or.inr z) h
          rcases qp_kd_cases (k := k) hK with z | ⟨z1, ⟨z2, z3⟩ | ⟨z2, z3, z4⟩⟩
          · exact absurd z f1
          · rw [z3] at f1 f2 f3 c5 h4 ⊢
            rcases hK (k / 3) z1 with w | w | w | w | w | w
            · exact Or.inl w
            · exact Or.inr (Or.inl w)
            · exact Or.inr (Or.inr w)
            · exact absurd w f3
            · exact absurd w h4
            · exact absurd w c5
          · exact Or.inr (Or.inl z4)
        obtain ⟨w1, w2⟩ := qr_writeNumber (bv := bv) (x := b) hp hk f1 hU
        exact qr_Ewrite hK rfl rfl hN hp hk hkd w1 w2 hT1 rfl (Or.inl rfl) (by decide)
      · rw [if_neg h]
        have h4 : s_X5_kindAt pv fk (nI k) = 4 := (qp_bor.mp h).elim (fun z => absurd z f3) id
        obtain ⟨p, p1, p2, p3, p4⟩ := hA rfl h4
        rw [p2]
        have np : ¬ qp_kd pv fk p = -1 := by rcases p3 with z | z | z <;> (rw [z]; decide)
        obtain ⟨w1, w2⟩ := qr_writeNumber (bv := bv) (x := b) hp p1 np p4
        exact qr_Ewrite hK rfl rfl hN hp p1 p3 w1 w2 hT1 rfl (Or.inl rfl) (by decide)
  · -- DROP
    subst s0
    have na : ¬ s_X5_kindAt pv fk a = -1 := by rcases f with z | z | z <;> (rw [z]; decide)
    obtain ⟨k, k1, rfl, k3⟩ := qp_kind_of (fk := fk) (x := a) hp na
    have hk : k < 24 := by omega
    rw [k3] at na f
    obtain ⟨bh', bo', okd', oct', e, h1, o1, o2, o3, o4⟩ := qr_drop (okd := okd) (bh := bh) (bv := bv) (bo := bo) hp hk na
    refine ⟨bh', bv, bo', okd', oct', vn, vc, vl, vh, nm, bxm, zs, zn, zl, sc, -1, 0, ?_, fun i hi => ?_, fun v hv hbr => ?_, ⟨0, by omega, by rw [nI_0, Int32.add_zero], ?_⟩, ?_, Nat.le_refl _, by omega, hT1, rfl, Or.inl rfl, fun z => absurd z (by decide), o2, fun c5 => ?_⟩
    · unfold s_X6_doLine
      rw [if_neg (show ¬ (7 : Int32) = 0 by decide), if_neg (show ¬ (7 : Int32) = 1 by decide), if_neg (show ¬ (7 : Int32) = 2 by decide), if_neg (show ¬ (7 : Int32) = 3 by decide), if_neg (show ¬ (7 : Int32) = 4 by decide), if_neg (show ¬ (7 : Int32) = 5 by decide), if_neg (show ¬ (7 : Int32) = 6 by decide), if_pos rfl, e]
    · rw [h1 i]
      show _ ↔ (¬ bh i = 0 ∧ qb_t (qr_lv pv fk k) i = false) ∨ qb_t (s_X5_leavesOf pv fk (-1)) i = true
      rw [qp_leaves_m1, qb_0]
      cases z : qb_t (qr_lv pv fk k) i with
      | true => simp
      | false => simp
    · show bv (3 * v) = if (-1 : Int32) = nI (3 * v) then _ else _
      rw [if_neg fun z => qb_nem1 (by omega) z.symm]
    · rw [Nat.add_zero]
      by_cases c : qp_kd pv fk k = 1 ∨ qp_kd pv fk k = 2
      · have q1 := qr_cb_clr hK hp hk c h1
        have eo : (if okd' = 1 ∨ okd' = 2 then oct' else 0) = oct' := by
          by_cases z : oct' = 0
          · rw [z]; split <;> rfl
          · rw [o3 z, if_pos c]
        rw [eo, o1]
        exact q1
      · have eo : (if okd' = 1 ∨ okd' = 2 then oct' else 0) = 0 := by
          by_cases z : oct' = 0
          · rw [z]; split <;> rfl
          · rw [o3 z, if_neg c]
        rw [eo, Nat.add_zero]
        exact qr_cb_no hK hp hk c fun i hi => by rw [h1 i, if_neg hi]
    · by_cases c5 : qp_kd pv fk k = 5
      · have n2 : ¬ qp_kd pv fk k = 2 := by rw [c5]; decide
        refine qr_N_drop (K := K + 1) (qr_N_w hN (show K ≤ K + 1 by omega) fun n hn => Nat.le_refl _) hk c5 (fun i => ?_) (fun n hn => ?_)
        · rw [h1 i]
          by_cases z : i = k
          · rw [if_pos z, if_pos ((qr_lv1 hp hk n2 na).mpr z)]
          · rw [if_neg z, if_neg fun w => z ((qr_lv1 hp hk n2 na).mp w)]
        · show (if okd' = 5 ∧ ¬ oct' = 0 ∧ bo' 0 = nI n then 1 else 0) ≤ 0 + _
          by_cases w : okd' = 5 ∧ ¬ oct' = 0 ∧ bo' 0 = nI n
          · obtain ⟨-, p2, p3⟩ := o4 n2 w.2.1
            have w2 : ¬ bh k = 0 ∧ bv k = nI n := ⟨p3, p2.symm.trans w.2.2⟩
            rw [if_pos w, if_pos w2]; omega
          · rw [if_neg w]; omega
      · refine qr_N_w (qr_N_bh (K := K) hN fun i hi ci => ?_) (by omega) fun n hn => ?_
        · have ni : ¬ qb_t (qr_lv pv fk k) i = true := fun z => c5 ((qr_lv_kd hK hp hk z).2.1.mp ci)
          exact ⟨by rw [h1 i, if_neg ni], fun _ => rfl⟩
        · show (if okd' = 5 ∧ ¬ oct' = 0 ∧ bo' 0 = nI n then 1 else 0) ≤ 0
          rw [if_neg fun w => c5 (by rw [← o3 w.2.1]; exact w.1)]
          exact Nat.le_refl _
    · by_cases z : oct' = 0
      · omega
      · have e := o3 z
        have := (o4 (by rw [← e, c5]; decide) z).1
        omega
  · -- IF
    subst s0
    exact ⟨bh, bv, bo, okd, 0, vn, vc, vl, vh, nm, bxm, zs, zn, zl, sc, -1, 0, rfl, qr_Eplain rfl rfl hN hp hT1 rfl (Or.inl rfl) fun z => absurd z (by decide)⟩
  · subst s0
    exact ⟨bh, bv, bo, okd, 0, vn, vc, vl, vh, nm, bxm, zs, zn, zl, sc, -1, 0, rfl, qr_Eplain rfl rfl hN hp hT1 rfl (Or.inl rfl) fun z => absurd z (by decide)⟩
  · subst s0
    exact ⟨bh, bv, bo, okd, 0, vn, vc, vl, vh, nm, bxm, zs, zn, zl, sc, -1, 0, rfl, qr_Eplain rfl rfl hN hp hT1 rfl (Or.inl rfl) fun z => absurd z (by decide)⟩
  · subst s0
    exact ⟨bh, bv, bo, okd, 0, vn, vc, vl, vh, nm, bxm, zs, zn, zl, sc, -1, 0, rfl, qr_Eplain rfl rfl hN hp hT1 rfl (Or.inl rfl) fun z => absurd z (by decide)⟩
  · -- LINK
    subst s0
    obtain ⟨k, j, hk, rfl, ck, hbk, hj, ej, hvj⟩ := nod a f1 hU
    obtain ⟨l, t, hl, rfl, cl, hbl, ht, et, hvt⟩ := nod b f2 hU2
    have e : s_X6_doLine okd 0 hre bxm (-1) 0 pv fk bh bv bo nm vn vc vl vh sc zs zn zl 12 (nI k) (nI l) = (bh, bv, (s_X6_link okd 0 bo nm vc vl (s_X6_valueAt bv (nI k)) (s_X6_valueAt bv (nI l))).1, (s_X6_link okd 0 bo nm vc vl (s_X6_valueAt bv (nI k)) (s_X6_valueAt bv (nI l))).2.1, ((s_X6_link okd 0 bo nm vc vl (s_X6_valueAt bv (nI k)) (s_X6_valueAt bv (nI l))).2.2.1), vn, (s_X6_link okd 0 bo nm vc vl (s_X6_valueAt bv (nI k)) (s_X6_valueAt bv (nI l))).2.2.2.1, (s_X6_link okd 0 bo nm vc vl (s_X6_valueAt bv (nI k)) (s_X6_valueAt bv (nI l))).2.2.2.2, vh, nm, bxm, zs, zn, zl, sc, -1, 0) := rfl
    have N1 := qr_N_up (pd' := fun m => if m = t then 1 else 0) hN (by omega) ht hvt fun n hn => by show (if n = t then 1 else 0) ≤ 0 + _; omega
    have hvj2 : ¬ upd vc t (vc t + 1) j = 0 := qr_alive N1 (by omega) hk ck hbk ej hj
    have el : ∃ (bo' : Nat → Int32) (okd' : Int32) (oct' : Nat), s_X6_link okd 0 bo nm vc vl (s_X6_valueAt bv (nI k)) (s_X6_valueAt bv (nI l)) = (bo', okd', oct', upd vc t (vc t + 1), upd vl j (nI t)) ∧ oct' ≤ 1 ∧ (okd' = 5 ∨ oct' = 0) ∧ (∀ m, okd' = 5 ∧ ¬ oct' = 0 ∧ bo' 0 = nI m → vl j = nI m) := by
      unfold s_X6_link
      rw [qr_valueAt hk, qr_valueAt hl, ej, et, qr_linkOf hj (by omega), qr_countUp ht (by omega), qr_setLink hj (by omega)]
      by_cases c : vl j = -1
      · rw [if_pos c]
        exact ⟨bo, okd, 0, rfl, by omega, Or.inr rfl, fun m w => absurd rfl w.2.1⟩
      · rw [if_neg c, if_neg (show ¬ (2 : Int32) ≤ nI 0 by decide)]
        refine ⟨upd bo 0 (vl j), 5, 1, rfl, by omega, Or.inl rfl, fun m w => ?_⟩
        have := w.2.2
        rw [qb_us] at this; exact this
    obtain ⟨bo', okd', oct', el, l1, l2, l3⟩ := el
    rw [el] at e
    have N2 := qr_N_link (j := j) (t := t) (pd' := fun m => if okd' = 5 ∧ ¬ oct' = 0 ∧ bo' 0 = nI m then 1 else 0) N1 (by omega) hj ht hvj2 fun n hn => by
      show (if okd' = 5 ∧ ¬ oct' = 0 ∧ bo' 0 = nI n then 1 else 0) + (if n = t then 1 else 0) ≤ (if n = t then 1 else 0) + (if vl j = nI n then 1 else 0)
      by_cases w : okd' = 5 ∧ ¬ oct' = 0 ∧ bo' 0 = nI n
      · rw [if_pos w, if_pos (l3 n w)]; omega
      · rw [if_neg w]; omega
    have hd := qr_deq hN N2 (by omega) (by omega)
    refine ⟨bh, bv, bo', okd', oct', vn, upd vc t (vc t + 1), upd vl j (nI t), vh, nm, bxm, zs, zn, zl, sc, -1, 0, e, fun i hi => ?_, fun v hv hbr => ?_, ⟨0, by omega, by rw [nI_0, Int32.add_zero], ?_⟩, N2, Nat.le_refl _, by omega, by rw [hd]; exact hT1, rfl, Or.inl rfl, fun z => absurd z (by decide), by omega, fun _ => l1⟩
    · show _ ↔ (¬ bh i = 0 ∧ qb_t (s_X5_leavesOf pv fk (-1)) i = false) ∨ qb_t (s_X5_leavesOf pv fk (-1)) i = true
      rw [qp_leaves_m1, qb_0]
      exact ⟨fun h => Or.inl ⟨h, rfl⟩, fun h => h.elim (fun z => z.1) fun z => (by cases z)⟩
    · show bv (3 * v) = if (-1 : Int32) = nI (3 * v) then _ else _
      rw [if_neg fun z => qb_nem1 (by omega) z.symm]
    · rcases l2 with z | z
      · rw [if_neg (by rw [z]; decide)]
      · rw [z]; split <;> rfl
  · -- HOLD
    subst s0
    have e : s_X6_doLine okd 0 hre bxm (-1) 0 pv fk bh bv bo nm vn vc vl vh sc zs zn zl 13 a b = (bh, bv, bo, okd, 0, vn, vc, vl, (s_X6_hold hre (-1) 0 nm vh (s_X6_valueAt bv a)).1, nm, bxm, zs, zn, zl, sc, (s_X6_hold hre (-1) 0 nm vh (s_X6_valueAt bv a)).2.1, (s_X6_hold hre (-1) 0 nm vh (s_X6_valueAt bv a)).2.2) := rfl
    refine ⟨_, _, _, _, _, _, _, _, _, _, _, _, _, _, _, _, _, e, ?_⟩
    unfold s_X6_hold
    rw [qr_pan]
    by_cases h : s_X4_isHeldNow nm vh (s_X6_valueAt bv a) = 0
    · rw [if_pos h]
      exact qr_Eplain rfl rfl hN hp hT1 rfl (Or.inl rfl) fun z => absurd z (by decide)
    · rw [if_neg h]
      exact qr_Eplain rfl rfl hN hp hT1 rfl (Or.inr rfl) fun z => absurd z (by decide)
  · -- LET GO
    subst s0
    exact ⟨bh, bv, bo, okd, 0, vn, vc, vl, s_X4_setHeld nm vh (s_X6_valueAt bv a) 0, nm, bxm, zs, zn, zl, sc, -1, 0, rfl, qr_Eplain rfl rfl hN hp hT1 rfl (Or.inl rfl) fun z => absurd z (by decide)⟩
  · -- PANIC
    subst s0
    have e : s_X6_doLine okd 0 hre bxm (-1) 0 pv fk bh bv bo nm vn vc vl vh sc zs zn zl 15 a b = (bh, bv, bo, okd, 0, vn, vc, vl, vh, nm, bxm, zs, zn, zl, sc, (s_X6_panic hre (-1) 0).1, (s_X6_panic hre (-1) 0).2) := rfl
    rw [qr_pan] at e
    exact ⟨bh, bv, bo, okd, 0, vn, vc, vl, vh, nm, bxm, zs, zn, zl, sc, hre, 0, e, qr_Eplain rfl rfl hN hp hT1 rfl (Or.inr rfl) fun _ => rfl⟩
  · -- STEP
    subst s0
    obtain ⟨k, k1, rfl, k3⟩ := qp_kind_of (fk := fk) (x := a) hp (by rw [f]; decide)
    have hk : k < 24 := by omega
    rw [k3] at f
    have na : ¬ qp_kd pv fk k = -1 := by rw [f]; decide
    have n2 : ¬ qp_kd pv fk k = 2 := by rw [f]; decide
    have hbk : ¬ bh k = 0 := hU k ((qr_lv1 hp hk n2 na).mpr rfl)
    have e : s_X6_doLine okd 0 hre bxm (-1) 0 pv fk bh bv bo nm vn vc vl vh sc zs zn zl 16 (nI k) b = (upd bh k 1, upd bv k (s_X6_valueAt bv (nI k) + b), bo, okd, 0, vn, vc, vl, vh, nm, bxm, zs, zn, zl, sc, -1, 0) := by
      have e1 : s_X6_doLine okd 0 hre bxm (-1) 0 pv fk bh bv bo nm vn vc vl vh sc zs zn zl 16 (nI k) b = ((s_X6_setValue bh bv (nI k) ((s_X6_valueAt bv (nI k)) + b)).1, (s_X6_setValue bh bv (nI k) ((s_X6_valueAt bv (nI k)) + b)).2, bo, okd, 0, vn, vc, vl, vh, nm, bxm, zs, zn, zl, sc, -1, 0) := rfl
      rw [e1, qr_setValue hk]
    refine ⟨_, _, _, _, _, _, _, _, _, _, _, _, _, _, _, _, _, e, qr_Ewrite hK rfl rfl hN hp hk (Or.inl f) (fun i => ?_) (fun i hi => ?_) hT1 rfl (Or.inl rfl) (by decide)⟩
    · rw [qb_up]
      by_cases z : i = k
      · rw [if_pos z, z]; exact ⟨fun h => absurd h (by decide), fun h => absurd h hbk⟩
      · rw [if_neg z]
    · rw [qb_un fun z => hi ((qr_lv1 hp hk n2 na).mpr z)]
end
