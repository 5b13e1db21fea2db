/-! A RUN: to its end -/
section
variable {pv nm K R n : Nat} {fk vl bh bv : Nat → Int32}
/-- a place of something owned has nothing any more -/
theorem qr_dropE {k : Nat} {okd' ng : Int32} {bh' bo' vc : Nat → Int32} {oct' : Nat} (hK : qp_K pv fk) (hp : pv ≤ 8) (hk : k < 24) (c1 : ¬ qp_kd pv fk k = -1) (h1 : ∀ i, bh' i = if qb_t (qr_lv pv fk k) i = true then 0 else bh i) (h2 : qr_old pv fk bh bv k bo' okd' oct') (hN : qr_N pv fk nm ng vc vl bh bv (fun _ => 0) K) :
    qr_cb pv fk bh' + (if okd' = 1 ∨ okd' = 2 then oct' else 0) = qr_cb pv fk bh ∧ qr_N pv fk nm ng vc vl bh' bv (fun m => if okd' = 5 ∧ ¬ oct' = 0 ∧ bo' 0 = nI m then 1 else 0) K ∧ oct' ≤ 2 ∧ (okd' = 5 → oct' ≤ 1) := by
  obtain ⟨o1, o2, o3, o4⟩ := h2
  refine ⟨?_, ?_, o2, fun c5 => ?_⟩
  · by_cases c : qp_kd pv fk k = 1 ∨ qp_kd pv fk k = 2
    · have q1 := qr_cb_clr hK hp hk c h1
      have eo : (if okd' = 1 ∨ okd' = 2 then oct' else 0) = oct' := by
        by_cases z : oct' = 0
        · rw [z]; split <;> rfl
        · rw [o3 z, if_pos c]
      rw [eo, o1]
      exact q1
    · have eo : (if okd' = 1 ∨ okd' = 2 then oct' else 0) = 0 := by
        by_cases z : oct' = 0
        · rw [z]; split <;> rfl
        · rw [o3 z, if_neg c]
      rw [eo, Nat.add_zero]
      exact qr_cb_no hK hp hk c fun i hi => by rw [h1 i, if_neg hi]
  · by_cases c5 : qp_kd pv fk k = 5
    · have n2 : ¬ qp_kd pv fk k = 2 := by rw [c5]; decide
      refine qr_N_drop hN hk c5 (fun i => ?_) (fun n hn => ?_)
      · rw [h1 i]
        by_cases z : i = k
        · rw [if_pos z, if_pos ((qr_lv1 hp hk n2 c1).mpr z)]
        · rw [if_neg z, if_neg fun w => z ((qr_lv1 hp hk n2 c1).mp w)]
      · show (if okd' = 5 ∧ ¬ oct' = 0 ∧ bo' 0 = nI n then 1 else 0) ≤ 0 + _
        by_cases w : okd' = 5 ∧ ¬ oct' = 0 ∧ bo' 0 = nI n
        · obtain ⟨-, p2, p3⟩ := o4 n2 w.2.1
          have w2 : ¬ bh k = 0 ∧ bv k = nI n := ⟨p3, p2.symm.trans w.2.2⟩
          rw [if_pos w, if_pos w2]; omega
        · rw [if_neg w]; omega
    · refine qr_N_w (qr_N_bh hN fun i hi ci => ?_) (Nat.le_refl _) fun n hn => ?_
      · have ni : ¬ qb_t (qr_lv pv fk k) i = true := fun z => c5 ((qr_lv_kd hK hp hk z).2.1.mp ci)
        exact ⟨by rw [h1 i, if_neg ni], fun _ => rfl⟩
      · show (if okd' = 5 ∧ ¬ oct' = 0 ∧ bo' 0 = nI n then 1 else 0) ≤ 0
        rw [if_neg fun w => c5 (by rw [← o3 w.2.1]; exact w.1)]
        exact Nat.le_refl _
  · by_cases z : oct' = 0
    · omega
    · have e := o3 z
      have := (o4 (by rw [← e, c5]; decide) z).1
      omega
/-- what unwinding leaves -/
def qr_U (pv : Nat) (fk : Nat → Int32) (n nm : Nat) (vl bv : Nat → Int32) (K R m B : Nat) (U : (Nat → Int32) × (Nat → Int32) × Int32 × Nat × (Nat → Int32) × Int32 × (Nat → Int32) × (Nat → Int32) × (Nat → Int32) × Int32 × Int32 × Int32 × Int32) : Prop :=
  ∃ d : Nat, qr_N pv fk nm U.2.2.2.2.2.1 U.2.2.2.2.1 vl U.1 bv (fun _ => 0) K ∧ qr_T U.2.2.2.2.2.2.2.2.2.1 U.2.2.2.2.2.2.1 d (qr_dead nm U.2.2.2.2.1) R ∧ U.2.2.2.2.2.2.2.2.2.2.1 = nI d ∧ d ≤ B ∧ qr_Q n U.2.2.2.2.2.2.2.2.2.2.2.1 U.2.2.2.2.2.2.2.2.2.2.2.2 ∧ (U.2.2.2.2.2.2.2.2.2.2.2.2 = 0 → m = d)
theorem qr_unwind_L {vn : Nat → Int32} {m B : Nat} (hK : qp_K pv fk) (hp : pv ≤ 8) (hn : n ≤ 34) (hm : nm ≤ 500) (hKK : K < 2 ^ 29) (hB : B + 600 + R < 2 ^ 20) : ∀ (k dd : Nat) (bh bo : Nat → Int32) (okd : Int32) (vc : Nat → Int32) (ng : Int32) (zs zn zl : Nat → Int32) (sc bxd pnl iab : Int32) (d : Nat),
    dd ≤ pv → dd < k → qr_N pv fk nm ng vc vl bh bv (fun _ => 0) K → qr_T sc zs d (qr_dead nm vc) R → bxd = nI d → d + 2 * dd ≤ B → qr_Q n pnl iab → (iab = 0 → m = d + qr_cb pv fk bh) → (iab = 0 → ∀ i, i < 24 → qp_kd pv fk i = 1 → dd ≤ i / 3 → bh i = 0) →
    qr_U pv fk n nm vl bv K R m B (sl_X6_unwind_L10 (nI n) pv fk bv nm vn vl k dd bh bo okd 0 vc ng zs zn zl sc bxd pnl iab)
  | 0, dd, bh, bo, okd, vc, ng, zs, zn, zl, sc, bxd, pnl, iab, d, h1, h2, hN, hT, hd, hBd, hQ, hi, hz => by omega
  | k + 1, dd, bh, bo, okd, vc, ng, zs, zn, zl, sc, bxd, pnl, iab, d, h1, h2, hN, hT, hd, hBd, hQ, hi, hz => by
    rw [sl_X6_unwind_L10]
    match dd, h1, h2, hBd, hz with
    | 0, h1, h2, hBd, hz =>
      rw [if_pos (show nI 0 + (-1) < 0 by decide)]
      refine ⟨d, hN, hT, hd, by omega, hQ, fun z => ?_⟩
      have e : qr_cb pv fk bh = 0 := qb_sum_0 24 fun i hi24 => by
        rw [if_neg]
        rintro ⟨c, w⟩
        exact w (hz z i hi24 c (Nat.zero_le _))
      rw [hi z, e, Nat.add_zero]
    | dd + 1, h1, h2, hBd, hz =>
      rw [if_neg (show ¬ nI (dd + 1) + (-1) < 0 by rw [pk_m1]; exact nI_pos (by omega)), show dd + 1 - 1 = dd from rfl]
      by_cases ci : iab = 0
      · rw [if_pos ci, qp_kindAt (by omega) (by omega), qr_kd3 (by omega)]
        by_cases co : s_X9_isOwned (fk dd) = 0
        · rw [if_pos co]
          refine qr_unwind_L hK hp hn hm hKK hB k dd bh bo okd vc ng zs zn zl sc bxd pnl iab d (by omega) (by omega) hN hT hd (by omega) hQ hi fun z i hi24 c hge => ?_
          rcases Nat.lt_or_ge dd (i / 3) with w | w
          · exact hz z i hi24 c w
          · have hi3 : i / 3 = dd := by omega
            exfalso
            refine qp_own.mpr ?_ co
            rcases qp_kd_cases (k := i) hK with y | ⟨y1, ⟨y2, y3⟩ | ⟨y2, y3, y4⟩⟩
            · rw [c] at y; exact absurd y (by decide)
            · rw [c, hi3] at y3; exact Or.inl y3.symm
            · rw [hi3] at y3; exact Or.inr (Or.inl y3)
        · rw [if_neg co]
          have c1 : ¬ qp_kd pv fk (3 * dd) = -1 := by
            rw [qr_kd3 (by omega)]
            rcases qp_own.mp co with w | w | w <;> (rw [w]; decide)
          obtain ⟨bh', bo', okd', oct', e, g1, g2⟩ := qr_drop (okd := okd) (bh := bh) (bv := bv) (bo := bo) hp (show 3 * dd < 24 by omega) c1
          obtain ⟨q1, q2, q3, q4⟩ := qr_dropE hK hp (show 3 * dd < 24 by omega) c1 g1 g2 hN
          rw [e]
          dsimp only
          obtain ⟨vc', ng', zs', zn', zl', sc', bxd', pnl', iab', d', e2, r1, r2, r3, r4, r5, r6, r7⟩ := qr_dropOlds (n := n) (t := n) (okd := okd') (bo := bo') (vn := vn) (zn := zn) (zl := zl) (Nat.le_refl _) hn hm (show K < 2 ^ 30 by omega) (show d + 600 + R < 2 ^ 20 by omega) q3 q4 q2 (fun m _ => Nat.le_refl _) hT hd hQ ci
          rw [e2]
          dsimp only
          refine qr_unwind_L hK hp hn hm hKK hB k dd bh' bo' okd' vc' ng' zs' zn' zl' sc' bxd' pnl' iab' d' (by omega) (by omega) r1 r2 r3 (by omega) r5 (fun z => ?_) fun z i hi24 c hge => ?_
          · have := hi ci
            rw [r6 z]; omega
          · rw [g1 i]
            by_cases y : qb_t (qr_lv pv fk (3 * dd)) i = true
            · rw [if_pos y]
            · rw [if_neg y]
              rcases Nat.lt_or_ge dd (i / 3) with w | w
              · exact hz ci i hi24 c w
              · exfalso
                have hi3 : i / 3 = dd := by omega
                apply y
                rw [qp_leaves hp (by omega)]
                refine ⟨c1, ?_⟩
                rw [qr_kd3 (by omega)]
                rcases qp_kd_cases (k := i) hK with x | ⟨x1, ⟨x2, x3⟩ | ⟨x2, x3, x4⟩⟩
                · rw [c] at x; exact absurd x (by decide)
                · rw [c, hi3] at x3
                  rw [if_neg (by rw [← x3]; decide)]; omega
                · rw [hi3] at x3
                  rw [if_pos x3]; omega
      · rw [if_neg ci]
        exact ⟨d, hN, hT, hd, by omega, hQ, fun z => absurd z ci⟩
end
theorem qr_behind {pv n t : Nat} {yf ys yop fk fs fa bv br : Nat → Int32} (ht : t < n) (hn : n ≤ 34) : (s_X6_lineBehind (-1) yf ys yop pv n fk fs fa bv br (nI t)).2 = yf t ∨ (s_X6_lineBehind (-1) yf ys yop pv n fk fs fa bv br (nI t)).2 = ys t := by
  unfold s_X6_lineBehind
  simp only [qf_first ht hn, qf_second ht hn]
  (repeat' split) <;> first | exact Or.inl rfl | exact Or.inr rfl
section
variable {pv n : Nat} {yf ys yop fk fs fa fb : Nat → Int32}
theorem qr_go1 {k t stp nm nm' oct oct' oct2 : Nat} {zs zn zl vn vc vl vh bh bv br bo bh' bv' bo' vn' vc' vl' vh' zs' zn' zl' vc2 zs2 zn2 zl2 : Nat → Int32} {sc ng okd oco bxm bxd iab okd' bxm' sc' pnl' iab' ng2 sc2 bxd2 pnl2 iab2 : Int32} (h1 : stp < 500) (ht : t < n) (hn : n ≤ 34)
    (hD : s_X6_doLine okd oct (nI t) bxm (-1) iab pv fk bh bv bo nm vn vc vl vh sc zs zn zl (fs t) (fa t) (fb t) = (bh', bv', bo', okd', oct', vn', vc', vl', vh', nm', bxm', zs', zn', zl', sc', pnl', iab'))
    (hO : s_X6_dropOlds okd' oct' (nI t) bxd pnl' iab' bo' nm' ng vn' vc' vl' sc' zs' zn' zl' = (vc2, ng2, zs2, zn2, zl2, sc2, bxd2, pnl2, iab2, oct2)) :
    sl_X6_go_L4 (-1) yf ys yop pv n fk fs fa fb (k + 1) zs zn zl sc vn vc vl vh nm ng bh bv br bo okd oct (nI t) oco stp bxm bxd (-1) iab =
      if pnl2 = -1 then sl_X6_go_L4 (-1) yf ys yop pv n fk fs fa fb k zs2 zn2 zl2 sc2 vn' vc2 vl' vh' nm' ng2 bh' bv' (s_X6_lineBehind (-1) yf ys yop pv n fk fs fa bv' br (nI t)).1 bo' okd' oct2 (s_X6_lineBehind (-1) yf ys yop pv n fk fs fa bv' br (nI t)).2 oco (stp + 1) bxm' bxd2 pnl2 iab2
      else sl_X6_go_L4 (-1) yf ys yop pv n fk fs fa fb k zs2 zn2 zl2 sc2 vn' vc2 vl' vh' nm' ng2 bh' bv' br bo' okd' oct2 (nI t) oco (stp + 1) bxm' bxd2 pnl2 iab2 := by
  rw [sl_X6_go_L4, if_neg (show ¬ (500 : Int32) ≤ nI stp from nI_ge (b := 500) h1 (by omega)), if_neg (qp_isLine1 ht (by omega)), if_pos rfl, qp_sortAt ht (by omega), qp_aAt ht (by omega), qp_bAt ht (by omega), hD]
  dsimp only
  rw [hO]
end
