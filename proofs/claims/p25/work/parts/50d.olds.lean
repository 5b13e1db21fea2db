/-! A RUN: what is told; what is let down and dropped -/
def qr_ct (zs : Nat → Int32) (x : Int32) (s : Nat) : Nat := qb_sum (fun k => if zs k = x then 1 else 0) s
/-- d boxes and g nodes were told, and at most R more -/
def qr_T (sc : Int32) (zs : Nat → Int32) (d g R : Nat) : Prop := ∃ s : Nat, sc = nI s ∧ d + g ≤ s ∧ s ≤ d + g + R ∧ (s ≤ 60 → qr_ct zs 1 s = d ∧ qr_ct zs 2 s = g)
theorem qr_ct_up {zs : Nat → Int32} {x y : Int32} {s : Nat} : qr_ct (upd zs s y) x (s + 1) = qr_ct zs x s + (if y = x then 1 else 0) := by
  show qb_sum (fun k => if upd zs s y k = x then 1 else 0) s + (if upd zs s y s = x then 1 else 0) = _
  rw [qb_us]
  congr 1
  exact qb_sum_congr s fun k hk => by rw [qb_un (by omega)]
theorem qr_tell {sc : Int32} {zs zn zl : Nat → Int32} {d g R : Nat} {x y z : Int32} (h : qr_T sc zs d g R) (hb : d + g + R < 2 ^ 20) : ∃ zs' zn' zl' : Nat → Int32, s_X7_tell sc zs zn zl x y z = (zs', zn', zl', sc + 1) ∧
    (x = 0 → qr_T (sc + 1) zs' d g (R + 1)) ∧ (x = 1 → qr_T (sc + 1) zs' (d + 1) g R) ∧ (x = 2 → qr_T (sc + 1) zs' d (g + 1) R) := by
  obtain ⟨s, rfl, s1, s2, s3⟩ := h
  unfold s_X7_tell
  by_cases c : s < 60
  · rw [if_neg (qp_ix1 c (by omega)), qb_cl (by omega)]
    have e : ∀ w : Int32, qr_ct (upd zs s x) w (s + 1) = qr_ct zs w s + (if x = w then 1 else 0) := fun w => qr_ct_up
    obtain ⟨s4, s5⟩ := s3 (by omega)
    refine ⟨_, _, _, rfl, fun h => ?_, fun h => ?_, fun h => ?_⟩
    · subst h
      exact ⟨s + 1, nI_1 s, by omega, by omega, fun _ => ⟨by rw [e, s4]; rfl, by rw [e, s5]; rfl⟩⟩
    · subst h
      exact ⟨s + 1, nI_1 s, by omega, by omega, fun _ => ⟨by rw [e, s4]; rfl, by rw [e, s5]; rfl⟩⟩
    · subst h
      exact ⟨s + 1, nI_1 s, by omega, by omega, fun _ => ⟨by rw [e, s4]; rfl, by rw [e, s5]; rfl⟩⟩
  · rw [if_pos (show s_X9_isIndexOf 60 (nI s) = 0 by rw [qp_ix (by omega) (by omega), if_neg c])]
    exact ⟨zs, zn, zl, rfl, fun _ => ⟨s + 1, nI_1 s, by omega, by omega, fun h => by omega⟩, fun _ => ⟨s + 1, nI_1 s, by omega, by omega, fun h => by omega⟩, fun _ => ⟨s + 1, nI_1 s, by omega, by omega, fun h => by omega⟩⟩
section
variable {pv nm K R : Nat} {fk vl bh bv : Nat → Int32}
theorem qr_letDown_L {hre : Int32} {vn : Nat → Int32} {pd0 : Nat → Nat} {d : Nat} (hm : nm ≤ 500) (hK : K < 2 ^ 30) (hb : d + 500 + R < 2 ^ 20) : ∀ (k : Nat) (nx : Int32) (i : Nat) (vc : Nat → Int32) (ng : Int32) (zs zn zl : Nat → Int32) (sc : Int32) (pd : Nat → Nat),
    i ≤ 500 → 500 - i < k → qr_N pv fk nm ng vc vl bh bv pd K → (∀ n, n < nm → pd0 n + (if nx = nI n then 1 else 0) ≤ pd n) → qr_T sc zs d (qr_dead nm vc) R →
    ∃ (vc' : Nat → Int32) (ng' : Int32) (zs' zn' zl' : Nat → Int32) (sc' : Int32), sl_X6_letDown_L4 hre nm vn vl k nx i vc ng zs zn zl sc = (vc', ng', zs', zn', zl', sc') ∧ qr_N pv fk nm ng' vc' vl bh bv pd0 K ∧ qr_T sc' zs' d (qr_dead nm vc') R
  | 0, nx, i, vc, ng, zs, zn, zl, sc, pd, hi, hk, h, hp, hT => by omega
  | k + 1, nx, i, vc, ng, zs, zn, zl, sc, pd, hi, hk, h, hp, hT => by
    rw [sl_X6_letDown_L4]
    have weak : qr_N pv fk nm ng vc vl bh bv pd0 K := qr_N_w h (Nat.le_refl _) fun n hn => by have := hp n hn; omega
    by_cases q : 500 ≤ i
    · rw [if_pos (show (500 : Int32) ≤ nI i from nI_le (a := 500) q (by omega))]
      exact ⟨_, _, _, _, _, _, rfl, weak, hT⟩
    · rw [if_neg (show ¬ (500 : Int32) ≤ nI i from nI_ge (b := 500) (by omega) (by omega))]
      by_cases c : s_X4_isNode nm nx = 0
      · rw [qr_isAtEnd0 c]
        dsimp only
        rw [if_pos rfl]
        exact ⟨_, _, _, _, _, _, rfl, weak, hT⟩
      · obtain ⟨j, hj, rfl⟩ := qr_isNode_of hm c
        have hp2 : ∀ n, n < nm → pd0 n + (if n = j then 1 else 0) ≤ pd n := by
          intro n hn
          have := hp n hn
          by_cases z : n = j
          · rw [z] at this ⊢
            rw [if_pos rfl] at this ⊢
            exact this
          · rw [if_neg z]; omega
        obtain ⟨l1, l2⟩ := qr_N_let h hm hK hj hp2
        rw [qr_isAtEnd hj hm]
        by_cases z : vc j - 1 = 0
        · rw [if_pos z]
          dsimp only
          rw [if_neg (show ¬ (1 : Int32) = 0 by decide), qr_linkOf hj hm]
          have h2 := l1 z
          have hd : qr_dead nm (upd vc j (vc j - 1)) = qr_dead nm vc + 1 := by
            have e1 := h2.2.2.2
            rw [h.2.2.2, nI_1] at e1
            have b1 := qr_dead_le nm vc
            have b2 := qr_dead_le nm (upd vc j (vc j - 1))
            exact ((nI_eq (by omega) (by omega)).mp e1).symm
          have bd := qr_dead_le nm vc
          obtain ⟨zs', zn', zl', e, -, -, t2⟩ := qr_tell (zn := zn) (zl := zl) (x := 2) (y := s_X4_numberOf nm vn (nI j)) (z := hre) hT (by omega)
          rw [e]
          dsimp only
          exact qr_letDown_L hm hK hb k (vl j) (i + 1) _ _ zs' zn' zl' _ _ (by omega) (by omega) h2 (fun n _ => Nat.le_refl _) (by rw [hd]; exact t2 rfl)
        · rw [if_neg z]
          dsimp only
          rw [if_pos rfl]
          have h2 := l2 z
          have hd : qr_dead nm (upd vc j (vc j - 1)) = qr_dead nm vc := by
            have e1 := h2.2.2.2
            rw [h.2.2.2] at e1
            have b1 := qr_dead_le nm vc
            have b2 := qr_dead_le nm (upd vc j (vc j - 1))
            exact ((nI_eq (by omega) (by omega)).mp e1).symm
          exact ⟨_, _, _, _, _, _, rfl, h2, by rw [hd]; exact hT⟩
theorem qr_letDown {hre ng sc nx : Int32} {vn vc zs zn zl : Nat → Int32} {pd0 pd : Nat → Nat} {d : Nat} (hm : nm ≤ 500) (hK : K < 2 ^ 30) (hb : d + 500 + R < 2 ^ 20) (h : qr_N pv fk nm ng vc vl bh bv pd K) (hp : ∀ n, n < nm → pd0 n + (if nx = nI n then 1 else 0) ≤ pd n) (hT : qr_T sc zs d (qr_dead nm vc) R) :
    ∃ (vc' : Nat → Int32) (ng' : Int32) (zs' zn' zl' : Nat → Int32) (sc' : Int32), s_X6_letDown hre nm ng vn vc vl sc zs zn zl nx = (vc', ng', zs', zn', zl', sc') ∧ qr_N pv fk nm ng' vc' vl bh bv pd0 K ∧ qr_T sc' zs' d (qr_dead nm vc') R :=
  qr_letDown_L hm hK hb 501 nx 0 vc ng zs zn zl sc pd (Nat.zero_le _) (by omega) h hp hT
end
/-- the line of the first panic -/
def qr_Q (n : Nat) (pnl iab : Int32) : Prop := (pnl = -1 ∨ ∃ t : Nat, t ≤ n ∧ pnl = nI t) ∧ (pnl = -1 → iab = 0)
theorem qr_panic {n t : Nat} {pnl iab : Int32} (ht : t ≤ n) (hn : n ≤ 34) (h : qr_Q n pnl iab) : qr_Q n (s_X6_panic (nI t) pnl iab).1 (s_X6_panic (nI t) pnl iab).2 ∧ ¬ (s_X6_panic (nI t) pnl iab).1 = -1 ∧ (pnl = -1 → (s_X6_panic (nI t) pnl iab).2 = iab) := by
  unfold s_X6_panic
  by_cases c : pnl = -1
  · rw [if_pos c]
    exact ⟨⟨Or.inr ⟨t, ht, rfl⟩, fun z => absurd z (qb_nem1 (by omega))⟩, qb_nem1 (by omega), fun _ => rfl⟩
  · rw [if_neg c]
    exact ⟨⟨h.1, fun z => absurd z c⟩, c, fun z => absurd z c⟩
section
variable {pv nm K R n : Nat} {fk vl bh bv : Nat → Int32}
theorem qr_dropBox {t : Nat} {bxd pnl iab sc p1 : Int32} {zs zn zl : Nat → Int32} {d g : Nat} (ht : t ≤ n) (hn : n ≤ 34) (hb : d + g + R < 2 ^ 20) (hT : qr_T sc zs d g R) (hd : bxd = nI d) (hQ : qr_Q n pnl iab) :
    ∃ (zs' zn' zl' : Nat → Int32) (sc' pnl' iab' : Int32), s_X6_dropBox (nI t) bxd pnl iab sc zs zn zl p1 = (zs', zn', zl', sc', nI (d + 1), pnl', iab') ∧ qr_T sc' zs' (d + 1) g R ∧ qr_Q n pnl' iab' := by
  obtain ⟨zs', zn', zl', e, -, t1, -⟩ := qr_tell (zn := zn) (zl := zl) (x := 1) (y := p1) (z := nI t) hT hb
  unfold s_X6_dropBox
  rw [e, hd, nI_1]
  by_cases c : (0 : Int32) ≤ p1
  · rw [if_pos c]
    exact ⟨_, _, _, _, _, _, rfl, t1 rfl, hQ⟩
  · rw [if_neg c]
    exact ⟨_, _, _, _, _, _, rfl, t1 rfl, (qr_panic ht hn hQ).1⟩
/-- what was set aside is dropped, or let down -/
theorem qr_dropOlds {t : Nat} {okd bxd pnl iab sc ng : Int32} {oct : Nat} {bo vn vc zs zn zl : Nat → Int32} {pd : Nat → Nat} {d : Nat} (ht : t ≤ n) (hn : n ≤ 34) (hm : nm ≤ 500) (hK : K < 2 ^ 30) (hb : d + 600 + R < 2 ^ 20) (ho : oct ≤ 2) (ho5 : okd = 5 → oct ≤ 1)
    (hN : qr_N pv fk nm ng vc vl bh bv pd K) (hp : ∀ m, m < nm → (if okd = 5 ∧ ¬ oct = 0 ∧ bo 0 = nI m then 1 else 0) ≤ pd m) (hT : qr_T sc zs d (qr_dead nm vc) R) (hd : bxd = nI d) (hQ : qr_Q n pnl iab) (hi : iab = 0) :
    ∃ (vc' : Nat → Int32) (ng' : Int32) (zs' zn' zl' : Nat → Int32) (sc' bxd' pnl' iab' : Int32) (d' : Nat), s_X6_dropOlds okd oct (nI t) bxd pnl iab bo nm ng vn vc vl sc zs zn zl = (vc', ng', zs', zn', zl', sc', bxd', pnl', iab', 0) ∧
      qr_N pv fk nm ng' vc' vl bh bv (fun _ => 0) K ∧ qr_T sc' zs' d' (qr_dead nm vc') R ∧ bxd' = nI d' ∧ d' ≤ d + 2 ∧ qr_Q n pnl' iab' ∧ (iab' = 0 → d' = d + (if okd = 1 ∨ okd = 2 then oct else 0)) ∧ d ≤ d' := by
  have hN0 : qr_N pv fk nm ng vc vl bh bv (fun _ => 0) K := qr_N_w hN (Nat.le_refl _) fun n hn => Nat.zero_le _
  have bd := qr_dead_le nm vc
  unfold s_X6_dropOlds
  rw [sl_X6_dropOlds_L2]
  by_cases o0 : oct = 0
  · subst o0
    rw [if_pos (show nI 0 ≤ nI 0 by decide)]
    exact ⟨_, _, _, _, _, _, _, _, _, d, rfl, hN0, hT, hd, by omega, hQ, fun _ => by split <;> rfl, Nat.le_refl _⟩
  · rw [if_neg (show ¬ nI oct ≤ nI 0 from nI_ge (by omega) (by omega)), if_neg (show ¬ (2 : Int32) ≤ nI 0 by decide), if_pos hi]
    have end1 : oct = 1 → ∀ (vc' : Nat → Int32) (ng' : Int32) (zs' zn' zl' : Nat → Int32) (sc' bxd' pnl' iab' : Int32), sl_X6_dropOlds_L2 okd oct (nI t) bo nm vn vl 2 (0 + 1) vc' ng' zs' zn' zl' sc' bxd' pnl' iab' = (vc', ng', zs', zn', zl', sc', bxd', pnl', iab', 0) := by
      intro o1 vc' ng' zs' zn' zl' sc' bxd' pnl' iab'
      rw [sl_X6_dropOlds_L2, if_pos (show nI oct ≤ nI (0 + 1) by rw [o1]; decide)]
    have end2 : ∀ (vc' : Nat → Int32) (ng' : Int32) (zs' zn' zl' : Nat → Int32) (sc' bxd' pnl' iab' : Int32), sl_X6_dropOlds_L2 okd oct (nI t) bo nm vn vl 1 (0 + 1 + 1) vc' ng' zs' zn' zl' sc' bxd' pnl' iab' = (vc', ng', zs', zn', zl', sc', bxd', pnl', iab', 0) := by
      intro vc' ng' zs' zn' zl' sc' bxd' pnl' iab'
      rw [sl_X6_dropOlds_L2, if_pos (show nI oct ≤ nI (0 + 1 + 1) from nI_le ho (by omega))]
    by_cases c5 : okd = 5
    · have o1 : oct = 1 := by have := ho5 c5; omega
      rw [if_pos c5]
      obtain ⟨vc', ng', zs', zn', zl', sc', e, n1, t1⟩ := qr_letDown (hre := nI t) (vn := vn) (zn := zn) (zl := zl) (nx := bo 0) (pd0 := fun _ => 0) hm hK (show d + 500 + R < 2 ^ 20 by omega) hN (fun m hmm => by
        have := hp m hmm
        try dsimp only
        by_cases z : bo 0 = nI m
        · rw [if_pos ⟨c5, o0, z⟩] at this
          rw [if_pos z]; omega
        · rw [if_neg z]; omega) hT
      rw [e]
      dsimp only
      rw [end1 o1]
      exact ⟨_, _, _, _, _, _, _, _, _, d, rfl, n1, t1, hd, by omega, hQ, fun _ => by rw [if_neg (by rw [c5]; decide)]; rfl, Nat.le_refl _⟩
    · rw [if_neg c5]
      by_cases cw : s_X9_isOwned okd = 0
      · rw [if_pos cw]
        have nw : ¬ (okd = 1 ∨ okd = 2) := fun z => qp_own.mpr (z.elim Or.inl fun z => Or.inr (Or.inl z)) cw
        by_cases o1 : oct = 1
        · rw [end1 o1]
          exact ⟨_, _, _, _, _, _, _, _, _, d, rfl, hN0, hT, hd, by omega, hQ, fun _ => by rw [if_neg nw]; rfl, Nat.le_refl _⟩
        · rw [sl_X6_dropOlds_L2, if_neg (show ¬ nI oct ≤ nI (0 + 1) from nI_ge (by omega) (by omega)), if_neg (show ¬ (2 : Int32) ≤ nI (0 + 1) by decide), if_pos hi, if_neg c5, if_pos cw, end2]
          exact ⟨_, _, _, _, _, _, _, _, _, d, rfl, hN0, hT, hd, by omega, hQ, fun _ => by rw [if_neg nw]; rfl, Nat.le_refl _⟩
      · rw [if_neg cw]
        have yw : okd = 1 ∨ okd = 2 := by
          rcases qp_own.mp cw with z | z | z
          · exact Or.inl z
          · exact Or.inr z
          · exact absurd z c5
        obtain ⟨zs', zn', zl', sc', pnl', iab', e, t1, q1⟩ := qr_dropBox (t := t) (p1 := bo 0) (zn := zn) (zl := zl) ht hn (show d + qr_dead nm vc + R < 2 ^ 20 by omega) hT hd hQ
        rw [e]
        dsimp only
        by_cases o1 : oct = 1
        · rw [end1 o1]
          exact ⟨_, _, _, _, _, _, _, _, _, d + 1, rfl, hN0, t1, rfl, by omega, q1, fun _ => by rw [if_pos yw, o1], by omega⟩
        · have o2 : oct = 2 := by omega
          rw [sl_X6_dropOlds_L2, if_neg (show ¬ nI oct ≤ nI (0 + 1) from nI_ge (by omega) (by omega)), if_neg (show ¬ (2 : Int32) ≤ nI (0 + 1) by decide)]
          by_cases ci : iab' = 0
          · rw [if_pos ci, if_neg c5, if_neg cw]
            obtain ⟨zs2, zn2, zl2, sc2, pnl2, iab2, e2, t2, q2⟩ := qr_dropBox (t := t) (p1 := bo (0 + 1)) (zn := zn') (zl := zl') ht hn (show d + 1 + qr_dead nm vc + R < 2 ^ 20 by omega) t1 rfl q1
            rw [e2]
            dsimp only
            rw [end2]
            exact ⟨_, _, _, _, _, _, _, _, _, d + 1 + 1, rfl, hN0, t2, rfl, by omega, q2, fun _ => by rw [if_pos yw, o2], by omega⟩
          · rw [if_neg ci]
            exact ⟨_, _, _, _, _, _, _, _, _, d + 1, rfl, hN0, t1, rfl, by omega, q1, fun z => absurd z ci, by omega⟩
end
