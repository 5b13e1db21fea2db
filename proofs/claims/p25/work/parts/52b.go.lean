/-! A RUN: its end -/
abbrev qr_Y : Type := (Nat → Int32) × (Nat → Int32) × (Nat → Int32) × Int32 × (Nat → Int32) × (Nat → Int32) × (Nat → Int32) × (Nat → Int32) × Nat × Int32 × (Nat → Int32) × (Nat → Int32) × (Nat → Int32) × (Nat → Int32) × Int32 × Nat × Int32 × Int32 × Nat × Int32 × Int32 × Int32 × Int32
def qr_yzs (Z : qr_Y) : Nat → Int32 := Z.1
def qr_yzn (Z : qr_Y) : Nat → Int32 := Z.2.1
def qr_yzl (Z : qr_Y) : Nat → Int32 := Z.2.2.1
def qr_ysc (Z : qr_Y) : Int32 := Z.2.2.2.1
def qr_yvn (Z : qr_Y) : Nat → Int32 := Z.2.2.2.2.1
def qr_yvc (Z : qr_Y) : Nat → Int32 := Z.2.2.2.2.2.1
def qr_yvl (Z : qr_Y) : Nat → Int32 := Z.2.2.2.2.2.2.1
def qr_yvh (Z : qr_Y) : Nat → Int32 := Z.2.2.2.2.2.2.2.1
def qr_ynm (Z : qr_Y) : Nat := Z.2.2.2.2.2.2.2.2.1
def qr_yng (Z : qr_Y) : Int32 := Z.2.2.2.2.2.2.2.2.2.1
def qr_ybh (Z : qr_Y) : Nat → Int32 := Z.2.2.2.2.2.2.2.2.2.2.1
def qr_ybv (Z : qr_Y) : Nat → Int32 := Z.2.2.2.2.2.2.2.2.2.2.2.1
def qr_ybr (Z : qr_Y) : Nat → Int32 := Z.2.2.2.2.2.2.2.2.2.2.2.2.1
def qr_ybo (Z : qr_Y) : Nat → Int32 := Z.2.2.2.2.2.2.2.2.2.2.2.2.2.1
def qr_yokd (Z : qr_Y) : Int32 := Z.2.2.2.2.2.2.2.2.2.2.2.2.2.2.1
def qr_yoct (Z : qr_Y) : Nat := Z.2.2.2.2.2.2.2.2.2.2.2.2.2.2.2.1
def qr_yhre (Z : qr_Y) : Int32 := Z.2.2.2.2.2.2.2.2.2.2.2.2.2.2.2.2.1
def qr_yoco (Z : qr_Y) : Int32 := Z.2.2.2.2.2.2.2.2.2.2.2.2.2.2.2.2.2.1
def qr_ystp (Z : qr_Y) : Nat := Z.2.2.2.2.2.2.2.2.2.2.2.2.2.2.2.2.2.2.1
def qr_ybxm (Z : qr_Y) : Int32 := Z.2.2.2.2.2.2.2.2.2.2.2.2.2.2.2.2.2.2.2.1
def qr_ybxd (Z : qr_Y) : Int32 := Z.2.2.2.2.2.2.2.2.2.2.2.2.2.2.2.2.2.2.2.2.1
def qr_ypnl (Z : qr_Y) : Int32 := Z.2.2.2.2.2.2.2.2.2.2.2.2.2.2.2.2.2.2.2.2.2.1
def qr_yiab (Z : qr_Y) : Int32 := Z.2.2.2.2.2.2.2.2.2.2.2.2.2.2.2.2.2.2.2.2.2.2
abbrev qr_V : Type := (Nat → Int32) × (Nat → Int32) × Int32 × Nat × (Nat → Int32) × Int32 × (Nat → Int32) × (Nat → Int32) × (Nat → Int32) × Int32 × Int32 × Int32 × Int32
def qr_fin (n : Nat) (U : qr_V) (vn vl vh bv br : Nat → Int32) (nm stp : Nat) (bxm : Int32) : qr_Y := if U.2.2.2.2.2.2.2.2.2.2.2.2 = 0 then (if U.2.2.2.2.2.2.2.2.2.2.2.1 = (-1) then (U.2.2.2.2.2.2.1, U.2.2.2.2.2.2.2.1, U.2.2.2.2.2.2.2.2.1, U.2.2.2.2.2.2.2.2.2.1, vn, U.2.2.2.2.1, vl, vh, nm, U.2.2.2.2.2.1, U.1, bv, br, U.2.1, U.2.2.1, U.2.2.2.1, nI n, 0, stp, bxm, U.2.2.2.2.2.2.2.2.2.2.1, U.2.2.2.2.2.2.2.2.2.2.2.1, U.2.2.2.2.2.2.2.2.2.2.2.2) else (U.2.2.2.2.2.2.1, U.2.2.2.2.2.2.2.1, U.2.2.2.2.2.2.2.2.1, U.2.2.2.2.2.2.2.2.2.1, vn, U.2.2.2.2.1, vl, vh, nm, U.2.2.2.2.2.1, U.1, bv, br, U.2.1, U.2.2.1, U.2.2.2.1, nI n, 1, stp, bxm, U.2.2.2.2.2.2.2.2.2.2.1, U.2.2.2.2.2.2.2.2.2.2.2.1, U.2.2.2.2.2.2.2.2.2.2.2.2)) else (U.2.2.2.2.2.2.1, U.2.2.2.2.2.2.2.1, U.2.2.2.2.2.2.2.2.1, U.2.2.2.2.2.2.2.2.2.1, vn, U.2.2.2.2.1, vl, vh, nm, U.2.2.2.2.2.1, U.1, bv, br, U.2.1, U.2.2.1, U.2.2.2.1, nI n, 2, stp, bxm, U.2.2.2.2.2.2.2.2.2.2.1, U.2.2.2.2.2.2.2.2.2.2.2.1, U.2.2.2.2.2.2.2.2.2.2.2.2)
section
variable {pv n : Nat} {yf ys yop fk fs fa fb : Nat → Int32}
theorem qr_go2 {k stp nm oct : Nat} {zs zn zl vn vc vl vh bh bv br bo : Nat → Int32} {sc ng okd oco bxm bxd pnl iab hre : Int32} (hs : stp ≤ 500) (h : s_X5_isLine n hre = 0 ∨ ¬ pnl = -1) :
    sl_X6_go_L4 (-1) yf ys yop pv n fk fs fa fb (k + 1) zs zn zl sc vn vc vl vh nm ng bh bv br bo okd oct hre oco stp bxm bxd pnl iab = qr_fin n (s_X6_unwind okd oct (nI n) bxd pnl iab pv fk bh bv bo nm ng vn vc vl sc zs zn zl) vn vl vh bv br nm stp bxm := by
  rw [sl_X6_go_L4]
  generalize s_X6_unwind okd oct (nI n) bxd pnl iab pv fk bh bv bo nm ng vn vc vl sc zs zn zl = U
  by_cases a : stp < 500
  · rw [if_neg (show ¬ (500 : Int32) ≤ nI stp from nI_ge (b := 500) a (by omega))]
    by_cases b : s_X5_isLine n hre = 0
    · rw [if_pos b]
      by_cases c : pnl = -1
      · rw [if_pos c]; rfl
      · rw [if_neg c]; rfl
    · rw [if_neg b]
      rcases h with h | h
      · exact absurd h b
      · rw [if_neg h]; rfl
  · rw [if_pos (show (500 : Int32) ≤ nI stp from nI_le (a := 500) (by omega) (by omega))]
    by_cases c : pnl = -1
    · rw [if_pos c]
      rcases h with h | h
      · rw [if_pos h]; rfl
      · exact absurd c h
    · rw [if_neg c]; rfl
theorem qr_go3 {k stp nm oct : Nat} {zs zn zl vn vc vl vh bh bv br bo : Nat → Int32} {sc ng okd oco bxm bxd iab hre : Int32} (hs : stp = 500) (h : ¬ s_X5_isLine n hre = 0) :
    sl_X6_go_L4 (-1) yf ys yop pv n fk fs fa fb (k + 1) zs zn zl sc vn vc vl vh nm ng bh bv br bo okd oct hre oco stp bxm bxd (-1) iab = (zs, zn, zl, sc, vn, vc, vl, vh, nm, ng, bh, bv, br, bo, okd, oct, hre, 3, stp, bxm, bxd, -1, iab) := by
  rw [sl_X6_go_L4, if_pos (show (500 : Int32) ≤ nI stp by rw [hs]; decide), if_pos rfl, if_neg h]
end
/-- what holds behind a run -/
def qr_Z (n : Nat) (Z : qr_Y) : Prop := ∃ s m d g : Nat, qr_ysc Z = nI s ∧ qr_ybxm Z = nI m ∧ qr_ybxd Z = nI d ∧ qr_yng Z = nI g ∧ s < 2 ^ 20 ∧ m < 2 ^ 20 ∧ d < 2 ^ 20 ∧ g ≤ qr_ynm Z ∧ qr_ynm Z ≤ 500 ∧ qr_ystp Z ≤ 500 ∧
  (s ≤ 60 → qr_ct (qr_yzs Z) 1 s = d ∧ qr_ct (qr_yzs Z) 2 s = g) ∧
  ((qr_yoco Z = 3 ∧ qr_ypnl Z = -1 ∧ qr_ystp Z = 500) ∨ (qr_yoco Z = 0 ∧ qr_ypnl Z = -1 ∧ m = d) ∨ (qr_yoco Z = 1 ∧ (∃ t : Nat, t ≤ n ∧ qr_ypnl Z = nI t) ∧ m = d) ∨ (qr_yoco Z = 2 ∧ ∃ t : Nat, t ≤ n ∧ qr_ypnl Z = nI t))
theorem qr_Zof {n nm oct stp : Nat} {zs zn zl vn vc vl vh bh bv br bo : Nat → Int32} {sc ng okd hre oco bxm bxd pnl iab : Int32} (s m d g : Nat) (h1 : sc = nI s) (h2 : bxm = nI m) (h3 : bxd = nI d) (h4 : ng = nI g) (h5 : s < 2 ^ 20) (h6 : m < 2 ^ 20) (h7 : d < 2 ^ 20) (h8 : g ≤ nm) (h9 : nm ≤ 500) (h10 : stp ≤ 500)
    (h11 : s ≤ 60 → qr_ct zs 1 s = d ∧ qr_ct zs 2 s = g) (h12 : (oco = 3 ∧ pnl = -1 ∧ stp = 500) ∨ (oco = 0 ∧ pnl = -1 ∧ m = d) ∨ (oco = 1 ∧ (∃ t : Nat, t ≤ n ∧ pnl = nI t) ∧ m = d) ∨ (oco = 2 ∧ ∃ t : Nat, t ≤ n ∧ pnl = nI t)) : qr_Z n (zs, zn, zl, sc, vn, vc, vl, vh, nm, ng, bh, bv, br, bo, okd, oct, hre, oco, stp, bxm, bxd, pnl, iab) :=
  ⟨s, m, d, g, h1, h2, h3, h4, h5, h6, h7, h8, h9, h10, h11, h12⟩
/-- what holds at the head of the run's loop -/
def qr_J (pv n : Nat) (fk : Nat → Int32) (T : qk_T) (bh bv vc vl zs : Nat → Int32) (nm stp : Nat) (ng bxm bxd sc hre pnl iab : Int32) : Prop :=
  qr_Q n pnl iab ∧ nm ≤ stp ∧ qr_N pv fk nm ng vc vl bh bv (fun _ => 0) (stp + 1) ∧
  (∃ m d : Nat, bxm = nI m ∧ bxd = nI d ∧ m ≤ 2 * stp ∧ d ≤ 2 * stp + 2 ∧ (iab = 0 → m = d + qr_cb pv fk bh) ∧ qr_T sc zs d (qr_dead nm vc) stp) ∧
  (pnl = -1 → ∀ t, t < n → hre = nI t → qr_Fl pv fk T bh bv t)
section
variable {pv n : Nat} {fk fs fa fb : Nat → Int32} {T : qk_T}
theorem qr_end {stp nm : Nat} {zs zn zl vn vc vl vh bh bv br bo : Nat → Int32} {sc ng okd bxm bxd pnl iab hre : Int32} (hK : qp_K pv fk) (hp : pv ≤ 8) (hn : n ≤ 33) (hs : stp ≤ 500) (hJ : qr_J pv n fk T bh bv vc vl zs nm stp ng bxm bxd sc hre pnl iab) :
    qr_Z n (qr_fin n (s_X6_unwind okd 0 (nI n) bxd pnl iab pv fk bh bv bo nm ng vn vc vl sc zs zn zl) vn vl vh bv br nm stp bxm) := by
  obtain ⟨j1, j2, j3, ⟨m, d, m1, m2, m3, m4, m5, m6⟩, j5⟩ := hJ
  have h := qr_unwind_L (n := n) (vn := vn) (m := m) (B := d + 16) (R := stp) hK hp (by omega) (show nm ≤ 500 by omega) (show stp + 1 < 2 ^ 29 by omega) (by omega) 9 pv bh bo okd vc ng zs zn zl sc bxd pnl iab d (Nat.le_refl _) (by omega) j3 m6 m2 (by omega) j1 m5 (fun _ i hi c hge => by
    exfalso
    rcases qp_kd_cases (k := i) hK with y | ⟨y1, -⟩
    · rw [c] at y; exact absurd y (by decide)
    · omega)
  unfold s_X6_unwind
  generalize sl_X6_unwind_L10 (nI n) pv fk bv nm vn vl 9 pv bh bo okd 0 vc ng zs zn zl sc bxd pnl iab = U at h ⊢
  obtain ⟨d', hN, hT, hd, hB, hQ, hi⟩ := h
  obtain ⟨s, t1, t2, t3, t4⟩ := hT
  have bd := qr_dead_le nm U.2.2.2.2.1
  unfold qr_fin
  by_cases a : U.2.2.2.2.2.2.2.2.2.2.2.2 = 0
  · rw [if_pos a]
    by_cases b : U.2.2.2.2.2.2.2.2.2.2.2.1 = -1
    · rw [if_pos b]
      exact qr_Zof s m d' _ t1 m1 hd hN.2.2.2 (by omega) (by omega) (by omega) bd (by omega) hs t4 (Or.inr (Or.inl ⟨rfl, b, hi a⟩))
    · rw [if_neg b]
      exact qr_Zof s m d' _ t1 m1 hd hN.2.2.2 (by omega) (by omega) (by omega) bd (by omega) hs t4 (Or.inr (Or.inr (Or.inl ⟨rfl, hQ.1.elim (fun z => absurd z b) id, hi a⟩)))
  · rw [if_neg a]
    have b : ¬ U.2.2.2.2.2.2.2.2.2.2.2.1 = -1 := fun z => a (hQ.2 z)
    exact qr_Zof s m d' _ t1 m1 hd hN.2.2.2 (by omega) (by omega) (by omega) bd (by omega) hs t4 (Or.inr (Or.inr (Or.inr ⟨rfl, hQ.1.elim (fun z => absurd z b) id⟩)))
/-- the loop -/
theorem qr_loop (hK : qp_K pv fk) (hp : pv ≤ 8) (hn : n ≤ 33) (hfit : ∀ j, j < n → qp_F pv fk (fs j) (fa j) (fb j)) (hl : ql_n fs n ≤ 16) (hL : qk_L pv n fk fs fa fb T) (hw : qw_stk fs n = some []) (hb : ∀ j, j < n → ¬ qk_bad pv n fk fs fa fb T j) :
    ∀ (k stp nm : Nat) (zs zn zl vn vc vl vh bh bv br bo : Nat → Int32) (sc ng okd oco bxm bxd pnl iab hre : Int32), stp ≤ 500 → 500 - stp < k → qr_J pv n fk T bh bv vc vl zs nm stp ng bxm bxd sc hre pnl iab →
      qr_Z n (sl_X6_go_L4 (-1) (qk_yf T) (qk_ys T) (qk_yop T) pv n fk fs fa fb k zs zn zl sc vn vc vl vh nm ng bh bv br bo okd 0 hre oco stp bxm bxd pnl iab)
  | 0, stp, nm, zs, zn, zl, vn, vc, vl, vh, bh, bv, br, bo, sc, ng, okd, oco, bxm, bxd, pnl, iab, hre, hs, hk, hJ => by omega
  | k + 1, stp, nm, zs, zn, zl, vn, vc, vl, vh, bh, bv, br, bo, sc, ng, okd, oco, bxm, bxd, pnl, iab, hre, hs, hk, hJ => by
    by_cases c1 : s_X5_isLine n hre = 0 ∨ ¬ pnl = -1
    · rw [qr_go2 hs c1]
      exact qr_end hK hp hn hs hJ
    · have c2 : ¬ s_X5_isLine n hre = 0 := fun z => c1 (Or.inl z)
      have c3 : pnl = -1 := Classical.byContradiction fun z => c1 (Or.inr z)
      subst c3
      obtain ⟨t, ht, rfl⟩ := qp_isLine_of (by omega) c2
      obtain ⟨j1, j2, j3, ⟨m, d, m1, m2, m3, m4, m5, m6⟩, j5⟩ := hJ
      have bd := qr_dead_le nm vc
      by_cases c4 : stp < 500
      · have ci : iab = 0 := j1.2 rfl
        subst ci
        have hm5 := m5 rfl
        have hFl := j5 rfl t ht rfl
        obtain ⟨u1, u2⟩ := qr_used hK hp hL ht (hb t ht) hFl
        have hA : fs t = 6 → s_X5_kindAt pv fk (fa t) = 4 → ∃ p, p < 24 ∧ s_X6_valueAt bv (fa t) = nI p ∧ (qp_kd pv fk p = 0 ∨ qp_kd pv fk p = 1 ∨ qp_kd pv fk p = 2) ∧ ∀ i, qb_t (qr_lv pv fk p) i = true → ¬ bh i = 0 := by
          intro e6 e4
          obtain ⟨v, v1, v2, v3⟩ := qr_bplace (p := fa t) hK hp (Or.inr e4)
          obtain ⟨p, o, p1, p2, p3, p4, p5, p6, p7⟩ := qr_lent hK hp hn hL hw ht (hb t ht) hFl v1 (by rw [v3]; exact Or.inr e4) (by rw [e6]; exact v2)
          exact ⟨p, p1, by rw [v2, qr_valueAt (by omega)]; exact p2, p3, p7⟩
        obtain ⟨bh', bv', bo', okd', oct', vn', vc', vl', vh', nm', bxm', zs', zn', zl', sc', pnl', iab', eD, hE⟩ := qr_doLine (hre := nI t) (okd := okd) (bo := bo) (vn := vn) (vh := vh) (zn := zn) (zl := zl) (bxm := bxm) hK hp (hfit t ht) (show nm < 500 by omega) (show stp + 1 < 2 ^ 29 by omega) (show d + 500 + stp < 2 ^ 19 by omega) j3 m6 u1 u2 hA
        obtain ⟨E1, E2, ⟨mk, k1, k2, k3⟩, E4, E5, E6, E7, E8, E9, E10, E11, E12⟩ := id hE
        have hQ' : qr_Q n pnl' iab' := by
          refine ⟨?_, fun _ => E8⟩
          rcases E9 with z | z
          · exact Or.inl z
          · exact Or.inr ⟨t, by omega, z⟩
        obtain ⟨vc2, ng2, zs2, zn2, zl2, sc2, bxd2, pnl2, iab2, d2, eO, r1, r2, r3, r4, r5, r6, r7⟩ := qr_dropOlds (n := n) (t := t) (okd := okd') (bo := bo') (vn := vn') (zn := zn') (zl := zl') (R := stp + 1) (by omega) (by omega) (show nm' ≤ 500 by omega) (show stp + 1 + 1 < 2 ^ 30 by omega) (show d + 600 + (stp + 1) < 2 ^ 20 by omega) E11 E12 E4 (fun m _ => Nat.le_refl _) E7 m2 hQ' E8
        rw [qr_go1 c4 ht (by omega) eD eO]
        have hmid : ∃ m d : Nat, bxm' = nI m ∧ bxd2 = nI d ∧ m ≤ 2 * (stp + 1) ∧ d ≤ 2 * (stp + 1) + 2 ∧ (iab2 = 0 → m = d + qr_cb pv fk bh') ∧ qr_T sc2 zs2 d (qr_dead nm' vc2) (stp + 1) := by
          refine ⟨m + mk, d2, by rw [k2, m1, nI_add], r3, by omega, by omega, fun z => ?_, r2⟩
          have := r6 z
          omega
        by_cases c5 : pnl2 = -1
        · rw [if_pos c5]
          refine qr_loop hK hp hn hfit hl hL hw hb k (stp + 1) nm' _ _ _ _ _ _ _ _ _ _ _ _ _ _ _ _ _ _ _ _ (by omega) (by omega) ⟨r5, by omega, r1, hmid, fun _ t' ht' e => ?_⟩
          refine qr_next hK hp hn hl (hfit t ht) hL hw ht (hb t ht) hFl rfl rfl rfl hE ht' ?_
          rcases qr_behind (pv := pv) (yf := qk_yf T) (ys := qk_ys T) (yop := qk_yop T) (fk := fk) (fs := fs) (fa := fa) (bv := bv') (br := br) ht (show n ≤ 34 by omega) with z | z
          · exact Or.inl (z.symm.trans e)
          · exact Or.inr (z.symm.trans e)
        · rw [if_neg c5]
          exact qr_loop hK hp hn hfit hl hL hw hb k (stp + 1) nm' _ _ _ _ _ _ _ _ _ _ _ _ _ _ _ _ _ _ _ _ (by omega) (by omega) ⟨r5, by omega, r1, hmid, fun z => absurd z c5⟩
      · have c6 : stp = 500 := by omega
        rw [qr_go3 c6 c2]
        obtain ⟨s, t1, t2, t3, t4⟩ := m6
        exact qr_Zof s m d _ t1 m1 m2 j3.2.2.2 (by omega) (by omega) (by omega) bd (by omega) hs t4 (Or.inl ⟨rfl, rfl, c6⟩)
theorem qr_go {okd oco : Int32} {bh bv br bo vn vc vl vh zs zn zl : Nat → Int32} (hK : qp_K pv fk) (hp : pv ≤ 8) (hn : n ≤ 33) (hfit : ∀ j, j < n → qp_F pv fk (fs j) (fa j) (fb j)) (hl : ql_n fs n ≤ 16) (hL : qk_L pv n fk fs fa fb T) (hw : qw_stk fs n = some []) (hb : ∀ j, j < n → ¬ qk_bad pv n fk fs fa fb T j) :
    qr_Z n (s_X6_go okd oco (-1) (qk_yf T) (qk_ys T) (qk_yop T) pv n fk fs fa fb bh bv br bo vn vc vl vh zs zn zl) := by
  have hcl : ∃ bh0 bv0 br0 : Nat → Int32, s_X6_clear bh bv br = (0, 0, 0, bh0, bv0, br0, 0, 0, 0, 0, 0, -1, 0) ∧ (∀ i, i < 24 → bh0 i = 0 ∧ bv0 i = 0) := by
    have go : ∀ (k i : Nat) (bh bv : Nat → Int32), i ≤ 24 → 24 - i < k → (∀ j, j < i → bh j = 0 ∧ bv j = 0) → ∃ bh0 bv0 br0 : Nat → Int32, sl_X6_clear_L17 br k i bh bv = (0, 0, 0, bh0, bv0, br0, 0, 0, 0, 0, 0, -1, 0) ∧ (∀ i, i < 24 → bh0 i = 0 ∧ bv0 i = 0) := by
      intro k
      induction k with
      | zero => intro i bh bv a b; omega
      | succ k ih =>
        intro i bh bv a b h
        rw [sl_X6_clear_L17]
        by_cases q : 24 ≤ i
        · rw [if_pos (show (24 : Int32) ≤ nI i from nI_le (a := 24) q (by omega))]
          exact ⟨_, _, _, rfl, fun j hj => h j (by omega)⟩
        · rw [if_neg (show ¬ (24 : Int32) ≤ nI i from nI_ge (b := 24) (by omega) (by omega))]
          refine ih (i + 1) _ _ (by omega) (by omega) fun j hj => ?_
          by_cases z : j = i
          · rw [z, qb_us, qb_us]; exact ⟨rfl, rfl⟩
          · rw [qb_un z, qb_un z]; exact h j (by omega)
    exact go 25 0 bh bv (Nat.zero_le _) (by omega) fun j hj => by omega
  obtain ⟨bh0, bv0, br0, e, h0⟩ := hcl
  unfold s_X6_go
  rw [e]
  dsimp only
  have hw2 := hL.2.2.2.2 hw
  refine qr_loop hK hp hn hfit hl hL hw hb 501 0 0 _ _ _ _ _ _ _ _ _ _ _ _ _ _ _ _ _ _ _ _ (by omega) (by omega) ⟨⟨Or.inl rfl, fun _ => rfl⟩, Nat.le_refl _, ⟨fun n hn => by omega, fun i hi c d => absurd (h0 i hi).1 d, fun m hm => by omega, rfl⟩, ⟨0, 0, rfl, rfl, by omega, by omega, fun _ => ?_, ⟨0, rfl, Nat.le_refl 0, Nat.zero_le _, fun _ => ⟨rfl, rfl⟩⟩⟩, fun _ t ht et => ?_⟩
  · have e : qr_cb pv fk bh0 = 0 := qb_sum_0 24 fun i hi => by
      rw [if_neg]
      rintro ⟨-, w⟩
      exact w (h0 i hi).1
    rw [e]
  · have t0 : t = 0 := (nI_eq (by omega) (by omega)).mp (et.symm.trans nI_0.symm)
    subst t0
    have al24 : ∀ i, qb_t (s_X5_allLeaves pv fk) i = true → i < 24 := by
      intro i hi
      obtain ⟨v, v1, v2⟩ := (qp_all hp).mp hi
      have := (qp_lf_kd hK v2).2.1
      omega
    refine ⟨hw2.1.2.2.1, fun i hi => ⟨fun h => absurd (h0 i (al24 i hi)).1 h, fun _ => hw2.1.2.2.2 i hi⟩, fun v hv hbr hcn h => absurd (h0 (3 * v) (by omega)).1 h⟩
end
