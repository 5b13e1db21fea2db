/-! A RUN: what a line does -/
theorem qr_T_w {sc : Int32} {zs : Nat → Int32} {d g R R' : Nat} (h : qr_T sc zs d g R) (hR : R ≤ R') : qr_T sc zs d g R' := by
  obtain ⟨s, a, b, c, e⟩ := h
  exact ⟨s, a, b, by omega, e⟩
theorem qr_deq {pv nm nm' K K' : Nat} {fk vc vl bh bv vc' vl' bh' bv' : Nat → Int32} {ng : Int32} {pd pd' : Nat → Nat} (h : qr_N pv fk nm ng vc vl bh bv pd K) (h' : qr_N pv fk nm' ng vc' vl' bh' bv' pd' K') (hm : nm ≤ 500) (hm' : nm' ≤ 501) : qr_dead nm' vc' = qr_dead nm vc := by
  have e1 := h.2.2.2
  have e2 := h'.2.2.2
  have b1 := qr_dead_le nm vc
  have b2 := qr_dead_le nm' vc'
  exact (nI_eq (by omega) (by omega)).mp (e2.symm.trans e1)
def qr_E (pv : Nat) (fk : Nat → Int32) (s a b hre : Int32) (bh bv : Nat → Int32) (nm : Nat) (ng : Int32) (K : Nat) (bxm : Int32) (d R : Nat) (bh' bv' bo' : Nat → Int32) (okd' : Int32) (oct' : Nat) (vc' vl' : Nat → Int32) (nm' : Nat) (bxm' : Int32) (zs' : Nat → Int32) (sc' pnl' iab' : Int32) : Prop :=
  (∀ i, i < 24 → (¬ bh' i = 0 ↔ (¬ bh i = 0 ∧ qb_t (s_X5_leavesOf pv fk (qd_l s a b)) i = false) ∨ qb_t (s_X5_leavesOf pv fk (qd_g s a)) i = true)) ∧
  (∀ v, v < pv → (fk v = 3 ∨ fk v = 4) → bv' (3 * v) = if qd_g s a = nI (3 * v) then (if s = 3 ∨ s = 4 then b else s_X6_valueAt bv b) else bv (3 * v)) ∧
  (∃ mk : Nat, mk ≤ 2 ∧ bxm' = bxm + nI mk ∧ qr_cb pv fk bh' + (if okd' = 1 ∨ okd' = 2 then oct' else 0) = qr_cb pv fk bh + mk) ∧
  qr_N pv fk nm' ng vc' vl' bh' bv' (fun m => if okd' = 5 ∧ ¬ oct' = 0 ∧ bo' 0 = nI m then 1 else 0) (K + 1) ∧ nm ≤ nm' ∧ nm' ≤ nm + 1 ∧
  qr_T sc' zs' d (qr_dead nm' vc') (R + 1) ∧ iab' = 0 ∧ (pnl' = -1 ∨ pnl' = hre) ∧ (s = 15 → pnl' = hre) ∧ oct' ≤ 2 ∧ (okd' = 5 → oct' ≤ 1)
section
variable {pv : Nat} {fk : Nat → Int32}
theorem qr_kd3 {v : Nat} (hv : v < pv) : qp_kd pv fk (3 * v) = fk v := by
  unfold qp_kd
  rw [show 3 * v / 3 = v from by omega, if_pos hv, if_pos (by omega)]
/-- a place's leaves are no borrows, unless it is one -/
theorem qr_lv_bor {k v : Nat} (hK : qp_K pv fk) (hp : pv ≤ 8) (hk : k < 24) (hv : v < pv) (hb : fk v = 3 ∨ fk v = 4) (h : qb_t (qr_lv pv fk k) (3 * v) = true) : k = 3 * v := by
  have hl := (qp_leaves hp (by omega)).mp h
  obtain ⟨a, b, c, d, e⟩ := qp_lf_kd hK hl
  rcases e with e | ⟨e1, e2, e3⟩
  · exact e.symm
  · rw [qr_kd3 hv] at e3
    rw [e3] at hb
    rcases hb with z | z <;> exact absurd z (by decide)
/-- behind a giving -/
theorem qr_gives {k : Nat} {bh bv bh' bv' bo' : Nat → Int32} {okd' x y : Int32} {oct' : Nat} (hK : qp_K pv fk) (hp : pv ≤ 8) (hk : k < 24) (c1 : ¬ qp_kd pv fk k = -1) (h1 : ∀ i, bh' i = if qb_t (qr_lv pv fk k) i = true then 1 else bh i) (h2 : ∀ i, bv' i = qr_gv pv fk bv k x y i) (h3 : qr_old pv fk bh bv k bo' okd' oct') :
    (∀ i, ¬ bh' i = 0 ↔ ¬ bh i = 0 ∨ qb_t (qr_lv pv fk k) i = true) ∧
    (∀ v, v < pv → (fk v = 3 ∨ fk v = 4) → bv' (3 * v) = if k = 3 * v then x else bv (3 * v)) ∧
    qr_cb pv fk bh' + (if okd' = 1 ∨ okd' = 2 then oct' else 0) = qr_cb pv fk bh + (if qp_kd pv fk k = 2 then 2 else (if qp_kd pv fk k = 1 then 1 else 0)) ∧
    oct' ≤ 2 ∧ (okd' = 5 → oct' ≤ 1) ∧
    (¬ qp_kd pv fk k = 5 → ∀ (nm : Nat) (ng : Int32) (vc vl : Nat → Int32) (K : Nat), qr_N pv fk nm ng vc vl bh bv (fun _ => 0) K → qr_N pv fk nm ng vc vl bh' bv' (fun m => if okd' = 5 ∧ ¬ oct' = 0 ∧ bo' 0 = nI m then 1 else 0) K) ∧
    (qp_kd pv fk k = 5 → ∀ (nm : Nat) (ng : Int32) (vc vl : Nat → Int32) (K j : Nat), nm ≤ 500 → j < nm → x = nI j → qr_N pv fk nm ng vc vl bh bv (fun m => if m = j then 1 else 0) K → qr_N pv fk nm ng vc vl bh' bv' (fun m => if okd' = 5 ∧ ¬ oct' = 0 ∧ bo' 0 = nI m then 1 else 0) K) := by
  obtain ⟨o1, o2, o3, o4⟩ := h3
  refine ⟨fun i => ?_, fun v hv hb => ?_, ?_, o2, fun c5 => ?_, fun c5 nm ng vc vl K hN => ?_, fun c5 nm ng vc vl K j hm hj hx hN => ?_⟩
  · rw [h1 i]
    by_cases z : qb_t (qr_lv pv fk k) i = true
    · rw [if_pos z]
      exact ⟨fun _ => Or.inr z, fun _ => by decide⟩
    · rw [if_neg z]
      exact ⟨Or.inl, fun w => w.elim id fun w => absurd w z⟩
  · rw [h2]
    unfold qr_gv
    by_cases c : qp_kd pv fk k = 2
    · rw [if_pos c]
      have ne : ¬ k = 3 * v := by
        intro z
        rw [z, qr_kd3 hv] at c
        rw [c] at hb
        rcases hb with z | z <;> exact absurd z (by decide)
      have n1 : ∀ w, qb_t (qr_lv pv fk k) w = true → ¬ 3 * v = w := by
        intro w hw z
        rw [← z] at hw
        exact ne (qr_lv_bor hK hp hk hv hb hw)
      rw [if_neg (n1 _ ((qr_lv2 hp hk c).mpr (Or.inl rfl))), if_neg (n1 _ ((qr_lv2 hp hk c).mpr (Or.inr rfl))), if_neg ne]
    · rw [if_neg c]
      by_cases z : k = 3 * v
      · rw [if_pos z, if_pos z.symm]
      · rw [if_neg z, if_neg fun w => z w.symm]
  · by_cases c : qp_kd pv fk k = 1 ∨ qp_kd pv fk k = 2
    · have e := qr_cb_set hK hp hk c h1
      have eo : (if okd' = 1 ∨ okd' = 2 then oct' else 0) = oct' := by
        by_cases z : oct' = 0
        · rw [z]; split <;> rfl
        · rw [o3 z, if_pos c]
      rw [eo, o1, e]
      rcases c with c | c
      · rw [if_neg (by rw [c]; decide), if_neg (by rw [c]; decide), if_pos c]
      · rw [if_pos c, if_pos c]
    · have e := qr_cb_no (bh := bh) (bh' := bh') hK hp hk c fun i hi => by rw [h1 i, if_neg hi]
      have eo : (if okd' = 1 ∨ okd' = 2 then oct' else 0) = 0 := by
        by_cases z : oct' = 0
        · rw [z]; split <;> rfl
        · rw [o3 z, if_neg c]
      rw [eo, e, if_neg fun z => c (Or.inr z), if_neg fun z => c (Or.inl z)]
  · by_cases z : oct' = 0
    · omega
    · have e := o3 z
      have := (o4 (by rw [← e, c5]; decide) z).1
      omega
  · refine qr_N_w (qr_N_bh hN fun i hi ci => ?_) (Nat.le_refl _) fun n hn => ?_
    · have ni : ¬ qb_t (qr_lv pv fk k) i = true := fun z => c5 ((qr_lv_kd hK hp hk z).2.1.mp ci)
      refine ⟨by rw [h1 i, if_neg ni], fun _ => ?_⟩
      rw [h2]
      unfold qr_gv
      by_cases c : qp_kd pv fk k = 2
      · rw [if_pos c, if_neg fun z => ni ((qr_lv2 hp hk c).mpr (Or.inl z)), if_neg fun z => ni ((qr_lv2 hp hk c).mpr (Or.inr z))]
      · rw [if_neg c, if_neg fun z => ni ((qr_lv1 hp hk c c1).mpr z)]
    · show (if okd' = 5 ∧ ¬ oct' = 0 ∧ bo' 0 = nI n then 1 else 0) ≤ 0
      rw [if_neg fun w => c5 (by rw [← o3 w.2.1]; exact w.1)]
      exact Nat.le_refl _
  · have c2 : ¬ qp_kd pv fk k = 2 := by rw [c5]; decide
    have lv : ∀ i, qb_t (qr_lv pv fk k) i = true ↔ i = k := fun i => qr_lv1 hp hk c2 c1
    refine qr_N_give hN hm hk c5 hj (fun i => ?_) (fun i => ?_) fun n hn => ?_
    · rw [h1 i]
      by_cases z : i = k
      · rw [if_pos z, if_pos ((lv i).mpr z)]
      · rw [if_neg z, if_neg fun w => z ((lv i).mp w)]
    · rw [h2]
      unfold qr_gv
      rw [if_neg c2, hx]
    · by_cases w : okd' = 5 ∧ ¬ oct' = 0 ∧ bo' 0 = nI n
      · obtain ⟨-, p2, p3⟩ := o4 c2 w.2.1
        have w2 : ¬ bh k = 0 ∧ bv k = nI n := ⟨p3, p2.symm.trans w.2.2⟩
        rw [if_pos w, if_pos w2]; omega
      · rw [if_neg w]; omega
/-- a line that leaves places and nodes as they are -/
theorem qr_Eplain {s a b hre ng bxm okd sc pnl' iab' : Int32} {bh bv bo vc vl zs : Nat → Int32} {nm K d R : Nat} (hg : qd_g s a = -1) (hl : qd_l s a b = -1) (hN : qr_N pv fk nm ng vc vl bh bv (fun _ => 0) K) (hp : pv ≤ 8)
    (hT : qr_T sc zs d (qr_dead nm vc) (R + 1)) (hi : iab' = 0) (hq : pnl' = -1 ∨ pnl' = hre) (h15 : s = 15 → pnl' = hre) : qr_E pv fk s a b hre bh bv nm ng K bxm d R bh bv bo okd 0 vc vl nm bxm zs sc pnl' iab' := by
  refine ⟨fun i hi => ?_, fun v hv hb => ?_, ⟨0, by omega, ?_, ?_⟩, qr_N_w hN (by omega) fun n hn => ?_, Nat.le_refl _, by omega, hT, hi, hq, h15, by omega, fun _ => by omega⟩
  · rw [hg, hl, qp_leaves_m1, qb_0]
    exact ⟨fun h => Or.inl ⟨h, rfl⟩, fun h => h.elim (fun z => z.1) fun z => (by cases z)⟩
  · rw [hg, if_neg fun z => qb_nem1 (by omega) z.symm]
  · rw [nI_0, Int32.add_zero]
  · split <;> rfl
  · show (if okd = 5 ∧ ¬ 0 = 0 ∧ bo 0 = nI n then 1 else 0) ≤ 0
    rw [if_neg fun w => w.2.1 rfl]; exact Nat.le_refl _
/-- a line that writes numbers where something is -/
theorem qr_Ewrite {s a b hre ng bxm okd sc pnl' iab' : Int32} {bh bv bh' bv' bo vc vl zs : Nat → Int32} {nm K d R k : Nat} (hK : qp_K pv fk) (hg : qd_g s a = -1) (hl : qd_l s a b = -1) (hN : qr_N pv fk nm ng vc vl bh bv (fun _ => 0) K) (hp : pv ≤ 8)
    (hk : k < 24) (hkd : qp_kd pv fk k = 0 ∨ qp_kd pv fk k = 1 ∨ qp_kd pv fk k = 2) (hb1 : ∀ i, bh' i = 0 ↔ bh i = 0) (hb2 : ∀ i, ¬ qb_t (qr_lv pv fk k) i = true → bv' i = bv i)
    (hT : qr_T sc zs d (qr_dead nm vc) (R + 1)) (hi : iab' = 0) (hq : pnl' = -1 ∨ pnl' = hre) (h15 : ¬ s = 15) : qr_E pv fk s a b hre bh bv nm ng K bxm d R bh' bv' bo okd 0 vc vl nm bxm zs sc pnl' iab' := by
  refine ⟨fun i hi => ?_, fun v hv hb => ?_, ⟨0, by omega, ?_, ?_⟩, qr_N_w (qr_N_bh hN fun i hi ci => ⟨hb1 i, fun _ => hb2 i fun z => ?_⟩) (by omega) fun n hn => ?_, Nat.le_refl _, by omega, hT, hi, hq, fun z => absurd z h15, by omega, fun _ => by omega⟩
  · rw [hg, hl, qp_leaves_m1, qb_0, hb1 i]
    exact ⟨fun h => Or.inl ⟨h, rfl⟩, fun h => h.elim (fun z => z.1) fun z => (by cases z)⟩
  · rw [hg, if_neg fun z => qb_nem1 (by omega) z.symm]
    refine hb2 _ fun z => ?_
    have e := qr_lv_bor hK hp hk hv hb z
    rw [e, qr_kd3 hv] at hkd
    rcases hb with y | y <;> rcases hkd with w | w | w <;> (rw [y] at w; exact absurd w (by decide))
  · rw [nI_0, Int32.add_zero]
  · rw [qr_cb_eq fun i _ => hb1 i]
    split <;> rfl
  · have := (qr_lv_kd hK hp hk z).2.1.mp ci
    rcases hkd with w | w | w <;> (rw [this] at w; exact absurd w (by decide))
  · show (if okd = 5 ∧ ¬ 0 = 0 ∧ bo 0 = nI n then 1 else 0) ≤ 0
    rw [if_neg fun w => w.2.1 rfl]; exact Nat.le_refl _
theorem qr_writeNumber {k : Nat} {bh bv : Nat → Int32} {x : Int32} (hp : pv ≤ 8) (hk : k < 24) (c1 : ¬ qp_kd pv fk k = -1) (hh : ∀ i, qb_t (qr_lv pv fk k) i = true → ¬ bh i = 0) :
    (∀ i, (s_X6_writeNumber pv fk bh bv (nI k) x).1 i = 0 ↔ bh i = 0) ∧ (∀ i, ¬ qb_t (qr_lv pv fk k) i = true → (s_X6_writeNumber pv fk bh bv (nI k) x).2 i = bv i) := by
  unfold s_X6_writeNumber
  rw [qp_kindAt (by omega) (by omega), qr_firstLeaf hk hp]
  by_cases c : qp_kd pv fk k = 2
  · have h24 := qr_pair hp c
    rw [if_pos c, if_pos c, qr_setValue (show k + 1 < 24 by omega), nI_1]
    dsimp only
    rw [qr_setValue (show k + 1 + 1 < 24 by omega)]
    have l1 := hh _ ((qr_lv2 hp hk c).mpr (Or.inl rfl))
    have l2 := hh _ ((qr_lv2 hp hk c).mpr (Or.inr rfl))
    refine ⟨fun i => ?_, fun i hi => ?_⟩
    · dsimp only
      rw [qb_up, qb_up]
      by_cases z : i = k + 1 + 1
      · rw [if_pos z, z]; exact ⟨fun h => absurd h (by decide), fun h => absurd h l2⟩
      · rw [if_neg z]
        by_cases y : i = k + 1
        · rw [if_pos y, y]; exact ⟨fun h => absurd h (by decide), fun h => absurd h l1⟩
        · rw [if_neg y]
    · dsimp only
      rw [qb_un fun z => hi ((qr_lv2 hp hk c).mpr (Or.inr z)), qb_un fun z => hi ((qr_lv2 hp hk c).mpr (Or.inl z))]
  · rw [if_neg c, if_neg c, qr_setValue hk]
    have l1 := hh _ ((qr_lv1 hp hk c c1).mpr rfl)
    refine ⟨fun i => ?_, fun i hi => ?_⟩
    · dsimp only
      rw [qb_up]
      by_cases z : i = k
      · rw [if_pos z, z]; exact ⟨fun h => absurd h (by decide), fun h => absurd h l1⟩
      · rw [if_neg z]
    · dsimp only
      rw [qb_un fun z => hi ((qr_lv1 hp hk c c1).mpr z)]
end
