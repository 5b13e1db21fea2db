/-! A RUN: what is known ahead holds on the way -/
theorem qx_held {pv j : Nat} {cd : Nat → Int32} {b : Int32} (hp : pv ≤ 8) (hj : j < 34) (x : Nat) : qb_t (s_X0_heldByAny pv cd (nI j) b) x = true ↔ ∃ v, v < pv ∧ qb_t b v = true ∧ qb_t (cd (j * 8 + v)) x = true := by
  have go : ∀ (k i : Nat) (va : Int32), i ≤ pv → pv - i < k → (qb_t (sl_X0_heldByAny_L5 pv cd (nI j) b k va i) x = true ↔ qb_t va x = true ∨ ∃ v, i ≤ v ∧ v < pv ∧ qb_t b v = true ∧ qb_t (cd (j * 8 + v)) x = true) := by
    intro k
    induction k with
    | zero => intro i va a b; omega
    | succ k ih =>
      intro i va a1 a2
      rw [sl_X0_heldByAny_L5]
      by_cases q : pv ≤ i
      · rw [if_pos (nI_le q (by omega))]
        exact ⟨Or.inl, fun h => h.elim id fun ⟨v, v1, v2, _⟩ => by omega⟩
      · have hq : ¬ nI pv ≤ nI i := by rw [qb_le (by omega) (by omega)]; exact q
        rw [if_neg hq]
        by_cases c : b &&& ((1 : Int32) <<< (nI i &&& 31)) = 0
        · rw [if_pos c, ih (i + 1) _ (by omega) (by omega)]
          have c2 := (qb_ask (by omega)).mp c
          constructor
          · rintro (h | ⟨v, v1, v2, h⟩)
            · exact Or.inl h
            · exact Or.inr ⟨v, by omega, v2, h⟩
          · rintro (h | ⟨v, v1, v2, h1, h2⟩)
            · exact Or.inl h
            · by_cases z : v = i
              · rw [z, c2] at h1; cases h1
              · exact Or.inr ⟨v, by omega, v2, h1, h2⟩
        · rw [if_neg c, ih (i + 1) _ (by omega) (by omega), qb_or, Bool.or_eq_true, qf_heldBy hj (by omega)]
          have c2 : qb_t b i = true := by
            cases e : qb_t b i with
            | true => rfl
            | false => exact absurd ((qb_ask (by omega)).mpr e) c
          constructor
          · rintro ((h | h) | ⟨v, v1, v2, h⟩)
            · exact Or.inl h
            · exact Or.inr ⟨i, Nat.le_refl _, by omega, c2, h⟩
            · exact Or.inr ⟨v, by omega, v2, h⟩
          · rintro (h | ⟨v, v1, v2, h1, h2⟩)
            · exact Or.inl (Or.inl h)
            · by_cases z : v = i
              · exact Or.inl (Or.inr (by rw [← z]; exact h2))
              · exact Or.inr ⟨v, by omega, v2, h1, h2⟩
  have h := go 9 0 0 (Nat.zero_le _) (by omega)
  show qb_t (sl_X0_heldByAny_L5 pv cd (nI j) b 9 0 0) x = true ↔ _
  rw [h, qb_0]
  constructor
  · rintro (h | ⟨v, -, v2, h⟩)
    · cases h
    · exact ⟨v, v2, h⟩
  · rintro ⟨v, v2, h⟩
    exact Or.inr ⟨v, Nat.zero_le _, v2, h⟩
/-- one that is in the way is found -/
theorem qx_found {pv lc j v o : Nat} {yp ye cd : Nat → Int32} {p2 p3 : Int32} (hp : pv ≤ 8) (hl : lc ≤ 16) (hj : j < 34) (h2 : ¬ p2 = -1) (ho : o < lc) (hv : v < pv) (hb : qb_t p3 v = true) (hc : qb_t (cd (j * 8 + v)) o = true) (hm : ¬ s_X9_meets (yp o) p2 = 0) :
    ¬ s_X0_smallestLoan lc yp ye pv cd (nI j) p2 p3 0 = -1 := by
  unfold s_X0_smallestLoan
  rw [if_neg h2]
  have hh : qb_t (s_X0_heldByAny pv cd (nI j) p3) o = true := (qx_held hp hj o).mpr ⟨v, hv, hb, hc⟩
  have go : ∀ (k i : Nat), i ≤ o → lc - i < k → ¬ sl_X0_smallestLoan_L18 lc yp ye pv cd (nI j) p2 p3 0 k i = -1 := by
    intro k
    induction k with
    | zero => intro i a b; omega
    | succ k ih =>
      intro i a b
      rw [sl_X0_smallestLoan_L18]
      have hq : ¬ nI lc ≤ nI i := by rw [qb_le (by omega) (by omega)]; omega
      rw [if_neg hq, if_pos (show (0 : Int32) = 0 from rfl)]
      have e1 : s_X3_placeOf lc yp (nI i) = yp i := by
        unfold s_X3_placeOf
        rw [if_neg (show ¬ s_X3_isLoan lc (nI i) = 0 from qp_isLine1 (pn := lc) (by omega) (by omega)), qb_cl (by omega)]
      rw [e1]
      by_cases z : i = o
      · subst z
        have c1 : ¬ s_X0_heldByAny pv cd (nI j) p3 &&& ((1 : Int32) <<< (nI i &&& 31)) = 0 := fun z => by
          rw [(qb_ask (by omega)).mp z] at hh; cases hh
        rw [if_neg c1, if_neg hm]
        exact qb_nem1 (by omega)
      · have r := ih (i + 1) (by omega) (by omega)
        split
        · exact r
        · split
          · exact r
          · exact qb_nem1 (by omega)
  exact go 17 0 (Nat.zero_le _) (by omega)
/-- what is known ahead of line t holds -/
def qr_Fl (pv : Nat) (fk : Nat → Int32) (T : qk_T) (bh bv : Nat → Int32) (t : Nat) : Prop :=
  ¬ qk_cr T t = 0 ∧ (∀ i, qb_t (s_X5_allLeaves pv fk) i = true → (¬ bh i = 0 → qb_t (qk_ch T t) i = true) ∧ (bh i = 0 → qb_t (qk_cl T t) i = true)) ∧
  (∀ v, v < pv → (fk v = 3 ∨ fk v = 4) → qb_t (qk_cn T t) v = true → ¬ bh (3 * v) = 0 →
    ∃ p o : Nat, p < 24 ∧ bv (3 * v) = nI p ∧ (qp_kd pv fk p = 0 ∨ qp_kd pv fk p = 1 ∨ qp_kd pv fk p = 2) ∧ o < qk_lc T ∧ qk_yp T o = nI p ∧ qb_t (qk_cd T (t * 8 + v)) o = true ∧ ∀ i, qb_t (qr_lv pv fk p) i = true → ¬ bh i = 0)
section
variable {pv n : Nat} {fk fs fa fb bh bv : Nat → Int32} {T : qk_T} {t : Nat}
theorem qr_lv_all {p : Int32} {i : Nat} (hK : qp_K pv fk) (hp : pv ≤ 8) (h : qb_t (s_X5_leavesOf pv fk p) i = true) : qb_t (s_X5_allLeaves pv fk) i = true ∧ ∃ k : Nat, k < 24 ∧ p = nI k ∧ ¬ qp_kd pv fk k = -1 ∧ s_X5_kindAt pv fk p = qp_kd pv fk k := by
  have c : ¬ s_X5_kindAt pv fk p = -1 := fun c => by
    unfold s_X5_leavesOf at h
    rw [if_pos c, qb_0] at h; cases h
  obtain ⟨k, k1, rfl, k3⟩ := qp_kind_of (fk := fk) (x := p) hp c
  refine ⟨?_, k, by omega, rfl, by rw [← k3]; exact c, k3⟩
  rw [qp_all hp]
  exact qp_lf_all hK ((qp_leaves hp (by omega)).mp h)
/-- what a line uses is there -/
theorem qr_used (hK : qp_K pv fk) (hp : pv ≤ 8) (hL : qk_L pv n fk fs fa fb T) (ht : t < n) (hb : ¬ qk_bad pv n fk fs fa fb T t) (hF : qr_Fl pv fk T bh bv t) :
    (∀ i, qb_t (s_X5_leavesOf pv fk (qd_u (fs t) (fa t) (fb t))) i = true → ¬ bh i = 0) ∧ (∀ i, qb_t (s_X5_leavesOf pv fk (qd_t (fs t) (fb t))) i = true → ¬ bh i = 0) := by
  obtain ⟨d1, d2, d3, d4, d5, d6, d7, d8, d9⟩ := hL.1 t ht
  have nb : ¬ qx_bad (qk_dul T) (qk_dtl T) (qk_dbg T) (qk_yf T) (qk_ys T) (qk_yp T) (qk_ye T) fk fs fa fb (qk_cl T) (qk_cd T) (qk_cn T) (qk_lc T) pv n t := fun z => hb ⟨hF.1, z⟩
  have z1 : qk_dul T t &&& qk_cl T t = 0 := Classical.byContradiction fun z => nb (Or.inl z)
  have z2 : qk_dtl T t &&& qk_cl T t = 0 := Classical.byContradiction fun z => nb (Or.inr (Or.inl z))
  have d4 : qk_dul T t = s_X5_leavesOf pv fk (qd_u (fs t) (fa t) (fb t)) := d4
  have d5 : qk_dtl T t = s_X5_leavesOf pv fk (qd_t (fs t) (fb t)) := d5
  rw [d4] at z1
  rw [d5] at z2
  refine ⟨fun i hi z => ?_, fun i hi z => ?_⟩
  · have h1 := (hF.2.1 i (qr_lv_all hK hp hi).1).2 z
    have h2 := qb_dis.mp z1 i hi
    rw [h1] at h2; cases h2
  · have h1 := (hF.2.1 i (qr_lv_all hK hp hi).1).2 z
    have h2 := qb_dis.mp z2 i hi
    rw [h1] at h2; cases h2
/-- a borrow's place is its variable's -/
theorem qr_bplace {p : Int32} (hK : qp_K pv fk) (hp : pv ≤ 8) (h : s_X5_kindAt pv fk p = 3 ∨ s_X5_kindAt pv fk p = 4) : ∃ v : Nat, v < pv ∧ p = nI (3 * v) ∧ fk v = s_X5_kindAt pv fk p := by
  obtain ⟨k, k1, rfl, k3⟩ := qp_kind_of (fk := fk) (x := p) hp (by rcases h with z | z <;> (rw [z]; decide))
  rw [k3] at h ⊢
  rcases qp_kd_cases (k := k) hK with z | ⟨z1, ⟨z2, z3⟩ | ⟨z2, z3, z4⟩⟩
  · rw [z] at h; rcases h with w | w <;> exact absurd w (by decide)
  · exact ⟨k / 3, z1, by rw [show 3 * (k / 3) = k from by omega], z3.symm⟩
  · rw [z4] at h; rcases h with w | w <;> exact absurd w (by decide)
theorem qr_bbit {v : Nat} {x : Nat} (hp : pv ≤ 8) (hv : v < pv) (hb : fk v = 3 ∨ fk v = 4) : qb_t (s_X1_borrowSet pv fk (nI (3 * v))) x = decide (x = v) := by
  unfold s_X1_borrowSet
  rw [qp_kindAt (by omega) (by omega), qr_kd3 hv, if_neg (qp_bor.mpr hb), qb_div3 (by omega), show 3 * v / 3 = v from by omega, qb_one (by omega)]
/-- a borrow that a line uses first is wanted there -/
theorem qr_want {v : Nat} (hp : pv ≤ 8) (hn : n ≤ 33) (hL : qk_L pv n fk fs fa fb T) (hw : qw_stk fs n = some []) (ht : t < n) (hv : v < pv) (hb : fk v = 3 ∨ fk v = 4) (hu : qd_u (fs t) (fa t) (fb t) = nI (3 * v)) : qb_t (qk_cn T t) v = true := by
  have hx := (hL.2.2.2.2 hw).2.2.1 t ht
  rw [hx, qg_Ft]
  right
  have d8 : qk_dbu T t = s_X1_borrowSet pv fk (qd_u (fs t) (fa t) (fb t)) := (hL.1 t ht).2.2.2.2.2.2.2.1
  rw [d8, hu, qr_bbit hp hv hb]
  exact decide_eq_true rfl
theorem qr_lent {v : Nat} (hK : qp_K pv fk) (hp : pv ≤ 8) (hn : n ≤ 33) (hL : qk_L pv n fk fs fa fb T) (hw : qw_stk fs n = some []) (ht : t < n) (hb : ¬ qk_bad pv n fk fs fa fb T t) (hF : qr_Fl pv fk T bh bv t) (hv : v < pv) (hbr : fk v = 3 ∨ fk v = 4) (hu : qd_u (fs t) (fa t) (fb t) = nI (3 * v)) :
    ∃ p o : Nat, p < 24 ∧ bv (3 * v) = nI p ∧ (qp_kd pv fk p = 0 ∨ qp_kd pv fk p = 1 ∨ qp_kd pv fk p = 2) ∧ o < qk_lc T ∧ qk_yp T o = nI p ∧ qb_t (qk_cd T (t * 8 + v)) o = true ∧ ∀ i, qb_t (qr_lv pv fk p) i = true → ¬ bh i = 0 := by
  refine hF.2.2 v hv hbr (qr_want hp hn hL hw ht hv hbr hu) ?_
  refine (qr_used hK hp hL ht hb hF).1 (3 * v) ?_
  rw [hu]
  have n2 : ¬ qp_kd pv fk (3 * v) = 2 := by rw [qr_kd3 hv]; rcases hbr with z | z <;> (rw [z]; decide)
  have n1 : ¬ qp_kd pv fk (3 * v) = -1 := by rw [qr_kd3 hv]; rcases hbr with z | z <;> (rw [z]; decide)
  exact (qr_lv1 hp (by omega) n2 n1).mpr rfl
/-- the next line -/
theorem qr_next {s a b hre bxm bxm' sc' pnl' iab' ng okd' : Int32} {bh' bv' bo' vc' vl' zs' : Nat → Int32} {nm nm' K d R oct' t' : Nat} (hK : qp_K pv fk) (hp : pv ≤ 8) (hn : n ≤ 33) (hl : ql_n fs n ≤ 16) (hfit : qp_F pv fk (fs t) (fa t) (fb t)) (hL : qk_L pv n fk fs fa fb T) (hw : qw_stk fs n = some []) (ht : t < n) (hb : ¬ qk_bad pv n fk fs fa fb T t) (hF : qr_Fl pv fk T bh bv t)
    (hs : s = fs t) (ha : a = fa t) (hbb : b = fb t) (hE : qr_E pv fk s a b hre bh bv nm ng K bxm d R bh' bv' bo' okd' oct' vc' vl' nm' bxm' zs' sc' pnl' iab') (ht' : t' < n) (he : qw_E (qk_yf T) (qk_ys T) t t') : qr_Fl pv fk T bh' bv' t' := by
  subst hs; subst ha; subst hbb
  obtain ⟨E1, E2, -⟩ := hE
  obtain ⟨d1, d2, d3, d4, d5, d6, d7, d8, d9⟩ := hL.1 t ht
  have d1 : qk_du T t = qd_u (fs t) (fa t) (fb t) := d1
  have d3 : qk_dg T t = qd_g (fs t) (fa t) := d3
  have d6 : qk_dgl T t = s_X5_leavesOf pv fk (qd_g (fs t) (fa t)) := d6
  have d7 : qk_dll T t = s_X5_leavesOf pv fk (qd_l (fs t) (fa t) (fb t)) := d7
  have d9 : qk_dbg T t = s_X1_borrowSet pv fk (qd_g (fs t) (fa t)) := d9
  have hw2 := hL.2.2.2.2 hw
  obtain ⟨o1, o2, o3, o4⟩ := hw2.1.1 t ht hF.1 t' (by omega) he
  have hlc : qk_lc T ≤ 16 := by have := hL.2.1.1; have : qk_lc T = ql_n fs n := this; omega
  have fixn := hw2.2.2.1
  obtain ⟨hU, hU2⟩ := qr_used hK hp hL ht hb hF
  have al24 : ∀ i, qb_t (s_X5_allLeaves pv fk) i = true → i < 24 := by
    intro i hi
    obtain ⟨v, v1, v2⟩ := (qp_all hp).mp hi
    have := (qp_lf_kd hK v2).2.1
    omega
  have nob : ∀ x : Int32, ¬ x = -1 → ∀ y : Int32, x = y → ¬ y = -1 := fun x h y e => by rw [← e]; exact h
  refine ⟨o1, fun i hi => ⟨fun h => ?_, fun h => ?_⟩, fun v hv hbr hcn hbv => ?_⟩
  · refine o2 i (qf_hv_t.mpr ?_)
    rcases (E1 i (al24 i hi)).mp h with ⟨h1, h2⟩ | h1
    · exact Or.inl ⟨(hF.2.1 i hi).1 h1, by rw [d7]; exact h2⟩
    · exact Or.inr (by rw [d6]; exact h1)
  · refine o3 i ((qf_lk_t (qb_lt hi)).mpr ?_)
    have hne : ¬ ((¬ bh i = 0 ∧ qb_t (s_X5_leavesOf pv fk (qd_l (fs t) (fa t) (fb t))) i = false) ∨ qb_t (s_X5_leavesOf pv fk (qd_g (fs t) (fa t))) i = true) := fun z => (E1 i (al24 i hi)).mpr z h
    rw [d6, d7]
    refine ⟨?_, ?_⟩
    · by_cases z : bh i = 0
      · exact Or.inl ((hF.2.1 i hi).2 z)
      · right
        cases e : qb_t (s_X5_leavesOf pv fk (qd_l (fs t) (fa t) (fb t))) i with
        | true => rfl
        | false => exact absurd (Or.inl ⟨z, e⟩) hne
    · cases e : qb_t (s_X5_leavesOf pv fk (qd_g (fs t) (fa t))) i with
      | false => rfl
      | true => exact absurd (Or.inr e) hne
  · have ev := E2 v hv hbr
    -- leaves of what is lent stay there where the line loses nothing of them
    have keep : ∀ p : Nat, p < 24 → (∀ i, qb_t (qr_lv pv fk p) i = true → ¬ bh i = 0) → (∀ i, qb_t (qr_lv pv fk p) i = true → qb_t (s_X5_leavesOf pv fk (qd_l (fs t) (fa t) (fb t))) i = false) → ∀ i, qb_t (qr_lv pv fk p) i = true → ¬ bh' i = 0 := by
      intro p hp24 h1 h2 i hi
      exact (E1 i (qr_lv_kd hK hp hp24 hi).2.2).mpr (Or.inl ⟨h1 i hi, h2 i hi⟩)
    by_cases g : qd_g (fs t) (fa t) = nI (3 * v)
    · rw [if_pos g] at ev
      have dgne : ¬ qk_dbg T t = 0 := qb_ne0' (i := v) (by rw [d9, g, qr_bbit hp hv hbr]; exact decide_eq_true rfl)
      have dgv : qk_dg T t / 3 = nI v := by rw [d3, g, qb_div3 (by omega), show 3 * v / 3 = v from by omega]
      have hbv2 : ∀ x, qb_t (qf_hb (qk_dbg T) (qk_dg T) (qk_du T) (qk_yo T) (qk_X T) t v) x = true → qb_t (qk_cd T (t' * 8 + v)) x = true := fun x hx => o4 v hv x hx
      have hbe : qf_hb (qk_dbg T) (qk_dg T) (qk_du T) (qk_yo T) (qk_X T) t v = if qk_yo T t = -1 then qk_cd T (t * 8 + (qk_du T t / 3).toNatClampNeg) else (1 : Int32) <<< ((qk_yo T t) &&& 31) := by
        unfold qf_hb
        rw [if_pos ⟨dgne, dgv⟩]; rfl
      have ka : s_X5_kindAt pv fk (nI (3 * v)) = fk v := by rw [qp_kindAt (by omega) (by omega), qr_kd3 hv]
      -- sorts that give a borrow nothing
      have no : ∀ x : Int32, fs t = x → qd_g x (fa t) = -1 → False := fun x e h => by
        rw [e, h] at g
        exact qb_nem1 (by omega) g.symm
      rcases qp_fit hfit with ⟨s, f1, f2⟩ | ⟨s, f1, f2⟩ | ⟨s, f1, f2⟩ | ⟨s, f1, f2⟩ | ⟨s, f1, f2⟩ | ⟨s, f⟩ | ⟨s, f⟩ | ⟨s, f⟩ | ⟨s, f⟩ | ⟨s, f⟩ | ⟨s, f⟩ | ⟨s, f⟩ | ⟨s, f⟩ | ⟨s, f⟩ | ⟨s, f⟩ | ⟨s, f⟩ | ⟨s, f⟩
      · have ea : fa t = nI (3 * v) := by rw [s] at g; exact g
        rw [ea, ka] at f2
        exact absurd hbr f2
      · -- MOVE
        have ea : fa t = nI (3 * v) := by rw [s] at g; exact g
        rw [ea, ka] at f1
        obtain ⟨w, w1, w2, w3⟩ := qr_bplace (p := fb t) hK hp (by rw [← f1]; exact hbr)
        have hwb : fk w = 3 ∨ fk w = 4 := by rw [w3, ← f1]; exact hbr
        have hu : qd_u (fs t) (fa t) (fb t) = nI (3 * w) := by rw [s]; exact w2
        obtain ⟨p, o, p1, p2, p3, p4, p5, p6, p7⟩ := qr_lent hK hp hn hL hw ht hb hF w1 hwb hu
        have yo1 : qk_yo T t = -1 := hL.2.1.2.2 t ht (by rw [s]; decide)
        refine ⟨p, o, p1, ?_, p3, p4, p5, ?_, keep p p1 p7 fun i hi => ?_⟩
        · rw [ev, s, if_neg (by decide), w2, qr_valueAt (by omega)]; exact p2
        · refine hbv2 o ?_
          rw [hbe, if_pos yo1, d1, hu, qb_div3 (by omega), show 3 * w / 3 = w from by omega, qb_cl (by omega)]
          exact p6
        · have el : qd_l (fs t) (fa t) (fb t) = nI (3 * w) := by rw [s]; exact w2
          rw [el]
          cases e : qb_t (s_X5_leavesOf pv fk (nI (3 * w))) i with
          | false => rfl
          | true =>
            have n2 : ¬ qp_kd pv fk (3 * w) = 2 := by rw [qr_kd3 w1]; rcases hwb with z | z <;> (rw [z]; decide)
            have n1 : ¬ qp_kd pv fk (3 * w) = -1 := by rw [qr_kd3 w1]; rcases hwb with z | z <;> (rw [z]; decide)
            have hi2 := (qr_lv1 hp (by omega) n2 n1).mp e
            rw [hi2] at hi
            have := qr_lv_bor hK hp p1 w1 hwb hi
            rw [this, qr_kd3 w1] at p3
            rcases hwb with y | y <;> rcases p3 with z | z | z <;> (rw [y] at z; exact absurd z (by decide))
      · -- COPY
        have ea : fa t = nI (3 * v) := by rw [s] at g; exact g
        rw [ea, ka] at f1
        obtain ⟨w, w1, w2, w3⟩ := qr_bplace (p := fb t) hK hp (by rw [← f1]; exact hbr)
        have hwb : fk w = 3 ∨ fk w = 4 := by rw [w3, ← f1]; exact hbr
        have hu : qd_u (fs t) (fa t) (fb t) = nI (3 * w) := by rw [s]; exact w2
        obtain ⟨p, o, p1, p2, p3, p4, p5, p6, p7⟩ := qr_lent hK hp hn hL hw ht hb hF w1 hwb hu
        have yo1 : qk_yo T t = -1 := hL.2.1.2.2 t ht (by rw [s]; decide)
        refine ⟨p, o, p1, ?_, p3, p4, p5, ?_, keep p p1 p7 fun i hi => ?_⟩
        · rw [ev, s, if_neg (by decide), w2, qr_valueAt (by omega)]; exact p2
        · refine hbv2 o ?_
          rw [hbe, if_pos yo1, d1, hu, qb_div3 (by omega), show 3 * w / 3 = w from by omega, qb_cl (by omega)]
          exact p6
        · have el : qd_l (fs t) (fa t) (fb t) = -1 := by rw [s]; rfl
          rw [el, qp_leaves_m1, qb_0]
      · -- BORROW
        obtain ⟨p, p1, p2, p3⟩ := qp_kind_of (fk := fk) (x := fb t) hp (by rcases f2 with z | z | z <;> (rw [z]; decide))
        rw [p3] at f2
        have lt := ql_lt ht (Or.inl s)
        have lcq : qk_lc T = ql_n fs n := hL.2.1.1
        obtain ⟨l1, l2, l3, l4⟩ := hL.2.1.2.1 t ht (Or.inl s)
        have l4 : qk_yo T t = nI (ql_n fs t) := l4
        refine ⟨p, ql_n fs t, by omega, by rw [ev, if_pos (Or.inl s)]; exact p2, f2, by omega, l2.trans p2, ?_, keep p (by omega) (fun i hi => hU i ?_) fun i hi => ?_⟩
        · refine hbv2 _ ?_
          rw [hbe, l4, if_neg (qb_nem1 (by omega)), qb_one (by omega)]
          exact decide_eq_true rfl
        · have e : qd_u (fs t) (fa t) (fb t) = fb t := by rw [s]; rfl
          rw [e, p2]; exact hi
        · have el : qd_l (fs t) (fa t) (fb t) = -1 := by rw [s]; rfl
          rw [el, qp_leaves_m1, qb_0]
      · -- LEND
        obtain ⟨p, p1, p2, p3⟩ := qp_kind_of (fk := fk) (x := fb t) hp (by rcases f2 with z | z | z <;> (rw [z]; decide))
        rw [p3] at f2
        have lt := ql_lt ht (Or.inr s)
        have lcq : qk_lc T = ql_n fs n := hL.2.1.1
        obtain ⟨l1, l2, l3, l4⟩ := hL.2.1.2.1 t ht (Or.inr s)
        have l4 : qk_yo T t = nI (ql_n fs t) := l4
        refine ⟨p, ql_n fs t, by omega, by rw [ev, if_pos (Or.inr s)]; exact p2, f2, by omega, l2.trans p2, ?_, keep p (by omega) (fun i hi => hU i ?_) fun i hi => ?_⟩
        · refine hbv2 _ ?_
          rw [hbe, l4, if_neg (qb_nem1 (by omega)), qb_one (by omega)]
          exact decide_eq_true rfl
        · have e : qd_u (fs t) (fa t) (fb t) = fb t := by rw [s]; rfl
          rw [e, p2]; exact hi
        · have el : qd_l (fs t) (fa t) (fb t) = -1 := by rw [s]; rfl
          rw [el, qp_leaves_m1, qb_0]
      all_goals exact (no _ s rfl).elim
    · rw [if_neg g] at ev
      -- the borrow isn't given
      have ng1 : qb_t (qk_dbg T t) v = false := by
        rw [d9]
        by_cases z : s_X1_borrowSet pv fk (qd_g (fs t) (fa t)) = 0
        · rw [z, qb_0]
        · obtain ⟨k, k1, k2, k3⟩ := qk_bset hp z
          obtain ⟨w, w1, w2, w3⟩ := qr_bplace (p := qd_g (fs t) (fa t)) hK hp k3
          rw [w2, qr_bbit hp w1 (by rw [w3]; exact k3)]
          exact decide_eq_false fun y => g (by rw [w2, y])
      have ng2 : ¬ (¬ qk_dbg T t = 0 ∧ qk_dg T t / 3 = nI v) := by
        rintro ⟨z1, z2⟩
        rw [d9] at z1
        obtain ⟨k, k1, k2, k3⟩ := qk_bset hp z1
        obtain ⟨w, w1, w2, w3⟩ := qr_bplace (p := qd_g (fs t) (fa t)) hK hp k3
        rw [d3, w2, qb_div3 (by omega), show 3 * w / 3 = w from by omega] at z2
        have : w = v := (nI_eq (by omega) (by omega)).mp z2
        exact g (by rw [w2, this])
      have hbv0 : ¬ bh (3 * v) = 0 := by
        rcases (E1 (3 * v) (by omega)).mp hbv with ⟨h1, -⟩ | h1
        · exact h1
        · obtain ⟨-, k, k1, k2, k3, -⟩ := qr_lv_all hK hp h1
          rw [k2] at h1
          have := qr_lv_bor hK hp k1 hv hbr h1
          exact absurd (by rw [k2, this]) g
      have hcn0 : qb_t (qk_cn T t) v = true := by
        rw [fixn t ht, qg_Ft, qg_bt ht (by omega)]
        exact Or.inl ⟨⟨t', ht', he, hcn⟩, ng1⟩
      obtain ⟨p, o, p1, p2, p3, p4, p5, p6, p7⟩ := hF.2.2 v hv hbr hcn0 hbv0
      refine ⟨p, o, p1, ev.trans p2, p3, p4, p5, ?_, keep p p1 p7 fun i hi => ?_⟩
      · refine o4 v hv o ?_
        unfold qf_hb
        rw [if_neg ng2]
        exact p6
      · cases e : qb_t (s_X5_leavesOf pv fk (qd_l (fs t) (fa t) (fb t))) i with
        | false => rfl
        | true =>
          exfalso
          obtain ⟨-, q, q1, q2, q3, q4⟩ := qr_lv_all hK hp e
          rw [q2] at e
          have hmeet : qp_meet p q := qp_lf_meet hK ((qp_leaves hp (by omega)).mp hi) ((qp_leaves hp (by omega)).mp e)
          have hm : ¬ s_X9_meets (qk_yp T o) (nI q) = 0 := by rw [p5]; exact (qp_meets (by omega) (by omega)).mpr hmeet
          have hwb : qb_t ((s_X0_wantedBehind (-1) (qk_yf T) (qk_ys T) n (qk_cn T) (nI t)) &&& ((qk_dbg T t) ^^^ (-1))) v = true := by
            rw [qb_and, qb_not _ (by omega), ng1, Bool.not_false, Bool.and_true]
            exact (qg_bt ht (by omega)).mpr ⟨t', ht', he, hcn⟩
          -- the leaf lost is no borrow, so its place is taken to write
          have hkq : ¬ (s_X5_kindAt pv fk (nI q) = 3 ∨ s_X5_kindAt pv fk (nI q) = 4) := by
            intro z
            obtain ⟨w, w1, w2, w3⟩ := qr_bplace (p := nI q) hK hp z
            have hqw : q = 3 * w := (nI_eq (by omega) (by omega)).mp w2
            have hwb : fk w = 3 ∨ fk w = 4 := by rw [w3]; exact z
            have n2 : ¬ qp_kd pv fk (3 * w) = 2 := by rw [qr_kd3 w1]; rcases hwb with z | z <;> (rw [z]; decide)
            have n1 : ¬ qp_kd pv fk (3 * w) = -1 := by rw [qr_kd3 w1]; rcases hwb with z | z <;> (rw [z]; decide)
            rw [hqw] at e
            have hi2 := (qr_lv1 hp (by omega) n2 n1).mp e
            rw [hi2] at hi
            have := qr_lv_bor hK hp p1 w1 hwb hi
            rw [this, qr_kd3 w1] at p3
            rcases hwb with y | y <;> rcases p3 with z | z | z <;> (rw [y] at z; exact absurd z (by decide))
          have fin : ∀ r : Nat, r = 0 ∨ r = 1 → qd_k pv fk (fs t) (fa t) (fb t) (nI r) = nI q → qd_r (fs t) (nI r) = 0 → False := by
            intro r hr e1 e2
            have hx : ¬ qx_sl (qk_dbg T) (qk_yf T) (qk_ys T) (qk_yp T) (qk_ye T) fk fs fa fb (qk_cd T) (qk_cn T) (qk_lc T) pv n t r = -1 := by
              unfold qx_sl
              rw [qd_taken ht (by omega), qd_read ht (by omega), e1, e2]
              exact qx_found hp hlc (by omega) (qb_nem1 (by omega)) p4 hv hwb p6 hm
            refine hb ⟨hF.1, ?_⟩
            rcases hr with z | z
            · subst z; exact Or.inr (Or.inr (Or.inl hx))
            · subst z; exact Or.inr (Or.inr (Or.inr hx))
          have no : ∀ x : Int32, fs t = x → qd_l x (fa t) (fb t) = -1 → False := fun x e h => by
            rw [e, h] at q2
            exact qb_nem1 (by omega) q2.symm
          rcases qp_fit hfit with ⟨s, f1, f2⟩ | ⟨s, f1, f2⟩ | ⟨s, f1, f2⟩ | ⟨s, f1, f2⟩ | ⟨s, f1, f2⟩ | ⟨s, f⟩ | ⟨s, f⟩ | ⟨s, f⟩ | ⟨s, f⟩ | ⟨s, f⟩ | ⟨s, f⟩ | ⟨s, f⟩ | ⟨s, f⟩ | ⟨s, f⟩ | ⟨s, f⟩ | ⟨s, f⟩ | ⟨s, f⟩
          · exact no _ s rfl
          · -- MOVE
            have e2 : fb t = nI q := by rw [s] at q2; exact q2
            rw [e2] at f1
            refine fin 1 (Or.inr rfl) ?_ (by rw [s]; rfl)
            have hb0 : s_X9_isBorrowKind (s_X5_kindAt pv fk (fa t)) = 0 := Classical.byContradiction fun z => hkq (by rw [← f1]; exact qp_bor.mp z)
            rw [s]
            show (if s_X9_isBorrowKind (s_X5_kindAt pv fk (fa t)) = 0 then fb t else (-1)) = nI q
            rw [if_pos hb0, e2]
          · exact no _ s rfl
          · exact no _ s rfl
          · exact no _ s rfl
          · exact no _ s rfl
          · exact no _ s rfl
          · -- DROP
            have e2 : fa t = nI q := by rw [s] at q2; exact q2
            refine fin 0 (Or.inl rfl) ?_ (by rw [s]; rfl)
            rw [s]
            exact e2
          all_goals exact no _ s rfl
end
