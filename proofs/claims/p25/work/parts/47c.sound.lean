/-! WHAT A DROP WOULD BE AT FAULT FOR -/
theorem qp_all {pv x : Nat} {fk : Nat → Int32} (hv : pv ≤ 8) : qb_t (s_X5_allLeaves pv fk) x = true ↔ ∃ v, v < pv ∧ qp_lf pv fk (3 * v) x := by
  have go : ∀ (k i : Nat) (va : Int32), i ≤ pv → pv - i < k → (qb_t (sl_X5_allLeaves_L4 pv fk k va i) x = true ↔ qb_t va x = true ∨ ∃ v, i ≤ v ∧ v < pv ∧ qp_lf pv fk (3 * v) x) := by
    intro k
    induction k with
    | zero => intro i va a b; omega
    | succ k ih =>
      intro i va a b
      rw [sl_X5_allLeaves_L4]
      by_cases q : pv ≤ i
      · rw [if_pos (nI_le q (by omega))]
        exact ⟨Or.inl, fun h => h.elim id fun ⟨v, v1, v2, _⟩ => by omega⟩
      · rw [if_neg (by rw [qb_le (by omega) (by omega)]; exact q), ih (i + 1) _ (by omega) (by omega), qb_or, Bool.or_eq_true, qp_leaves hv (by omega)]
        constructor
        · rintro ((h | h) | ⟨v, v1, v2, h⟩)
          · exact Or.inl h
          · exact Or.inr ⟨i, Nat.le_refl _, by omega, h⟩
          · exact Or.inr ⟨v, by omega, v2, h⟩
        · rintro (h | ⟨v, v1, v2, h⟩)
          · exact Or.inl (Or.inl h)
          · by_cases z : v = i
            · exact Or.inl (Or.inr (by rw [← z]; exact h))
            · exact Or.inr ⟨v, by omega, v2, h⟩
  have h := go 9 0 0 (Nat.zero_le _) (by omega)
  show qb_t (sl_X5_allLeaves_L4 pv fk 9 0 0) x = true ↔ _
  rw [h, qb_0]
  constructor
  · rintro (h | ⟨v, -, v2, h⟩)
    · cases h
    · exact ⟨v, v2, h⟩
  · rintro ⟨v, v2, h⟩
    exact Or.inr ⟨v, Nat.zero_le _, v2, h⟩
theorem qp_lf_all {pv k x : Nat} {fk : Nat → Int32} (hK : qp_K pv fk) (h : qp_lf pv fk k x) : ∃ v, v < pv ∧ qp_lf pv fk (3 * v) x := by
  obtain ⟨a, b, c, d, e⟩ := qp_lf_kd hK h
  have hk : k / 3 < pv := by omega
  refine ⟨k / 3, hk, ?_⟩
  have e3 : qp_kd pv fk (3 * (k / 3)) = fk (k / 3) := by
    unfold qp_kd
    rw [show 3 * (k / 3) / 3 = k / 3 from by omega, if_pos hk, if_pos (by omega)]
  rcases qp_kd_cases (k := k) hK with q | ⟨-, ⟨q1, q2⟩ | ⟨q1, q2, q3⟩⟩
  · exact absurd q h.1
  · rw [show 3 * (k / 3) = k from by omega]; exact h
  · have hx : x = k := by
      have h2 := h.2
      rw [q3, if_neg (by decide)] at h2; exact h2
    refine ⟨by rw [e3, q2]; decide, ?_⟩
    rw [e3, if_pos q2]
    omega
theorem qx_sl_rng {lc pv : Nat} {yp ye cd : Nat → Int32} {p1 p2 p3 p4 : Int32} (hl : lc ≤ 16) : s_X0_smallestLoan lc yp ye pv cd p1 p2 p3 p4 = -1 ∨ 0 ≤ s_X0_smallestLoan lc yp ye pv cd p1 p2 p3 p4 := by
  unfold s_X0_smallestLoan
  by_cases c : p2 = -1
  · rw [if_pos c]; exact Or.inl rfl
  · rw [if_neg c]
    have go : ∀ (k i : Nat), i ≤ lc → lc - i < k → sl_X0_smallestLoan_L18 lc yp ye pv cd p1 p2 p3 p4 k i = -1 ∨ 0 ≤ sl_X0_smallestLoan_L18 lc yp ye pv cd p1 p2 p3 p4 k i := by
      intro k
      induction k with
      | zero => intro i a b; omega
      | succ k ih =>
        intro i a b
        rw [sl_X0_smallestLoan_L18]
        by_cases q : lc ≤ i
        · rw [if_pos (nI_le q (by omega))]; exact Or.inl rfl
        · rw [if_neg (by rw [qb_le (by omega) (by omega)]; exact q)]
          have r := ih (i + 1) (by omega) (by omega)
          have z : (0 : Int32) ≤ nI i := nI_pos' (by omega)
          (repeat' split) <;> first | exact r | exact Or.inr z
    exact go 17 0 (Nat.zero_le _) (by omega)
theorem qx_sl_m1 {lc pv : Nat} {yp ye cd : Nat → Int32} {p1 p3 p4 : Int32} : s_X0_smallestLoan lc yp ye pv cd p1 (-1) p3 p4 = -1 := by
  unfold s_X0_smallestLoan
  rw [if_pos rfl]
theorem qk_lineNo {pv pn L : Nat} {fk fs fa fb : Nat → Int32} {T : qk_T} (hn : pn ≤ 33) (hL : qk_L pv pn fk fs fa fb T) (hw : qw_stk fs pn = some []) (hLn : L < pn) :
    (qk_bad pv pn fk fs fa fb T L → s_X2_numberOfLine (qk_fc T) (qk_xn T) (qk_xl T) (nI L) = qk_no pv pn fk fs fa fb T L) ∧
    (¬ qk_bad pv pn fk fs fa fb T L → s_X2_numberOfLine (qk_fc T) (qk_xn T) (qk_xl T) (nI L) = 0) := by
  obtain ⟨-, -, -, -, hf, hx⟩ := hL.2.2.2.2 hw
  have hf34 : qk_fc T ≤ 33 := by rw [hf]; have := qx_n_le (P := qk_bad pv pn fk fs fa fb T) pn; omega
  have other : ∀ i, i < qk_fc T → ¬ (∃ z : qk_bad pv pn fk fs fa fb T L, i = qx_n (qk_bad pv pn fk fs fa fb T) L) → ¬ qk_xl T i = nI L := by
    intro i hi hne h
    rw [hf] at hi
    obtain ⟨j, hj, hb, rfl⟩ := qx_n_of hi
    rw [(hx j hj hb).1] at h
    have : j = L := (nI_eq (by omega) (by omega)).mp h
    subst this
    exact hne ⟨hb, rfl⟩
  have go : ∀ (k i : Nat), i ≤ qk_fc T → qk_fc T - i < k → (∀ z : qk_bad pv pn fk fs fa fb T L, i ≤ qx_n (qk_bad pv pn fk fs fa fb T) L) →
      (qk_bad pv pn fk fs fa fb T L → sl_X2_numberOfLine_L2 (qk_fc T) (qk_xn T) (qk_xl T) (nI L) k i = qk_no pv pn fk fs fa fb T L) ∧
      (¬ qk_bad pv pn fk fs fa fb T L → sl_X2_numberOfLine_L2 (qk_fc T) (qk_xn T) (qk_xl T) (nI L) k i = 0) := by
    intro k
    induction k with
    | zero => intro i a b c; omega
    | succ k ih =>
      intro i a b c
      rw [sl_X2_numberOfLine_L2]
      by_cases q : qk_fc T ≤ i
      · rw [if_pos (nI_le q (by omega))]
        refine ⟨fun z => ?_, fun _ => rfl⟩
        have h1 := c z
        have h2 := qx_n_lt hLn z
        omega
      · rw [if_neg (by rw [qb_le (by omega) (by omega)]; exact q)]
        by_cases d : ∃ z : qk_bad pv pn fk fs fa fb T L, i = qx_n (qk_bad pv pn fk fs fa fb T) L
        · obtain ⟨z, rfl⟩ := d
          obtain ⟨e1, e2⟩ := hx L hLn z
          rw [if_pos e1]
          exact ⟨fun _ => e2, fun h => absurd z h⟩
        · rw [if_neg (other i (by omega) d)]
          refine ih (i + 1) (by omega) (by omega) fun z => ?_
          have := c z
          by_cases y : i = qx_n (qk_bad pv pn fk fs fa fb T) L
          · exact absurd ⟨z, y⟩ d
          · omega
  exact go 35 0 (Nat.zero_le _) (by omega) fun _ => Nat.zero_le _
section
variable {pv n L p : Nat} {fk fs fa fb fs' fa' fb' : Nat → Int32} {T T' : qk_T}
theorem qj_sound (hK : qp_K pv fk) (hL : qk_L pv n fk fs fa fb T) (hL' : qk_L pv (n + 1) fk fs' fa' fb' T') (hQ : qj_P fs fa fb fs' fa' fb' L n) (hLn : L ≤ n) (hp : pv ≤ 8) (hn : n ≤ 32) (h7 : fs' L = 7) (ha : fa' L = nI p) (hpl : ¬ qp_kd pv fk p = -1) (hl : ql_n fs n ≤ 16) (hE : L < n → ¬ fs L = 11) (hw : qw_stk fs n = some []) (ho : qj_out T L n) :
    ∀ could state way : Int32, could = s_X2_numberOfLine (qk_fc T') (qk_xn T') (qk_xl T') (nI L) → state = s_X0_stateAt pv n fk (qk_cr T) (qk_ch T) (qk_cl T) (nI L) (nI p) → way = s_X0_smallestLoan (qk_lc T) (qk_yp T) (qk_ye T) pv (qk_cd T) (nI L) (nI p) (s_X0_wantedAt n (qk_cn T) (nI L)) 0 →
      ¬ 3 < could ∧ (could = 3 ↔ (state = 1 ∧ 0 ≤ way)) ∧ (could = 1 → state = 2) ∧ (could = 2 → ¬ state = 1) ∧ (state = 0 → could = 0) := by
  intro could state way hc hs hwy
  have hp24 : p < 24 := by have := qp_kd_lt hpl; omega
  have h3 : ¬ (fs' L = 3 ∨ fs' L = 4) := by rw [h7]; decide
  have hP : qi_P fs fs' L n := ⟨fun j hj => (hQ j hj).1, by rw [h7]; decide, by rw [h7]; decide, by rw [h7]; decide, by rw [h7]; decide⟩
  have h15 : ¬ fs' L = 15 := by rw [h7]; decide
  obtain ⟨m1, m2, m3, m4, m5⟩ := qj_main hL hL' hQ hLn hp hn h3 hP hl hE h15 hw ho
  obtain ⟨hd, hlc, hyp⟩ := qj_data hL hL' hQ hLn h3 hP hl
  obtain ⟨he, hf1, hf2⟩ := qj_edges hL hL' hP (by omega) hLn hE h15 hw
  have hw' := qi_whole hP (by omega) hLn hw
  have hcov := (hL.2.2.2.2 hw).1.2.1
  have hlc16 : qk_lc T ≤ 16 := by have := hL.2.1.1; have : qk_lc T = ql_n fs n := this; omega
  obtain ⟨d1, d2, d3, d4, d5, d6, d7, d8, d9⟩ := hL'.1 L (by omega)
  rw [h7, ha] at d1 d3 d4 d6 d7 d8 d9
  rw [h7] at d2 d5
  have d4 : qk_dul T' L = s_X5_leavesOf pv fk (nI p) := d4
  have d5 : qk_dtl T' L = 0 := d5.trans (qp_leaves_m1 pv fk)
  have d9 : qk_dbg T' L = 0 := by
    refine d9.trans ?_
    show s_X1_borrowSet pv fk (-1) = 0
    unfold s_X1_borrowSet
    rw [qp_kind_m1]; rfl
  -- what is in the way
  have eb : s_X0_wantedBehind (-1) (qk_yf T') (qk_ys T') (n + 1) (qk_cn T') (nI L) &&& (qk_dbg T' L ^^^ (-1)) = s_X0_wantedAt n (qk_cn T) (nI L) := by
    unfold s_X0_wantedBehind
    rw [qf_first (show L < n + 1 by omega) (by omega), qf_second (show L < n + 1 by omega) (by omega), hf1, hf2, d9]
    have e1 : s_X0_wantedAt (n + 1) (qk_cn T') (-1) = 0 := by
      unfold s_X0_wantedAt
      rw [if_pos (qp_isLine_m1 _)]
    have e2 : s_X0_wantedAt (n + 1) (qk_cn T') (nI (L + 1)) = s_X0_wantedAt n (qk_cn T) (nI L) := by
      unfold s_X0_wantedAt
      rcases Nat.lt_or_ge L n with z | z
      · rw [if_neg (qp_isLine1 (show L + 1 < n + 1 by omega) (by omega)), if_neg (qp_isLine1 z (by omega)), qb_cl (by omega), qb_cl (by omega)]
        exact m5 L (Nat.le_refl _) z
      · rw [if_pos (show s_X5_isLine (n + 1) (nI (L + 1)) = 0 by rw [qp_isLine (by omega) (by omega), if_neg (by omega)]), if_pos (show s_X5_isLine n (nI L) = 0 by rw [qp_isLine (by omega) (by omega), if_neg (by omega)])]
    rw [e1, e2]
    refine qb_ext fun i hi => ?_
    rw [qb_and, qb_or, qb_not _ hi, qb_0]
    simp
  have sl0 : qx_sl (qk_dbg T') (qk_yf T') (qk_ys T') (qk_yp T') (qk_ye T') fk fs' fa' fb' (qk_cd T') (qk_cn T') (qk_lc T') pv (n + 1) L 0 = way := by
    unfold qx_sl
    rw [eb, qd_taken (show L < n + 1 by omega) (by omega), qd_read (show L < n + 1 by omega) (by omega), h7, ha, hwy, hlc]
    show s_X0_smallestLoan (qk_lc T) (qk_yp T') (qk_ye T') pv (qk_cd T') (nI L) (nI p) (s_X0_wantedAt n (qk_cn T) (nI L)) 0 = _
    have hb : ∀ b : Int32, s_X0_heldByAny pv (qk_cd T') (nI L) b = s_X0_heldByAny pv (qk_cd T) (nI L) b := by
      intro b
      unfold s_X0_heldByAny
      have go : ∀ (k i : Nat) (va : Int32), i ≤ pv → pv - i < k → sl_X0_heldByAny_L5 pv (qk_cd T') (nI L) b k va i = sl_X0_heldByAny_L5 pv (qk_cd T) (nI L) b k va i := by
        intro k
        induction k with
        | zero => intro i va a b; omega
        | succ k ih =>
          intro i va a1 a2
          rw [sl_X0_heldByAny_L5, sl_X0_heldByAny_L5]
          by_cases q : pv ≤ i
          · rw [if_pos (nI_le q (by omega)), if_pos (nI_le q (by omega))]
          · have hq : ¬ nI pv ≤ nI i := by rw [qb_le (by omega) (by omega)]; exact q
            rw [if_neg hq, if_neg hq, qf_heldBy (by omega) (by omega), qf_heldBy (by omega) (by omega), m4 i (by omega), ih (i + 1) _ (by omega) (by omega), ih (i + 1) _ (by omega) (by omega)]
      exact go 9 0 0 (Nat.zero_le _) (by omega)
    unfold s_X0_smallestLoan
    have go : ∀ (k i : Nat) (p2 p3 p4 : Int32), i ≤ qk_lc T → qk_lc T - i < k → sl_X0_smallestLoan_L18 (qk_lc T) (qk_yp T') (qk_ye T') pv (qk_cd T') (nI L) p2 p3 p4 k i = sl_X0_smallestLoan_L18 (qk_lc T) (qk_yp T) (qk_ye T) pv (qk_cd T) (nI L) p2 p3 p4 k i := by
      intro k
      induction k with
      | zero => intro i p2 p3 p4 a b; omega
      | succ k ih =>
        intro i p2 p3 p4 a1 a2
        rw [sl_X0_smallestLoan_L18, sl_X0_smallestLoan_L18]
        by_cases q : qk_lc T ≤ i
        · rw [if_pos (nI_le q (by omega)), if_pos (nI_le q (by omega))]
        · have hi : i < qk_lc T := by omega
          have hq : ¬ nI (qk_lc T) ≤ nI i := by rw [qb_le (by omega) (by omega)]; exact q
          have e2 : s_X3_placeOf (qk_lc T) (qk_yp T') (nI i) = s_X3_placeOf (qk_lc T) (qk_yp T) (nI i) := by
            unfold s_X3_placeOf
            rw [qb_cl (by omega), (hyp i hi).1]
          have e3 : s_X3_isLent (qk_lc T) (qk_ye T') (nI i) = s_X3_isLent (qk_lc T) (qk_ye T) (nI i) := by
            unfold s_X3_isLent
            rw [qb_cl (by omega), (hyp i hi).2]
          rw [if_neg hq, if_neg hq, hb, e2, e3, ih (i + 1) _ _ _ (by omega) (by omega)]
    rw [go 17 0 _ _ _ (Nat.zero_le _) (by omega)]
  have sl1 : qx_sl (qk_dbg T') (qk_yf T') (qk_ys T') (qk_yp T') (qk_ye T') fk fs' fa' fb' (qk_cd T') (qk_cn T') (qk_lc T') pv (n + 1) L 1 = -1 := by
    unfold qx_sl
    rw [qd_taken (show L < n + 1 by omega) (by omega), h7, ha]
    exact qx_sl_m1
  have hrd : ∀ t : Int32, s_X1_isTakenToRead (n + 1) fs' (nI L) t = 0 := by
    intro t
    rw [qd_read (show L < n + 1 by omega) (by omega), h7]; rfl
  have hbad : qk_bad pv (n + 1) fk fs' fa' fb' T' L ↔ ¬ qk_cr T L = 0 ∧ (¬ s_X5_leavesOf pv fk (nI p) &&& qk_cl T L = 0 ∨ ¬ way = -1) := by
    unfold qk_bad qx_bad
    rw [sl0, sl1, d4, d5, m1, m3]
    constructor
    · rintro ⟨a, b | b | b | b⟩
      · exact ⟨a, Or.inl b⟩
      · exact absurd (show (0 : Int32) &&& qk_cl T L = 0 from qb_eq0.mpr fun i _ => by rw [qb_and, qb_0]; rfl) b
      · exact ⟨a, Or.inr b⟩
      · exact absurd rfl b
    · rintro ⟨a, b | b⟩
      · exact ⟨a, Or.inl b⟩
      · exact ⟨a, Or.inr (Or.inr (Or.inl b))⟩
  obtain ⟨n1, n2⟩ := qk_lineNo (show n + 1 ≤ 33 by omega) hL' hw' (show L < n + 1 by omega)
  have hst : state = if qk_cr T L = 0 then 0 else (if (qk_ch T L) &&& (s_X5_leavesOf pv fk (nI p)) = s_X5_leavesOf pv fk (nI p) then (if (qk_cl T L) &&& (s_X5_leavesOf pv fk (nI p)) = 0 then 1 else 3) else 2) := by
    rw [hs]
    unfold s_X0_stateAt
    rw [if_neg (show ¬ s_X5_isLineOrEnd n (nI L) = 0 by rw [qp_isEnd (by omega) (by omega), if_pos hLn]; decide), qb_cl (by omega)]
  have hlv : ∀ i, qb_t (s_X5_leavesOf pv fk (nI p)) i = true → qb_t (s_X5_allLeaves pv fk) i = true := by
    intro i hi
    rw [qp_all hp]
    exact qp_lf_all hK ((qp_leaves hp (by omega)).mp hi)
  by_cases r : qk_cr T L = 0
  · have c0 : could = 0 := by rw [hc]; exact n2 fun z => (hbad.mp z).1 r
    rw [if_pos r] at hst
    rw [c0, hst]
    exact ⟨by decide, ⟨fun h => absurd h (by decide), fun h => absurd h.1 (by decide)⟩, fun h => absurd h (by decide), fun h => absurd h (by decide), fun _ => rfl⟩
  · rw [if_neg r] at hst
    by_cases z : s_X5_leavesOf pv fk (nI p) &&& qk_cl T L = 0
    · have z2 : qk_cl T L &&& s_X5_leavesOf pv fk (nI p) = 0 := by rw [Int32.and_comm]; exact z
      by_cases y : way = -1
      · have c0 : could = 0 := by rw [hc]; exact n2 fun k => (hbad.mp k).2.elim (fun k => k z) fun k => k y
        rw [c0, y]
        exact ⟨by decide, ⟨fun h => absurd h (by decide), fun h => absurd h.2 (by decide)⟩, fun h => absurd h (by decide), fun h => absurd h (by decide), fun _ => rfl⟩
      · have c3 : could = 3 := by
          rw [hc, n1 (hbad.mpr ⟨r, Or.inr y⟩)]
          unfold qk_no qx_no
          rw [d4, d5, m3, sl0, if_pos z, if_pos (show (0 : Int32) &&& qk_cl T L = 0 from qb_eq0.mpr fun i _ => by rw [qb_and, qb_0]; rfl), if_neg y, hrd, if_pos rfl]
        have hy : 0 ≤ way := by
          rcases qx_sl_rng (lc := qk_lc T) (pv := pv) (yp := qk_yp T) (ye := qk_ye T) (cd := qk_cd T) (p1 := nI L) (p2 := nI p) (p3 := s_X0_wantedAt n (qk_cn T) (nI L)) (p4 := 0) hlc16 with k | k
          · exact absurd (hwy.trans k) y
          · rw [hwy]; exact k
        have hall : (qk_ch T L) &&& (s_X5_leavesOf pv fk (nI p)) = s_X5_leavesOf pv fk (nI p) := by
          refine qb_ext fun i _ => ?_
          rw [qb_and]
          cases k : qb_t (s_X5_leavesOf pv fk (nI p)) i with
          | false => simp
          | true =>
            rcases hcov L i (by omega) r (hlv i k) with h | h
            · have h : qb_t (qk_ch T L) i = true := h
              rw [h]; rfl
            · have h : qb_t (qk_cl T L) i = true := h
              have := qb_dis.mp z i k
              rw [h] at this; cases this
        rw [if_pos hall, if_pos z2] at hst
        rw [c3, hst]
        exact ⟨by decide, ⟨fun _ => ⟨rfl, hy⟩, fun _ => rfl⟩, fun h => absurd h (by decide), fun h => absurd h (by decide), fun h => absurd h (by decide)⟩
    · have z2 : ¬ qk_cl T L &&& s_X5_leavesOf pv fk (nI p) = 0 := by rw [Int32.and_comm]; exact z
      obtain ⟨i, hi, i1, i2⟩ := qx_ntz z
      have i3 : qb_t (s_X5_leavesOf pv fk (nI p)) i = true := by
        rw [qb_and, Bool.and_eq_true] at i1; exact i1.1
      have cn : could = if qk_ch T L &&& ((1 : Int32) <<< (nI i &&& 31)) = 0 then 1 else 2 := by
        rw [hc, n1 (hbad.mpr ⟨r, Or.inl z⟩)]
        unfold qk_no qx_no
        rw [d4, m3, m2, if_neg z, i2]
      have s0 : ¬ state = 0 ∧ ¬ state = 1 := by
        rw [hst, if_neg z2]
        split <;> exact ⟨by decide, by decide⟩
      by_cases k : qk_ch T L &&& ((1 : Int32) <<< (nI i &&& 31)) = 0
      · rw [if_pos k] at cn
        have s2 : state = 2 := by
          rw [hst, if_neg]
          intro e
          have e2 : qb_t (qk_ch T L &&& s_X5_leavesOf pv fk (nI p)) i = true := by rw [e]; exact i3
          rw [qb_and, Bool.and_eq_true] at e2
          rw [qb_ask hi] at k
          rw [k] at e2
          cases e2.1
        rw [cn]
        exact ⟨by decide, ⟨fun h => absurd h (by decide), fun h => absurd h.1 s0.2⟩, fun _ => s2, fun h => absurd h (by decide), fun h => absurd h s0.1⟩
      · rw [if_neg k] at cn
        rw [cn]
        exact ⟨by decide, ⟨fun h => absurd h (by decide), fun h => absurd h.1 s0.2⟩, fun h => absurd h (by decide), fun _ => s0.2, fun h => absurd h s0.1⟩
end
