/-! TWO LOOKS AT PROGRAMS WHOSE LINES ARE ALIKE -/
theorem qx_sl_c {dbg dbg' yf yf' ys ys' yp yp' ye ye' fk fs fs' fa fa' fb fb' cd cd' cn cn' : Nat → Int32} {lc pv pn j : Nat} {t : Nat} (hp : pv ≤ 8) (hl : lc ≤ 16) (hj : j < pn) (hn : pn ≤ 34)
    (h1 : dbg j = dbg' j) (h2 : yf j = yf' j) (h3 : ys j = ys' j) (h4 : ∀ k, k < lc → yp k = yp' k ∧ ye k = ye' k) (h5 : qm_line fs fa fb fs' fa' fb' j) (h6 : ∀ v, v < pv → cd (j * 8 + v) = cd' (j * 8 + v)) (h7 : ∀ i, i < pn → cn i = cn' i) :
    qx_sl dbg yf ys yp ye fk fs fa fb cd cn lc pv pn j t = qx_sl dbg' yf' ys' yp' ye' fk fs' fa' fb' cd' cn' lc pv pn j t := by
  unfold qx_sl
  have w : ∀ p : Int32, s_X0_wantedAt pn cn p = s_X0_wantedAt pn cn' p := by
    intro p
    unfold s_X0_wantedAt
    by_cases c : s_X5_isLine pn p = 0
    · rw [if_pos c, if_pos c]
    · obtain ⟨i, hi, rfl⟩ := qp_isLine_of (by omega) c
      rw [if_neg c, if_neg c, qb_cl (by omega)]
      exact h7 i hi
  have e1 : s_X0_wantedBehind (-1) yf ys pn cn (nI j) = s_X0_wantedBehind (-1) yf' ys' pn cn' (nI j) := by
    unfold s_X0_wantedBehind
    rw [qf_first hj hn, qf_second hj hn, qf_first hj hn, qf_second hj hn, h2, h3, w, w]
  rw [e1, h1, qd_taken hj (by omega), qd_taken hj (by omega), qd_read hj (by omega), qd_read hj (by omega), ← h5.1, ← h5.2.1, qm_k h5.2.2]
  have hb : ∀ b : Int32, s_X0_heldByAny pv cd (nI j) b = s_X0_heldByAny pv cd' (nI j) b := by
    intro b
    unfold s_X0_heldByAny
    have go : ∀ (k i : Nat) (va : Int32), i ≤ pv → pv - i < k → sl_X0_heldByAny_L5 pv cd (nI j) b k va i = sl_X0_heldByAny_L5 pv cd' (nI j) b k va i := by
      intro k
      induction k with
      | zero => intro i va a b; omega
      | succ k ih =>
        intro i va a1 a2
        rw [sl_X0_heldByAny_L5, sl_X0_heldByAny_L5]
        by_cases q : pv ≤ i
        · rw [if_pos (nI_le q (by omega)), if_pos (nI_le q (by omega))]
        · have hq : ¬ nI pv ≤ nI i := by rw [qb_le (by omega) (by omega)]; exact q
          rw [if_neg hq, if_neg hq, qf_heldBy (by omega) (by omega), qf_heldBy (by omega) (by omega), h6 i (by omega), ih (i + 1) _ (by omega) (by omega), ih (i + 1) _ (by omega) (by omega)]
    exact go 9 0 0 (Nat.zero_le _) (by omega)
  unfold s_X0_smallestLoan
  have go : ∀ (k i : Nat) (p2 p3 p4 : Int32), i ≤ lc → lc - i < k → sl_X0_smallestLoan_L18 lc yp ye pv cd (nI j) p2 p3 p4 k i = sl_X0_smallestLoan_L18 lc yp' ye' pv cd' (nI j) p2 p3 p4 k i := by
    intro k
    induction k with
    | zero => intro i p2 p3 p4 a b; omega
    | succ k ih =>
      intro i p2 p3 p4 a1 a2
      rw [sl_X0_smallestLoan_L18, sl_X0_smallestLoan_L18]
      by_cases q : lc ≤ i
      · rw [if_pos (nI_le q (by omega)), if_pos (nI_le q (by omega))]
      · have hi : i < lc := by omega
        have e2 : s_X3_placeOf lc yp (nI i) = s_X3_placeOf lc yp' (nI i) := by
          unfold s_X3_placeOf
          rw [qb_cl (by omega), (h4 i hi).1]
        have e3 : s_X3_isLent lc ye (nI i) = s_X3_isLent lc ye' (nI i) := by
          unfold s_X3_isLent
          rw [qb_cl (by omega), (h4 i hi).2]
        have hq : ¬ nI lc ≤ nI i := by rw [qb_le (by omega) (by omega)]; exact q
        rw [if_neg hq, if_neg hq, hb, e2, e3, ih (i + 1) _ _ _ (by omega) (by omega)]
  rw [go 17 0 _ _ _ (Nat.zero_le _) (by omega)]
/-- what two looks have in common -/
def qm_T (pv pn : Nat) (T T' : qk_T) : Prop :=
  (∀ j, j < pn → qk_dul T j = qk_dul T' j ∧ qk_dtl T j = qk_dtl T' j ∧ qk_dgl T j = qk_dgl T' j ∧ qk_dll T j = qk_dll T' j ∧ qk_dbu T j = qk_dbu T' j ∧ qk_dbg T j = qk_dbg T' j ∧ qk_dg T j = qk_dg T' j ∧ qk_du T j = qk_du T' j ∧ qk_yo T j = qk_yo T' j ∧ qk_yf T j = qk_yf T' j ∧ qk_ys T j = qk_ys T' j) ∧
  (∀ j, j ≤ pn → (qk_cr T j = 0 ↔ qk_cr T' j = 0) ∧ qk_ch T j = qk_ch T' j ∧ qk_cl T j = qk_cl T' j ∧ ∀ v, v < pv → qk_cd T (j * 8 + v) = qk_cd T' (j * 8 + v)) ∧
  (∀ j, j < pn → qk_cn T j = qk_cn T' j) ∧ qk_lc T = qk_lc T' ∧ (∀ k, k < qk_lc T → qk_yp T k = qk_yp T' k ∧ qk_ye T k = qk_ye T' k)
theorem qb_anti {x y : Int32} (h : qb_sub x y) (k : qb_sub y x) : x = y := qb_ext fun i _ => by
  cases a : qb_t x i with
  | true => rw [h i a]
  | false =>
    cases b : qb_t y i with
    | false => rfl
    | true => rw [k i b] at a; cases a
theorem qm_deeds {pv pn : Nat} {fk fs fa fb fs' fa' fb' : Nat → Int32} {T T' : qk_T} (hL : qk_L pv pn fk fs fa fb T) (hL' : qk_L pv pn fk fs' fa' fb' T') (hm : ∀ j, j < pn → qm_line fs fa fb fs' fa' fb' j) :
    (∀ j, j < pn → qk_dul T j = qk_dul T' j ∧ qk_dtl T j = qk_dtl T' j ∧ qk_dgl T j = qk_dgl T' j ∧ qk_dll T j = qk_dll T' j ∧ qk_dbu T j = qk_dbu T' j ∧ qk_dbg T j = qk_dbg T' j ∧ qk_dg T j = qk_dg T' j ∧ qk_du T j = qk_du T' j ∧ qk_yo T j = qk_yo T' j) ∧ qk_lc T = qk_lc T' ∧ (∀ k, k < qk_lc T → qk_yp T k = qk_yp T' k ∧ qk_ye T k = qk_ye T' k) := by
  have eS : ∀ j, j < pn → fs j = fs' j := fun j hj => (hm j hj).1
  refine ⟨fun j hj => ?_, ?_, fun k hk => ?_⟩
  · obtain ⟨d1, d2, d3, d4, d5, d6, d7, d8, d9⟩ := hL.1 j hj
    obtain ⟨k1, k2, k3, k4, k5, k6, k7, k8, k9⟩ := hL'.1 j hj
    obtain ⟨m1, m2, m3⟩ := hm j hj
    obtain ⟨n1, n2, n3⟩ := qm_d (a := fa j) m3
    rw [n1] at d1 d4 d8
    rw [n2] at d2 d5
    rw [n3] at d7
    rw [← m1, ← m2] at k1 k3 k4 k6 k7 k8 k9
    rw [← m1] at k2 k5
    refine ⟨d4.trans k4.symm, d5.trans k5.symm, d6.trans k6.symm, d7.trans k7.symm, d8.trans k8.symm, d9.trans k9.symm, d3.trans k3.symm, d1.trans k1.symm, ?_⟩
    by_cases c : fs j = 3 ∨ fs j = 4
    · have a := (hL.2.1.2.1 j hj c).2.2.2
      have b := (hL'.2.1.2.1 j hj (by rw [← m1]; exact c)).2.2.2
      have e := ql_c (S := fs) (S' := fs') (i := j) fun i hi => eS i (by omega)
      exact a.trans (by rw [e]; exact b.symm)
    · exact (hL.2.1.2.2 j hj c).trans (hL'.2.1.2.2 j hj (by rw [← m1]; exact c)).symm
  · have a := hL.2.1.1
    have b := hL'.2.1.1
    exact a.trans ((ql_c eS).trans b.symm)
  · have hk2 : k < ql_n fs pn := by have := hL.2.1.1; have : qk_lc T = ql_n fs pn := this; omega
    obtain ⟨i, hi, c, rfl⟩ := ql_of hk2
    obtain ⟨a1, a2, a3, a4⟩ := hL.2.1.2.1 i hi c
    obtain ⟨b1, b2, b3, b4⟩ := hL'.2.1.2.1 i hi (by rw [← eS i hi]; exact c)
    have e := ql_c (S := fs) (S' := fs') (i := i) fun i' hi' => eS i' (by omega)
    rw [← e] at b2 b3
    have m3 : fb i = fb' i := by
      rcases (hm i hi).2.2 with z | z | z
      · exact z
      · rw [z] at c; rcases c with c | c <;> exact absurd c (by decide)
      · rw [z] at c; rcases c with c | c <;> exact absurd c (by decide)
    exact ⟨a2.trans (m3.trans b2.symm), a3.trans (by rw [eS i hi]; exact b3.symm)⟩
theorem qm_same {pv pn : Nat} {fk fs fa fb fs' fa' fb' : Nat → Int32} {T T' : qk_T} (hp : pv ≤ 8) (hn : pn ≤ 33) (hl : ql_n fs pn ≤ 16) (hL : qk_L pv pn fk fs fa fb T) (hL' : qk_L pv pn fk fs' fa' fb' T') (hm : ∀ j, j < pn → qm_line fs fa fb fs' fa' fb' j) :
    (qw_stk fs pn = qw_stk fs' pn) ∧ qk_fc T = qk_fc T' ∧ (qw_stk fs pn = some [] → qm_T pv pn T T' ∧ ∀ j, j < pn → (qk_bad pv pn fk fs fa fb T j ↔ qk_bad pv pn fk fs' fa' fb' T' j)) := by
  have eS : ∀ j, j < pn → fs j = fs' j := fun j hj => (hm j hj).1
  have eW : qw_stk fs pn = qw_stk fs' pn := qw_stk_c eS
  have main : qw_stk fs pn = some [] → qm_T pv pn T T' ∧ ∀ j, j < pn → (qk_bad pv pn fk fs fa fb T j ↔ qk_bad pv pn fk fs' fa' fb' T' j) := by
    intro hw
    have hw' : qw_stk fs' pn = some [] := by rw [← eW]; exact hw
    obtain ⟨hd, hlc, hyp⟩ := qm_deeds hL hL' hm
    have hnx : ∀ j, j < pn → qk_yf T j = qk_yf T' j ∧ qk_ys T j = qk_ys T' j := by
      intro j hj
      exact qw_nx_det (qw_nx_c eS hj ((hL.2.2.1.1 hw).2 j hj).1) ((hL'.2.2.1.1 hw').2 j hj).1
    have hD : ∀ j, j < pn → qk_dul T j = qk_dul T' j ∧ qk_dtl T j = qk_dtl T' j ∧ qk_dgl T j = qk_dgl T' j ∧ qk_dll T j = qk_dll T' j ∧ qk_dbu T j = qk_dbu T' j ∧ qk_dbg T j = qk_dbg T' j ∧ qk_dg T j = qk_dg T' j ∧ qk_du T j = qk_du T' j ∧ qk_yo T j = qk_yo T' j ∧ qk_yf T j = qk_yf T' j ∧ qk_ys T j = qk_ys T' j := by
      intro j hj
      obtain ⟨a1, a2, a3, a4, a5, a6, a7, a8, a9⟩ := hd j hj
      exact ⟨a1, a2, a3, a4, a5, a6, a7, a8, a9, hnx j hj⟩
    have f1 := qk_self hL hw
    have f2 := qk_self hL' hw'
    have i1 := (hL.2.2.2.2 hw).2.1 _ _ _ _ (qf_fam_c (fun j hj => by obtain ⟨a1, a2, a3, a4, a5, a6, a7, a8, a9, a10, a11⟩ := hD j hj; exact ⟨a3, a4, a6, a7, a8, a9, a10, a11⟩) f2)
    have i2 := (hL'.2.2.2.2 hw').2.1 _ _ _ _ (qf_fam_c (fun j hj => by obtain ⟨a1, a2, a3, a4, a5, a6, a7, a8, a9, a10, a11⟩ := hD j hj; exact ⟨a3.symm, a4.symm, a6.symm, a7.symm, a8.symm, a9.symm, a10.symm, a11.symm⟩) f1)
    have hX : ∀ j, j ≤ pn → (qk_cr T j = 0 ↔ qk_cr T' j = 0) ∧ qk_ch T j = qk_ch T' j ∧ qk_cl T j = qk_cl T' j ∧ ∀ v, v < pv → qk_cd T (j * 8 + v) = qk_cd T' (j * 8 + v) := by
      intro j hj
      refine ⟨⟨fun h => ?_, fun h => ?_⟩, qb_anti (fun x hx => i1.2.1 j x hj hx) (fun x hx => i2.2.1 j x hj hx), qb_anti (fun x hx => i1.2.2.1 j x hj hx) (fun x hx => i2.2.2.1 j x hj hx), fun v hv => qb_anti (fun x hx => i1.2.2.2 j v x hj hv hx) (fun x hx => i2.2.2.2 j v x hj hv hx)⟩
      · exact Classical.byContradiction fun z => i2.1 j hj z h
      · exact Classical.byContradiction fun z => i1.1 j hj z h
    have g1 := (hL.2.2.2.2 hw).2.2
    have g2 := (hL'.2.2.2.2 hw').2.2
    have hN : ∀ j, j < pn → qk_cn T j = qk_cn T' j := by
      intro j hj
      have w1 := g1.2.1 _ (qg_fam_c (fun j hj => by obtain ⟨a1, a2, a3, a4, a5, a6, a7, a8, a9, a10, a11⟩ := hD j hj; exact ⟨a6, a5, a10, a11⟩) (qg_self (show pn ≤ 34 by omega) g2.1))
      have w2 := g2.2.1 _ (qg_fam_c (fun j hj => by obtain ⟨a1, a2, a3, a4, a5, a6, a7, a8, a9, a10, a11⟩ := hD j hj; exact ⟨a6.symm, a5.symm, a10.symm, a11.symm⟩) (qg_self (show pn ≤ 34 by omega) g1.1))
      exact qb_anti (fun x hx => w1 j x hj hx) (fun x hx => w2 j x hj hx)
    refine ⟨⟨hD, hX, hN, hlc, hyp⟩, fun j hj => ?_⟩
    obtain ⟨a1, a2, a3, a4, a5, a6, a7, a8, a9, a10, a11⟩ := hD j hj
    obtain ⟨x1, x2, x3, x4⟩ := hX j (by omega)
    have hlc16 : qk_lc T ≤ 16 := by have := hL.2.1.1; have : qk_lc T = ql_n fs pn := this; omega
    have sl : ∀ t, qx_sl (qk_dbg T) (qk_yf T) (qk_ys T) (qk_yp T) (qk_ye T) fk fs fa fb (qk_cd T) (qk_cn T) (qk_lc T) pv pn j t = qx_sl (qk_dbg T') (qk_yf T') (qk_ys T') (qk_yp T') (qk_ye T') fk fs' fa' fb' (qk_cd T') (qk_cn T') (qk_lc T') pv pn j t := by
      intro t
      rw [← hlc]
      exact qx_sl_c hp hlc16 hj (by omega) a6 a10 a11 hyp (hm j hj) x4 hN
    unfold qk_bad qx_bad
    rw [a1, a2, x3, sl 0, sl 1, x1]
  refine ⟨eW, ?_, main⟩
  by_cases hw : qw_stk fs pn = some []
  · have hw' : qw_stk fs' pn = some [] := by rw [← eW]; exact hw
    rw [(hL.2.2.2.2 hw).2.2.2.2.1, (hL'.2.2.2.2 hw').2.2.2.2.1]
    exact qx_n_congr pn (main hw).2
  · rw [hL.2.2.2.1 hw, hL'.2.2.2.1 (by rw [← eW]; exact hw)]
