/-! WAYS: what the class's own rows hold behind its look -/
def qw_rep (yst yel : Nat → Int32) : List (Nat × Int32) → Prop
  | [] => True
  | q :: r => yst r.length = nI q.1 ∧ yel q.1 = q.2 ∧ qw_rep yst yel r
theorem qw_rep_st {yst yel : Nat → Int32} {k : Nat} {x : Int32} : ∀ {st : List (Nat × Int32)}, qw_rep yst yel st → st.length ≤ k → qw_rep (upd yst k x) yel st
  | [], _, _ => trivial
  | q :: r, h, hk => by
    have hk : r.length + 1 ≤ k := hk
    exact ⟨by rw [qb_un (by omega)]; exact h.1, h.2.1, qw_rep_st h.2.2 (by omega)⟩
theorem qw_rep_el {yst yel : Nat → Int32} {o : Nat} {x : Int32} : ∀ {st : List (Nat × Int32)}, qw_rep yst yel st → (∀ q, q ∈ st → ¬ q.1 = o) → qw_rep yst (upd yel o x) st
  | [], _, _ => trivial
  | q :: r, h, hk => ⟨h.1, by rw [qb_un (hk q List.mem_cons_self)]; exact h.2.1, qw_rep_el h.2.2 fun z hz => hk z (List.mem_cons_of_mem _ hz)⟩
theorem qw_rep_at {yst yel : Nat → Int32} : ∀ {st : List (Nat × Int32)} {q : Nat × Int32}, qw_rep yst yel st → q ∈ st → yel q.1 = q.2
  | [], q, _, hq => by cases hq
  | z :: r, q, h, hq => by
    rcases List.mem_cons.mp hq with rfl | hq
    · exact h.2.1
    · exact qw_rep_at h.2.2 hq
theorem qw_len : ∀ {i : Nat} {st : List (Nat × Int32)}, st.Pairwise (fun a b => b.1 < a.1) → (∀ q, q ∈ st → q.1 < i) → st.length ≤ i
  | i, [], _, _ => Nat.zero_le _
  | i, q :: r, h, hi => by
    obtain ⟨p1, p2⟩ := List.pairwise_cons.mp h
    have h3 := qw_len p2 p1
    have h4 := hi q List.mem_cons_self
    show r.length + 1 ≤ i
    omega
theorem qw_popped {S : Nat → Int32} {e i : Nat} {q : Nat × Int32} {r st : List (Nat × Int32)} (h : S e = 11) (he : qw_stk S e = some (q :: r)) (hi : qw_stk S i = some st) (hei : e < i) : ∀ z, z ∈ st → ¬ z.1 = q.1 := by
  have g := qw_goodAt he
  have h3 : qw_stk S (e + 1) = some r := by rw [qw_stk_s he, qw_end1 h]
  exact qw_gone (o := q.1) (i - (e + 1)) (e + 1) r st (by have := (g.2 q List.mem_cons_self).1; omega) h3 (fun z hz => by have := (List.pairwise_cons.mp g.1).1 z hz; omega) (by rw [show e + 1 + (i - (e + 1)) = i from by omega]; exact hi)
/-- the rows ahead of line i -/
def qw_I (S : Nat → Int32) (i : Nat) (yop yel yen yst : Nat → Int32) (wdp : Int32) (st : List (Nat × Int32)) : Prop :=
  qw_stk S i = some st ∧ wdp = nI st.length ∧ qw_rep yst yel st ∧
  (∀ j, j < i → (S j = 9 ∨ S j = 11) → ∃ q r, qw_stk S j = some (q :: r) ∧ yop j = nI q.1) ∧
  (∀ e, e < i → ∀ q r, S e = 11 → qw_stk S e = some (q :: r) → yen q.1 = nI e ∧ yel q.1 = q.2) ∧
  (∀ o, i ≤ o → o < 34 → yel o = -1)
theorem qw_lastOpen {yst yel : Nat → Int32} {q : Nat × Int32} {r : List (Nat × Int32)} (h : qw_rep yst yel (q :: r)) (hl : r.length < 34) : s_X8_lastOpen (nI (q :: r).length) yst = nI q.1 := by
  have e : nI (q :: r).length - 1 = nI r.length := nI_pred r.length
  unfold s_X8_lastOpen
  rw [e, if_neg (qp_ix1 hl (by omega)), qb_cl (by omega)]
  exact h.1
theorem qw_lastOpen0 (yst : Nat → Int32) : s_X8_lastOpen (nI 0) yst = -1 := by
  unfold s_X8_lastOpen
  rw [show (nI 0 : Int32) - 1 = -1 from by decide, if_pos (qp_ix_m1 34)]
set_option maxHeartbeats 8000000 in
theorem qw_I_s {S yop yel yen yst : Nat → Int32} {i pn : Nat} {wdp : Int32} {st : List (Nat × Int32)} (hI : qw_I S i yop yel yen yst wdp st) (hi : i < pn) (hn : pn ≤ 34) :
    (qw_step S i st = none → (s_X8_isMatched wdp yop yel yen yst pn S (nI i)).2 = 0) ∧
    (∀ st', qw_step S i st = some st' → ¬ (s_X8_isMatched wdp yop yel yen yst pn S (nI i)).2 = 0 ∧
      qw_I S (i + 1) (s_X8_isMatched wdp yop yel yen yst pn S (nI i)).1.1 (s_X8_isMatched wdp yop yel yen yst pn S (nI i)).1.2.1 (s_X8_isMatched wdp yop yel yen yst pn S (nI i)).1.2.2.1 (s_X8_isMatched wdp yop yel yen yst pn S (nI i)).1.2.2.2.1 (s_X8_isMatched wdp yop yel yen yst pn S (nI i)).1.2.2.2.2 st') := by
  obtain ⟨hs, rfl, hr, hop, hen, hel⟩ := hI
  have g := qw_goodAt hs
  have hlen : st.length ≤ i := qw_len g.1 fun q hq => (g.2 q hq).1
  have eS : s_X5_sortAt pn S (nI i) = S i := qp_sortAt hi (by omega)
  have opn : S i = 8 ∨ S i = 10 → s_X8_isMatched (nI st.length) yop yel yen yst pn S (nI i) = ((yop, yel, yen, upd yst st.length (nI i), nI (st.length + 1)), 1) := by
    intro c
    unfold s_X8_isMatched
    rw [eS, if_neg (qp_ix1 (show st.length < 34 by omega) (by omega)), qb_cl (show st.length < 2 ^ 31 by omega), nI_1]
    rcases c with c | c
    · rw [if_pos c]
    · rw [if_neg (by rw [c]; decide), if_pos c]
  by_cases c8 : S i = 8 ∨ S i = 10
  · rw [opn c8, qw_open st c8]
    refine ⟨fun h => (by cases h), fun st' h => ?_⟩
    cases h
    refine ⟨(by decide : ¬ (1 : Int32) = 0), by rw [qw_stk_s hs, qw_open st c8], rfl, ⟨qb_us _ _ _, hel i (Nat.le_refl _) (by omega), qw_rep_st hr (Nat.le_refl _)⟩, fun j hj hc => ?_, fun e he q r h1 h2 => ?_, fun o h1 h2 => hel o (by omega) h2⟩
    · rcases Nat.lt_or_ge j i with q | q
      · exact hop j q hc
      · have : j = i := by omega
        subst this
        rcases c8 with c8 | c8 <;> rcases hc with hc | hc <;> (rw [c8] at hc; exact absurd hc (by decide))
    · rcases Nat.lt_or_ge e i with z | z
      · exact hen e z q r h1 h2
      · have : e = i := by omega
        subst this
        rcases c8 with c8 | c8 <;> (rw [c8] at h1; exact absurd h1 (by decide))
  · have n8 : ¬ S i = 8 := fun z => c8 (Or.inl z)
    have n10 : ¬ S i = 10 := fun z => c8 (Or.inr z)
    by_cases c9 : S i = 9
    · cases st with
      | nil =>
        rw [qw_else0 c9 (fun q r h => by cases h)]
        refine ⟨fun _ => ?_, fun st' h => by cases h⟩
        unfold s_X8_isMatched
        rw [eS, if_neg n8, if_neg n10, if_pos c9, if_neg (qp_ix1 (show i < 34 by omega) (by omega)), show s_X8_lastOpen (nI ([] : List (Nat × Int32)).length) yst = -1 from qw_lastOpen0 yst, if_pos (qp_ix_m1 34)]
      | cons q r =>
        have hq := (g.2 q List.mem_cons_self).1
        have hlen2 : r.length + 1 ≤ i := hlen
        have eL := qw_lastOpen hr (by omega)
        have eR : s_X8_isMatched (nI (q :: r).length) yop yel yen yst pn S (nI i) = if S q.1 = 8 then (if q.2 = -1 then ((upd yop i (nI q.1), upd yel q.1 (nI i), yen, yst, nI (q :: r).length), 1) else ((yop, yel, yen, yst, nI (q :: r).length), 0)) else ((yop, yel, yen, yst, nI (q :: r).length), 0) := by
          unfold s_X8_isMatched
          rw [eS, if_neg n8, if_neg n10, if_pos c9, if_neg (qp_ix1 (show i < 34 by omega) (by omega)), eL, if_neg (qp_ix1 (show q.1 < 34 by omega) (by omega)), qp_sortAt (show q.1 < pn by omega) (by omega), qb_cl (show q.1 < 2 ^ 31 by omega), qb_cl (show i < 2 ^ 31 by omega), hr.2.1]
        rw [eR]
        by_cases c : S q.1 = 8 ∧ q.2 = -1
        · rw [qw_else1 c9 c, if_pos c.1, if_pos c.2]
          refine ⟨fun h => (by cases h), fun st' h => ?_⟩
          cases h
          obtain ⟨p1, p2⟩ := List.pairwise_cons.mp g.1
          refine ⟨(by decide : ¬ (1 : Int32) = 0), by rw [qw_stk_s hs, qw_else1 c9 c], rfl, ⟨hr.1, qb_us _ _ _, qw_rep_el hr.2.2 fun z hz => by have := p1 z hz; omega⟩, fun j hj hc => ?_, fun e he z w h1 h2 => ?_, fun o h1 h2 => ?_⟩
          · rcases Nat.lt_or_ge j i with y | y
            · obtain ⟨a, b, c, d⟩ := hop j y hc
              exact ⟨a, b, c, by show upd yop i _ j = _; rw [qb_un (by omega)]; exact d⟩
            · have : j = i := by omega
              subst this
              exact ⟨q, r, hs, qb_us _ _ _⟩
          · rcases Nat.lt_or_ge e i with y | y
            · obtain ⟨a, b⟩ := hen e y z w h1 h2
              refine ⟨a, ?_⟩
              show upd yel q.1 _ z.1 = _
              rw [qb_un (fun k => qw_popped h1 h2 hs y q List.mem_cons_self k.symm)]
              exact b
            · have : e = i := by omega
              subst this
              rw [c9] at h1; exact absurd h1 (by decide)
          · show upd yel q.1 _ o = _
            rw [qb_un (by omega)]
            exact hel o (by omega) h2
        · rw [qw_else0 c9 (fun a b h => by cases h; exact c)]
          refine ⟨fun _ => ?_, fun st' h => by cases h⟩
          by_cases d : S q.1 = 8
          · rw [if_pos d, if_neg fun z => c ⟨d, z⟩]
          · rw [if_neg d]
    · by_cases c11 : S i = 11
      · cases st with
        | nil =>
          rw [qw_end0 c11]
          refine ⟨fun _ => ?_, fun st' h => by cases h⟩
          unfold s_X8_isMatched
          rw [eS, if_neg n8, if_neg n10, if_neg c9, if_pos c11, if_neg (qp_ix1 (show i < 34 by omega) (by omega)), show s_X8_lastOpen (nI ([] : List (Nat × Int32)).length) yst = -1 from qw_lastOpen0 yst, if_pos (qp_ix_m1 34)]
        | cons q r =>
          have hq := (g.2 q List.mem_cons_self).1
          have hlen2 : r.length + 1 ≤ i := hlen
          have eL := qw_lastOpen hr (by omega)
          have eR : s_X8_isMatched (nI (q :: r).length) yop yel yen yst pn S (nI i) = ((upd yop i (nI q.1), yel, upd yen q.1 (nI i), yst, nI r.length), 1) := by
            unfold s_X8_isMatched
            rw [eS, if_neg n8, if_neg n10, if_neg c9, if_pos c11, if_neg (qp_ix1 (show i < 34 by omega) (by omega)), eL, if_neg (qp_ix1 (show q.1 < 34 by omega) (by omega)), qb_cl (show q.1 < 2 ^ 31 by omega), qb_cl (show i < 2 ^ 31 by omega), show nI (q :: r).length - 1 = nI r.length from nI_pred r.length]
          rw [eR, qw_end1 c11]
          refine ⟨fun h => (by cases h), fun st' h => ?_⟩
          cases h
          refine ⟨(by decide : ¬ (1 : Int32) = 0), by rw [qw_stk_s hs, qw_end1 c11], rfl, hr.2.2, fun j hj hc => ?_, fun e he z w h1 h2 => ?_, fun o h1 h2 => hel o (by omega) h2⟩
          · rcases Nat.lt_or_ge j i with y | y
            · obtain ⟨a, b, c, d⟩ := hop j y hc
              exact ⟨a, b, c, by show upd yop i _ j = _; rw [qb_un (by omega)]; exact d⟩
            · have : j = i := by omega
              subst this
              exact ⟨q, r, hs, qb_us _ _ _⟩
          · rcases Nat.lt_or_ge e i with y | y
            · obtain ⟨a, b⟩ := hen e y z w h1 h2
              refine ⟨?_, b⟩
              show upd yen q.1 _ z.1 = _
              rw [qb_un (fun k => qw_popped h1 h2 hs y q List.mem_cons_self k.symm)]
              exact a
            · have : e = i := by omega
              subst this
              rw [hs] at h2
              cases h2
              exact ⟨qb_us _ _ _, hr.2.1⟩
      · have eR : s_X8_isMatched (nI st.length) yop yel yen yst pn S (nI i) = ((yop, yel, yen, yst, nI st.length), 1) := by
          unfold s_X8_isMatched
          rw [eS, if_neg n8, if_neg n10, if_neg c9, if_neg c11]
        rw [eR, qw_plain st n8 c9 n10 c11]
        refine ⟨fun h => (by cases h), fun st' h => ?_⟩
        cases h
        refine ⟨(by decide : ¬ (1 : Int32) = 0), by rw [qw_stk_s hs, qw_plain st n8 c9 n10 c11], rfl, hr, fun j hj hc => ?_, fun e he z w h1 h2 => ?_, fun o h1 h2 => hel o (by omega) h2⟩
        · rcases Nat.lt_or_ge j i with y | y
          · exact hop j y hc
          · have : j = i := by omega
            subst this
            exact absurd hc fun k => k.elim c9 c11
        · rcases Nat.lt_or_ge e i with y | y
          · exact hen e y z w h1 h2
          · have : e = i := by omega
            subst this
            exact absurd h1 c11
/-- the next lines as the rows tell them -/
def qw_ab (yop yel yen : Nat → Int32) (pn : Nat) (fs : Nat → Int32) (j : Nat) : Int32 × Int32 := ((s_X8_setNext (fun _ => 0) (fun _ => 0) yop yel yen pn fs (nI j)).1 j, (s_X8_setNext (fun _ => 0) (fun _ => 0) yop yel yen pn fs (nI j)).2 j)
theorem qw_setNext {yf ys yop yel yen fs : Nat → Int32} {pn j : Nat} (hj : j < 34) : s_X8_setNext yf ys yop yel yen pn fs (nI j) = (upd yf j (qw_ab yop yel yen pn fs j).1, upd ys j (qw_ab yop yel yen pn fs j).2) := by
  unfold qw_ab s_X8_setNext
  simp only [if_neg (qp_ix1 hj (show 34 < 2 ^ 31 by omega)), qb_cl (show j < 2 ^ 31 by omega)]
  by_cases c8 : s_X5_sortAt pn fs (nI j) = 8
  · by_cases d : yel j = -1
    · simp only [if_pos c8, if_pos d, qb_us]
    · simp only [if_pos c8, if_neg d, qb_us]
  · by_cases c9 : s_X5_sortAt pn fs (nI j) = 9
    · by_cases d : s_X9_isIndexOf 34 (yop j) = 0
      · simp only [if_neg c8, if_pos c9, if_pos d, qb_us]
      · simp only [if_neg c8, if_pos c9, if_neg d, qb_us]
    · by_cases c10 : s_X5_sortAt pn fs (nI j) = 10
      · simp only [if_neg c8, if_neg c9, if_pos c10, qb_us]
      · by_cases c11 : s_X5_sortAt pn fs (nI j) = 11
        · by_cases d : s_X5_sortAt pn fs (yop j) = 10
          · simp only [if_neg c8, if_neg c9, if_neg c10, if_pos c11, if_pos d, qb_us]
          · simp only [if_neg c8, if_neg c9, if_neg c10, if_pos c11, if_neg d, qb_us]
        · by_cases c12 : s_X5_sortAt pn fs (nI j) = 12
          · simp only [if_neg c8, if_neg c9, if_neg c10, if_neg c11, if_pos c12, qb_us]
          · by_cases c13 : s_X5_sortAt pn fs (nI j) = 13
            · simp only [if_neg c8, if_neg c9, if_neg c10, if_neg c11, if_neg c12, if_pos c13, qb_us]
            · by_cases c14 : s_X5_sortAt pn fs (nI j) = 14
              · simp only [if_neg c8, if_neg c9, if_neg c10, if_neg c11, if_neg c12, if_neg c13, if_pos c14, qb_us]
              · by_cases c15 : s_X5_sortAt pn fs (nI j) = 15
                · simp only [if_neg c8, if_neg c9, if_neg c10, if_neg c11, if_neg c12, if_neg c13, if_neg c14, if_pos c15, qb_us]
                · simp only [if_neg c8, if_neg c9, if_neg c10, if_neg c11, if_neg c12, if_neg c13, if_neg c14, if_neg c15, qb_us]
theorem qw_ab_nx {S yop yel yen yst : Nat → Int32} {pn j : Nat} {wdp : Int32} (hI : qw_I S pn yop yel yen yst wdp []) (hj : j < pn) (hn : pn ≤ 34) : qw_nx S pn j (qw_ab yop yel yen pn S j).1 (qw_ab yop yel yen pn S j).2 := by
  obtain ⟨hs, -, -, hop, hen, -⟩ := hI
  obtain ⟨st, hst⟩ := qw_some hs (Nat.le_of_lt hj)
  obtain ⟨st', hst'⟩ := qw_some hs (show j + 1 ≤ pn by omega)
  have hstep := hst'
  rw [qw_stk_s hst] at hstep
  have eS : s_X5_sortAt pn S (nI j) = S j := qp_sortAt hj (by omega)
  have ix := qp_ix1 (show j < 34 by omega) (show 34 < 2 ^ 31 by omega)
  have cl := qb_cl (show j < 2 ^ 31 by omega)
  unfold qw_nx
  by_cases c8 : S j = 8
  · refine Or.inl ⟨c8, ?_⟩
    rw [qw_open st (Or.inl c8)] at hstep
    cases hstep
    obtain ⟨e, q, r, a, b, c, d, f⟩ := qw_closed hs (pn - (j + 1)) (j + 1) _ (j, -1) (by omega) hst' List.mem_cons_self
    obtain ⟨g1, g2⟩ := hen e b q r c d
    have f' : q.1 = j := f
    rw [f'] at g1 g2
    by_cases z : yel j = -1
    · have e1 : qw_ab yop yel yen pn S j = (nI j + 1, yen j) := by
        unfold qw_ab s_X8_setNext
        simp only [if_neg ix, cl, eS, if_pos c8, if_pos z, qb_us]
      rw [e1]
      exact ⟨nI_1 j, e, q, r, b, c, d, f', by rw [← g2, if_pos z]; exact g1⟩
    · have e1 : qw_ab yop yel yen pn S j = (nI j + 1, yel j + 1) := by
        unfold qw_ab s_X8_setNext
        simp only [if_neg ix, cl, eS, if_pos c8, if_neg z, qb_us]
      rw [e1]
      exact ⟨nI_1 j, e, q, r, b, c, d, f', by rw [← g2, if_neg z]⟩
  · by_cases c9 : S j = 9
    · refine Or.inr (Or.inl ⟨c9, ?_⟩)
      obtain ⟨q, r, h1, h2⟩ := hop j hj (Or.inl c9)
      rw [hst] at h1
      cases h1
      obtain ⟨q2, r2, e2, k1, k2, rfl⟩ := qw_else c9 hstep
      cases e2
      have hq := ((qw_goodAt hst).2 q List.mem_cons_self).1
      obtain ⟨e, q', r', a, b, c, d, f⟩ := qw_closed hs (pn - (j + 1)) (j + 1) _ (q.1, nI j) (by omega) hst' List.mem_cons_self
      have f' : q'.1 = q.1 := f
      obtain ⟨g1, g2⟩ := hen e b q' r' c d
      have e1 : qw_ab yop yel yen pn S j = (yen q.1, -1) := by
        unfold qw_ab s_X8_setNext
        simp only [if_neg ix, cl, eS, if_neg c8, if_pos c9, h2, if_neg (qp_ix1 (show q.1 < 34 by omega) (show 34 < 2 ^ 31 by omega)), qb_cl (show q.1 < 2 ^ 31 by omega), qb_us]
      rw [e1]
      exact ⟨rfl, q, r, e, q', r', hst, b, c, d, f', by rw [← f']; exact g1⟩
    · by_cases c11 : S j = 11
      · refine Or.inr (Or.inr (Or.inl ⟨c11, ?_⟩))
        obtain ⟨q, r, h1, h2⟩ := hop j hj (Or.inr c11)
        rw [hst] at h1
        cases h1
        have hq := ((qw_goodAt hst).2 q List.mem_cons_self).1
        have eO : s_X5_sortAt pn S (nI q.1) = S q.1 := qp_sortAt (by omega) (by omega)
        have n10 : ¬ S j = 10 := by rw [c11]; decide
        refine ⟨q, r, hst, ?_⟩
        by_cases z : S q.1 = 10
        · have e1 : qw_ab yop yel yen pn S j = (nI q.1 + 1, nI j + 1) := by
            unfold qw_ab s_X8_setNext
            simp only [if_neg ix, cl, eS, if_neg c8, if_neg c9, if_neg n10, if_pos c11, h2, eO, if_pos z, qb_us]
          rw [e1]
          exact Or.inl ⟨z, nI_1 _, nI_1 _⟩
        · have e1 : qw_ab yop yel yen pn S j = (nI j + 1, -1) := by
            unfold qw_ab s_X8_setNext
            simp only [if_neg ix, cl, eS, if_neg c8, if_neg c9, if_neg n10, if_pos c11, h2, eO, if_neg z, qb_us]
          rw [e1]
          exact Or.inr ⟨z, nI_1 _, rfl⟩
      · by_cases c15 : S j = 15
        · refine Or.inr (Or.inr (Or.inr (Or.inl ⟨c15, ?_⟩)))
          have e1 : qw_ab yop yel yen pn S j = (-1, -1) := by
            unfold qw_ab s_X8_setNext
            simp only [if_neg ix, cl, eS, if_neg c8, if_neg c9, if_neg c11, if_neg (show ¬ S j = 10 by rw [c15]; decide), if_neg (show ¬ S j = 12 by rw [c15]; decide), if_neg (show ¬ S j = 13 by rw [c15]; decide), if_neg (show ¬ S j = 14 by rw [c15]; decide), if_pos c15, qb_us]
          rw [e1]
          exact ⟨rfl, rfl⟩
        · refine Or.inr (Or.inr (Or.inr (Or.inr ⟨c8, c9, c11, c15, ?_⟩)))
          have e1 : qw_ab yop yel yen pn S j = (nI j + 1, -1) := by
            unfold qw_ab s_X8_setNext
            simp only [if_neg ix, cl, eS, if_neg c8, if_neg c9, if_neg c11, if_neg c15, qb_us]
            (repeat' split) <;> simp only [qb_us]
          rw [e1]
          exact ⟨nI_1 j, rfl⟩
