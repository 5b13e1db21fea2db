/-! FLOW: what comes to a line; what is carried on -/
abbrev qf_X : Type := (Nat → Int32) × (Nat → Int32) × (Nat → Int32) × (Nat → Int32) × (Nat → Int32)
/-- nothing of what comes is new at line j -/
def qf_old (pv : Nat) (X : qf_X) (cb : Nat → Int32) (hv lk : Int32) (j : Nat) : Prop := ¬ X.1 j = 0 ∧ qb_sub hv (X.2.2.1 j) ∧ qb_sub lk (X.2.2.2.1 j) ∧ ∀ v, v < pv → qb_sub (cb v) (X.2.2.2.2 (j * 8 + v))
theorem qf_ct {pv : Nat} {cr cw ch cl cb : Nat → Int32} {p2 p3 : Int32} {j : Nat} (hv : pv ≤ 8) : ∀ (k v : Nat) (nw : Int32) (cd : Nat → Int32), v ≤ pv → pv - v < k →
    ∃ (x : Int32) (cd' : Nat → Int32), sl_X0_comeTo_L77 pv cr cw ch cl cb p2 p3 j k nw v cd = (upd cr j 1, upd cw j x, upd ch j (ch j ||| p2), upd cl j (cl j ||| p3), cd') ∧
      (x = 0 ∨ x = 1) ∧ (x = 0 ↔ cw j = 0 ∧ nw = 0 ∧ ∀ w, v ≤ w → w < pv → qb_sub (cb w) (cd (j * 8 + w))) ∧
      (∀ i, cd' i = if j * 8 + v ≤ i ∧ i < j * 8 + pv then cd i ||| cb (i - j * 8) else cd i)
  | 0, v, nw, cd, h, hk => by omega
  | k + 1, v, nw, cd, h, hk => by
    rw [sl_X0_comeTo_L77]
    by_cases q : pv ≤ v
    · rw [if_pos (nI_le q (by omega))]
      have hno : ∀ w, v ≤ w → w < pv → qb_sub (cb w) (cd (j * 8 + w)) := fun w h1 h2 => by omega
      have hcd : ∀ i, cd i = if j * 8 + v ≤ i ∧ i < j * 8 + pv then cd i ||| cb (i - j * 8) else cd i := fun i => by rw [if_neg (by omega)]
      by_cases c : cw j = 0
      · by_cases d : nw = 0
        · rw [if_pos c, if_pos d]
          exact ⟨0, cd, rfl, Or.inl rfl, ⟨fun _ => ⟨c, d, hno⟩, fun _ => rfl⟩, hcd⟩
        · rw [if_pos c, if_neg d]
          exact ⟨1, cd, rfl, Or.inr rfl, ⟨fun h => absurd h (by decide), fun h => absurd h.2.1 d⟩, hcd⟩
      · rw [if_neg c]
        exact ⟨1, cd, rfl, Or.inr rfl, ⟨fun h => absurd h (by decide), fun h => absurd h.1 c⟩, hcd⟩
    · rw [if_neg (by rw [qb_le (by omega) (by omega)]; exact q)]
      have go : ∀ (nw' : Int32), (nw' = 0 ↔ nw = 0 ∧ qb_sub (cb v) (cd (j * 8 + v))) →
          ∃ (x : Int32) (cd' : Nat → Int32), sl_X0_comeTo_L77 pv cr cw ch cl cb p2 p3 j k nw' (v + 1) (upd cd (j * 8 + v) (cd (j * 8 + v) ||| cb v)) = (upd cr j 1, upd cw j x, upd ch j (ch j ||| p2), upd cl j (cl j ||| p3), cd') ∧
            (x = 0 ∨ x = 1) ∧ (x = 0 ↔ cw j = 0 ∧ nw = 0 ∧ ∀ w, v ≤ w → w < pv → qb_sub (cb w) (cd (j * 8 + w))) ∧
            (∀ i, cd' i = if j * 8 + v ≤ i ∧ i < j * 8 + pv then cd i ||| cb (i - j * 8) else cd i) := by
        intro nw' hnw
        obtain ⟨x, cd', e, hx, h1, h2⟩ := qf_ct (cr := cr) (cw := cw) (ch := ch) (cl := cl) (cb := cb) (p2 := p2) (p3 := p3) (j := j) hv k (v + 1) nw' (upd cd (j * 8 + v) (cd (j * 8 + v) ||| cb v)) (by omega) (by omega)
        refine ⟨x, cd', e, hx, ?_, fun i => ?_⟩
        · rw [h1, hnw]
          constructor
          · rintro ⟨a, ⟨b, c⟩, d⟩
            refine ⟨a, b, fun w g1 g2 => ?_⟩
            by_cases z : w = v
            · rw [z]; exact c
            · have := d w (by omega) g2
              rw [qb_un (by omega)] at this
              exact this
          · rintro ⟨a, b, d⟩
            refine ⟨a, ⟨b, d v (Nat.le_refl _) (by omega)⟩, fun w g1 g2 => ?_⟩
            rw [qb_un (by omega)]
            exact d w (by omega) g2
        · rw [h2 i, qb_up]
          by_cases z : i = j * 8 + v
          · rw [if_neg (by omega), if_pos z, if_pos (by omega), z, show j * 8 + v - j * 8 = v from by omega]
          · by_cases y : j * 8 + v ≤ i ∧ i < j * 8 + pv
            · rw [if_pos (by omega), if_neg z, if_pos y]
            · rw [if_neg (by omega), if_neg z, if_neg y]
      by_cases d : nw = 0
      · rw [if_pos d]
        by_cases c : cb v &&& (cd (j * 8 + v) ^^^ (-1)) = 0
        · rw [if_pos c]
          exact go 0 ⟨fun _ => ⟨d, qb_andn.mp c⟩, fun _ => rfl⟩
        · rw [if_neg c]
          exact go 1 ⟨fun h => absurd h (by decide), fun h => absurd (qb_andn.mpr h.2) c⟩
      · rw [if_neg d]
        exact go 1 ⟨fun h => absurd h (by decide), fun h => absurd h.1 d⟩
/-- something comes to line j -/
theorem qf_come {pv pn : Nat} {cr cw ch cl cd cb : Nat → Int32} {hv lk : Int32} {j : Nat} (hp : pv ≤ 8) (hj : j ≤ pn) (hn : pn ≤ 34) :
    ∃ (x : Int32) (cd' : Nat → Int32), s_X0_comeTo pv pn cr cw ch cl cd cb (nI j) hv lk = (upd cr j 1, upd cw j x, upd ch j (ch j ||| hv), upd cl j (cl j ||| lk), cd') ∧
      (x = 0 ∨ x = 1) ∧ (x = 0 ↔ cw j = 0 ∧ qf_old pv (cr, cw, ch, cl, cd) cb hv lk j) ∧ (∀ i, cd' i = if j * 8 ≤ i ∧ i < j * 8 + pv then cd i ||| cb (i - j * 8) else cd i) := by
  unfold s_X0_comeTo
  rw [if_neg (show ¬ s_X5_isLineOrEnd pn (nI j) = 0 by rw [qp_isEnd (by omega) (by omega), if_pos hj]; decide), qb_cl (show j < 2 ^ 31 by omega)]
  dsimp only
  have run : ∀ nw : Int32, (nw = 0 ↔ (¬ cr j = 0 ∧ qb_sub hv (ch j) ∧ qb_sub lk (cl j))) → ∃ (x : Int32) (cd' : Nat → Int32), sl_X0_comeTo_L77 pv cr cw ch cl cb hv lk j 9 nw 0 cd = (upd cr j 1, upd cw j x, upd ch j (ch j ||| hv), upd cl j (cl j ||| lk), cd') ∧
      (x = 0 ∨ x = 1) ∧ (x = 0 ↔ cw j = 0 ∧ qf_old pv (cr, cw, ch, cl, cd) cb hv lk j) ∧ (∀ i, cd' i = if j * 8 ≤ i ∧ i < j * 8 + pv then cd i ||| cb (i - j * 8) else cd i) := by
    intro nw hnw
    obtain ⟨x, cd', e, hx, h1, h2⟩ := qf_ct (cr := cr) (cw := cw) (ch := ch) (cl := cl) (cb := cb) (p2 := hv) (p3 := lk) (j := j) hp 9 0 nw cd (Nat.zero_le _) (by omega)
    refine ⟨x, cd', e, hx, ?_, h2⟩
    rw [h1, hnw]
    unfold qf_old
    constructor
    · rintro ⟨a, ⟨b, c, d⟩, f⟩
      exact ⟨a, b, c, d, fun w hw => f w (Nat.zero_le _) hw⟩
    · rintro ⟨a, b, c, d, f⟩
      exact ⟨a, ⟨b, c, d⟩, fun w _ hw => f w hw⟩
  by_cases a : cr j = 0
  · rw [if_pos a]
    exact run 1 ⟨fun h => absurd h (by decide), fun h => absurd a h.1⟩
  · rw [if_neg a]
    by_cases b : hv &&& (ch j ^^^ (-1)) = 0
    · rw [if_pos b]
      by_cases c : lk &&& (cl j ^^^ (-1)) = 0
      · rw [if_pos c]
        exact run 0 ⟨fun _ => ⟨a, qb_andn.mp b, qb_andn.mp c⟩, fun _ => rfl⟩
      · rw [if_neg c]
        exact run 1 ⟨fun h => absurd h (by decide), fun h => absurd (qb_andn.mpr h.2.2) c⟩
    · rw [if_neg b]
      exact run 1 ⟨fun h => absurd h (by decide), fun h => absurd (qb_andn.mpr h.2.1) b⟩
theorem qf_come_m1 {pv pn : Nat} {cr cw ch cl cd cb : Nat → Int32} {hv lk : Int32} : s_X0_comeTo pv pn cr cw ch cl cd cb (-1) hv lk = (cr, cw, ch, cl, cd) := by
  unfold s_X0_comeTo
  rw [if_pos (qp_isEnd_m1 pn)]
/-- the same data at a line -/
def qf_same (pv : Nat) (X Y : qf_X) (j : Nat) : Prop := (X.1 j = 0 ↔ Y.1 j = 0) ∧ X.2.2.1 j = Y.2.2.1 j ∧ X.2.2.2.1 j = Y.2.2.2.1 j ∧ ∀ v, v < pv → X.2.2.2.2 (j * 8 + v) = Y.2.2.2.2 (j * 8 + v)
/-- Y has what X has -/
def qf_le (pv pn : Nat) (X Y : qf_X) : Prop := ∀ j, j ≤ pn → (¬ X.1 j = 0 → ¬ Y.1 j = 0) ∧ qb_sub (X.2.2.1 j) (Y.2.2.1 j) ∧ qb_sub (X.2.2.2.1 j) (Y.2.2.2.1 j) ∧ ∀ v, v < pv → qb_sub (X.2.2.2.2 (j * 8 + v)) (Y.2.2.2.2 (j * 8 + v))
def qf_wt (x : Int32) : Nat := if x = 0 then 0 else 1
def qf_m1 (pv : Nat) (X : qf_X) (j : Nat) : Nat := (1 - qf_wt (X.1 j)) + qf_wt (X.2.1 j) + qb_m (X.2.2.1 j) + qb_m (X.2.2.2.1 j) + qb_sum (fun v => qb_m (X.2.2.2.2 (j * 8 + v))) pv
def qf_m (pv pn : Nat) (X : qf_X) : Nat := qb_sum (qf_m1 pv X) (pn + 1)
theorem qf_wt0 {x : Int32} (h : x = 0) : qf_wt x = 0 := if_pos h
theorem qf_wt1 {x : Int32} (h : ¬ x = 0) : qf_wt x = 1 := if_neg h
theorem qf_wt_le (x : Int32) : qf_wt x ≤ 1 := by
  unfold qf_wt
  split <;> omega
theorem qf_m1_le (pv : Nat) (hp : pv ≤ 8) (X : qf_X) (j : Nat) : qf_m1 pv X j ≤ 322 := by
  unfold qf_m1
  have h1 := qf_wt_le (X.2.1 j)
  have h2 := qb_m_le (X.2.2.1 j)
  have h3 := qb_m_le (X.2.2.2.1 j)
  have h4 := qb_sum_bd (f := fun v => qb_m (X.2.2.2.2 (j * 8 + v))) (c := 32) pv fun i _ => qb_m_le _
  omega
theorem qf_m_le (pv pn : Nat) (hp : pv ≤ 8) (hn : pn ≤ 34) (X : qf_X) : qf_m pv pn X ≤ 11270 := by
  have h := qb_sum_bd (f := qf_m1 pv X) (c := 322) (pn + 1) fun i _ => qf_m1_le pv hp X i
  have h2 : (pn + 1) * 322 ≤ 35 * 322 := Nat.mul_le_mul_right _ (by omega)
  unfold qf_m
  omega
/-- what one coming does -/
theorem qf_come_spec {pv pn : Nat} {X Y : qf_X} {cb : Nat → Int32} {hv lk t : Int32} (hp : pv ≤ 8) (hn : pn ≤ 34) (ht : t = -1 ∨ ∃ j : Nat, j ≤ pn ∧ t = nI j) (hY : s_X0_comeTo pv pn X.1 X.2.1 X.2.2.1 X.2.2.2.1 X.2.2.2.2 cb t hv lk = Y) :
    qf_le pv pn X Y ∧ qf_m pv pn Y ≤ qf_m pv pn X ∧ (∀ i, i ≤ pn → Y.2.1 i = 0 → X.2.1 i = 0 ∧ qf_same pv X Y i) ∧
    (∀ j : Nat, j ≤ pn → t = nI j → qf_old pv Y cb hv lk j) ∧
    (∀ j : Nat, j ≤ pn → (¬ t = nI j ∧ qf_same pv X Y j ∧ Y.2.1 j = X.2.1 j) ∨ (t = nI j ∧ ¬ Y.1 j = 0 ∧ Y.2.2.1 j = X.2.2.1 j ||| hv ∧ Y.2.2.2.1 j = X.2.2.2.1 j ||| lk ∧ ∀ v, v < pv → Y.2.2.2.2 (j * 8 + v) = X.2.2.2.2 (j * 8 + v) ||| cb v)) := by
  obtain ⟨cr, cw, ch, cl, cd⟩ := X
  rcases ht with rfl | ⟨j, hj, rfl⟩
  · have e : s_X0_comeTo pv pn cr cw ch cl cd cb (-1) hv lk = (cr, cw, ch, cl, cd) := qf_come_m1
    have hY2 : (cr, cw, ch, cl, cd) = Y := e.symm.trans hY
    subst hY2
    refine ⟨fun i _ => ⟨id, fun _ => id, fun _ => id, fun _ _ _ => id⟩, Nat.le_refl _, fun i _ h => ⟨h, Iff.rfl, rfl, rfl, fun _ _ => rfl⟩, fun j hj h => absurd h.symm (qb_nem1 (by omega)), fun j hj => Or.inl ⟨fun h => absurd h.symm (qb_nem1 (by omega)), ⟨Iff.rfl, rfl, rfl, fun _ _ => rfl⟩, rfl⟩⟩
  · obtain ⟨x, cd', e, hx, h1, h2⟩ := qf_come (cr := cr) (cw := cw) (ch := ch) (cl := cl) (cd := cd) (cb := cb) (hv := hv) (lk := lk) hp hj hn
    have hY2 : (upd cr j 1, upd cw j x, upd ch j (ch j ||| hv), upd cl j (cl j ||| lk), cd') = Y := e.symm.trans hY
    subst hY2
    have inj : ∀ i : Nat, i ≤ pn → (nI j : Int32) = nI i → i = j := fun i hi h => ((nI_eq (by omega) (by omega)).mp h).symm
    have hcd : ∀ i v, v < pv → cd' (i * 8 + v) = if i = j then cd (j * 8 + v) ||| cb v else cd (i * 8 + v) := by
      intro i v hv
      rw [h2]
      by_cases z : i = j
      · subst z
        rw [if_pos (by omega), if_pos rfl, show i * 8 + v - i * 8 = v from by omega]
      · rw [if_neg (by omega), if_neg z]
    have sm : ∀ i, ¬ i = j → qf_same pv (cr, cw, ch, cl, cd) (upd cr j 1, upd cw j x, upd ch j (ch j ||| hv), upd cl j (cl j ||| lk), cd') i := by
      intro i z
      refine ⟨?_, ?_, ?_, fun v hv => ?_⟩
      · show cr i = 0 ↔ upd cr j 1 i = 0; rw [qb_un z]
      · show ch i = upd ch j _ i; rw [qb_un z]
      · show cl i = upd cl j _ i; rw [qb_un z]
      · show cd (i * 8 + v) = cd' (i * 8 + v); rw [hcd i v hv, if_neg z]
    have s_or : ∀ a b : Int32, qb_sub a (a ||| b) := fun a b i h => by rw [qb_or, h]; rfl
    have s_or2 : ∀ a b : Int32, qb_sub b (a ||| b) := fun a b i h => by rw [qb_or, h]; simp
    refine ⟨fun i hi => ?_, ?_, fun i hi h => ?_, fun i hi h => ?_, fun i hi => ?_⟩
    · by_cases z : i = j
      · subst z
        refine ⟨fun _ => ?_, ?_, ?_, fun v hv => ?_⟩
        · show ¬ upd cr i 1 i = 0; rw [qb_us]; decide
        · show qb_sub (ch i) (upd ch i _ i); rw [qb_us]; exact s_or _ _
        · show qb_sub (cl i) (upd cl i _ i); rw [qb_us]; exact s_or _ _
        · show qb_sub (cd (i * 8 + v)) (cd' (i * 8 + v)); rw [hcd i v hv, if_pos rfl]; exact s_or _ _
      · obtain ⟨a, b, c, d⟩ := sm i z
        exact ⟨fun h k => h (a.mpr k), fun k h => by rw [← b]; exact h, fun k h => by rw [← c]; exact h, fun v hv k h => by rw [← d v hv]; exact h⟩
    · have oth : ∀ i, ¬ i = j → qf_m1 pv (upd cr j 1, upd cw j x, upd ch j (ch j ||| hv), upd cl j (cl j ||| lk), cd') i = qf_m1 pv (cr, cw, ch, cl, cd) i := by
        intro i z
        unfold qf_m1
        dsimp only
        rw [qb_un z, qb_un z, qb_un z, qb_un z, qb_sum_congr pv fun v hv => by show qb_m (cd' (i * 8 + v)) = qb_m (cd (i * 8 + v)); rw [hcd i v hv, if_neg z]]
      have own : qf_m1 pv (upd cr j 1, upd cw j x, upd ch j (ch j ||| hv), upd cl j (cl j ||| lk), cd') j ≤ qf_m1 pv (cr, cw, ch, cl, cd) j := by
        unfold qf_m1
        dsimp only
        rw [qb_us, qb_us, qb_us, qb_us, qb_sum_congr (g := fun v => qb_m (cd (j * 8 + v) ||| cb v)) pv fun v hv => by show qb_m (cd' (j * 8 + v)) = _; rw [hcd j v hv, if_pos rfl], qf_wt1 (show ¬ (1 : Int32) = 0 by decide)]
        have b1 := qb_m_or (ch j) hv
        have b2 := qb_m_or (cl j) lk
        have b3 : qb_sum (fun v => qb_m (cd (j * 8 + v) ||| cb v)) pv ≤ qb_sum (fun v => qb_m (cd (j * 8 + v))) pv := qb_sum_le pv fun v _ => qb_m_or _ _
        rcases hx with rfl | rfl
        · rw [qf_wt0 rfl]; omega
        · rw [qf_wt1 (show ¬ (1 : Int32) = 0 by decide)]
          by_cases w : cw j = 0
          · have hnew : ¬ qf_old pv (cr, cw, ch, cl, cd) cb hv lk j := fun k => absurd (h1.mpr ⟨w, k⟩) (by decide)
            rw [qf_wt0 w]
            by_cases c0 : cr j = 0
            · rw [qf_wt0 c0]; omega
            · by_cases c1 : qb_sub hv (ch j)
              · by_cases c2 : qb_sub lk (cl j)
                · have c3 : ∃ v, v < pv ∧ ¬ qb_sub (cb v) (cd (j * 8 + v)) := by
                    refine Classical.byContradiction fun z => hnew ⟨c0, c1, c2, fun v hv => ?_⟩
                    exact Classical.byContradiction fun y => z ⟨v, hv, y⟩
                  obtain ⟨v, hv, c3⟩ := c3
                  have b4 : qb_sum (fun v => qb_m (cd (j * 8 + v) ||| cb v)) pv + 1 ≤ qb_sum (fun v => qb_m (cd (j * 8 + v))) pv := qb_sum_lt (j := v) pv (fun v _ => qb_m_or _ _) hv (qb_m_new c3)
                  omega
                · have := qb_m_new c2; omega
              · have := qb_m_new c1; omega
          · rw [qf_wt1 w]; omega
      exact qb_sum_le (pn + 1) fun i _ => by
        by_cases z : i = j
        · rw [z]; exact own
        · rw [oth i z]; exact Nat.le_refl _
    · have h : upd cw j x i = 0 := h
      by_cases z : i = j
      · subst z
        rw [qb_us] at h
        obtain ⟨a, b, c, d, f⟩ := h1.mp h
        refine ⟨a, ⟨fun k => absurd k b, fun k => ?_⟩, ?_, ?_, fun v hv => ?_⟩
        · have k : upd cr i 1 i = 0 := k
          rw [qb_us] at k; exact absurd k (by decide)
        · show ch i = upd ch i _ i; rw [qb_us, qb_orsub c]
        · show cl i = upd cl i _ i; rw [qb_us, qb_orsub d]
        · show cd (i * 8 + v) = cd' (i * 8 + v)
          rw [hcd i v hv, if_pos rfl, qb_orsub (f v hv)]
      · rw [qb_un z] at h
        exact ⟨h, sm i z⟩
    · have := inj i hi h
      subst this
      refine ⟨?_, ?_, ?_, fun v hv => ?_⟩
      · show ¬ upd cr i 1 i = 0; rw [qb_us]; decide
      · show qb_sub hv (upd ch i _ i); rw [qb_us]; exact s_or2 _ _
      · show qb_sub lk (upd cl i _ i); rw [qb_us]; exact s_or2 _ _
      · show qb_sub (cb v) (cd' (i * 8 + v)); rw [hcd i v hv, if_pos rfl]; exact s_or2 _ _
    · by_cases z : i = j
      · subst z
        refine Or.inr ⟨rfl, ?_, ?_, ?_, fun v hv => ?_⟩
        · show ¬ upd cr i 1 i = 0; rw [qb_us]; decide
        · show upd ch i _ i = _; rw [qb_us]
        · show upd cl i _ i = _; rw [qb_us]
        · show cd' (i * 8 + v) = _; rw [hcd i v hv, if_pos rfl]
      · refine Or.inl ⟨fun h => z (inj i hi h), sm i z, ?_⟩
        show upd cw j x i = cw i; rw [qb_un z]
