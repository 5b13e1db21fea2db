/-! WAYS: the look as a whole -/
theorem qw_fill {n : Nat} {x : Int32} (hn : n < 2 ^ 31) : ∀ (k i : Nat) (f : Nat → Int32), i ≤ n → n - i < k → ∀ j, sl_J7_fill_53178_L5 n x k i f j = if i ≤ j ∧ j < n then x else f j
  | 0, i, f, hi, h, j => by omega
  | k + 1, i, f, hi, h, j => by
    rw [sl_J7_fill_53178_L5]
    by_cases q : n ≤ i
    · rw [if_pos (nI_le q (by omega)), if_neg (by omega)]
    · rw [if_neg (by rw [qb_le hn (by omega)]; exact q), qw_fill hn k (i + 1) _ (by omega) (by omega) j, qb_up]
      by_cases a : j = i
      · rw [if_neg (by omega), if_pos a, if_pos (by omega)]
      · by_cases b : i ≤ j ∧ j < n
        · rw [if_pos (by omega), if_pos b]
        · rw [if_neg (by omega), if_neg a, if_neg b]
theorem qw_filled {n : Nat} (hn : n < 2 ^ 31) (f : Nat → Int32) (x : Int32) {j : Nat} (hj : j < n) : s_J7_fill_53178 n f x j = x := by
  unfold s_J7_fill_53178
  rw [qw_fill hn (n + 1) 0 f (Nat.zero_le _) (by omega), if_pos ⟨Nat.zero_le _, hj⟩]
theorem qw_nl {a1 a2 wdp wwr : Int32} {b1 b2 b3 b4 yop yel yen yst fs : Nat → Int32} {pn : Nat} (hn : pn ≤ 34) : ∀ (k i : Nat) (yf ys : Nat → Int32), i ≤ pn → pn - i < k →
    ∃ yf' ys' : Nat → Int32, sl_X8_look_L107_2 a1 a2 b1 b2 b3 b4 pn fs yop yel yen yst wdp wwr k i yf ys = (yf', ys', yop, yel, yen, yst, wdp, wwr) ∧
      (∀ j, i ≤ j → j < pn → yf' j = (qw_ab yop yel yen pn fs j).1 ∧ ys' j = (qw_ab yop yel yen pn fs j).2) ∧ (∀ j, j < i → yf' j = yf j ∧ ys' j = ys j)
  | 0, i, yf, ys, hi, h => by omega
  | k + 1, i, yf, ys, hi, h => by
    rw [sl_X8_look_L107_2]
    by_cases q : pn ≤ i
    · rw [if_pos (nI_le q (by omega))]
      exact ⟨yf, ys, rfl, fun j h1 h2 => by omega, fun j _ => ⟨rfl, rfl⟩⟩
    · rw [if_neg (by rw [qb_le (by omega) (by omega)]; exact q), qw_setNext (by omega)]
      obtain ⟨yf', ys', e, h1, h2⟩ := qw_nl hn k (i + 1) (upd yf i (qw_ab yop yel yen pn fs i).1) (upd ys i (qw_ab yop yel yen pn fs i).2) (by omega) (by omega)
      refine ⟨yf', ys', e, fun j g1 g2 => ?_, fun j g => ?_⟩
      · rcases Nat.lt_or_ge i j with z | z
        · exact h1 j z g2
        · have : j = i := by omega
          subst this
          have h3 := h2 j (Nat.lt_succ_self _)
          rw [qb_us, qb_us] at h3
          exact h3
      · have h3 := h2 j (by omega)
        rw [qb_un (by omega), qb_un (by omega)] at h3
        exact h3
/-- what a look at the ways gives -/
def qw_fin (S : Nat → Int32) (n : Nat) (R : (Nat → Int32) × (Nat → Int32) × (Nat → Int32) × (Nat → Int32) × (Nat → Int32) × (Nat → Int32) × Int32 × Int32) : Prop :=
  (qw_stk S n = some [] → R.2.2.2.2.2.2.2 = -1 ∧ ∀ j, j < n → qw_nx S n j (R.1 j) (R.2.1 j) ∧ (S j = 11 → ∃ q r, qw_stk S j = some (q :: r) ∧ R.2.2.1 j = nI q.1)) ∧
  (¬ qw_stk S n = some [] → ¬ R.2.2.2.2.2.2.2 = -1)
theorem qw_stop {yf ys S yop yel yen yst : Nat → Int32} {pn : Nat} {wdp wwr : Int32} (h : ¬ wwr = -1) (k i : Nat) : sl_X8_look_L36 yf ys pn S (k + 1) i yop yel yen yst wdp wwr = (yf, ys, yop, yel, yen, yst, wdp, wwr) := by
  rw [sl_X8_look_L36, if_neg h, if_neg h]
  split <;> rfl
theorem qw_loop {yf ys S : Nat → Int32} {pn : Nat} (hn : pn ≤ 34) : ∀ (k i : Nat) (yop yel yen yst : Nat → Int32) (wdp : Int32) (st : List (Nat × Int32)), qw_I S i yop yel yen yst wdp st → i ≤ pn → pn - i < k →
    qw_fin S pn (sl_X8_look_L36 yf ys pn S k i yop yel yen yst wdp (-1))
  | 0, i, yop, yel, yen, yst, wdp, st, hI, hi, h => by omega
  | k + 1, i, yop, yel, yen, yst, wdp, st, hI, hi, h => by
    rw [sl_X8_look_L36]
    by_cases q : pn ≤ i
    · have hi : i = pn := by omega
      subst hi
      rw [if_pos (nI_le q (by omega)), if_pos rfl]
      have g := qw_goodAt hI.1
      have hlen : st.length ≤ i := qw_len g.1 fun q hq => (g.2 q hq).1
      match st, hI, g, hlen with
      | [], hI, g, hlen =>
        rw [if_pos (show wdp ≤ 0 by rw [hI.2.1]; decide)]
        obtain ⟨yf', ys', e, h1, -⟩ := qw_nl (a1 := wdp) (a2 := -1) (b1 := yop) (b2 := yel) (b3 := yen) (b4 := yst) (wdp := wdp) (wwr := -1) (yop := yop) (yel := yel) (yen := yen) (yst := yst) (fs := S) hn 35 0 yf ys (Nat.zero_le _) (by omega)
        rw [e]
        refine ⟨fun _ => ⟨rfl, fun j hj => ⟨?_, fun c => hI.2.2.2.1 j hj (Or.inr c)⟩⟩, fun h => absurd hI.1 h⟩
        obtain ⟨e1, e2⟩ := h1 j (Nat.zero_le _) hj
        show qw_nx S i j (yf' j) (ys' j)
        rw [e1, e2]
        exact qw_ab_nx hI hj hn
      | q :: r, hI, g, hlen =>
        have hq := (g.2 q List.mem_cons_self).1
        have hlen2 : r.length + 1 ≤ i := hlen
        obtain ⟨hs, hw, hr, hrest⟩ := hI
        have e0 : ¬ wdp ≤ 0 := by
          rw [hw]
          exact nI_nle (Nat.succ_pos _) (by show r.length + 1 < 2 ^ 31; omega)
        have eL : s_X8_lastOpen wdp yst = nI q.1 := by rw [hw]; exact qw_lastOpen hr (by omega)
        rw [if_neg e0, eL, if_neg (qb_nem1 (by omega))]
        refine ⟨fun h => ?_, fun _ => qb_nem1 (by omega)⟩
        rw [hs] at h; cases h
    · rw [if_neg (by rw [qb_le (by omega) (by omega)]; exact q), if_pos rfl]
      obtain ⟨h1, h2⟩ := qw_I_s hI (show i < pn by omega) hn
      cases hst : qw_step S i st with
      | none =>
        rw [if_pos (h1 hst)]
        match k, h with
        | 0, h => omega
        | k + 1, h =>
          rw [qw_stop (qb_nem1 (by omega))]
          have h3 : qw_stk S (i + 1) = none := by rw [qw_stk_s hI.1, hst]
          have h4 := qw_none h3 (pn - (i + 1))
          rw [show i + 1 + (pn - (i + 1)) = pn from by omega] at h4
          refine ⟨fun h => ?_, fun _ => qb_nem1 (by omega)⟩
          rw [h4] at h; cases h
      | some st' =>
        obtain ⟨h3, h4⟩ := h2 st' hst
        rw [if_neg h3]
        exact qw_loop hn k (i + 1) _ _ _ _ _ st' h4 (by omega) (by omega)
theorem qw_look {yf ys yop yel yen yst S : Nat → Int32} {pn : Nat} (hn : pn ≤ 34) : qw_fin S pn (s_X8_look yf ys yop yel yen yst pn S) := by
  unfold s_X8_look
  refine qw_loop hn 35 0 _ _ _ _ 0 [] ⟨rfl, rfl, trivial, fun j h => by omega, fun e h => by omega, fun o _ ho => qw_filled (by omega) _ _ ho⟩ (Nat.zero_le _) (by omega)
/-- bounds of the next lines -/
theorem qw_nx_rng {S : Nat → Int32} {n j : Nat} {f s : Int32} (h : qw_nx S n j f s) (hj : j < n) (hn : n ≤ 34) :
    ((f = -1 ∧ S j = 15) ∨ ∃ t : Nat, 1 ≤ t ∧ t ≤ n ∧ f = nI t) ∧ ((s = -1 ∧ ¬ S j = 8) ∨ ∃ t : Nat, 1 ≤ t ∧ t ≤ n ∧ s = nI t) := by
  rcases h with ⟨c, hf, e, q, r, he, c11, hs, hq, h⟩ | ⟨c, h, q, r, e, q', r', hs, he, c11, hs', hq, hf⟩ | ⟨c, q, r, hs, ⟨c10, hf, h⟩ | ⟨c10, hf, h⟩⟩ | ⟨c, hf, h⟩ | ⟨c8, c9, c11, c15, hf, h⟩
  · refine ⟨Or.inr ⟨j + 1, by omega, by omega, hf⟩, Or.inr ?_⟩
    have g := (qw_goodAt hs).2 q List.mem_cons_self
    rcases g.2.2 with z | ⟨x, x1, x2, x3, x4⟩
    · rw [if_pos z] at h
      exact ⟨e, by omega, by omega, h⟩
    · rw [if_neg (by rw [x3]; exact qb_nem1 (by omega)), x3, nI_1] at h
      exact ⟨x + 1, by omega, by omega, h⟩
  · refine ⟨Or.inr ⟨e, ?_, by omega, hf⟩, Or.inl ⟨h, by rw [c]; decide⟩⟩
    have g := ((qw_goodAt hs').2 q' List.mem_cons_self).1
    omega
  · have g := ((qw_goodAt hs).2 q List.mem_cons_self).1
    exact ⟨Or.inr ⟨q.1 + 1, by omega, by omega, hf⟩, Or.inr ⟨j + 1, by omega, by omega, h⟩⟩
  · exact ⟨Or.inr ⟨j + 1, by omega, by omega, hf⟩, Or.inl ⟨h, by rw [c]; decide⟩⟩
  · exact ⟨Or.inl ⟨hf, c⟩, Or.inl ⟨h, by rw [c]; decide⟩⟩
  · exact ⟨Or.inr ⟨j + 1, by omega, by omega, hf⟩, Or.inl ⟨h, c8⟩⟩
/-- the next lines are determined -/
theorem qw_nx_det {S : Nat → Int32} {n j : Nat} {f s f' s' : Int32} (h : qw_nx S n j f s) (h' : qw_nx S n j f' s') : f = f' ∧ s = s' := by
  rcases h with ⟨c, hf, e, q, r, he, c11, hs, hq, h⟩ | ⟨c, h, q, r, e, q', r', hs, he, c11, hs', hq, hf⟩ | ⟨c, q, r, hs, h⟩ | ⟨c, hf, h⟩ | ⟨c8, c9, c11, c15, hf, h⟩ <;>
  rcases h' with ⟨d, kf, e2, q2, r2, ke, d11, ks, kq, k⟩ | ⟨d, k, q2, r2, e2, q2', r2', ks, ke, d11, ks', kq, kf⟩ | ⟨d, q2, r2, ks, k⟩ | ⟨d, kf, k⟩ | ⟨d8, d9, d11, d15, kf, k⟩
  case inl.inl =>
    have a1 := qw_once c11 hs ks (hq.trans kq.symm)
    have a2 := qw_once d11 ks hs (kq.trans hq.symm)
    have : e = e2 := by omega
    subst this
    rw [hs] at ks
    cases ks
    exact ⟨hf.trans kf.symm, h.trans k.symm⟩
  case inr.inl.inr.inl =>
    rw [hs] at ks
    cases ks
    have a1 := qw_once c11 hs' ks' (hq.trans kq.symm)
    have a2 := qw_once d11 ks' hs' (kq.trans hq.symm)
    have : e = e2 := by omega
    subst this
    exact ⟨hf.trans kf.symm, h.trans k.symm⟩
  case inr.inr.inl.inr.inr.inl =>
    rw [hs] at ks
    cases ks
    rcases h with ⟨a, b, c⟩ | ⟨a, b, c⟩ <;> rcases k with ⟨a', b', c'⟩ | ⟨a', b', c'⟩
    · exact ⟨b.trans b'.symm, c.trans c'.symm⟩
    · exact absurd a a'
    · exact absurd a' a
    · exact ⟨b.trans b'.symm, c.trans c'.symm⟩
  case inr.inr.inr.inl.inr.inr.inr.inl => exact ⟨hf.trans kf.symm, h.trans k.symm⟩
  case inr.inr.inr.inr.inr.inr.inr.inr => exact ⟨hf.trans kf.symm, h.trans k.symm⟩
  all_goals first
    | (rw [c] at d; exact absurd d (by decide))
    | exact absurd c d8
    | exact absurd c d9
    | exact absurd c d11
    | exact absurd c d15
    | exact absurd d c8
    | exact absurd d c9
    | exact absurd d c11
    | exact absurd d c15
