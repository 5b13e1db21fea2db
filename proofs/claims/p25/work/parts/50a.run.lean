/-! A RUN: places, what is given, what is set aside -/
theorem qb_sum_one {f : Nat → Nat} {i : Nat} : ∀ n, i < n → (∀ x, x < n → ¬ x = i → f x = 0) → qb_sum f n = f i
  | 0, h, _ => by omega
  | n + 1, h, h0 => by
    show qb_sum f n + f n = f i
    by_cases z : i = n
    · have e : qb_sum f n = 0 := by
        have := qb_sum_bd (f := f) (c := 0) n fun x hx => by rw [h0 x (by omega) (by omega)]; exact Nat.le_refl _
        omega
      rw [e, z]; omega
    · rw [qb_sum_one n (by omega) fun x hx hne => h0 x (by omega) hne, h0 n (by omega) (by omega)]; rfl
theorem qb_sum_two {f : Nat → Nat} {i j : Nat} (hij : i < j) : ∀ n, j < n → (∀ x, x < n → ¬ x = i → ¬ x = j → f x = 0) → qb_sum f n = f i + f j
  | 0, h, _ => by omega
  | n + 1, h, h0 => by
    show qb_sum f n + f n = f i + f j
    by_cases z : j = n
    · rw [qb_sum_one n (show i < n by omega) fun x hx hne => h0 x (by omega) hne (by omega), z]
    · rw [qb_sum_two hij n (by omega) fun x hx h1 h2 => h0 x (by omega) h1 h2, h0 n (by omega) (by omega) (by omega)]; rfl
theorem qb_sum_0 {f : Nat → Nat} : ∀ n, (∀ x, x < n → f x = 0) → qb_sum f n = 0
  | 0, _ => rfl
  | n + 1, h => by
    show qb_sum f n + f n = 0
    rw [qb_sum_0 n fun x hx => h x (by omega), h n (by omega)]
theorem qb_sum_add (f g : Nat → Nat) : ∀ n, qb_sum (fun i => f i + g i) n = qb_sum f n + qb_sum g n
  | 0 => rfl
  | n + 1 => by
    show qb_sum (fun i => f i + g i) n + (f n + g n) = (qb_sum f n + f n) + (qb_sum g n + g n)
    rw [qb_sum_add f g n]; omega
/-- one place differs -/
theorem qb_sum_at {f g : Nat → Nat} {i : Nat} : ∀ n, i < n → (∀ x, x < n → ¬ x = i → f x = g x) → qb_sum f n + g i = qb_sum g n + f i
  | 0, h, _ => by omega
  | n + 1, h, h0 => by
    show qb_sum f n + f n + g i = qb_sum g n + g n + f i
    by_cases z : i = n
    · subst z
      rw [qb_sum_congr i fun x hx => h0 x (by omega) (by omega)]; omega
    · have e := qb_sum_at n (by omega) fun x hx hne => h0 x (by omega) hne
      have e2 := h0 n (by omega) (by omega)
      omega
theorem qr_valueAt {bv : Nat → Int32} {k : Nat} (h : k < 24) : s_X6_valueAt bv (nI k) = bv k := by
  unfold s_X6_valueAt
  rw [if_neg (qp_ix1 h (by omega)), qb_cl (by omega)]
theorem qr_setValue {bh bv : Nat → Int32} {k : Nat} {x : Int32} (h : k < 24) : s_X6_setValue bh bv (nI k) x = (upd bh k 1, upd bv k x) := by
  unfold s_X6_setValue
  rw [if_neg (nI_pos (by omega)), if_neg (show ¬ (24 : Int32) ≤ nI k from nI_ge (b := 24) h (by omega)), qb_cl (by omega)]
theorem qr_setEmpty {bh : Nat → Int32} {k : Nat} (h : k < 24) : s_X6_setEmpty bh (nI k) = upd bh k 0 := by
  unfold s_X6_setEmpty
  rw [if_neg (nI_pos (by omega)), if_neg (show ¬ (24 : Int32) ≤ nI k from nI_ge (b := 24) h (by omega)), qb_cl (by omega)]
theorem qr_aside {okd kd : Int32} {oct l : Nat} {bh bv bo : Nat → Int32} (h : l < 24) (ho : oct < 2) : s_X6_setAside okd oct bh bv bo kd (nI l) = if bh l = 0 then (bh, bo, okd, oct) else (upd bh l 0, upd bo oct (bv l), kd, oct + 1) := by
  unfold s_X6_setAside
  rw [if_neg (nI_pos (by omega)), if_neg (show ¬ (24 : Int32) ≤ nI l from nI_ge (b := 24) h (by omega)), qb_cl (by omega), if_neg (show ¬ (2 : Int32) ≤ nI oct from nI_ge (b := 2) ho (by omega))]
theorem qr_firstLeaf {pv k : Nat} {fk : Nat → Int32} (hk : k < 24) (hv : pv ≤ 8) : s_X6_firstLeaf pv fk (nI k) = nI (if qp_kd pv fk k = 2 then k + 1 else k) := by
  unfold s_X6_firstLeaf
  rw [qp_kindAt (by omega) (by omega)]
  by_cases c : qp_kd pv fk k = 2
  · rw [if_pos c, if_pos c, nI_1]
  · rw [if_neg c, if_neg c]
theorem qr_add2 (k : Nat) : nI k + 2 = nI (k + 2) := by
  rw [show (2 : Int32) = nI 2 from rfl, nI_add]
/-- a pair's place -/
theorem qr_pair {pv k : Nat} {fk : Nat → Int32} (hv : pv ≤ 8) (c : qp_kd pv fk k = 2) : k + 2 < 24 := by
  have h := qp_kd_lt (pv := pv) (fk := fk) (k := k) (by rw [c]; decide)
  unfold qp_kd at c
  by_cases a : k / 3 < pv
  · rw [if_pos a] at c
    by_cases b : k % 3 = 0
    · omega
    · rw [if_neg b] at c
      split at c <;> exact absurd c (by decide)
  · omega
/-- the set of a place's leaves -/
abbrev qr_lv (pv : Nat) (fk : Nat → Int32) (k : Nat) : Int32 := s_X5_leavesOf pv fk (nI k)
theorem qr_lv2 {pv k i : Nat} {fk : Nat → Int32} (hv : pv ≤ 8) (hk : k < 24) (c : qp_kd pv fk k = 2) : qb_t (qr_lv pv fk k) i = true ↔ (i = k + 1 ∨ i = k + 2) := by
  rw [qp_leaves hv (by omega)]
  unfold qp_lf
  rw [if_pos c, c]
  exact ⟨fun h => h.2, fun h => ⟨by decide, h⟩⟩
theorem qr_lv1 {pv k i : Nat} {fk : Nat → Int32} (hv : pv ≤ 8) (hk : k < 24) (c : ¬ qp_kd pv fk k = 2) (c1 : ¬ qp_kd pv fk k = -1) : qb_t (qr_lv pv fk k) i = true ↔ i = k := by
  rw [qp_leaves hv (by omega)]
  unfold qp_lf
  rw [if_neg c]
  exact ⟨fun h => h.2, fun h => ⟨c1, h⟩⟩
/-- how much a place has -/
def qr_hd (lv : Int32) (bh : Nat → Int32) : Nat := qb_sum (fun i => if qb_t lv i = true ∧ ¬ bh i = 0 then 1 else 0) 24
/-- what was set aside of place k -/
def qr_old (pv : Nat) (fk bh bv : Nat → Int32) (k : Nat) (bo : Nat → Int32) (okd : Int32) (oct : Nat) : Prop := oct = qr_hd (qr_lv pv fk k) bh ∧ oct ≤ 2 ∧ (¬ oct = 0 → okd = qp_kd pv fk k) ∧ (¬ qp_kd pv fk k = 2 → ¬ oct = 0 → oct = 1 ∧ bo 0 = bv k ∧ ¬ bh k = 0)
theorem qr_hd2 {pv k : Nat} {fk bh : Nat → Int32} (hv : pv ≤ 8) (c : qp_kd pv fk k = 2) : qr_hd (qr_lv pv fk k) bh = (if bh (k + 1) = 0 then 0 else 1) + (if bh (k + 2) = 0 then 0 else 1) := by
  have h24 := qr_pair hv c
  unfold qr_hd
  rw [qb_sum_two (i := k + 1) (j := k + 2) (by omega) 24 (by omega) fun x hx h1 h2 => by
    rw [if_neg]
    rintro ⟨a, -⟩
    rcases (qr_lv2 hv (by omega) c).mp a with z | z
    · exact h1 z
    · exact h2 z]
  have e : ∀ i, (i = k + 1 ∨ i = k + 2) → (if qb_t (qr_lv pv fk k) i = true ∧ ¬ bh i = 0 then 1 else 0) = (if bh i = 0 then 0 else 1) := by
    intro i hi
    have h := (qr_lv2 (pv := pv) (fk := fk) (i := i) hv (show k < 24 by omega) c).mpr hi
    by_cases z : bh i = 0
    · rw [if_pos z, if_neg (fun y => y.2 z)]
    · rw [if_neg z, if_pos ⟨h, z⟩]
  show (if qb_t (qr_lv pv fk k) (k + 1) = true ∧ ¬ bh (k + 1) = 0 then 1 else 0) + (if qb_t (qr_lv pv fk k) (k + 2) = true ∧ ¬ bh (k + 2) = 0 then 1 else 0) = _
  rw [e _ (Or.inl rfl), e _ (Or.inr rfl)]
theorem qr_hd1 {pv k : Nat} {fk bh : Nat → Int32} (hv : pv ≤ 8) (hk : k < 24) (c : ¬ qp_kd pv fk k = 2) (c1 : ¬ qp_kd pv fk k = -1) : qr_hd (qr_lv pv fk k) bh = if bh k = 0 then 0 else 1 := by
  unfold qr_hd
  rw [qb_sum_one (i := k) 24 hk fun x hx h1 => by
    rw [if_neg]
    rintro ⟨a, -⟩
    exact h1 ((qr_lv1 hv hk c c1).mp a)]
  have h := (qr_lv1 (pv := pv) (fk := fk) (i := k) hv hk c c1).mpr rfl
  show (if qb_t (qr_lv pv fk k) k = true ∧ ¬ bh k = 0 then 1 else 0) = _
  by_cases z : bh k = 0
  · rw [if_pos z, if_neg (fun y => y.2 z)]
  · rw [if_neg z, if_pos ⟨h, z⟩]
theorem qr_drop {pv k : Nat} {okd : Int32} {fk bh bv bo : Nat → Int32} (hv : pv ≤ 8) (hk : k < 24) (c1 : ¬ qp_kd pv fk k = -1) :
    ∃ (bh' bo' : Nat → Int32) (okd' : Int32) (oct' : Nat), s_X6_drop okd 0 pv fk bh bv bo (nI k) = (bh', bo', okd', oct') ∧ (∀ i, bh' i = if qb_t (qr_lv pv fk k) i = true then 0 else bh i) ∧ qr_old pv fk bh bv k bo' okd' oct' := by
  unfold s_X6_drop
  rw [qp_kindAt (by omega) (by omega)]
  by_cases c : qp_kd pv fk k = 2
  · have h24 := qr_pair hv c
    rw [if_pos c, nI_1, qr_add2, qr_aside (show k + 1 < 24 by omega) (by omega)]
    have lv : ∀ i, qb_t (qr_lv pv fk k) i = true ↔ (i = k + 1 ∨ i = k + 2) := fun i => qr_lv2 hv hk c
    by_cases a : bh (k + 1) = 0
    · rw [if_pos a]
      dsimp only
      rw [qr_aside (show k + 2 < 24 by omega) (by omega)]
      by_cases b : bh (k + 2) = 0
      · rw [if_pos b]
        refine ⟨bh, bo, okd, 0, rfl, fun i => ?_, ?_, by omega, fun h => absurd rfl h, fun h => absurd c h⟩
        · by_cases z : qb_t (qr_lv pv fk k) i = true
          · rw [if_pos z]
            rcases (lv i).mp z with y | y
            · rw [y]; exact a
            · rw [y]; exact b
          · rw [if_neg z]
        · rw [qr_hd2 hv c, if_pos a, if_pos b]
      · rw [if_neg b]
        refine ⟨upd bh (k + 2) 0, upd bo 0 (bv (k + 2)), qp_kd pv fk k, 1, rfl, fun i => ?_, ?_, by omega, fun _ => rfl, fun h => absurd c h⟩
        · rw [qb_up]
          by_cases z : qb_t (qr_lv pv fk k) i = true
          · rw [if_pos z]
            rcases (lv i).mp z with y | y
            · rw [if_neg (by omega), y]; exact a
            · rw [if_pos y]
          · rw [if_neg z, if_neg fun y => z ((lv i).mpr (Or.inr y))]
        · rw [qr_hd2 hv c, if_pos a, if_neg b]
    · rw [if_neg a]
      dsimp only
      rw [qr_aside (show k + 2 < 24 by omega) (by omega), qb_un (show k + 2 ≠ k + 1 by omega)]
      by_cases b : bh (k + 2) = 0
      · rw [if_pos b]
        refine ⟨upd bh (k + 1) 0, upd bo 0 (bv (k + 1)), qp_kd pv fk k, 1, rfl, fun i => ?_, ?_, by omega, fun _ => rfl, fun h => absurd c h⟩
        · rw [qb_up]
          by_cases z : qb_t (qr_lv pv fk k) i = true
          · rw [if_pos z]
            rcases (lv i).mp z with y | y
            · rw [if_pos y]
            · rw [if_neg (by omega), y]; exact b
          · rw [if_neg z, if_neg fun y => z ((lv i).mpr (Or.inl y))]
        · rw [qr_hd2 hv c, if_neg a, if_pos b]
      · rw [if_neg b]
        refine ⟨upd (upd bh (k + 1) 0) (k + 2) 0, upd (upd bo 0 (bv (k + 1))) 1 (bv (k + 2)), qp_kd pv fk k, 2, rfl, fun i => ?_, ?_, by omega, fun _ => rfl, fun h => absurd c h⟩
        · rw [qb_up, qb_up]
          by_cases z : qb_t (qr_lv pv fk k) i = true
          · rw [if_pos z]
            rcases (lv i).mp z with y | y
            · rw [if_neg (by omega), if_pos y]
            · rw [if_pos y]
          · rw [if_neg z, if_neg fun y => z ((lv i).mpr (Or.inr y)), if_neg fun y => z ((lv i).mpr (Or.inl y))]
        · rw [qr_hd2 hv c, if_neg a, if_neg b]
  · rw [if_neg c, qr_aside hk (by omega)]
    have lv : ∀ i, qb_t (qr_lv pv fk k) i = true ↔ i = k := fun i => qr_lv1 hv hk c c1
    by_cases a : bh k = 0
    · rw [if_pos a]
      refine ⟨bh, bo, okd, 0, rfl, fun i => ?_, ?_, by omega, fun h => absurd rfl h, fun _ h => absurd rfl h⟩
      · by_cases z : qb_t (qr_lv pv fk k) i = true
        · rw [if_pos z, (lv i).mp z]; exact a
        · rw [if_neg z]
      · rw [qr_hd1 hv hk c c1, if_pos a]
    · rw [if_neg a]
      refine ⟨upd bh k 0, upd bo 0 (bv k), qp_kd pv fk k, 1, rfl, fun i => ?_, ?_, by omega, fun _ => rfl, fun _ _ => ⟨rfl, qb_us _ _ _, a⟩⟩
      · rw [qb_up]
        by_cases z : qb_t (qr_lv pv fk k) i = true
        · rw [if_pos z, if_pos ((lv i).mp z)]
        · rw [if_neg z, if_neg fun y => z ((lv i).mpr y)]
      · rw [qr_hd1 hv hk c c1, if_neg a]
/-- the values behind a giving -/
def qr_gv (pv : Nat) (fk bv : Nat → Int32) (k : Nat) (x y : Int32) (i : Nat) : Int32 := if qp_kd pv fk k = 2 then (if i = k + 1 then x else (if i = k + 2 then y else bv i)) else (if i = k then x else bv i)
theorem qr_give {pv k : Nat} {okd x y : Int32} {fk bh bv bo : Nat → Int32} (hv : pv ≤ 8) (hk : k < 24) (c1 : ¬ qp_kd pv fk k = -1) :
    ∃ (bh' bv' bo' : Nat → Int32) (okd' : Int32) (oct' : Nat), s_X6_give okd 0 pv fk bh bv bo (nI k) x y = (bh', bv', bo', okd', oct') ∧ (∀ i, bh' i = if qb_t (qr_lv pv fk k) i = true then 1 else bh i) ∧ (∀ i, bv' i = qr_gv pv fk bv k x y i) ∧ qr_old pv fk bh bv k bo' okd' oct' := by
  obtain ⟨bh1, bo1, okd1, oct1, e, h1, h2⟩ := qr_drop (okd := okd) (bh := bh) (bv := bv) (bo := bo) hv hk c1
  unfold s_X6_give
  rw [e, qp_kindAt (by omega) (by omega), qr_firstLeaf hk hv]
  dsimp only
  by_cases c : qp_kd pv fk k = 2
  · have h24 := qr_pair hv c
    rw [if_pos c, if_pos c, qr_setValue (show k + 1 < 24 by omega), nI_1]
    dsimp only
    rw [qr_setValue (show k + 1 + 1 < 24 by omega)]
    refine ⟨_, _, _, _, _, rfl, fun i => ?_, fun i => ?_, h2⟩
    · dsimp only
      rw [qb_up, qb_up, h1 i]
      by_cases z : qb_t (qr_lv pv fk k) i = true
      · rw [if_pos z, if_pos z]
        rcases (qr_lv2 hv hk c).mp z with w | w
        · rw [if_neg (by omega), if_pos w]
        · rw [if_pos (by omega)]
      · rw [if_neg z, if_neg z, if_neg fun w => z ((qr_lv2 hv hk c).mpr (Or.inr (by omega))), if_neg fun w => z ((qr_lv2 hv hk c).mpr (Or.inl w))]
    · dsimp only
      unfold qr_gv
      rw [qb_up, qb_up, if_pos c]
      by_cases z : i = k + 1
      · rw [if_neg (by omega), if_pos z, if_pos z]
      · rw [if_neg z, if_neg z]
  · rw [if_neg c, if_neg c, qr_setValue hk]
    refine ⟨_, _, _, _, _, rfl, fun i => ?_, fun i => ?_, h2⟩
    · dsimp only
      rw [qb_up, h1 i]
      by_cases z : qb_t (qr_lv pv fk k) i = true
      · rw [if_pos z, if_pos z, if_pos ((qr_lv1 hv hk c c1).mp z)]
      · rw [if_neg z, if_neg z, if_neg fun w => z ((qr_lv1 hv hk c c1).mpr w)]
    · dsimp only
      unfold qr_gv
      rw [qb_up, if_neg c]
