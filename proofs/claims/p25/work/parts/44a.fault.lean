/-! FAULTS: one line's -/
/-- a number's lowest bit: all below it, and nothing else, is in what is behind -/
theorem qx_low {X i m : Nat} (h : X = 2 ^ i * (2 * m + 1)) : ∀ j : Nat, (X - 1).testBit j = if j < i then true else if j = i then false else X.testBit j := by
  intro j
  have e : X - 1 = 2 ^ i * (2 * m) + (2 ^ i - 1) := by
    have : 0 < 2 ^ i := Nat.two_pow_pos i
    rw [h, Nat.mul_add, Nat.mul_one]; omega
  have e2 : X = 2 ^ i * (2 * m + 1) + 0 := by rw [h]; rfl
  have lt1 : 2 ^ i - 1 < 2 ^ i := by have : 0 < 2 ^ i := Nat.two_pow_pos i; omega
  rw [e, Nat.testBit_two_pow_mul_add _ lt1]
  by_cases a : j < i
  · rw [if_pos a, if_pos a, Nat.testBit_two_pow_sub_one]
    exact decide_eq_true a
  · rw [if_neg a, if_neg a]
    by_cases b : j = i
    · rw [if_pos b, b, Nat.sub_self, Nat.testBit_zero]
      simp
    · rw [if_neg b, e2, Nat.testBit_two_pow_mul_add _ (Nat.two_pow_pos i), if_neg a]
      obtain ⟨d, hd⟩ : ∃ d, j - i = d + 1 := ⟨j - i - 1, by omega⟩
      rw [hd, Nat.testBit_succ, Nat.testBit_succ]
      congr 1
      omega
theorem qx_odd : ∀ X : Nat, 0 < X → ∃ i m : Nat, X = 2 ^ i * (2 * m + 1) := by
  intro X
  induction X using Nat.strongRecOn with
  | ind X ih =>
    intro h
    by_cases c : X % 2 = 1
    · exact ⟨0, X / 2, by rw [Nat.pow_zero]; omega⟩
    · obtain ⟨i, m, e⟩ := ih (X / 2) (by omega) (by omega)
      refine ⟨i + 1, m, ?_⟩
      rw [Nat.pow_succ, Nat.mul_comm (2 ^ i) 2, Nat.mul_assoc, ← e]
      omega
theorem qx_tbN (x : Int32) (i : Nat) : qb_t x i = x.toBitVec.toNat.testBit i := by
  unfold qb_t
  rw [BitVec.testBit_toNat]
theorem qx_low32 {x : Int32} (h : ¬ x = 0) : ∃ i : Nat, i < 32 ∧ qb_t x i = true ∧ (x ^^^ (-1)) &&& (x - 1) = Int32.ofNat (2 ^ i - 1) := by
  have hX : 0 < x.toBitVec.toNat := by
    rcases Nat.eq_zero_or_pos x.toBitVec.toNat with z | z
    · exact absurd (Int32.toBitVec.inj (BitVec.eq_of_toNat_eq (by rw [z]; rfl))) h
    · exact z
  obtain ⟨i, m, e⟩ := qx_odd _ hX
  have lt := x.toBitVec.isLt
  have hi : i < 32 := by
    rcases Nat.lt_or_ge i 32 with q | q
    · exact q
    · have h1 : 2 ^ 32 ≤ 2 ^ i := Nat.pow_le_pow_right (by omega) q
      have h2 : 2 ^ i * 1 ≤ 2 ^ i * (2 * m + 1) := Nat.mul_le_mul_left _ (by omega)
      omega
  have e1 : (x - 1).toBitVec.toNat = x.toBitVec.toNat - 1 := by
    rw [Int32.toBitVec_sub, BitVec.toNat_sub_of_le (show (1 : Int32).toBitVec ≤ x.toBitVec from hX)]
    rfl
  have hb : ∀ j, qb_t (x - 1) j = if j < i then true else if j = i then false else qb_t x j := by
    intro j
    rw [qx_tbN, qx_tbN, e1]
    exact qx_low e j
  have hb2 : qb_t x i = true := by
    rw [qx_tbN, e, show 2 ^ i * (2 * m + 1) = 2 ^ i * (2 * m + 1) + 0 from rfl, Nat.testBit_two_pow_mul_add _ (Nat.two_pow_pos i), if_neg (Nat.lt_irrefl _), Nat.sub_self, Nat.testBit_zero]
    simp
  have hb3 : ∀ j, j < i → qb_t x j = false := by
    intro j hj
    rw [qx_tbN, e, show 2 ^ i * (2 * m + 1) = 2 ^ i * (2 * m + 1) + 0 from rfl, Nat.testBit_two_pow_mul_add _ (Nat.two_pow_pos i), if_pos hj]
    simp
  refine ⟨i, hi, hb2, qb_ext fun j hj => ?_⟩
  rw [qb_and, qb_not _ hj, hb j]
  have e3 : qb_t (Int32.ofNat (2 ^ i - 1)) j = decide (j < i) := by
    show (BitVec.ofNat 32 (2 ^ i - 1)).getLsbD j = _
    rw [BitVec.getLsbD_ofNat, Nat.testBit_two_pow_sub_one]
    simp [hj]
  rw [e3]
  by_cases a : j < i
  · rw [if_pos a, hb3 j a]; simp [a]
  · rw [if_neg a]
    by_cases b : j = i
    · rw [if_pos b]; simp [a]
    · rw [if_neg b]
      cases qb_t x j <;> simp [a]
/-- the lowest bit's number, out of what is below it -/
def qx_f (y : Int32) : Int32 := if 0 < y then (if y ≤ 65536 then (if y ≤ 256 then (if y ≤ 16 then (if y ≤ 4 then 1 + (s_ushr y 1) else (1 + 2) + (s_ushr (s_ushr y 2) 1)) else (if (s_ushr y 4) ≤ 4 then (1 + 4) + (s_ushr (s_ushr y 4) 1) else ((1 + 4) + 2) + (s_ushr (s_ushr (s_ushr y 4) 2) 1))) else (if (s_ushr y 8) ≤ 16 then (if (s_ushr y 8) ≤ 4 then (1 + 8) + (s_ushr (s_ushr y 8) 1) else ((1 + 8) + 2) + (s_ushr (s_ushr (s_ushr y 8) 2) 1)) else (if (s_ushr (s_ushr y 8) 4) ≤ 4 then ((1 + 8) + 4) + (s_ushr (s_ushr (s_ushr y 8) 4) 1) else (((1 + 8) + 4) + 2) + (s_ushr (s_ushr (s_ushr (s_ushr y 8) 4) 2) 1)))) else (if (s_ushr y 16) ≤ 256 then (if (s_ushr y 16) ≤ 16 then (if (s_ushr y 16) ≤ 4 then (1 + 16) + (s_ushr (s_ushr y 16) 1) else ((1 + 16) + 2) + (s_ushr (s_ushr (s_ushr y 16) 2) 1)) else (if (s_ushr (s_ushr y 16) 4) ≤ 4 then ((1 + 16) + 4) + (s_ushr (s_ushr (s_ushr y 16) 4) 1) else (((1 + 16) + 4) + 2) + (s_ushr (s_ushr (s_ushr (s_ushr y 16) 4) 2) 1))) else (if (s_ushr (s_ushr y 16) 8) ≤ 16 then (if (s_ushr (s_ushr y 16) 8) ≤ 4 then ((1 + 16) + 8) + (s_ushr (s_ushr (s_ushr y 16) 8) 1) else (((1 + 16) + 8) + 2) + (s_ushr (s_ushr (s_ushr (s_ushr y 16) 8) 2) 1)) else (if (s_ushr (s_ushr (s_ushr y 16) 8) 4) ≤ 4 then (((1 + 16) + 8) + 4) + (s_ushr (s_ushr (s_ushr (s_ushr y 16) 8) 4) 1) else ((((1 + 16) + 8) + 4) + 2) + (s_ushr (s_ushr (s_ushr (s_ushr (s_ushr y 16) 8) 4) 2) 1))))) else y &&& 32
theorem qx_fN : ∀ i : Nat, i < 32 → qx_f (Int32.ofNat (2 ^ i - 1)) = nI i := by decide +kernel
theorem qx_ntz {x : Int32} (h : ¬ x = 0) : ∃ i : Nat, i < 32 ∧ qb_t x i = true ∧ s_J6_numberOfTrailingZeros_0f7a4 x = nI i := by
  obtain ⟨i, hi, h1, h2⟩ := qx_low32 h
  refine ⟨i, hi, h1, ?_⟩
  have e : s_J6_numberOfTrailingZeros_0f7a4 x = qx_f ((x ^^^ (-1)) &&& (x - 1)) := rfl
  rw [e, h2, qx_fN i hi]
section
variable {dul dtl dbg yf ys yp ye fk fs fa fb ch cl cd cn : Nat → Int32} {lc pv pn : Nat}
/-- the smallest loan that is in the way of what a line takes -/
def qx_sl (dbg yf ys yp ye fk fs fa fb cd cn : Nat → Int32) (lc pv pn : Nat) (j t : Nat) : Int32 := s_X0_smallestLoan lc yp ye pv cd (nI j) (s_X1_takenAt pv pn fk fs fa fb (nI j) (nI t)) ((s_X0_wantedBehind (-1) yf ys pn cn (nI j)) &&& ((dbg j) ^^^ (-1))) (s_X1_isTakenToRead pn fs (nI j) (nI t))
def qx_bad (dul dtl dbg yf ys yp ye fk fs fa fb cl cd cn : Nat → Int32) (lc pv pn : Nat) (j : Nat) : Prop :=
  ¬ dul j &&& cl j = 0 ∨ ¬ dtl j &&& cl j = 0 ∨ ¬ qx_sl dbg yf ys yp ye fk fs fa fb cd cn lc pv pn j 0 = -1 ∨ ¬ qx_sl dbg yf ys yp ye fk fs fa fb cd cn lc pv pn j 1 = -1
def qx_no (dul dtl dbg yf ys yp ye fk fs fa fb ch cl cd cn : Nat → Int32) (lc pv pn : Nat) (j : Nat) : Int32 :=
  if dul j &&& cl j = 0 then (if dtl j &&& cl j = 0 then (if qx_sl dbg yf ys yp ye fk fs fa fb cd cn lc pv pn j 0 = -1 then (if s_X1_isTakenToRead pn fs (nI j) (nI 1) = 0 then 3 else 4) else (if s_X1_isTakenToRead pn fs (nI j) (nI 0) = 0 then 3 else 4))
    else (if ch j &&& ((1 : Int32) <<< ((s_J6_numberOfTrailingZeros_0f7a4 (dtl j &&& cl j)) &&& 31)) = 0 then 1 else 2))
  else (if ch j &&& ((1 : Int32) <<< ((s_J6_numberOfTrailingZeros_0f7a4 (dul j &&& cl j)) &&& 31)) = 0 then 1 else 2)
theorem qx_add {fc : Nat} {xn xl xp xo : Nat → Int32} {a b c d : Int32} (h : fc < 34) : s_X2_addFault fc xn xl xp xo a b c d = (upd xn fc a, upd xl fc b, upd xp fc c, upd xo fc d, fc + 1) := by
  unfold s_X2_addFault
  rw [if_neg (qp_ix1 h (by omega))]
theorem qx_find {fc j : Nat} {xn xl xp xo : Nat → Int32} (h : fc < 34) :
    (¬ qx_bad dul dtl dbg yf ys yp ye fk fs fa fb cl cd cn lc pv pn j → s_X0_findFault dul dtl dbg (-1) yf ys lc yp ye fc xn xl xp xo pv pn fk fs fa fb ch cl cd cn j = (xn, xl, xp, xo, fc)) ∧
    (qx_bad dul dtl dbg yf ys yp ye fk fs fa fb cl cd cn lc pv pn j → ∃ a b : Int32, s_X0_findFault dul dtl dbg (-1) yf ys lc yp ye fc xn xl xp xo pv pn fk fs fa fb ch cl cd cn j = (upd xn fc (qx_no dul dtl dbg yf ys yp ye fk fs fa fb ch cl cd cn lc pv pn j), upd xl fc (nI j), upd xp fc a, upd xo fc b, fc + 1)) := by
  unfold qx_bad qx_no s_X0_findFault
  by_cases c1 : dul j &&& cl j = 0
  · rw [if_pos c1]
    by_cases c2 : dtl j &&& cl j = 0
    · rw [if_pos c2]
      have e3 : sl_X0_findFault_L109 dbg (-1) yf ys lc yp ye fc xn xl xp xo pv pn fk fs fa fb cd cn j 3 0 =
          if qx_sl dbg yf ys yp ye fk fs fa fb cd cn lc pv pn j 0 = -1 then (if qx_sl dbg yf ys yp ye fk fs fa fb cd cn lc pv pn j 1 = -1 then (xn, xl, xp, xo, fc) else
            (if s_X1_isTakenToRead pn fs (nI j) (nI 1) = 0 then s_X2_addFault fc xn xl xp xo 3 (nI j) (s_X1_takenAt pv pn fk fs fa fb (nI j) (nI 1)) (qx_sl dbg yf ys yp ye fk fs fa fb cd cn lc pv pn j 1) else s_X2_addFault fc xn xl xp xo 4 (nI j) (s_X1_takenAt pv pn fk fs fa fb (nI j) (nI 1)) (qx_sl dbg yf ys yp ye fk fs fa fb cd cn lc pv pn j 1)))
          else (if s_X1_isTakenToRead pn fs (nI j) (nI 0) = 0 then s_X2_addFault fc xn xl xp xo 3 (nI j) (s_X1_takenAt pv pn fk fs fa fb (nI j) (nI 0)) (qx_sl dbg yf ys yp ye fk fs fa fb cd cn lc pv pn j 0) else s_X2_addFault fc xn xl xp xo 4 (nI j) (s_X1_takenAt pv pn fk fs fa fb (nI j) (nI 0)) (qx_sl dbg yf ys yp ye fk fs fa fb cd cn lc pv pn j 0)) := by
        rw [sl_X0_findFault_L109, if_neg (show ¬ (1 : Int32) < nI 0 by decide), sl_X0_findFault_L109, if_neg (show ¬ (1 : Int32) < nI (0 + 1) by decide), sl_X0_findFault_L109, if_pos (show (1 : Int32) < nI (0 + 1 + 1) by decide)]
        rfl
      rw [e3]
      by_cases c3 : qx_sl dbg yf ys yp ye fk fs fa fb cd cn lc pv pn j 0 = -1
      · rw [if_pos c3]
        by_cases c4 : qx_sl dbg yf ys yp ye fk fs fa fb cd cn lc pv pn j 1 = -1
        · rw [if_pos c4]
          exact ⟨fun _ => rfl, fun k => absurd k (fun k => k.elim (fun k => k c1) fun k => k.elim (fun k => k c2) fun k => k.elim (fun k => k c3) fun k => k c4)⟩
        · rw [if_neg c4, qx_add h, qx_add h, if_pos c1, if_pos c2, if_pos c3]
          refine ⟨fun k => absurd (Or.inr (Or.inr (Or.inr c4))) k, fun _ => ?_⟩
          by_cases c5 : s_X1_isTakenToRead pn fs (nI j) (nI 1) = 0
          · rw [if_pos c5, if_pos c5]; exact ⟨_, _, rfl⟩
          · rw [if_neg c5, if_neg c5]; exact ⟨_, _, rfl⟩
      · rw [if_neg c3, qx_add h, qx_add h, if_pos c1, if_pos c2, if_neg c3]
        refine ⟨fun k => absurd (Or.inr (Or.inr (Or.inl c3))) k, fun _ => ?_⟩
        by_cases c5 : s_X1_isTakenToRead pn fs (nI j) (nI 0) = 0
        · rw [if_pos c5, if_pos c5]; exact ⟨_, _, rfl⟩
        · rw [if_neg c5, if_neg c5]; exact ⟨_, _, rfl⟩
    · rw [if_neg c2, if_pos c1, if_neg c2]
      refine ⟨fun k => absurd (Or.inr (Or.inl c2)) k, fun _ => ?_⟩
      rw [qx_add h, qx_add h]
      by_cases c5 : ch j &&& ((1 : Int32) <<< ((s_J6_numberOfTrailingZeros_0f7a4 (dtl j &&& cl j)) &&& 31)) = 0
      · rw [if_pos c5, if_pos c5]; exact ⟨_, _, rfl⟩
      · rw [if_neg c5, if_neg c5]; exact ⟨_, _, rfl⟩
  · rw [if_neg c1, if_neg c1]
    refine ⟨fun k => absurd (Or.inl c1) k, fun _ => ?_⟩
    rw [qx_add h, qx_add h]
    by_cases c5 : ch j &&& ((1 : Int32) <<< ((s_J6_numberOfTrailingZeros_0f7a4 (dul j &&& cl j)) &&& 31)) = 0
    · rw [if_pos c5, if_pos c5]; exact ⟨_, _, rfl⟩
    · rw [if_neg c5, if_neg c5]; exact ⟨_, _, rfl⟩
end
/-- how many lines ahead of i are so -/
noncomputable def qx_n (P : Nat → Prop) : Nat → Nat
  | 0 => 0
  | i + 1 => qx_n P i + @ite _ (P i) (Classical.propDecidable _) 1 0
theorem qx_n_s {P : Nat → Prop} {i : Nat} (h : P i) : qx_n P (i + 1) = qx_n P i + 1 := by
  show _ + _ = _; rw [if_pos h]
theorem qx_n_k {P : Nat → Prop} {i : Nat} (h : ¬ P i) : qx_n P (i + 1) = qx_n P i := by
  show _ + _ = _; rw [if_neg h]; rfl
theorem qx_n_le {P : Nat → Prop} : ∀ i, qx_n P i ≤ i
  | 0 => Nat.le_refl _
  | i + 1 => by
    have := qx_n_le (P := P) i
    by_cases h : P i
    · rw [qx_n_s h]; omega
    · rw [qx_n_k h]; omega
theorem qx_n_mono {P : Nat → Prop} {i j : Nat} (h : i ≤ j) : qx_n P i ≤ qx_n P j := by
  induction j with
  | zero => rw [show i = 0 from by omega]; exact Nat.le_refl _
  | succ j ih =>
    rcases Nat.lt_or_ge i (j + 1) with q | q
    · have := ih (by omega)
      by_cases h : P j
      · rw [qx_n_s h]; omega
      · rw [qx_n_k h]; omega
    · rw [show i = j + 1 from by omega]; exact Nat.le_refl _
theorem qx_n_lt {P : Nat → Prop} {i n : Nat} (h : i < n) (c : P i) : qx_n P i < qx_n P n := by
  have h2 := qx_n_mono (P := P) (show i + 1 ≤ n by omega)
  rw [qx_n_s c] at h2
  omega
theorem qx_n_of {P : Nat → Prop} {k : Nat} : ∀ {n : Nat}, k < qx_n P n → ∃ i, i < n ∧ P i ∧ qx_n P i = k
  | 0, h => by cases h
  | n + 1, h => by
    rcases Nat.lt_or_ge k (qx_n P n) with q | q
    · obtain ⟨i, a, b⟩ := qx_n_of q
      exact ⟨i, by omega, b⟩
    · by_cases c : P n
      · rw [qx_n_s c] at h
        exact ⟨n, Nat.lt_succ_self _, c, by omega⟩
      · rw [qx_n_k c] at h; omega
theorem qx_n_congr {P Q : Nat → Prop} : ∀ n : Nat, (∀ i, i < n → (P i ↔ Q i)) → qx_n P n = qx_n Q n
  | 0, _ => rfl
  | n + 1, h => by
    have e := qx_n_congr n fun i hi => h i (by omega)
    by_cases c : P n
    · rw [qx_n_s c, qx_n_s ((h n (by omega)).mp c), e]
    · rw [qx_n_k c, qx_n_k (fun z => c ((h n (by omega)).mpr z)), e]
theorem qx_n_0 {P : Nat → Prop} {n : Nat} (h : qx_n P n = 0) : ∀ i, i < n → ¬ P i := fun i hi c => by
  have := qx_n_lt hi c; omega
theorem qx_n_z {P : Nat → Prop} : ∀ {n : Nat}, (∀ i, i < n → ¬ P i) → qx_n P n = 0
  | 0, _ => rfl
  | n + 1, h => by rw [qx_n_k (h n (by omega)), qx_n_z fun i hi => h i (by omega)]
