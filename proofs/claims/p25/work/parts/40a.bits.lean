/-! MATHEMATICS OF THE CLASS'S FUNCTIONS (no machine). BITS: a set is an int, its members are bits. -/
def qb_t (x : Int32) (i : Nat) : Bool := x.toBitVec.getLsbD i
theorem qb_or (x y : Int32) (i : Nat) : qb_t (x ||| y) i = (qb_t x i || qb_t y i) := by
  unfold qb_t
  rw [Int32.toBitVec_or, BitVec.getLsbD_or]
theorem qb_and (x y : Int32) (i : Nat) : qb_t (x &&& y) i = (qb_t x i && qb_t y i) := by
  unfold qb_t
  rw [Int32.toBitVec_and, BitVec.getLsbD_and]
theorem qb_ge (x : Int32) {i : Nat} (h : 32 ≤ i) : qb_t x i = false := BitVec.getLsbD_of_ge _ _ h
theorem qb_lt {x : Int32} {i : Nat} (h : qb_t x i = true) : i < 32 := by
  rcases Nat.lt_or_ge i 32 with q | q
  · exact q
  · rw [qb_ge x q] at h; cases h
theorem qb_0 (i : Nat) : qb_t 0 i = false := by
  show (0#32).getLsbD i = false
  simp
theorem qb_m1 {i : Nat} (h : i < 32) : qb_t (-1) i = true := by
  show (BitVec.allOnes 32).getLsbD i = true
  rw [BitVec.getLsbD_allOnes]; exact decide_eq_true h
theorem qb_not (x : Int32) {i : Nat} (h : i < 32) : qb_t (x ^^^ (-1)) i = !qb_t x i := by
  unfold qb_t
  rw [Int32.toBitVec_xor, BitVec.getLsbD_xor]
  have h1 : (-1 : Int32).toBitVec.getLsbD i = true := qb_m1 h
  rw [h1, Bool.xor_true]
theorem qb_ext {x y : Int32} (h : ∀ i : Nat, i < 32 → qb_t x i = qb_t y i) : x = y :=
  Int32.toBitVec.inj (BitVec.eq_of_getLsbD_eq fun i hi => h i hi)
theorem qb_eq0 {x : Int32} : x = 0 ↔ ∀ i : Nat, i < 32 → qb_t x i = false :=
  ⟨fun h i _ => by rw [h, qb_0], fun h => qb_ext fun i hi => by rw [h i hi, qb_0]⟩
theorem qb_ne0 {x : Int32} (h : ¬ x = 0) : ∃ i : Nat, i < 32 ∧ qb_t x i = true := by
  refine Classical.byContradiction fun q => h (qb_eq0.mpr fun i hi => ?_)
  cases e : qb_t x i with
  | false => rfl
  | true => exact absurd ⟨i, hi, e⟩ q
theorem qb_ne0' {x : Int32} {i : Nat} (h : qb_t x i = true) : ¬ x = 0 := by
  intro q; rw [q, qb_0] at h; cases h
/-- x is within y -/
def qb_sub (x y : Int32) : Prop := ∀ i : Nat, qb_t x i = true → qb_t y i = true
theorem qb_andn {x y : Int32} : x &&& (y ^^^ (-1)) = 0 ↔ qb_sub x y := by
  refine ⟨fun h i hi => ?_, fun h => qb_eq0.mpr fun i hi => ?_⟩
  · have h1 := qb_eq0.mp h i (qb_lt hi)
    rw [qb_and, qb_not _ (qb_lt hi), hi, Bool.true_and] at h1
    simpa using h1
  · rw [qb_and, qb_not _ hi]
    cases e : qb_t x i with
    | false => rfl
    | true => rw [h i e]; rfl
theorem qb_orsub {x y : Int32} (h : qb_sub x y) : y ||| x = y := qb_ext fun i _ => by
  rw [qb_or]
  cases e : qb_t x i with
  | false => simp
  | true => rw [h i e]; rfl
theorem qb_dis {x y : Int32} : x &&& y = 0 ↔ ∀ i : Nat, qb_t x i = true → qb_t y i = false := by
  refine ⟨fun h i hi => ?_, fun h => qb_eq0.mpr fun i _ => ?_⟩
  · have h1 := qb_eq0.mp h i (qb_lt hi)
    rw [qb_and, hi, Bool.true_and] at h1
    exact h1
  · rw [qb_and]
    cases e : qb_t x i with
    | false => rfl
    | true => rw [h i e]; rfl
theorem qb_meet {x y : Int32} : ¬ x &&& y = 0 ↔ ∃ i : Nat, qb_t x i = true ∧ qb_t y i = true := by
  refine ⟨fun h => ?_, fun ⟨i, h1, h2⟩ q => ?_⟩
  · obtain ⟨i, hi, h1⟩ := qb_ne0 h
    rw [qb_and, Bool.and_eq_true] at h1
    exact ⟨i, h1⟩
  · have := qb_dis.mp q i h1
    rw [h2] at this; cases this
theorem qb_shlN : ∀ k : Nat, k < 32 → (1 : Int32) <<< (nI k &&& 31) = Int32.ofNat (2 ^ k) := by decide +kernel
theorem qb_shl6N : ∀ k : Nat, k < 30 → (6 : Int32) <<< (nI k &&& 31) = Int32.ofNat (2 ^ (k + 1)) ||| Int32.ofNat (2 ^ (k + 2)) := by decide +kernel
theorem qb_pow {k : Nat} (h : k < 32) (i : Nat) : qb_t (Int32.ofNat (2 ^ k)) i = decide (i = k) := by
  show (BitVec.ofNat 32 (2 ^ k)).getLsbD i = decide (i = k)
  rw [BitVec.getLsbD_ofNat, Nat.testBit_two_pow]
  by_cases q : k = i
  · subst q; simp [h]
  · have q2 : ¬ i = k := fun z => q z.symm
    simp [q, q2]
theorem qb_one {k : Nat} (h : k < 32) (i : Nat) : qb_t ((1 : Int32) <<< (nI k &&& 31)) i = decide (i = k) := by
  rw [qb_shlN k h, qb_pow h]
theorem qb_six {k : Nat} (h : k < 30) (i : Nat) : qb_t ((6 : Int32) <<< (nI k &&& 31)) i = (decide (i = k + 1) || decide (i = k + 2)) := by
  rw [qb_shl6N k h, qb_or, qb_pow (by omega), qb_pow (by omega)]
/-- one bit of a set is asked -/
theorem qb_ask {x : Int32} {k : Nat} (h : k < 32) : x &&& ((1 : Int32) <<< (nI k &&& 31)) = 0 ↔ qb_t x k = false := by
  refine ⟨fun q => ?_, fun q => qb_dis.mpr fun i hi => ?_⟩
  · cases e : qb_t x k with
    | false => rfl
    | true =>
      have := qb_dis.mp q k e
      rw [qb_one h] at this; simp at this
  · rw [qb_one h]
    refine decide_eq_false fun z => ?_
    rw [z, q] at hi; cases hi
/-- how many bits are missing -/
def qb_miss (x : Int32) : Nat → Nat
  | 0 => 0
  | k + 1 => qb_miss x k + (if qb_t x k = true then 0 else 1)
def qb_m (x : Int32) : Nat := qb_miss x 32
theorem qb_miss_le (x : Int32) : ∀ k, qb_miss x k ≤ k
  | 0 => Nat.le_refl _
  | k + 1 => by
    have := qb_miss_le x k
    unfold qb_miss
    split <;> omega
theorem qb_miss_or (x y : Int32) : ∀ k, qb_miss (x ||| y) k ≤ qb_miss x k
  | 0 => Nat.le_refl _
  | k + 1 => by
    have := qb_miss_or x y k
    unfold qb_miss
    by_cases q : qb_t x k = true
    · have q2 : qb_t (x ||| y) k = true := by rw [qb_or, q]; rfl
      rw [if_pos q, if_pos q2]; omega
    · rw [if_neg q]
      split <;> omega
theorem qb_miss_new {x y : Int32} {i : Nat} (h1 : qb_t y i = true) (h2 : qb_t x i = false) : ∀ k, i < k → qb_miss (x ||| y) k + 1 ≤ qb_miss x k
  | 0, h => by omega
  | k + 1, h => by
    unfold qb_miss
    by_cases q : i = k
    · subst q
      have h3 := qb_miss_or x y i
      have q2 : qb_t (x ||| y) i = true := by rw [qb_or, h1]; simp
      have q3 : ¬ qb_t x i = true := by rw [h2]; decide
      rw [if_pos q2, if_neg q3]; omega
    · have h3 := qb_miss_new h1 h2 k (by omega)
      by_cases q : qb_t x k = true
      · have q2 : qb_t (x ||| y) k = true := by rw [qb_or, q]; rfl
        rw [if_pos q, if_pos q2]; omega
      · rw [if_neg q]
        split <;> omega
theorem qb_m_le (x : Int32) : qb_m x ≤ 32 := qb_miss_le x 32
theorem qb_m_or (x y : Int32) : qb_m (x ||| y) ≤ qb_m x := qb_miss_or x y 32
theorem qb_m_new {x y : Int32} (h : ¬ qb_sub y x) : qb_m (x ||| y) + 1 ≤ qb_m x := by
  have h1 : ∃ i : Nat, qb_t y i = true ∧ ¬ qb_t x i = true := by
    refine Classical.byContradiction fun q => h fun i hi => ?_
    refine Classical.byContradiction fun z => q ⟨i, hi, z⟩
  obtain ⟨i, h2, h3⟩ := h1
  exact qb_miss_new h2 (by simpa using h3) 32 (qb_lt h2)
/-- sums over a row -/
def qb_sum (f : Nat → Nat) : Nat → Nat
  | 0 => 0
  | n + 1 => qb_sum f n + f n
theorem qb_sum_le {f g : Nat → Nat} : ∀ n, (∀ i, i < n → f i ≤ g i) → qb_sum f n ≤ qb_sum g n
  | 0, _ => Nat.le_refl _
  | n + 1, h => Nat.add_le_add (qb_sum_le n fun i hi => h i (by omega)) (h n (by omega))
theorem qb_sum_lt {f g : Nat → Nat} {j : Nat} : ∀ n, (∀ i, i < n → f i ≤ g i) → j < n → f j + 1 ≤ g j → qb_sum f n + 1 ≤ qb_sum g n
  | 0, _, h, _ => by omega
  | n + 1, h, hj, h1 => by
    unfold qb_sum
    by_cases q : j = n
    · subst q
      have := qb_sum_le j fun i hi => h i (by omega)
      omega
    · have h2 := qb_sum_lt n (fun i hi => h i (by omega)) (by omega) h1
      have h3 := h n (by omega)
      omega
theorem qb_sum_bd {f : Nat → Nat} {c : Nat} : ∀ n, (∀ i, i < n → f i ≤ c) → qb_sum f n ≤ n * c
  | 0, _ => by simp [qb_sum]
  | n + 1, h => by
    unfold qb_sum
    have h1 := qb_sum_bd n fun i hi => h i (by omega)
    have h2 := h n (by omega)
    rw [Nat.succ_mul]; omega
theorem qb_sum_congr {f g : Nat → Nat} : ∀ n, (∀ i, i < n → f i = g i) → qb_sum f n = qb_sum g n
  | 0, _ => rfl
  | n + 1, h => by
    unfold qb_sum
    rw [qb_sum_congr n fun i hi => h i (by omega), h n (by omega)]
/-- int comparisons of small nats -/
theorem qb_le {a b : Nat} (ha : a < 2 ^ 31) (hb : b < 2 ^ 31) : (nI a ≤ nI b) = (a ≤ b) := propext (nI_leI ha hb)
theorem qb_lt' {a b : Nat} (ha : a < 2 ^ 31) (hb : b < 2 ^ 31) : (nI a < nI b) = (a < b) := propext (nI_ltI ha hb)
theorem qb_eq {a b : Nat} (ha : a < 2 ^ 31) (hb : b < 2 ^ 31) : (nI a = nI b) = (a = b) := propext (nI_eq ha hb)
theorem qb_pos (a : Nat) (ha : a < 2 ^ 31) : (nI a < 0) = False := eq_false (nI_pos ha)
theorem qb_nem1 {a : Nat} (ha : a < 2 ^ 31) : ¬ nI a = -1 := by
  intro h
  have h1 : ¬ nI a < 0 := nI_pos ha
  rw [h] at h1
  exact h1 (by decide)
theorem qb_cl {a : Nat} (ha : a < 2 ^ 31) : (nI a).toNatClampNeg = a := nI_clamp ha
theorem qb_div3 {a : Nat} (ha : a < 2 ^ 31) : nI a / 3 = nI (a / 3) := pk_div (d := 3) ha (by omega) (by omega)
theorem qb_mod3 {a : Nat} (ha : a < 2 ^ 31) : nI a - nI a / 3 * 3 = nI (a % 3) := pk_rem (d := 3) ha (by omega) (by omega)
theorem qb_us (f : Nat → Int32) (k : Nat) (x : Int32) : upd f k x k = x := pk_us
theorem qb_un {f : Nat → Int32} {k j : Nat} {x : Int32} (h : j ≠ k) : upd f k x j = f j := pk_un h
theorem qb_up (f : Nat → Int32) (k j : Nat) (x : Int32) : upd f k x j = if j = k then x else f j := by
  by_cases h : j = k
  · subst h; rw [qb_us, if_pos rfl]
  · rw [qb_un h, if_neg h]
