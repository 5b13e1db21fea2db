/-! WAYS: what is open ahead of each line; which lines come behind which -/
def qw_step (S : Nat → Int32) (i : Nat) (st : List (Nat × Int32)) : Option (List (Nat × Int32)) :=
  if S i = 8 ∨ S i = 10 then some ((i, -1) :: st)
  else if S i = 9 then (match st with
    | [] => none
    | q :: r => if S q.1 = 8 ∧ q.2 = -1 then some ((q.1, nI i) :: r) else none)
  else if S i = 11 then (match st with
    | [] => none
    | _ :: r => some r)
  else some st
def qw_stk (S : Nat → Int32) : Nat → Option (List (Nat × Int32))
  | 0 => some []
  | i + 1 => match qw_stk S i with
    | none => none
    | some st => qw_step S i st
theorem qw_stk_s {S : Nat → Int32} {i : Nat} {st : List (Nat × Int32)} (h : qw_stk S i = some st) : qw_stk S (i + 1) = qw_step S i st := by
  show (match qw_stk S i with | none => none | some st => qw_step S i st) = _
  rw [h]
theorem qw_stk_n {S : Nat → Int32} {i : Nat} (h : qw_stk S i = none) : qw_stk S (i + 1) = none := by
  show (match qw_stk S i with | none => none | some st => qw_step S i st) = _
  rw [h]
theorem qw_none {S : Nat → Int32} {i : Nat} (h : qw_stk S i = none) : ∀ d, qw_stk S (i + d) = none
  | 0 => h
  | d + 1 => qw_stk_n (qw_none h d)
theorem qw_some {S : Nat → Int32} {n : Nat} {st : List (Nat × Int32)} (h : qw_stk S n = some st) {i : Nat} (hi : i ≤ n) : ∃ s, qw_stk S i = some s := by
  cases e : qw_stk S i with
  | some s => exact ⟨s, rfl⟩
  | none =>
    have := qw_none e (n - i)
    rw [show i + (n - i) = n from by omega, h] at this
    cases this
/-- the four kinds of steps -/
theorem qw_open {S : Nat → Int32} {i : Nat} (st : List (Nat × Int32)) (h : S i = 8 ∨ S i = 10) : qw_step S i st = some ((i, -1) :: st) := by
  unfold qw_step; rw [if_pos h]
theorem qw_plain {S : Nat → Int32} {i : Nat} (st : List (Nat × Int32)) (h8 : ¬ S i = 8) (h9 : ¬ S i = 9) (h10 : ¬ S i = 10) (h11 : ¬ S i = 11) : qw_step S i st = some st := by
  unfold qw_step; rw [if_neg (fun z => z.elim h8 h10), if_neg h9, if_neg h11]
theorem qw_else {S : Nat → Int32} {i : Nat} {st st' : List (Nat × Int32)} (h : S i = 9) (hs : qw_step S i st = some st') : ∃ q r, st = q :: r ∧ S q.1 = 8 ∧ q.2 = -1 ∧ st' = (q.1, nI i) :: r := by
  unfold qw_step at hs
  rw [if_neg (by rw [h]; decide), if_pos h] at hs
  match st, hs with
  | [], hs => cases hs
  | q :: r, hs =>
    dsimp only at hs
    by_cases c : S q.1 = 8 ∧ q.2 = -1
    · rw [if_pos c] at hs
      exact ⟨q, r, rfl, c.1, c.2, (Option.some.inj hs).symm⟩
    · rw [if_neg c] at hs; cases hs
theorem qw_else1 {S : Nat → Int32} {i : Nat} {q : Nat × Int32} {r : List (Nat × Int32)} (h : S i = 9) (c : S q.1 = 8 ∧ q.2 = -1) : qw_step S i (q :: r) = some ((q.1, nI i) :: r) := by
  unfold qw_step
  rw [if_neg (by rw [h]; decide), if_pos h]
  dsimp only
  rw [if_pos c]
theorem qw_else0 {S : Nat → Int32} {i : Nat} {st : List (Nat × Int32)} (h : S i = 9) (c : ∀ q r, st = q :: r → ¬ (S q.1 = 8 ∧ q.2 = -1)) : qw_step S i st = none := by
  unfold qw_step
  rw [if_neg (by rw [h]; decide), if_pos h]
  match st, c with
  | [], _ => rfl
  | q :: r, c => dsimp only; rw [if_neg (c q r rfl)]
theorem qw_end {S : Nat → Int32} {i : Nat} {st st' : List (Nat × Int32)} (h : S i = 11) (hs : qw_step S i st = some st') : ∃ q, st = q :: st' := by
  unfold qw_step at hs
  rw [if_neg (by rw [h]; decide), if_neg (by rw [h]; decide), if_pos h] at hs
  match st, hs with
  | [], hs => cases hs
  | q :: r, hs => dsimp only at hs; cases hs; exact ⟨q, rfl⟩
theorem qw_end1 {S : Nat → Int32} {i : Nat} {q : Nat × Int32} {r : List (Nat × Int32)} (h : S i = 11) : qw_step S i (q :: r) = some r := by
  unfold qw_step
  rw [if_neg (by rw [h]; decide), if_neg (by rw [h]; decide), if_pos h]
theorem qw_end0 {S : Nat → Int32} {i : Nat} (h : S i = 11) : qw_step S i [] = none := by
  unfold qw_step
  rw [if_neg (by rw [h]; decide), if_neg (by rw [h]; decide), if_pos h]
/-- a good stack: lines below, falling, that are IF or LOOP; an ELSE lies between -/
def qw_good (S : Nat → Int32) (i : Nat) (st : List (Nat × Int32)) : Prop :=
  st.Pairwise (fun a b => b.1 < a.1) ∧ ∀ q, q ∈ st → q.1 < i ∧ (S q.1 = 8 ∨ S q.1 = 10) ∧ (q.2 = -1 ∨ ∃ e : Nat, q.1 < e ∧ e < i ∧ q.2 = nI e ∧ S e = 9)
theorem qw_good_s {S : Nat → Int32} {i : Nat} {st st' : List (Nat × Int32)} (h : qw_good S i st) (hs : qw_step S i st = some st') : qw_good S (i + 1) st' := by
  obtain ⟨h1, h2⟩ := h
  have up : ∀ q : Nat × Int32, (q.1 < i ∧ (S q.1 = 8 ∨ S q.1 = 10) ∧ (q.2 = -1 ∨ ∃ e : Nat, q.1 < e ∧ e < i ∧ q.2 = nI e ∧ S e = 9)) → (q.1 < i + 1 ∧ (S q.1 = 8 ∨ S q.1 = 10) ∧ (q.2 = -1 ∨ ∃ e : Nat, q.1 < e ∧ e < i + 1 ∧ q.2 = nI e ∧ S e = 9)) := by
    rintro q ⟨a, b, c⟩
    refine ⟨by omega, b, ?_⟩
    rcases c with c | ⟨e, c1, c2, c3, c4⟩
    · exact Or.inl c
    · exact Or.inr ⟨e, c1, by omega, c3, c4⟩
  by_cases c8 : S i = 8 ∨ S i = 10
  · rw [qw_open st c8] at hs
    cases hs
    refine ⟨List.pairwise_cons.mpr ⟨fun b hb => (h2 b hb).1, h1⟩, fun q hq => ?_⟩
    rcases List.mem_cons.mp hq with rfl | hq
    · exact ⟨Nat.lt_succ_self _, c8, Or.inl rfl⟩
    · exact up q (h2 q hq)
  · by_cases c9 : S i = 9
    · obtain ⟨q, r, rfl, a, b, rfl⟩ := qw_else c9 hs
      obtain ⟨p1, p2⟩ := List.pairwise_cons.mp h1
      refine ⟨List.pairwise_cons.mpr ⟨p1, p2⟩, fun z hz => ?_⟩
      rcases List.mem_cons.mp hz with rfl | hz
      · have := (h2 q List.mem_cons_self).1
        exact ⟨by show q.1 < i + 1; omega, Or.inl a, Or.inr ⟨i, this, Nat.lt_succ_self _, rfl, c9⟩⟩
      · exact up z (h2 z (List.mem_cons_of_mem _ hz))
    · by_cases c11 : S i = 11
      · obtain ⟨q, rfl⟩ := qw_end c11 hs
        exact ⟨(List.pairwise_cons.mp h1).2, fun z hz => up z (h2 z (List.mem_cons_of_mem _ hz))⟩
      · rw [qw_plain st (fun z => c8 (Or.inl z)) c9 (fun z => c8 (Or.inr z)) c11] at hs
        cases hs
        exact ⟨h1, fun z hz => up z (h2 z hz)⟩
theorem qw_goodAt {S : Nat → Int32} : ∀ {i : Nat} {st : List (Nat × Int32)}, qw_stk S i = some st → qw_good S i st
  | 0, st, h => by
    cases h
    exact ⟨List.Pairwise.nil, fun q hq => by cases hq⟩
  | i + 1, st, h => by
    obtain ⟨s, hs⟩ := qw_some h (Nat.le_succ i)
    rw [qw_stk_s hs] at h
    exact qw_good_s (qw_goodAt hs) h
/-- what is open is closed in the end, once -/
theorem qw_closed {S : Nat → Int32} {n : Nat} (hn : qw_stk S n = some []) : ∀ (d i : Nat) (st : List (Nat × Int32)) (q : Nat × Int32), i + d = n → qw_stk S i = some st → q ∈ st → ∃ (e : Nat) (q' : Nat × Int32) (r : List (Nat × Int32)), i ≤ e ∧ e < n ∧ S e = 11 ∧ qw_stk S e = some (q' :: r) ∧ q'.1 = q.1
  | 0, i, st, q, hd, hi, hq => by
    rw [show i = n from by omega, hn] at hi
    cases hi; cases hq
  | d + 1, i, st, q, hd, hi, hq => by
    obtain ⟨st', hs'⟩ := qw_some hn (show i + 1 ≤ n by omega)
    have hs := hs'
    rw [qw_stk_s hi] at hs
    have go : ∀ q2 : Nat × Int32, q2 ∈ st' → q2.1 = q.1 → ∃ (e : Nat) (q' : Nat × Int32) (r : List (Nat × Int32)), i ≤ e ∧ e < n ∧ S e = 11 ∧ qw_stk S e = some (q' :: r) ∧ q'.1 = q.1 := by
      intro q2 hq2 e2
      obtain ⟨e, q', r, a, b, c, f, g⟩ := qw_closed hn d (i + 1) st' q2 (by omega) hs' hq2
      exact ⟨e, q', r, by omega, b, c, f, g.trans e2⟩
    by_cases c8 : S i = 8 ∨ S i = 10
    · rw [qw_open st c8] at hs
      cases hs
      exact go q (List.mem_cons_of_mem _ hq) rfl
    · by_cases c9 : S i = 9
      · obtain ⟨z, r, rfl, a, b, rfl⟩ := qw_else c9 hs
        rcases List.mem_cons.mp hq with rfl | hq
        · exact go _ List.mem_cons_self rfl
        · exact go q (List.mem_cons_of_mem _ hq) rfl
      · by_cases c11 : S i = 11
        · obtain ⟨z, rfl⟩ := qw_end c11 hs
          rcases List.mem_cons.mp hq with rfl | hq
          · exact ⟨i, q, st', Nat.le_refl _, by omega, c11, hi, rfl⟩
          · exact go q hq rfl
        · rw [qw_plain st (fun z => c8 (Or.inl z)) c9 (fun z => c8 (Or.inr z)) c11] at hs
          cases hs
          exact go q hq rfl
/-- what isn't open any more never is again -/
theorem qw_gone {S : Nat → Int32} {o : Nat} : ∀ (d i : Nat) (st st' : List (Nat × Int32)), o < i → qw_stk S i = some st → (∀ q, q ∈ st → ¬ q.1 = o) → qw_stk S (i + d) = some st' → ∀ q, q ∈ st' → ¬ q.1 = o
  | 0, i, st, st', hi, h1, h2, h3 => by
    rw [Nat.add_zero, h1] at h3
    cases h3; exact h2
  | d + 1, i, st, st', hi, h1, h2, h3 => by
    obtain ⟨s, hs⟩ := qw_some h3 (show i + 1 ≤ i + (d + 1) by omega)
    have hs2 := hs
    rw [qw_stk_s h1] at hs2
    refine qw_gone d (i + 1) s st' (by omega) hs ?_ (by rw [show i + 1 + d = i + (d + 1) from by omega]; exact h3)
    intro q hq
    by_cases c8 : S i = 8 ∨ S i = 10
    · rw [qw_open st c8] at hs2
      cases hs2
      rcases List.mem_cons.mp hq with rfl | hq
      · show ¬ i = o
        omega
      · exact h2 q hq
    · by_cases c9 : S i = 9
      · obtain ⟨z, r, rfl, a, b, rfl⟩ := qw_else c9 hs2
        rcases List.mem_cons.mp hq with rfl | hq
        · exact h2 z List.mem_cons_self
        · exact h2 q (List.mem_cons_of_mem _ hq)
      · by_cases c11 : S i = 11
        · obtain ⟨z, rfl⟩ := qw_end c11 hs2
          exact h2 q (List.mem_cons_of_mem _ hq)
        · rw [qw_plain st (fun z => c8 (Or.inl z)) c9 (fun z => c8 (Or.inr z)) c11] at hs2
          cases hs2
          exact h2 q hq
theorem qw_once {S : Nat → Int32} {e1 e2 : Nat} {q1 q2 : Nat × Int32} {r1 r2 : List (Nat × Int32)} (h1 : S e1 = 11) (s1 : qw_stk S e1 = some (q1 :: r1)) (s2 : qw_stk S e2 = some (q2 :: r2)) (hq : q1.1 = q2.1) : e2 ≤ e1 := by
  rcases Nat.lt_or_ge e1 e2 with h | h
  · have g := qw_goodAt s1
    have h3 : qw_stk S (e1 + 1) = some r1 := by rw [qw_stk_s s1, qw_end1 h1]
    have h4 := qw_gone (o := q1.1) (e2 - (e1 + 1)) (e1 + 1) r1 (q2 :: r2) (by have := (g.2 q1 List.mem_cons_self).1; omega) h3 (fun q hq => by have := (List.pairwise_cons.mp g.1).1 q hq; omega) (by rw [show e1 + 1 + (e2 - (e1 + 1)) = e2 from by omega]; exact s2) q2 List.mem_cons_self
    exact absurd hq.symm h4
  · exact h
/-- the next lines of a line -/
def qw_nx (S : Nat → Int32) (n j : Nat) (f s : Int32) : Prop :=
  (S j = 8 ∧ f = nI (j + 1) ∧ ∃ (e : Nat) (q : Nat × Int32) (r : List (Nat × Int32)), e < n ∧ S e = 11 ∧ qw_stk S e = some (q :: r) ∧ q.1 = j ∧ s = (if q.2 = -1 then nI e else q.2 + 1)) ∨
  (S j = 9 ∧ s = -1 ∧ ∃ (q : Nat × Int32) (r : List (Nat × Int32)) (e : Nat) (q' : Nat × Int32) (r' : List (Nat × Int32)), qw_stk S j = some (q :: r) ∧ e < n ∧ S e = 11 ∧ qw_stk S e = some (q' :: r') ∧ q'.1 = q.1 ∧ f = nI e) ∨
  (S j = 11 ∧ ∃ (q : Nat × Int32) (r : List (Nat × Int32)), qw_stk S j = some (q :: r) ∧ ((S q.1 = 10 ∧ f = nI (q.1 + 1) ∧ s = nI (j + 1)) ∨ (¬ S q.1 = 10 ∧ f = nI (j + 1) ∧ s = -1))) ∨
  (S j = 15 ∧ f = -1 ∧ s = -1) ∨
  (¬ S j = 8 ∧ ¬ S j = 9 ∧ ¬ S j = 11 ∧ ¬ S j = 15 ∧ f = nI (j + 1) ∧ s = -1)
/-- an edge -/
def qw_E (f s : Nat → Int32) (j t : Nat) : Prop := f j = nI t ∨ s j = nI t
