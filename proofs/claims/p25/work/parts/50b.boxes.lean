/-! A RUN: boxes and nodes counted -/
section
variable {pv : Nat} {fk : Nat → Int32}
/-- the boxes that are there -/
def qr_cb (pv : Nat) (fk bh : Nat → Int32) : Nat := qb_sum (fun i => if qp_kd pv fk i = 1 ∧ ¬ bh i = 0 then 1 else 0) 24
theorem qr_cb_le (bh : Nat → Int32) : qr_cb pv fk bh ≤ 24 := by
  have := qb_sum_bd (f := fun i => if qp_kd pv fk i = 1 ∧ ¬ bh i = 0 then 1 else 0) (c := 1) 24 fun i _ => by
    show (if qp_kd pv fk i = 1 ∧ ¬ bh i = 0 then 1 else 0) ≤ 1
    split <;> omega
  unfold qr_cb
  omega
theorem qr_lv_kd {k i : Nat} (hK : qp_K pv fk) (hv : pv ≤ 8) (hk : k < 24) (h : qb_t (qr_lv pv fk k) i = true) : (qp_kd pv fk i = 1 ↔ (qp_kd pv fk k = 1 ∨ qp_kd pv fk k = 2)) ∧ (qp_kd pv fk i = 5 ↔ qp_kd pv fk k = 5) ∧ i < 24 := by
  have hl := (qp_leaves hv (by omega)).mp h
  obtain ⟨a, b, c, d, e⟩ := qp_lf_kd hK hl
  refine ⟨?_, ?_, by omega⟩
  · rcases e with e | ⟨e1, e2, e3⟩
    · rw [← e]
      exact ⟨Or.inl, fun z => z.elim id fun z => absurd z d⟩
    · rw [e3, e2]
      exact ⟨fun _ => Or.inr rfl, fun _ => rfl⟩
  · rcases e with e | ⟨e1, e2, e3⟩
    · rw [← e]
    · rw [e3, e2]
      exact ⟨fun z => absurd z (by decide), fun z => absurd z (by decide)⟩
/-- one or nothing of each leaf -/
theorem qr_cb_set {k : Nat} {bh bh' : Nat → Int32} (hK : qp_K pv fk) (hv : pv ≤ 8) (hk : k < 24) (c : qp_kd pv fk k = 1 ∨ qp_kd pv fk k = 2) (h : ∀ i, bh' i = if qb_t (qr_lv pv fk k) i = true then 1 else bh i) :
    qr_cb pv fk bh' + qr_hd (qr_lv pv fk k) bh = qr_cb pv fk bh + (if qp_kd pv fk k = 2 then 2 else 1) := by
  have e1 : qr_hd (qr_lv pv fk k) (fun _ => 1) = (if qp_kd pv fk k = 2 then 2 else 1) := by
    by_cases d : qp_kd pv fk k = 2
    · rw [qr_hd2 hv d, if_pos d]; rfl
    · rw [qr_hd1 hv hk d (by rcases c with c | c <;> (rw [c]; decide)), if_neg d]; rfl
  rw [← e1]
  unfold qr_cb qr_hd
  rw [← qb_sum_add, ← qb_sum_add]
  refine qb_sum_congr 24 fun i hi => ?_
  try dsimp only
  rw [h i]
  by_cases z : qb_t (qr_lv pv fk k) i = true
  · have ki : qp_kd pv fk i = 1 := (qr_lv_kd hK hv hk z).1.mpr c
    rw [if_pos z, if_pos (⟨ki, by decide⟩ : qp_kd pv fk i = 1 ∧ ¬ (1 : Int32) = 0), if_pos (⟨z, by decide⟩ : qb_t (qr_lv pv fk k) i = true ∧ ¬ (1 : Int32) = 0)]
    by_cases y : bh i = 0
    · rw [if_neg (fun w => w.2 y), if_neg (fun w => w.2 y)]
    · rw [if_pos ⟨z, y⟩, if_pos ⟨ki, y⟩]
  · rw [if_neg z, if_neg (fun w : qb_t (qr_lv pv fk k) i = true ∧ ¬ bh i = 0 => z w.1), if_neg (fun w : qb_t (qr_lv pv fk k) i = true ∧ ¬ (1 : Int32) = 0 => z w.1)]
theorem qr_cb_clr {k : Nat} {bh bh' : Nat → Int32} (hK : qp_K pv fk) (hv : pv ≤ 8) (hk : k < 24) (c : qp_kd pv fk k = 1 ∨ qp_kd pv fk k = 2) (h : ∀ i, bh' i = if qb_t (qr_lv pv fk k) i = true then 0 else bh i) :
    qr_cb pv fk bh' + qr_hd (qr_lv pv fk k) bh = qr_cb pv fk bh := by
  unfold qr_cb qr_hd
  rw [← qb_sum_add]
  refine qb_sum_congr 24 fun i hi => ?_
  try dsimp only
  rw [h i]
  by_cases z : qb_t (qr_lv pv fk k) i = true
  · have ki : qp_kd pv fk i = 1 := (qr_lv_kd hK hv hk z).1.mpr c
    rw [if_pos z, if_neg (fun w => w.2 rfl)]
    by_cases y : bh i = 0
    · rw [if_neg (fun w => w.2 y), if_neg (fun w => w.2 y)]
    · rw [if_pos ⟨z, y⟩, if_pos ⟨ki, y⟩]
  · rw [if_neg z, if_neg (fun w : qb_t (qr_lv pv fk k) i = true ∧ ¬ bh i = 0 => z w.1)]; omega
/-- a place of no boxes -/
theorem qr_cb_no {k : Nat} {bh bh' : Nat → Int32} (hK : qp_K pv fk) (hv : pv ≤ 8) (hk : k < 24) (c : ¬ (qp_kd pv fk k = 1 ∨ qp_kd pv fk k = 2)) (h : ∀ i, ¬ qb_t (qr_lv pv fk k) i = true → bh' i = bh i) : qr_cb pv fk bh' = qr_cb pv fk bh := by
  refine qb_sum_congr 24 fun i hi => ?_
  try dsimp only
  by_cases z : qb_t (qr_lv pv fk k) i = true
  · have ki : ¬ qp_kd pv fk i = 1 := fun w => c ((qr_lv_kd hK hv hk z).1.mp w)
    rw [if_neg (fun w => ki w.1), if_neg (fun w => ki w.1)]
  · rw [h i z]
theorem qr_cb_eq {bh bh' : Nat → Int32} (h : ∀ i, i < 24 → (bh' i = 0 ↔ bh i = 0)) : qr_cb pv fk bh' = qr_cb pv fk bh := by
  refine qb_sum_congr 24 fun i hi => ?_
  simp only [h i hi]
theorem qr_hd_full {k : Nat} {bh : Nat → Int32} (hv : pv ≤ 8) (hk : k < 24) (c : qp_kd pv fk k = 1 ∨ qp_kd pv fk k = 2) (h : ∀ i, qb_t (qr_lv pv fk k) i = true → ¬ bh i = 0) : qr_hd (qr_lv pv fk k) bh = (if qp_kd pv fk k = 2 then 2 else 1) := by
  by_cases d : qp_kd pv fk k = 2
  · rw [qr_hd2 hv d, if_pos d, if_neg (h _ ((qr_lv2 hv hk d).mpr (Or.inl rfl))), if_neg (h _ ((qr_lv2 hv hk d).mpr (Or.inr rfl)))]
  · have c1 : ¬ qp_kd pv fk k = -1 := by rcases c with c | c <;> (rw [c]; decide)
    rw [qr_hd1 hv hk d c1, if_neg d, if_neg (h _ ((qr_lv1 hv hk d c1).mpr rfl))]
/-! nodes -/
/-- how many variables have node n -/
def qr_ref (pv : Nat) (fk bh bv : Nat → Int32) (n : Nat) : Nat := qb_sum (fun i => if qp_kd pv fk i = 5 ∧ ¬ bh i = 0 ∧ bv i = nI n then 1 else 0) 24
/-- how many nodes that are there are linked to it -/
def qr_lk (nm : Nat) (vc vl : Nat → Int32) (n : Nat) : Nat := qb_sum (fun m => if ¬ vc m = 0 ∧ vl m = nI n then 1 else 0) nm
def qr_dead (nm : Nat) (vc : Nat → Int32) : Nat := qb_sum (fun m => if vc m = 0 then 1 else 0) nm
/-- the counts are not below what points there -/
def qr_N (pv : Nat) (fk : Nat → Int32) (nm : Nat) (ng : Int32) (vc vl bh bv : Nat → Int32) (pd : Nat → Nat) (K : Nat) : Prop :=
  (∀ n, n < nm → ∃ c : Nat, vc n = nI c ∧ c ≤ K ∧ qr_ref pv fk bh bv n + qr_lk nm vc vl n + pd n ≤ c) ∧
  (∀ i, i < 24 → qp_kd pv fk i = 5 → ¬ bh i = 0 → ∃ n, n < nm ∧ bv i = nI n) ∧
  (∀ m, m < nm → vl m = -1 ∨ ∃ n, n < nm ∧ vl m = nI n) ∧
  ng = nI (qr_dead nm vc)
theorem qr_N_w {nm K K' : Nat} {ng : Int32} {vc vl bh bv : Nat → Int32} {pd pd' : Nat → Nat} (h : qr_N pv fk nm ng vc vl bh bv pd K) (hK : K ≤ K') (hp : ∀ n, n < nm → pd' n ≤ pd n) : qr_N pv fk nm ng vc vl bh bv pd' K' := by
  refine ⟨fun n hn => ?_, h.2⟩
  obtain ⟨c, c1, c2, c3⟩ := h.1 n hn
  have := hp n hn
  exact ⟨c, c1, by omega, by omega⟩
/-- the same where counted ones are, and what they have -/
theorem qr_N_bh {nm K : Nat} {ng : Int32} {vc vl bh bv bh' bv' : Nat → Int32} {pd : Nat → Nat} (h : qr_N pv fk nm ng vc vl bh bv pd K) (e : ∀ i, i < 24 → qp_kd pv fk i = 5 → (bh' i = 0 ↔ bh i = 0) ∧ (¬ bh i = 0 → bv' i = bv i)) : qr_N pv fk nm ng vc vl bh' bv' pd K := by
  have er : ∀ n, qr_ref pv fk bh' bv' n = qr_ref pv fk bh bv n := by
    intro n
    refine qb_sum_congr 24 fun i hi => ?_
    try dsimp only
    by_cases c : qp_kd pv fk i = 5
    · obtain ⟨e1, e2⟩ := e i hi c
      by_cases d : bh i = 0
      · rw [if_neg (fun w => w.2.1 (e1.mpr d)), if_neg (fun w => w.2.1 d)]
      · simp only [e2 d, e1]
    · rw [if_neg (fun w => c w.1), if_neg (fun w => c w.1)]
  refine ⟨fun n hn => ?_, fun i hi c d => ?_, h.2.2⟩
  · rw [er n]; exact h.1 n hn
  · obtain ⟨e1, e2⟩ := e i hi c
    have d' : ¬ bh i = 0 := fun z => d (e1.mpr z)
    rw [e2 d']
    exact h.2.1 i hi c d'
/-- one counted place has something else, or nothing -/
theorem qr_ref_at {bh bv bh' bv' : Nat → Int32} {k n : Nat} (hk : k < 24) (h : ∀ i, i < 24 → ¬ i = k → qp_kd pv fk i = 5 → (bh' i = 0 ↔ bh i = 0) ∧ bv' i = bv i) :
    qr_ref pv fk bh' bv' n + (if qp_kd pv fk k = 5 ∧ ¬ bh k = 0 ∧ bv k = nI n then 1 else 0) = qr_ref pv fk bh bv n + (if qp_kd pv fk k = 5 ∧ ¬ bh' k = 0 ∧ bv' k = nI n then 1 else 0) :=
  qb_sum_at (f := fun i => if qp_kd pv fk i = 5 ∧ ¬ bh' i = 0 ∧ bv' i = nI n then 1 else 0) (g := fun i => if qp_kd pv fk i = 5 ∧ ¬ bh i = 0 ∧ bv i = nI n then 1 else 0) 24 hk fun i hi hne => by
    try dsimp only
    by_cases c : qp_kd pv fk i = 5
    · obtain ⟨e1, e2⟩ := h i hi hne c
      simp only [e1, e2]
    · rw [if_neg (fun w => c w.1), if_neg (fun w => c w.1)]
end
theorem qr_isNode {nm n : Nat} (h : n < nm) (hm : nm ≤ 500) : ¬ s_X4_isNode nm (nI n) = 0 := qp_isLine1 (pn := nm) h (by omega)
theorem qr_isNode_of {nm : Nat} {x : Int32} (hm : nm ≤ 500) (h : ¬ s_X4_isNode nm x = 0) : ∃ n, n < nm ∧ x = nI n := qp_isLine_of (pn := nm) (by omega) h
theorem qr_countUp {nm n : Nat} {vc : Nat → Int32} (h : n < nm) (hm : nm ≤ 500) : s_X4_countUp nm vc (nI n) = upd vc n (vc n + 1) := by
  unfold s_X4_countUp
  rw [if_neg (qr_isNode h hm), qb_cl (by omega)]
theorem qr_linkOf {nm n : Nat} {vl : Nat → Int32} (h : n < nm) (hm : nm ≤ 500) : s_X4_linkOf nm vl (nI n) = vl n := by
  unfold s_X4_linkOf
  rw [if_neg (qr_isNode h hm), qb_cl (by omega)]
theorem qr_setLink {nm n : Nat} {vl : Nat → Int32} {x : Int32} (h : n < nm) (hm : nm ≤ 500) : s_X4_setLink nm vl (nI n) x = upd vl n x := by
  unfold s_X4_setLink
  rw [if_neg (qr_isNode h hm), qb_cl (by omega)]
theorem qr_isAtEnd {nm n : Nat} {ng : Int32} {vc : Nat → Int32} (h : n < nm) (hm : nm ≤ 500) : s_X4_isAtEnd nm ng vc (nI n) = if vc n - 1 = 0 then ((upd vc n (vc n - 1), ng + 1), 1) else ((upd vc n (vc n - 1), ng), 0) := by
  unfold s_X4_isAtEnd
  rw [if_neg (qr_isNode h hm), qb_cl (by omega), qb_us]
theorem qr_isAtEnd0 {nm : Nat} {ng x : Int32} {vc : Nat → Int32} (h : s_X4_isNode nm x = 0) : s_X4_isAtEnd nm ng vc x = ((vc, ng), 0) := by
  unfold s_X4_isAtEnd
  rw [if_pos h]
/-- one node's count, and link -/
theorem qr_lk_at {nm j n : Nat} {vc vl vc' vl' : Nat → Int32} (hj : j < nm) (h : ∀ m, m < nm → ¬ m = j → (vc' m = 0 ↔ vc m = 0) ∧ vl' m = vl m) :
    qr_lk nm vc' vl' n + (if ¬ vc j = 0 ∧ vl j = nI n then 1 else 0) = qr_lk nm vc vl n + (if ¬ vc' j = 0 ∧ vl' j = nI n then 1 else 0) :=
  qb_sum_at (f := fun m => if ¬ vc' m = 0 ∧ vl' m = nI n then 1 else 0) (g := fun m => if ¬ vc m = 0 ∧ vl m = nI n then 1 else 0) nm hj fun m hm hne => by
    obtain ⟨e1, e2⟩ := h m hm hne
    simp only [e1, e2]
theorem qr_lk_eq {nm n : Nat} {vc vl vc' vl' : Nat → Int32} (h : ∀ m, m < nm → (vc' m = 0 ↔ vc m = 0) ∧ vl' m = vl m) : qr_lk nm vc' vl' n = qr_lk nm vc vl n :=
  qb_sum_congr nm fun m hm => by
    obtain ⟨e1, e2⟩ := h m hm
    simp only [e1, e2]
theorem qr_dead_at {nm j : Nat} {vc vc' : Nat → Int32} (hj : j < nm) (h : ∀ m, m < nm → ¬ m = j → (vc' m = 0 ↔ vc m = 0)) :
    qr_dead nm vc' + (if vc j = 0 then 1 else 0) = qr_dead nm vc + (if vc' j = 0 then 1 else 0) :=
  qb_sum_at (f := fun m => if vc' m = 0 then 1 else 0) (g := fun m => if vc m = 0 then 1 else 0) nm hj fun m hm hne => by
    simp only [h m hm hne]
theorem qr_dead_le (nm : Nat) (vc : Nat → Int32) : qr_dead nm vc ≤ nm := by
  have := qb_sum_bd (f := fun m => if vc m = 0 then 1 else 0) (c := 1) nm fun i _ => by
    show (if vc i = 0 then 1 else 0) ≤ 1
    split <;> omega
  unfold qr_dead
  omega
theorem qr_dead_eq {nm : Nat} {vc vc' : Nat → Int32} (h : ∀ m, m < nm → (vc' m = 0 ↔ vc m = 0)) : qr_dead nm vc' = qr_dead nm vc :=
  qb_sum_congr nm fun m hm => by
    simp only [h m hm]
