/-! A RUN: what is done with nodes keeps the counts -/
theorem qb_sum_ge {f : Nat → Nat} {i : Nat} : ∀ n, i < n → f i ≤ qb_sum f n
  | 0, h => by omega
  | n + 1, h => by
    show f i ≤ qb_sum f n + f n
    by_cases z : i = n
    · rw [z]; omega
    · have := qb_sum_ge (f := f) n (show i < n by omega)
      omega
section
variable {pv nm K : Nat} {fk vc vl bh bv : Nat → Int32} {ng : Int32} {pd : Nat → Nat}
theorem qr_alive {i j : Nat} (h : qr_N pv fk nm ng vc vl bh bv pd K) (hK : K < 2 ^ 30) (hi : i < 24) (c : qp_kd pv fk i = 5) (d : ¬ bh i = 0) (e : bv i = nI j) (hj : j < nm) : ¬ vc j = 0 := by
  obtain ⟨a, a1, a2, a3⟩ := h.1 j hj
  have h1 : 1 ≤ qr_ref pv fk bh bv j := by
    have := qb_sum_ge (f := fun i => if qp_kd pv fk i = 5 ∧ ¬ bh i = 0 ∧ bv i = nI j then 1 else 0) 24 hi
    have e2 : (if qp_kd pv fk i = 5 ∧ ¬ bh i = 0 ∧ bv i = nI j then 1 else 0) = 1 := if_pos ⟨c, d, e⟩
    exact Nat.le_trans (Nat.le_of_eq e2.symm) this
  rw [a1]
  exact nI_ne0 (by omega) (by omega)
theorem qr_N_drop {k : Nat} {bh' : Nat → Int32} {pd' : Nat → Nat} (h : qr_N pv fk nm ng vc vl bh bv pd K) (hk : k < 24) (c : qp_kd pv fk k = 5) (hb : ∀ i, bh' i = if i = k then 0 else bh i)
    (hp : ∀ n, n < nm → pd' n ≤ pd n + (if ¬ bh k = 0 ∧ bv k = nI n then 1 else 0)) : qr_N pv fk nm ng vc vl bh' bv pd' K := by
  refine ⟨fun n hn => ?_, fun i hi ci d => ?_, h.2.2⟩
  · obtain ⟨a, a1, a2, a3⟩ := h.1 n hn
    have e := qr_ref_at (pv := pv) (fk := fk) (bh := bh) (bv := bv) (bh' := bh') (bv' := bv) (n := n) hk fun i hi hne _ => ⟨by rw [hb i, if_neg hne], rfl⟩
    rw [if_neg (fun w : qp_kd pv fk k = 5 ∧ ¬ bh' k = 0 ∧ bv k = nI n => w.2.1 (by rw [hb k, if_pos rfl]))] at e
    have e2 : (if qp_kd pv fk k = 5 ∧ ¬ bh k = 0 ∧ bv k = nI n then 1 else 0) = (if ¬ bh k = 0 ∧ bv k = nI n then 1 else 0) := by simp only [c, true_and]
    rw [e2] at e
    have := hp n hn
    exact ⟨a, a1, a2, by omega⟩
  · have hne : ¬ i = k := fun z => d (by rw [hb i, if_pos z])
    rw [hb i, if_neg hne] at d
    exact h.2.1 i hi ci d
theorem qr_N_give {k j : Nat} {bh' bv' : Nat → Int32} {pd' : Nat → Nat} (h : qr_N pv fk nm ng vc vl bh bv pd K) (hm : nm ≤ 500) (hk : k < 24) (c : qp_kd pv fk k = 5) (hj : j < nm) (hb : ∀ i, bh' i = if i = k then 1 else bh i) (hbv : ∀ i, bv' i = if i = k then nI j else bv i)
    (hp : ∀ n, n < nm → pd' n + (if n = j then 1 else 0) ≤ pd n + (if ¬ bh k = 0 ∧ bv k = nI n then 1 else 0)) : qr_N pv fk nm ng vc vl bh' bv' pd' K := by
  refine ⟨fun n hn => ?_, fun i hi ci d => ?_, h.2.2⟩
  · obtain ⟨a, a1, a2, a3⟩ := h.1 n hn
    have e := qr_ref_at (pv := pv) (fk := fk) (bh := bh) (bv := bv) (bh' := bh') (bv' := bv') (n := n) hk fun i hi hne _ => ⟨by rw [hb i, if_neg hne], by rw [hbv i, if_neg hne]⟩
    have e2 : (if qp_kd pv fk k = 5 ∧ ¬ bh k = 0 ∧ bv k = nI n then 1 else 0) = (if ¬ bh k = 0 ∧ bv k = nI n then 1 else 0) := by simp only [c, true_and]
    have e3 : (if qp_kd pv fk k = 5 ∧ ¬ bh' k = 0 ∧ bv' k = nI n then 1 else 0) = (if n = j then 1 else 0) := by
      rw [hb k, if_pos rfl, hbv k, if_pos rfl]
      by_cases z : n = j
      · rw [if_pos z, if_pos ⟨c, by decide, by rw [z]⟩]
      · rw [if_neg z, if_neg (fun w => z ((nI_eq (by omega) (by omega)).mp w.2.2).symm)]
    rw [e2, e3] at e
    have := hp n hn
    exact ⟨a, a1, a2, by omega⟩
  · by_cases z : i = k
    · exact ⟨j, hj, by rw [hbv i, if_pos z]⟩
    · rw [hb i, if_neg z] at d
      rw [hbv i, if_neg z]
      exact h.2.1 i hi ci d
theorem qr_N_up {j : Nat} {pd' : Nat → Nat} (h : qr_N pv fk nm ng vc vl bh bv pd K) (hK : K < 2 ^ 30) (hj : j < nm) (hv : ¬ vc j = 0) (hp : ∀ n, n < nm → pd' n ≤ pd n + (if n = j then 1 else 0)) : qr_N pv fk nm ng (upd vc j (vc j + 1)) vl bh bv pd' (K + 1) := by
  obtain ⟨b, b1, b2, b3⟩ := h.1 j hj
  have hz : ∀ m, m < nm → (upd vc j (vc j + 1) m = 0 ↔ vc m = 0) := by
    intro m hm
    rw [qb_up]
    by_cases z : m = j
    · rw [if_pos z, z, b1, nI_1]
      exact ⟨fun k => absurd k (nI_ne0 (by omega) (by omega)), fun k => absurd (by rw [b1]; exact k) hv⟩
    · rw [if_neg z]
  refine ⟨fun n hn => ?_, h.2.1, h.2.2.1, by rw [h.2.2.2, qr_dead_eq hz]⟩
  obtain ⟨a, a1, a2, a3⟩ := h.1 n hn
  have e := qr_lk_eq (nm := nm) (n := n) (vc := vc) (vl := vl) (vc' := upd vc j (vc j + 1)) (vl' := vl) fun m hm => ⟨hz m hm, rfl⟩
  have := hp n hn
  by_cases z : n = j
  · rw [if_pos z] at this
    exact ⟨a + 1, by rw [z, qb_us, ← nI_1, ← a1, z], by omega, by omega⟩
  · rw [if_neg z] at this
    exact ⟨a, by rw [qb_un z]; exact a1, by omega, by omega⟩
theorem qr_N_new {pd' : Nat → Nat} (h : qr_N pv fk nm ng vc vl bh bv pd K) (hm : nm < 500) (hK : 1 ≤ K) (hp : ∀ n, n < nm → pd' n ≤ pd n) (hp1 : pd' nm ≤ 1) : qr_N pv fk (nm + 1) ng (upd vc nm 1) (upd vl nm (-1)) bh bv pd' K := by
  have el : ∀ n, qr_lk (nm + 1) (upd vc nm 1) (upd vl nm (-1)) n = qr_lk nm vc vl n + (if ¬ (1 : Int32) = 0 ∧ (-1 : Int32) = nI n then 1 else 0) := by
    intro n
    show qb_sum (fun m => if ¬ upd vc nm 1 m = 0 ∧ upd vl nm (-1) m = nI n then 1 else 0) nm + (if ¬ upd vc nm 1 nm = 0 ∧ upd vl nm (-1) nm = nI n then 1 else 0) = _
    rw [qb_us, qb_us]
    congr 1
    exact qr_lk_eq (vc := vc) (vl := vl) (vc' := upd vc nm 1) (vl' := upd vl nm (-1)) fun m hm => ⟨by rw [qb_un (by omega)], by rw [qb_un (by omega)]⟩
  have ed : qr_dead (nm + 1) (upd vc nm 1) = qr_dead nm vc := by
    show qb_sum (fun m => if upd vc nm 1 m = 0 then 1 else 0) nm + (if upd vc nm 1 nm = 0 then 1 else 0) = _
    rw [qb_us, if_neg (show ¬ (1 : Int32) = 0 by decide), Nat.add_zero]
    exact qr_dead_eq (vc := vc) (vc' := upd vc nm 1) fun m hm => by rw [qb_un (by omega)]
  refine ⟨fun n hn => ?_, fun i hi ci d => ?_, fun m hmm => ?_, by rw [ed]; exact h.2.2.2⟩
  · rw [el n, if_neg (fun w => absurd w.2.symm (qb_nem1 (by omega)))]
    by_cases z : n = nm
    · subst z
      refine ⟨1, qb_us _ _ _, hK, ?_⟩
      have r0 : qr_ref pv fk bh bv n = 0 := qb_sum_0 24 fun i hi => by
        rw [if_neg]
        rintro ⟨ci, d, e⟩
        obtain ⟨m, m1, m2⟩ := h.2.1 i hi ci d
        have := (nI_eq (by omega) (by omega)).mp (m2.symm.trans e)
        omega
      have l0 : qr_lk n vc vl n = 0 := qb_sum_0 n fun m hm => by
        rw [if_neg]
        rintro ⟨-, e⟩
        rcases h.2.2.1 m hm with y | ⟨x, x1, x2⟩
        · exact absurd (e.symm.trans y) (qb_nem1 (by omega))
        · have := (nI_eq (by omega) (by omega)).mp (x2.symm.trans e)
          omega
      rw [r0, l0]; omega
    · obtain ⟨a, a1, a2, a3⟩ := h.1 n (by omega)
      have := hp n (by omega)
      exact ⟨a, by rw [qb_un z]; exact a1, a2, by omega⟩
  · obtain ⟨m, m1, m2⟩ := h.2.1 i hi ci d
    exact ⟨m, by omega, m2⟩
  · by_cases z : m = nm
    · exact Or.inl (by rw [z, qb_us])
    · rw [qb_un z]
      rcases h.2.2.1 m (by omega) with y | ⟨x, x1, x2⟩
      · exact Or.inl y
      · exact Or.inr ⟨x, by omega, x2⟩
theorem qr_N_link {j t : Nat} {pd' : Nat → Nat} (h : qr_N pv fk nm ng vc vl bh bv pd K) (hm : nm ≤ 500) (hj : j < nm) (ht : t < nm) (hv : ¬ vc j = 0) (hp : ∀ n, n < nm → pd' n + (if n = t then 1 else 0) ≤ pd n + (if vl j = nI n then 1 else 0)) : qr_N pv fk nm ng vc (upd vl j (nI t)) bh bv pd' K := by
  refine ⟨fun n hn => ?_, h.2.1, fun m hmm => ?_, h.2.2.2⟩
  · obtain ⟨a, a1, a2, a3⟩ := h.1 n hn
    have e := qr_lk_at (nm := nm) (j := j) (n := n) (vc := vc) (vl := vl) (vc' := vc) (vl' := upd vl j (nI t)) hj fun m hm hne => ⟨Iff.rfl, by rw [qb_un hne]⟩
    have e2 : (if ¬ vc j = 0 ∧ vl j = nI n then 1 else 0) = (if vl j = nI n then 1 else 0) := by simp only [hv, not_false_eq_true, true_and]
    have e3 : (if ¬ vc j = 0 ∧ upd vl j (nI t) j = nI n then 1 else 0) = (if n = t then 1 else 0) := by
      rw [qb_us]
      by_cases z : n = t
      · rw [if_pos z, if_pos ⟨hv, by rw [z]⟩]
      · rw [if_neg z, if_neg (fun w => z ((nI_eq (by omega) (by omega)).mp w.2).symm)]
    rw [e2, e3] at e
    have := hp n hn
    exact ⟨a, a1, a2, by omega⟩
  · by_cases z : m = j
    · exact Or.inr ⟨t, ht, by rw [z, qb_us]⟩
    · rw [qb_un z]; exact h.2.2.1 m hmm
/-- a node is let down: it may come to its end -/
theorem qr_N_let {j : Nat} {pd0 : Nat → Nat} (h : qr_N pv fk nm ng vc vl bh bv pd K) (hm : nm ≤ 500) (hK : K < 2 ^ 30) (hj : j < nm) (hp : ∀ n, n < nm → pd0 n + (if n = j then 1 else 0) ≤ pd n) :
    (vc j - 1 = 0 → qr_N pv fk nm (ng + 1) (upd vc j (vc j - 1)) vl bh bv (fun n => pd0 n + (if vl j = nI n then 1 else 0)) K) ∧
    (¬ vc j - 1 = 0 → qr_N pv fk nm ng (upd vc j (vc j - 1)) vl bh bv pd0 K) := by
  obtain ⟨b, b1, b2, b3⟩ := h.1 j hj
  have hpj := hp j hj
  rw [if_pos rfl] at hpj
  obtain ⟨b', rfl⟩ : ∃ b', b = b' + 1 := ⟨b - 1, by omega⟩
  have ev : vc j - 1 = nI b' := by rw [b1]; exact nI_pred b'
  have hv : ¬ vc j = 0 := by rw [b1]; exact nI_ne0 (by omega) (by omega)
  refine ⟨fun z => ?_, fun z => ?_⟩
  · have hb0 : b' = 0 := by
      rw [ev] at z
      exact (nI_eq (by omega) (by omega)).mp (z.trans nI_0.symm)
    subst hb0
    have el : ∀ n, qr_lk nm (upd vc j (vc j - 1)) vl n + (if vl j = nI n then 1 else 0) = qr_lk nm vc vl n := by
      intro n
      have e := qr_lk_at (nm := nm) (j := j) (n := n) (vc := vc) (vl := vl) (vc' := upd vc j (vc j - 1)) (vl' := vl) hj fun m hm hne => ⟨by rw [qb_un hne], rfl⟩
      rw [qb_us, if_neg (fun w : ¬ vc j - 1 = 0 ∧ vl j = nI n => w.1 z)] at e
      have e2 : (if ¬ vc j = 0 ∧ vl j = nI n then 1 else 0) = (if vl j = nI n then 1 else 0) := by simp only [hv, not_false_eq_true, true_and]
      rw [e2] at e
      exact e
    have ed := qr_dead_at (nm := nm) (j := j) (vc := vc) (vc' := upd vc j (vc j - 1)) hj fun m hm hne => by rw [qb_un hne]
    rw [qb_us, if_pos z, if_neg hv] at ed
    refine ⟨fun n hn => ?_, h.2.1, h.2.2.1, ?_⟩
    · obtain ⟨a, a1, a2, a3⟩ := h.1 n hn
      have e := el n
      have hpn := hp n hn
      by_cases y : n = j
      · subst y
        rw [if_pos rfl] at hpn
        refine ⟨0, by rw [qb_us]; exact z, by omega, ?_⟩
        dsimp only
        omega
      · rw [if_neg y] at hpn
        refine ⟨a, by rw [qb_un y]; exact a1, a2, ?_⟩
        dsimp only
        omega
    · rw [h.2.2.2, nI_1]
      congr 1
      omega
  · have hz : ∀ m, m < nm → (upd vc j (vc j - 1) m = 0 ↔ vc m = 0) := by
      intro m hm
      rw [qb_up]
      by_cases y : m = j
      · rw [if_pos y, y]
        exact ⟨fun k => absurd k z, fun k => absurd k hv⟩
      · rw [if_neg y]
    refine ⟨fun n hn => ?_, h.2.1, h.2.2.1, by rw [h.2.2.2, qr_dead_eq hz]⟩
    obtain ⟨a, a1, a2, a3⟩ := h.1 n hn
    have e := qr_lk_eq (nm := nm) (n := n) (vc := vc) (vl := vl) (vc' := upd vc j (vc j - 1)) (vl' := vl) fun m hm => ⟨hz m hm, rfl⟩
    have hpn := hp n hn
    by_cases y : n = j
    · subst y
      rw [if_pos rfl] at hpn
      exact ⟨b', by rw [qb_us]; exact ev, by omega, by omega⟩
    · rw [if_neg y] at hpn
      exact ⟨a, by rw [qb_un y]; exact a1, a2, by omega⟩
end
