/-! FLOW: the rounds -/
def qf_hv (dgl dll : Nat → Int32) (X : qf_X) (j : Nat) : Int32 := ((X.2.2.1 j) &&& ((dll j) ^^^ (-1))) ||| (dgl j)
def qf_lk (dgl dll : Nat → Int32) (X : qf_X) (j : Nat) : Int32 := ((X.2.2.2.1 j) ||| (dll j)) &&& ((dgl j) ^^^ (-1))
def qf_hb (dbg dg du yo : Nat → Int32) (X : qf_X) (j v : Nat) : Int32 := if ¬ dbg j = 0 ∧ dg j / 3 = nI v then (if yo j = -1 then X.2.2.2.2 (j * 8 + (du j / 3).toNatClampNeg) else (1 : Int32) <<< ((yo j) &&& 31)) else X.2.2.2.2 (j * 8 + v)
/-- lines that give a borrow something give one of the program's, out of a loan or of another one -/
def qf_bor (dbg dg du yo : Nat → Int32) (pv pn : Nat) : Prop := ∀ j, j < pn → ¬ dbg j = 0 → (∃ g, g < pv ∧ dg j / 3 = nI g) ∧ (yo j = -1 → ∃ u, u < pv ∧ du j / 3 = nI u)
def qf_rng (yf ys : Nat → Int32) (pn : Nat) : Prop := ∀ j, j < pn → (yf j = -1 ∨ ∃ t : Nat, t ≤ pn ∧ yf j = nI t) ∧ (ys j = -1 ∨ ∃ t : Nat, t ≤ pn ∧ ys j = nI t)
theorem qf_first {pn j : Nat} {yf : Nat → Int32} (hj : j < pn) (hn : pn ≤ 34) : s_X8_firstAt (-1) pn yf (nI j) = yf j := by
  unfold s_X8_firstAt
  rw [if_neg (show ¬ s_X8_isWhole (-1) = 0 by decide), if_neg (qp_isLine1 hj (by omega)), qb_cl (by omega)]
theorem qf_second {pn j : Nat} {ys : Nat → Int32} (hj : j < pn) (hn : pn ≤ 34) : s_X8_secondAt (-1) pn ys (nI j) = ys j := by
  unfold s_X8_secondAt
  rw [if_neg (show ¬ s_X8_isWhole (-1) = 0 by decide), if_neg (qp_isLine1 hj (by omega)), qb_cl (by omega)]
theorem qf_heldBy {cd : Nat → Int32} {j v : Nat} (hj : j < 34) (hv : v < 8) : s_X0_heldBy cd (nI j) (nI v) = cd (j * 8 + v) := by
  unfold s_X0_heldBy
  rw [if_neg (nI_pos (by omega)), if_neg (show ¬ (34 : Int32) ≤ nI j from nI_ge (b := 34) hj (by omega)), if_neg (nI_pos (by omega)), if_neg (show ¬ (8 : Int32) ≤ nI v from nI_ge (b := 8) hv (by omega))]
  have e : nI j * 8 + nI v = nI (j * 8 + v) := by rw [show (8 : Int32) = nI 8 from rfl, pk_mul, nI_add]
  rw [e, qb_cl (by omega)]
section
variable {dgl dll dbg dg du yo yf ys : Nat → Int32} {pv pn : Nat}
theorem qf_given {cb cd : Nat → Int32} {j : Nat} (hB : qf_bor dbg dg du yo pv pn) (hp : pv ≤ 8) (hn : pn ≤ 34) (hj : j < pn) (hd : ¬ dbg j = 0) (hcb : ∀ v, v < pv → cb v = cd (j * 8 + v)) (X : qf_X) (hX : X.2.2.2.2 = cd) :
    ∀ v, v < pv → s_X0_setHeldByGiven dg du yo cb cd j v = qf_hb dbg dg du yo X j v := by
  intro v hv
  subst hX
  obtain ⟨⟨g, hg, eg⟩, hu⟩ := hB j hj hd
  unfold s_X0_setHeldByGiven qf_hb
  rw [eg, if_neg (qp_ix1 (show g < 8 by omega) (by omega)), qb_cl (show g < 2 ^ 31 by omega)]
  by_cases z : g = v
  · subst z
    have z2 : ¬ dbg j = 0 ∧ (nI g : Int32) = nI g := ⟨hd, rfl⟩
    rw [if_pos z2]
    by_cases y : yo j = -1
    · obtain ⟨u, hu1, hu2⟩ := hu y
      rw [if_pos y, if_pos y, qb_us, hu2, qf_heldBy (by omega) (by omega), qb_cl (by omega)]
    · rw [if_neg y, if_neg y, qb_us]
  · have z2 : ¬ (¬ dbg j = 0 ∧ (nI g : Int32) = nI v) := fun h => z ((nI_eq (by omega) (by omega)).mp h.2)
    rw [if_neg z2]
    by_cases y : yo j = -1
    · rw [if_pos y, qb_un (fun h => z h.symm), hcb v hv]
    · rw [if_neg y, qb_un (fun h => z h.symm), hcb v hv]
/-- what one passing on is -/
theorem qf_pass (hB : qf_bor dbg dg du yo pv pn) (hp : pv ≤ 8) (hn : pn ≤ 34) {j : Nat} (hj : j < pn) (X : qf_X) (eb : Nat → Int32) :
    ∃ (hb : Nat → Int32) (Y Z : qf_X), (∀ v, v < pv → hb v = qf_hb dbg dg du yo X j v) ∧
      s_X0_comeTo pv pn X.1 X.2.1 X.2.2.1 X.2.2.2.1 X.2.2.2.2 hb (yf j) (qf_hv dgl dll X j) (qf_lk dgl dll X j) = Y ∧
      s_X0_comeTo pv pn Y.1 Y.2.1 Y.2.2.1 Y.2.2.2.1 Y.2.2.2.2 hb (ys j) (qf_hv dgl dll X j) (qf_lk dgl dll X j) = Z ∧
      s_X0_passOn dgl dll dbg dg du yo (-1) yf ys pv pn X.1 X.2.1 X.2.2.1 X.2.2.2.1 X.2.2.2.2 eb j = (Z.1, Z.2.1, Z.2.2.1, Z.2.2.2.1, Z.2.2.2.2, hb) := by
  obtain ⟨cr, cw, ch, cl, cd⟩ := X
  have go : ∀ (k v : Nat) (cb : Nat → Int32), v ≤ pv → pv - v < k → (∀ w, w < v → cb w = cd (j * 8 + w)) →
      ∃ hb : Nat → Int32, (∀ v, v < pv → hb v = qf_hb dbg dg du yo (cr, cw, ch, cl, cd) j v) ∧
        sl_X0_passOn_L51 dgl dll dbg dg du yo (-1) yf ys pv pn cr cw ch cl cd j k v cb =
          ((s_X0_comeTo pv pn (s_X0_comeTo pv pn cr cw ch cl cd hb (yf j) (qf_hv dgl dll (cr, cw, ch, cl, cd) j) (qf_lk dgl dll (cr, cw, ch, cl, cd) j)).1 (s_X0_comeTo pv pn cr cw ch cl cd hb (yf j) (qf_hv dgl dll (cr, cw, ch, cl, cd) j) (qf_lk dgl dll (cr, cw, ch, cl, cd) j)).2.1 (s_X0_comeTo pv pn cr cw ch cl cd hb (yf j) (qf_hv dgl dll (cr, cw, ch, cl, cd) j) (qf_lk dgl dll (cr, cw, ch, cl, cd) j)).2.2.1 (s_X0_comeTo pv pn cr cw ch cl cd hb (yf j) (qf_hv dgl dll (cr, cw, ch, cl, cd) j) (qf_lk dgl dll (cr, cw, ch, cl, cd) j)).2.2.2.1 (s_X0_comeTo pv pn cr cw ch cl cd hb (yf j) (qf_hv dgl dll (cr, cw, ch, cl, cd) j) (qf_lk dgl dll (cr, cw, ch, cl, cd) j)).2.2.2.2 hb (ys j) (qf_hv dgl dll (cr, cw, ch, cl, cd) j) (qf_lk dgl dll (cr, cw, ch, cl, cd) j)).1,
           (s_X0_comeTo pv pn (s_X0_comeTo pv pn cr cw ch cl cd hb (yf j) (qf_hv dgl dll (cr, cw, ch, cl, cd) j) (qf_lk dgl dll (cr, cw, ch, cl, cd) j)).1 (s_X0_comeTo pv pn cr cw ch cl cd hb (yf j) (qf_hv dgl dll (cr, cw, ch, cl, cd) j) (qf_lk dgl dll (cr, cw, ch, cl, cd) j)).2.1 (s_X0_comeTo pv pn cr cw ch cl cd hb (yf j) (qf_hv dgl dll (cr, cw, ch, cl, cd) j) (qf_lk dgl dll (cr, cw, ch, cl, cd) j)).2.2.1 (s_X0_comeTo pv pn cr cw ch cl cd hb (yf j) (qf_hv dgl dll (cr, cw, ch, cl, cd) j) (qf_lk dgl dll (cr, cw, ch, cl, cd) j)).2.2.2.1 (s_X0_comeTo pv pn cr cw ch cl cd hb (yf j) (qf_hv dgl dll (cr, cw, ch, cl, cd) j) (qf_lk dgl dll (cr, cw, ch, cl, cd) j)).2.2.2.2 hb (ys j) (qf_hv dgl dll (cr, cw, ch, cl, cd) j) (qf_lk dgl dll (cr, cw, ch, cl, cd) j)).2.1,
           (s_X0_comeTo pv pn (s_X0_comeTo pv pn cr cw ch cl cd hb (yf j) (qf_hv dgl dll (cr, cw, ch, cl, cd) j) (qf_lk dgl dll (cr, cw, ch, cl, cd) j)).1 (s_X0_comeTo pv pn cr cw ch cl cd hb (yf j) (qf_hv dgl dll (cr, cw, ch, cl, cd) j) (qf_lk dgl dll (cr, cw, ch, cl, cd) j)).2.1 (s_X0_comeTo pv pn cr cw ch cl cd hb (yf j) (qf_hv dgl dll (cr, cw, ch, cl, cd) j) (qf_lk dgl dll (cr, cw, ch, cl, cd) j)).2.2.1 (s_X0_comeTo pv pn cr cw ch cl cd hb (yf j) (qf_hv dgl dll (cr, cw, ch, cl, cd) j) (qf_lk dgl dll (cr, cw, ch, cl, cd) j)).2.2.2.1 (s_X0_comeTo pv pn cr cw ch cl cd hb (yf j) (qf_hv dgl dll (cr, cw, ch, cl, cd) j) (qf_lk dgl dll (cr, cw, ch, cl, cd) j)).2.2.2.2 hb (ys j) (qf_hv dgl dll (cr, cw, ch, cl, cd) j) (qf_lk dgl dll (cr, cw, ch, cl, cd) j)).2.2.1,
           (s_X0_comeTo pv pn (s_X0_comeTo pv pn cr cw ch cl cd hb (yf j) (qf_hv dgl dll (cr, cw, ch, cl, cd) j) (qf_lk dgl dll (cr, cw, ch, cl, cd) j)).1 (s_X0_comeTo pv pn cr cw ch cl cd hb (yf j) (qf_hv dgl dll (cr, cw, ch, cl, cd) j) (qf_lk dgl dll (cr, cw, ch, cl, cd) j)).2.1 (s_X0_comeTo pv pn cr cw ch cl cd hb (yf j) (qf_hv dgl dll (cr, cw, ch, cl, cd) j) (qf_lk dgl dll (cr, cw, ch, cl, cd) j)).2.2.1 (s_X0_comeTo pv pn cr cw ch cl cd hb (yf j) (qf_hv dgl dll (cr, cw, ch, cl, cd) j) (qf_lk dgl dll (cr, cw, ch, cl, cd) j)).2.2.2.1 (s_X0_comeTo pv pn cr cw ch cl cd hb (yf j) (qf_hv dgl dll (cr, cw, ch, cl, cd) j) (qf_lk dgl dll (cr, cw, ch, cl, cd) j)).2.2.2.2 hb (ys j) (qf_hv dgl dll (cr, cw, ch, cl, cd) j) (qf_lk dgl dll (cr, cw, ch, cl, cd) j)).2.2.2.1,
           (s_X0_comeTo pv pn (s_X0_comeTo pv pn cr cw ch cl cd hb (yf j) (qf_hv dgl dll (cr, cw, ch, cl, cd) j) (qf_lk dgl dll (cr, cw, ch, cl, cd) j)).1 (s_X0_comeTo pv pn cr cw ch cl cd hb (yf j) (qf_hv dgl dll (cr, cw, ch, cl, cd) j) (qf_lk dgl dll (cr, cw, ch, cl, cd) j)).2.1 (s_X0_comeTo pv pn cr cw ch cl cd hb (yf j) (qf_hv dgl dll (cr, cw, ch, cl, cd) j) (qf_lk dgl dll (cr, cw, ch, cl, cd) j)).2.2.1 (s_X0_comeTo pv pn cr cw ch cl cd hb (yf j) (qf_hv dgl dll (cr, cw, ch, cl, cd) j) (qf_lk dgl dll (cr, cw, ch, cl, cd) j)).2.2.2.1 (s_X0_comeTo pv pn cr cw ch cl cd hb (yf j) (qf_hv dgl dll (cr, cw, ch, cl, cd) j) (qf_lk dgl dll (cr, cw, ch, cl, cd) j)).2.2.2.2 hb (ys j) (qf_hv dgl dll (cr, cw, ch, cl, cd) j) (qf_lk dgl dll (cr, cw, ch, cl, cd) j)).2.2.2.2, hb) := by
    intro k
    induction k with
    | zero => intro v cb h1 h2; omega
    | succ k ih =>
      intro v cb h1 h2 h3
      rw [sl_X0_passOn_L51]
      by_cases q : pv ≤ v
      · rw [if_pos (nI_le q (by omega)), qf_first hj hn, qf_second hj hn]
        by_cases d : dbg j = 0
        · rw [if_pos d]
          refine ⟨cb, fun w hw => ?_, rfl⟩
          unfold qf_hb
          rw [if_neg (fun z => z.1 d)]
          exact h3 w (by omega)
        · rw [if_neg d]
          exact ⟨s_X0_setHeldByGiven dg du yo cb cd j, qf_given hB hp hn hj d (fun w hw => h3 w (by omega)) _ rfl, rfl⟩
      · rw [if_neg (by rw [qb_le (by omega) (by omega)]; exact q)]
        refine ih (v + 1) _ (by omega) (by omega) fun w hw => ?_
        rw [qb_up]
        by_cases z : w = v
        · rw [if_pos z, z]
        · rw [if_neg z]; exact h3 w (by omega)
  obtain ⟨hb, h1, h2⟩ := go 9 0 eb (Nat.zero_le _) (by omega) (fun w hw => by omega)
  exact ⟨hb, _, _, h1, rfl, rfl, h2⟩
/-- a line carries on all that it holds -/
def qf_done (dgl dll dbg dg du yo yf ys : Nat → Int32) (pv pn : Nat) (X : qf_X) (j : Nat) : Prop := ∀ t : Nat, t ≤ pn → qw_E yf ys j t → qf_old pv X (qf_hb dbg dg du yo X j) (qf_hv dgl dll X j) (qf_lk dgl dll X j) t
/-- what a family of sets must hold, to hold whatever a way can bring -/
def qf_H (dbg dg du yo : Nat → Int32) (Hd : Nat → Nat → Nat → Prop) (j v x : Nat) : Prop :=
  (¬ dbg j = 0 ∧ dg j / 3 = nI v ∧ ((yo j = -1 ∧ Hd j (du j / 3).toNatClampNeg x) ∨ (¬ yo j = -1 ∧ qb_t ((1 : Int32) <<< ((yo j) &&& 31)) x = true))) ∨ (¬ (¬ dbg j = 0 ∧ dg j / 3 = nI v) ∧ Hd j v x)
def qf_fam (dgl dll dbg dg du yo yf ys : Nat → Int32) (pv pn : Nat) (al : Int32) (R : Nat → Prop) (Hv Lk : Nat → Nat → Prop) (Hd : Nat → Nat → Nat → Prop) : Prop :=
  R 0 ∧ (∀ x, qb_t al x = true → Lk 0 x) ∧ ∀ j t : Nat, j < pn → t ≤ pn → R j → qw_E yf ys j t →
    R t ∧ (∀ x, ((Hv j x ∧ qb_t (dll j) x = false) ∨ qb_t (dgl j) x = true) → Hv t x) ∧ (∀ x, (Lk j x ∨ qb_t (dll j) x = true) → qb_t (dgl j) x = false → Lk t x) ∧ (∀ v x, v < pv → qf_H dbg dg du yo Hd j v x → Hd t v x)
def qf_in (pv pn : Nat) (R : Nat → Prop) (Hv Lk : Nat → Nat → Prop) (Hd : Nat → Nat → Nat → Prop) (X : qf_X) : Prop :=
  (∀ j, j ≤ pn → ¬ X.1 j = 0 → R j) ∧ (∀ j x, j ≤ pn → qb_t (X.2.2.1 j) x = true → Hv j x) ∧ (∀ j x, j ≤ pn → qb_t (X.2.2.2.1 j) x = true → Lk j x) ∧ (∀ j v x, j ≤ pn → v < pv → qb_t (X.2.2.2.2 (j * 8 + v)) x = true → Hd j v x)
def qf_cov (pn : Nat) (al : Int32) (X : qf_X) : Prop := ∀ j x, j ≤ pn → ¬ X.1 j = 0 → qb_t al x = true → qb_t (X.2.2.1 j) x = true ∨ qb_t (X.2.2.2.1 j) x = true
def qf_Inv (dgl dll dbg dg du yo yf ys : Nat → Int32) (pv pn : Nat) (al : Int32) (R : Nat → Prop) (Hv Lk : Nat → Nat → Prop) (Hd : Nat → Nat → Nat → Prop) (X : qf_X) : Prop :=
  (∀ j, j < pn → ¬ X.2.1 j = 0 → ¬ X.1 j = 0) ∧ (∀ j, j < pn → ¬ X.1 j = 0 → X.2.1 j = 0 → qf_done dgl dll dbg dg du yo yf ys pv pn X j) ∧ qf_in pv pn R Hv Lk Hd X ∧ qf_cov pn al X ∧ ¬ X.1 0 = 0 ∧ qb_sub al (X.2.2.2.1 0)
theorem qf_same_t {X Y Z : qf_X} {j : Nat} (h : qf_same pv X Y j) (k : qf_same pv Y Z j) : qf_same pv X Z j := ⟨h.1.trans k.1, h.2.1.trans k.2.1, h.2.2.1.trans k.2.2.1, fun v hv => (h.2.2.2 v hv).trans (k.2.2.2 v hv)⟩
theorem qf_le_t {X Y Z : qf_X} (h : qf_le pv pn X Y) (k : qf_le pv pn Y Z) : qf_le pv pn X Z := fun j hj => by
  obtain ⟨a, b, c, d⟩ := h j hj
  obtain ⟨a', b', c', d'⟩ := k j hj
  exact ⟨fun x => a' (a x), fun i x => b' i (b i x), fun i x => c' i (c i x), fun v hv i x => d' v hv i (d v hv i x)⟩
theorem qf_old_le {X Y : qf_X} {cb : Nat → Int32} {hv lk : Int32} {t : Nat} (h : qf_le pv pn X Y) (ht : t ≤ pn) (k : qf_old pv X cb hv lk t) : qf_old pv Y cb hv lk t := by
  obtain ⟨a, b, c, d⟩ := h t ht
  exact ⟨a k.1, fun i x => b i (k.2.1 i x), fun i x => c i (k.2.2.1 i x), fun v hv i x => d v hv i (k.2.2.2 v hv i x)⟩
theorem qf_old_cb {X : qf_X} {cb cb' : Nat → Int32} {hv lk : Int32} {t : Nat} (h : ∀ v, v < pv → cb v = cb' v) (k : qf_old pv X cb hv lk t) : qf_old pv X cb' hv lk t := ⟨k.1, k.2.1, k.2.2.1, fun v hv => by rw [← h v hv]; exact k.2.2.2 v hv⟩
theorem qf_data {X Y : qf_X} {j : Nat} (hB : qf_bor dbg dg du yo pv pn) (hp : pv ≤ 8) (hj : j < pn) (h : qf_same pv X Y j) : qf_hv dgl dll X j = qf_hv dgl dll Y j ∧ qf_lk dgl dll X j = qf_lk dgl dll Y j ∧ ∀ v, v < pv → qf_hb dbg dg du yo X j v = qf_hb dbg dg du yo Y j v := by
  refine ⟨by unfold qf_hv; rw [h.2.1], by unfold qf_lk; rw [h.2.2.1], fun v hv => ?_⟩
  unfold qf_hb
  by_cases z : ¬ dbg j = 0 ∧ dg j / 3 = nI v
  · rw [if_pos z, if_pos z]
    by_cases y : yo j = -1
    · obtain ⟨u, hu, eu⟩ := (hB j hj z.1).2 y
      rw [if_pos y, if_pos y, eu, qb_cl (by omega)]
      exact h.2.2.2 u hu
    · rw [if_neg y, if_neg y]
  · rw [if_neg z, if_neg z]
    exact h.2.2.2 v hv
theorem qf_hv_t {X : qf_X} {j x : Nat} : qb_t (qf_hv dgl dll X j) x = true ↔ (qb_t (X.2.2.1 j) x = true ∧ qb_t (dll j) x = false) ∨ qb_t (dgl j) x = true := by
  unfold qf_hv
  rw [qb_or, qb_and]
  rcases Nat.lt_or_ge x 32 with h | h
  · rw [qb_not _ h]
    cases qb_t (X.2.2.1 j) x <;> cases qb_t (dll j) x <;> cases qb_t (dgl j) x <;> decide
  · rw [qb_ge _ h, qb_ge (dgl j) h]; simp
theorem qf_lk_t {X : qf_X} {j x : Nat} (hx : x < 32) : qb_t (qf_lk dgl dll X j) x = true ↔ (qb_t (X.2.2.2.1 j) x = true ∨ qb_t (dll j) x = true) ∧ qb_t (dgl j) x = false := by
  unfold qf_lk
  rw [qb_and, qb_or, qb_not _ hx]
  cases qb_t (X.2.2.2.1 j) x <;> cases qb_t (dll j) x <;> cases qb_t (dgl j) x <;> decide
theorem qf_hb_in {R : Nat → Prop} {Hv Lk : Nat → Nat → Prop} {Hd : Nat → Nat → Nat → Prop} {X : qf_X} {j v x : Nat} (hB : qf_bor dbg dg du yo pv pn) (hp : pv ≤ 8) (hj : j < pn) (hv : v < pv) (h : qf_in pv pn R Hv Lk Hd X) (hx : qb_t (qf_hb dbg dg du yo X j v) x = true) : qf_H dbg dg du yo Hd j v x := by
  unfold qf_hb at hx
  unfold qf_H
  by_cases z : ¬ dbg j = 0 ∧ dg j / 3 = nI v
  · rw [if_pos z] at hx
    refine Or.inl ⟨z.1, z.2, ?_⟩
    by_cases y : yo j = -1
    · rw [if_pos y] at hx
      obtain ⟨u, hu, eu⟩ := (hB j hj z.1).2 y
      refine Or.inl ⟨y, ?_⟩
      rw [eu, qb_cl (by omega)] at hx ⊢
      exact h.2.2.2 j u x (by omega) hu hx
    · rw [if_neg y] at hx
      exact Or.inr ⟨y, hx⟩
  · rw [if_neg z] at hx
    exact Or.inr ⟨z, h.2.2.2 j v x (by omega) hv hx⟩
/-- a family holds what comes to a line -/
theorem qf_in_come {R : Nat → Prop} {Hv Lk : Nat → Nat → Prop} {Hd : Nat → Nat → Nat → Prop} {X Y : qf_X} {cb : Nat → Int32} {hv lk t : Int32} (h : qf_in pv pn R Hv Lk Hd X)
    (hY : ∀ j : Nat, j ≤ pn → (¬ t = nI j ∧ qf_same pv X Y j ∧ Y.2.1 j = X.2.1 j) ∨ (t = nI j ∧ ¬ Y.1 j = 0 ∧ Y.2.2.1 j = X.2.2.1 j ||| hv ∧ Y.2.2.2.1 j = X.2.2.2.1 j ||| lk ∧ ∀ v, v < pv → Y.2.2.2.2 (j * 8 + v) = X.2.2.2.2 (j * 8 + v) ||| cb v))
    (hF : ∀ j : Nat, j ≤ pn → t = nI j → R j ∧ (∀ x, qb_t hv x = true → Hv j x) ∧ (∀ x, qb_t lk x = true → Lk j x) ∧ ∀ v x, v < pv → qb_t (cb v) x = true → Hd j v x) : qf_in pv pn R Hv Lk Hd Y := by
  refine ⟨fun j hj hr => ?_, fun j x hj hx => ?_, fun j x hj hx => ?_, fun j v x hj hv hx => ?_⟩
  · rcases hY j hj with ⟨-, s, -⟩ | ⟨e, -, -⟩
    · exact h.1 j hj fun z => hr (s.1.mp z)
    · exact (hF j hj e).1
  · rcases hY j hj with ⟨-, s, -⟩ | ⟨e, -, e1, e2, e3⟩
    · rw [← s.2.1] at hx; exact h.2.1 j x hj hx
    · rw [e1, qb_or, Bool.or_eq_true] at hx
      exact hx.elim (h.2.1 j x hj) ((hF j hj e).2.1 x)
  · rcases hY j hj with ⟨-, s, -⟩ | ⟨e, -, e1, e2, e3⟩
    · rw [← s.2.2.1] at hx; exact h.2.2.1 j x hj hx
    · rw [e2, qb_or, Bool.or_eq_true] at hx
      exact hx.elim (h.2.2.1 j x hj) ((hF j hj e).2.2.1 x)
  · rcases hY j hj with ⟨-, s, -⟩ | ⟨e, -, e1, e2, e3⟩
    · rw [← s.2.2.2 v hv] at hx; exact h.2.2.2 j v x hj hv hx
    · rw [e3 v hv, qb_or, Bool.or_eq_true] at hx
      exact hx.elim (h.2.2.2 j v x hj hv) ((hF j hj e).2.2.2 v x hv)
theorem qf_cov_come {al : Int32} {X Y : qf_X} {cb : Nat → Int32} {hv lk t : Int32} (h : qf_cov pn al X)
    (hY : ∀ j : Nat, j ≤ pn → (¬ t = nI j ∧ qf_same pv X Y j ∧ Y.2.1 j = X.2.1 j) ∨ (t = nI j ∧ ¬ Y.1 j = 0 ∧ Y.2.2.1 j = X.2.2.1 j ||| hv ∧ Y.2.2.2.1 j = X.2.2.2.1 j ||| lk ∧ ∀ v, v < pv → Y.2.2.2.2 (j * 8 + v) = X.2.2.2.2 (j * 8 + v) ||| cb v))
    (hA : ∀ x, qb_t al x = true → qb_t hv x = true ∨ qb_t lk x = true) : qf_cov pn al Y := by
  intro j x hj hr hx
  rcases hY j hj with ⟨-, s, -⟩ | ⟨e, -, e1, e2, e3⟩
  · rw [← s.2.1, ← s.2.2.1]; exact h j x hj (fun z => hr (s.1.mp z)) hx
  · rw [e1, e2, qb_or, qb_or]
    rcases hA x hx with z | z
    · left; rw [z]; simp
    · right; rw [z]; simp
/-- one line is carried on -/
theorem qf_go {al : Int32} {R : Nat → Prop} {Hv Lk : Nat → Nat → Prop} {Hd : Nat → Nat → Nat → Prop} (hB : qf_bor dbg dg du yo pv pn) (hR : qf_rng yf ys pn) (hp : pv ≤ 8) (hn : pn ≤ 34) (hF : qf_fam dgl dll dbg dg du yo yf ys pv pn al R Hv Lk Hd) {X : qf_X} (hI : qf_Inv dgl dll dbg dg du yo yf ys pv pn al R Hv Lk Hd X) {j : Nat} (hj : j < pn) (hw : ¬ X.2.1 j = 0) (eb : Nat → Int32) :
    ∃ (Z : qf_X) (hb : Nat → Int32), s_X0_passOn dgl dll dbg dg du yo (-1) yf ys pv pn X.1 (upd X.2.1 j 0) X.2.2.1 X.2.2.2.1 X.2.2.2.2 eb j = (Z.1, Z.2.1, Z.2.2.1, Z.2.2.2.1, Z.2.2.2.2, hb) ∧
      qf_Inv dgl dll dbg dg du yo yf ys pv pn al R Hv Lk Hd Z ∧ qf_m pv pn Z + 1 ≤ qf_m pv pn X := by
  obtain ⟨i1, i2, i3, i4, i5, i6⟩ := hI
  obtain ⟨hb, Y, Z, e1, e2, e3, e4⟩ := qf_pass (dgl := dgl) (dll := dll) (yf := yf) (ys := ys) hB hp hn hj (X.1, upd X.2.1 j 0, X.2.2.1, X.2.2.2.1, X.2.2.2.2) eb
  refine ⟨Z, hb, e4, ?_⟩
  have hrj := i1 j hj hw
  obtain ⟨r1, r2⟩ := hR j hj
  have sp1 := qf_come_spec (X := (X.1, upd X.2.1 j 0, X.2.2.1, X.2.2.2.1, X.2.2.2.2)) hp hn r1 e2
  have sp2 := qf_come_spec (X := Y) hp hn r2 e3
  obtain ⟨a1, a2, a3, a4, a5⟩ := sp1
  obtain ⟨b1, b2, b3, b4, b5⟩ := sp2
  have c1 : qf_le pv pn (X.1, upd X.2.1 j 0, X.2.2.1, X.2.2.2.1, X.2.2.2.2) Z := qf_le_t a1 b1
  have fl : ∀ t : Nat, t ≤ pn → qw_E yf ys j t → R t ∧ (∀ x, qb_t (qf_hv dgl dll (X.1, upd X.2.1 j 0, X.2.2.1, X.2.2.2.1, X.2.2.2.2) j) x = true → Hv t x) ∧ (∀ x, qb_t (qf_lk dgl dll (X.1, upd X.2.1 j 0, X.2.2.1, X.2.2.2.1, X.2.2.2.2) j) x = true → Lk t x) ∧ ∀ v x, v < pv → qb_t (hb v) x = true → Hd t v x := by
    intro t ht hE
    obtain ⟨f1, f2, f3, f4⟩ := hF.2.2 j t hj ht (i3.1 j (by omega) hrj) hE
    refine ⟨f1, fun x hx => f2 x ?_, fun x hx => ?_, fun v x hv hx => f4 v x hv ?_⟩
    · rcases qf_hv_t.mp hx with ⟨k1, k2⟩ | k1
      · exact Or.inl ⟨i3.2.1 j x (by omega) k1, k2⟩
      · exact Or.inr k1
    · obtain ⟨k1, k2⟩ := (qf_lk_t (qb_lt hx)).mp hx
      exact f3 x (k1.elim (fun k => Or.inl (i3.2.2.1 j x (by omega) k)) Or.inr) k2
    · rw [e1 v hv] at hx
      exact qf_hb_in (X := X) hB hp hj hv i3 hx
  refine ⟨⟨fun i hi h => ?_, fun i hi h1 h2 => ?_, ?_, ?_, (c1 0 (Nat.zero_le _)).1 i5, fun x hx => (c1 0 (Nat.zero_le _)).2.2.1 x (i6 x hx)⟩, ?_⟩
  · rcases b5 i (by omega) with ⟨-, s, w⟩ | ⟨-, r, -⟩
    · rw [w] at h
      rcases a5 i (by omega) with ⟨-, s', w'⟩ | ⟨-, r, -⟩
      · rw [w'] at h
        have h : ¬ upd X.2.1 j 0 i = 0 := h
        by_cases z : i = j
        · rw [z, qb_us] at h; exact absurd rfl h
        · rw [qb_un z] at h
          exact fun k => i1 i hi h (s'.1.mpr (s.1.mpr k))
      · exact fun k => r (s.1.mpr k)
    · exact r
  · obtain ⟨w1, s1⟩ := b3 i (by omega) h2
    obtain ⟨w2, s2⟩ := a3 i (by omega) w1
    have s3 := qf_same_t s2 s1
    have s4 : qf_same pv X Z i := s3
    obtain ⟨d1, d2, d3⟩ := qf_data (dgl := dgl) (dll := dll) hB hp hi s4
    intro t ht hE
    by_cases z : i = j
    · subst z
      refine qf_old_cb (cb := hb) (fun v hv => (e1 v hv).trans (d3 v hv)) ?_
      rw [← d1, ← d2]
      rcases hE with hE | hE
      · exact qf_old_le b1 ht (a4 t ht hE)
      · exact b4 t ht hE
    · have w3 : X.2.1 i = 0 := by
        have w2 : upd X.2.1 j 0 i = 0 := w2
        rw [qb_un z] at w2; exact w2
      have k := i2 i hi (fun k => h1 (s4.1.mp k)) w3 t ht hE
      refine qf_old_cb d3 ?_
      rw [← d1, ← d2]
      exact qf_old_le (X := X) c1 ht k
  · exact qf_in_come (qf_in_come (X := (X.1, upd X.2.1 j 0, X.2.2.1, X.2.2.2.1, X.2.2.2.2)) i3 a5 fun t ht e => fl t ht (Or.inl e)) b5 fun t ht e => fl t ht (Or.inr e)
  · have hA : ∀ x, qb_t al x = true → qb_t (qf_hv dgl dll (X.1, upd X.2.1 j 0, X.2.2.1, X.2.2.2.1, X.2.2.2.2) j) x = true ∨ qb_t (qf_lk dgl dll (X.1, upd X.2.1 j 0, X.2.2.1, X.2.2.2.1, X.2.2.2.2) j) x = true := by
      intro x hx
      have h := i4 j x (by omega) hrj hx
      rw [qf_hv_t, qf_lk_t (qb_lt hx)]
      dsimp only
      rcases h with h | h
      · rw [h]
        cases qb_t (X.2.2.2.1 j) x <;> cases qb_t (dll j) x <;> cases qb_t (dgl j) x <;> simp
      · rw [h]
        cases qb_t (X.2.2.1 j) x <;> cases qb_t (dll j) x <;> cases qb_t (dgl j) x <;> simp
    exact qf_cov_come (qf_cov_come (X := (X.1, upd X.2.1 j 0, X.2.2.1, X.2.2.2.1, X.2.2.2.2)) i4 a5 hA) b5 hA
  · have m0 : qf_m pv pn (X.1, upd X.2.1 j 0, X.2.2.1, X.2.2.2.1, X.2.2.2.2) + 1 ≤ qf_m pv pn X := by
      refine qb_sum_lt (j := j) (pn + 1) (fun i _ => ?_) (by omega) ?_
      · unfold qf_m1
        dsimp only
        by_cases z : i = j
        · rw [z, qb_us, qf_wt0 rfl]; omega
        · rw [qb_un z]; exact Nat.le_refl _
      · unfold qf_m1
        dsimp only
        rw [qb_us, qf_wt0 rfl, qf_wt1 hw]; omega
    omega
end
