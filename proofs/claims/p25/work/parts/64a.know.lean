/-! WHAT THE MILL KNOWS: its cells by the program told -/
theorem qv_kindAt {pv : Nat} {fk fk' : Nat → Int32} (hv : pv ≤ 8) (h : ∀ v, v < pv → fk v = fk' v) : s_X5_kindAt pv fk = s_X5_kindAt pv fk' := by
  funext x
  by_cases c1 : x < 0
  · unfold s_X5_kindAt
    rw [if_pos c1, if_pos c1]
  · obtain ⟨j, hj, rfl⟩ := nI_of c1
    rw [qp_kindAt hj (by omega), qp_kindAt hj (by omega)]
    unfold qp_kd
    by_cases c2 : j / 3 < pv
    · rw [if_pos c2, if_pos c2, h _ c2]
    · rw [if_neg c2, if_neg c2]
theorem qv_leavesOf {pv : Nat} {fk fk' : Nat → Int32} (h : s_X5_kindAt pv fk = s_X5_kindAt pv fk') : s_X5_leavesOf pv fk = s_X5_leavesOf pv fk' := by
  funext x
  unfold s_X5_leavesOf
  rw [h]
theorem qv_borrowSet {pv : Nat} {fk fk' : Nat → Int32} (h : s_X5_kindAt pv fk = s_X5_kindAt pv fk') : s_X1_borrowSet pv fk = s_X1_borrowSet pv fk' := by
  funext x
  unfold s_X1_borrowSet
  rw [h]
theorem qv_allLeaves {pv : Nat} {fk fk' : Nat → Int32} (h : s_X5_kindAt pv fk = s_X5_kindAt pv fk') : s_X5_allLeaves pv fk = s_X5_allLeaves pv fk' := by
  have go : ∀ (k : Nat) (x : Int32) (i : Nat), sl_X5_allLeaves_L4 pv fk k x i = sl_X5_allLeaves_L4 pv fk' k x i := by
    intro k
    induction k with
    | zero => intro x i; rfl
    | succ k ih =>
      intro x i
      rw [sl_X5_allLeaves_L4, sl_X5_allLeaves_L4, qv_leavesOf h, ih]
  unfold s_X5_allLeaves
  exact go _ _ _
theorem qv_takenAt {pv : Nat} {fk fk' : Nat → Int32} (h : s_X5_kindAt pv fk = s_X5_kindAt pv fk') (n : Nat) (fs fa fb : Nat → Int32) : s_X1_takenAt pv n fk fs fa fb = s_X1_takenAt pv n fk' fs fa fb := by
  funext x y
  unfold s_X1_takenAt
  rw [h]
theorem qv_F {pv : Nat} {fk fk' : Nat → Int32} (h : s_X5_kindAt pv fk = s_X5_kindAt pv fk') {a b c : Int32} (hF : qp_F pv fk a b c) : qp_F pv fk' a b c := by
  unfold qp_F s_X5_fits at hF ⊢
  rw [← h]
  exact hF
theorem qv_L {pv n : Nat} {fk fk' fs fa fb : Nat → Int32} {T : qk_T} (hk : s_X5_kindAt pv fk = s_X5_kindAt pv fk') (h : qk_L pv n fk fs fa fb T) : qk_L pv n fk' fs fa fb T := by
  have e : qk_L pv n fk fs fa fb T = qk_L pv n fk' fs fa fb T := by
    unfold qk_L qd_at qk_al qk_bad qk_no qx_bad qx_no qx_sl
    simp only [qv_leavesOf hk, qv_borrowSet hk, qv_allLeaves hk, qv_takenAt hk]
  rw [← e]
  exact h
theorem qv_cpy {f g : Nat → Int32} {n i : Nat} (h : i < n) : va_cpy f g 0 0 n i = f i := by
  rw [pk_cpy_in (Nat.zero_le _) (by omega)]
  congr 1
  omega
theorem lx_mem {Bs : lxW} {B : va_W} {x : Nat × va_E} (q : Nat) (h : Bs[q]? = some B) (hx : x ∈ B) : x ∈ lxF Bs := List.mem_flatten.mpr ⟨B, List.mem_of_getElem? h, hx⟩
theorem lxF_one (X : va_W) : X = lxF [X] := by
  unfold lxF
  simp
/-- nothing behind an array's end -/
def zb (m : Nat) (f : Nat → Int32) : Prop := ∀ j, m ≤ j → f j = 0
theorem zb_cpy {m : Nat} {f g : Nat → Int32} (hf : zb m f) (hg : zb m g) : va_cpy f g 0 0 m = f := by
  funext j
  by_cases q : j < m
  · exact qv_cpy q
  · rw [pk_cpy_out (by omega), hf j (by omega), hg j (by omega)]
theorem zb_upd {m i : Nat} {f : Nat → Int32} {x : Int32} (hf : zb m f) (hi : i < m) : zb m (upd f i x) := fun j hj => by
  rw [qb_un (by omega)]
  exact hf j hj
abbrev zbP (P : mlP) : Prop := zb 8 P.1 ∧ zb 34 P.2.1 ∧ zb 34 P.2.2.1 ∧ zb 34 P.2.2.2.1
/-- a run's rows are bounded -/
abbrev ylk (Y : qr_Y) : Prop := qr_yoct Y ≤ 2 ∧ qr_ynm Y ≤ 500 ∧ qr_ystp Y ≤ 500
/-- the mill holds this program, and has looked at it -/
abbrev mlI (pv : Nat) (fk : Nat → Int32) (n : Nat) (fs fa fb : Nat → Int32) (M : mlS) : Prop := M.1 = (fk, fs, fa, fb, pv, n) ∧ qk_L pv n fk fs fa fb M.2.1 ∧ ylk M.2.2.1 ∧ ylk M.2.2.2.2.2.2 ∧ zbP M.1 ∧ zbP M.2.2.2.2.1
/-- a program that can be told -/
abbrev lgP (pv : Nat) (fk : Nat → Int32) (n : Nat) (fs fa fb : Nat → Int32) : Prop := pv ≤ 8 ∧ n ≤ 32 ∧ (∀ j, j < n → qp_F pv fk (fs j) (fa j) (fb j)) ∧ ql_n fs n ≤ 16
theorem qv_lc {pv n : Nat} {fk fs fa fb : Nat → Int32} {T : qk_T} (hL : qk_L pv n fk fs fa fb T) (hl : ql_n fs n ≤ 16) : qk_lc T ≤ 16 := by
  have h := hL.2.1.1
  have h2 : qk_lc T = ql_n fs n := h
  omega
theorem qv_fc {pv n : Nat} {fk fs fa fb : Nat → Int32} {T : qk_T} (hL : qk_L pv n fk fs fa fb T) (hn : n ≤ 33) : qk_fc T ≤ 34 := by
  by_cases hw : qw_stk fs n = some []
  · have h := (hL.2.2.2.2 hw).2.2.2.2.1
    rw [h]
    have := qx_n_le (P := qk_bad pv n fk fs fa fb T) n
    omega
  · rw [hL.2.2.2.1 hw]
    omega
/-- the program with a line put in place -/
theorem qv_set {n L : Nat} {fs fa fb : Nat → Int32} {a b c : Int32} (h : L < n) (hn : n ≤ 34) : s_X5_setLine n fs fa fb (nI L) a b c = (upd fs L a, upd fa L b, upd fb L c) := by
  unfold s_X5_setLine
  rw [if_neg (qp_isLine1 h (by omega)), nI_clamp (by omega)]
theorem qv_add {n : Nat} {fs fa fb : Nat → Int32} {a b c : Int32} (hn : n ≤ 32) : s_X5_insertLine n fs fa fb (nI n) a b c = (upd fs n a, upd fa n b, upd fb n c, n + 1) := by
  unfold s_X5_insertLine
  rw [if_neg (by rw [qp_isEnd (by omega) (by omega), if_pos (Nat.le_refl _)]; decide), if_pos (by show nI n < nI 33; exact (nI_ltI (by omega) (by omega)).mpr (by omega))]
  rw [sl_X5_insertLine_L24, if_pos (Int32.le_refl _), qv_set (by omega) (by omega)]
/-- a line put in ahead of L -/
def qv_up (L : Nat) (f : Nat → Int32) (x : Int32) (j : Nat) : Int32 := if j < L then f j else (if j = L then x else f (j - 1))
theorem qv_insL {n L : Nat} {a b c : Int32} (hL : L ≤ n) (hn : n ≤ 32) : ∀ (k i : Nat) (fs fa fb gs ga gb : Nat → Int32), L ≤ i → i ≤ n → i - L < k →
    (∀ j, j ≤ n → (j ≤ i → gs j = fs j ∧ ga j = fa j ∧ gb j = fb j) ∧ (i < j → gs j = fs (j - 1) ∧ ga j = fa (j - 1) ∧ gb j = fb (j - 1))) →
    ∃ hs ha hb : Nat → Int32, sl_X5_insertLine_L24 n (nI L) a b c k i gs ga gb = (hs, ha, hb, n + 1) ∧ (∀ j, j ≤ n → hs j = qv_up L fs a j ∧ ha j = qv_up L fa b j ∧ hb j = qv_up L fb c j) ∧ (∀ j, 34 ≤ j → hs j = gs j ∧ ha j = ga j ∧ hb j = gb j)
  | 0, i, fs, fa, fb, gs, ga, gb, h1, h2, hk, hg => by omega
  | k + 1, i, fs, fa, fb, gs, ga, gb, h1, h2, hk, hg => by
    rw [sl_X5_insertLine_L24]
    by_cases q : i ≤ L
    · have e : i = L := by omega
      subst e
      rw [if_pos (Int32.le_refl _), qv_set (by omega) (by omega)]
      refine ⟨upd gs i a, upd ga i b, upd gb i c, rfl, fun j hj => ?_, fun j hj => ⟨qb_un (by omega), qb_un (by omega), qb_un (by omega)⟩⟩
      unfold qv_up
      by_cases q1 : j < i
      · obtain ⟨e1, e2, e3⟩ := (hg j hj).1 (by omega)
        rw [if_pos q1, if_pos q1, if_pos q1, qb_un (by omega), qb_un (by omega), qb_un (by omega)]
        exact ⟨e1, e2, e3⟩
      · by_cases q2 : j = i
        · subst q2
          rw [if_neg q1, if_neg q1, if_neg q1, if_pos rfl, if_pos rfl, if_pos rfl]
          exact ⟨qb_us _ _ _, qb_us _ _ _, qb_us _ _ _⟩
        · obtain ⟨e1, e2, e3⟩ := (hg j hj).2 (by omega)
          rw [if_neg q1, if_neg q1, if_neg q1, if_neg q2, if_neg q2, if_neg q2, qb_un (by omega), qb_un (by omega), qb_un (by omega)]
          exact ⟨e1, e2, e3⟩
    · rw [if_neg (by rw [qb_le (by omega) (by omega)]; exact q)]
      have IH := qv_insL (a := a) (b := b) (c := c) hL hn k (i - 1) fs fa fb (upd gs i (gs (i - 1))) (upd ga i (ga (i - 1))) (upd gb i (gb (i - 1))) (by omega) (by omega) (by omega) (fun j hj => ⟨fun q1 => by
        rw [qb_un (by omega), qb_un (by omega), qb_un (by omega)]
        exact (hg j hj).1 (by omega), fun q1 => by
        by_cases q2 : j = i
        · subst q2
          rw [qb_us, qb_us, qb_us]
          exact (hg (j - 1) (by omega)).1 (by omega)
        · rw [qb_un (by omega), qb_un (by omega), qb_un (by omega)]
          exact (hg j hj).2 (by omega)⟩)
      obtain ⟨hs, ha, hb, e1, e2, e3⟩ := IH
      refine ⟨hs, ha, hb, e1, e2, fun j hj => ?_⟩
      obtain ⟨f1, f2, f3⟩ := e3 j hj
      rw [qb_un (by omega)] at f1 f2 f3
      exact ⟨f1, f2, f3⟩
theorem qv_ins {n L : Nat} {a b c : Int32} (fs fa fb : Nat → Int32) (hL : L ≤ n) (hn : n ≤ 32) : ∃ hs ha hb : Nat → Int32, s_X5_insertLine n fs fa fb (nI L) a b c = (hs, ha, hb, n + 1) ∧ (∀ j, j ≤ n → hs j = qv_up L fs a j ∧ ha j = qv_up L fa b j ∧ hb j = qv_up L fb c j) ∧ (∀ j, 34 ≤ j → hs j = fs j ∧ ha j = fa j ∧ hb j = fb j) := by
  unfold s_X5_insertLine
  rw [if_neg (by rw [qp_isEnd (by omega) (by omega), if_pos hL]; decide), if_pos (by show nI n < nI 33; exact (nI_ltI (by omega) (by omega)).mpr (by omega))]
  exact qv_insL hL hn 35 n fs fa fb fs fa fb hL (Nat.le_refl _) (by omega) (fun j hj => ⟨fun _ => ⟨rfl, rfl, rfl⟩, fun q => by omega⟩)
/-- a line taken out -/
def qv_dn (L : Nat) (f : Nat → Int32) (j : Nat) : Int32 := if j < L then f j else f (j + 1)
theorem qv_remL {n L : Nat} (hn : n ≤ 33) (h1n : 1 ≤ n) : ∀ (k i : Nat) (fs fa fb gs ga gb : Nat → Int32), L ≤ i → i < n → n - i < k →
    (∀ j, j < n → (j < i → gs j = qv_dn L fs j ∧ ga j = qv_dn L fa j ∧ gb j = qv_dn L fb j) ∧ (i ≤ j → gs j = fs j ∧ ga j = fa j ∧ gb j = fb j)) →
    ∃ hs ha hb : Nat → Int32, sl_X5_removeLine_L21 n k i gs ga gb = (hs, ha, hb, n - 1) ∧ (∀ j, j < n - 1 → hs j = qv_dn L fs j ∧ ha j = qv_dn L fa j ∧ hb j = qv_dn L fb j) ∧ (∀ j, 34 ≤ j → hs j = gs j ∧ ha j = ga j ∧ hb j = gb j)
  | 0, i, fs, fa, fb, gs, ga, gb, h1, h2, hk, hg => by omega
  | k + 1, i, fs, fa, fb, gs, ga, gb, h1, h2, hk, hg => by
    rw [sl_X5_removeLine_L21]
    by_cases q : n - 1 ≤ i
    · rw [if_pos (by rw [qb_le (by omega) (by omega)]; exact q)]
      exact ⟨_, _, _, rfl, fun j hj => (hg j (by omega)).1 (by omega), fun j hj => ⟨rfl, rfl, rfl⟩⟩
    · rw [if_neg (by rw [qb_le (by omega) (by omega)]; exact q)]
      have IH := qv_remL (L := L) hn h1n k (i + 1) fs fa fb (upd gs i (gs (i + 1))) (upd ga i (ga (i + 1))) (upd gb i (gb (i + 1))) (by omega) (by omega) (by omega) (fun j hj => ⟨fun q1 => by
        by_cases q2 : j = i
        · subst q2
          rw [qb_us, qb_us, qb_us]
          unfold qv_dn
          rw [if_neg (by omega), if_neg (by omega), if_neg (by omega)]
          exact (hg (j + 1) (by omega)).2 (by omega)
        · rw [qb_un (by omega), qb_un (by omega), qb_un (by omega)]
          exact (hg j hj).1 (by omega), fun q1 => by
        rw [qb_un (by omega), qb_un (by omega), qb_un (by omega)]
        exact (hg j hj).2 (by omega)⟩)
      obtain ⟨hs, ha, hb, e1, e2, e3⟩ := IH
      refine ⟨hs, ha, hb, e1, e2, fun j hj => ?_⟩
      obtain ⟨f1, f2, f3⟩ := e3 j hj
      rw [qb_un (by omega)] at f1 f2 f3
      exact ⟨f1, f2, f3⟩
theorem qv_rem {n L : Nat} (fs fa fb : Nat → Int32) (hL : L < n) (hn : n ≤ 33) : ∃ hs ha hb : Nat → Int32, s_X5_removeLine n fs fa fb (nI L) = (hs, ha, hb, n - 1) ∧ (∀ j, j < n - 1 → hs j = qv_dn L fs j ∧ ha j = qv_dn L fa j ∧ hb j = qv_dn L fb j) ∧ (∀ j, 34 ≤ j → hs j = fs j ∧ ha j = fa j ∧ hb j = fb j) := by
  unfold s_X5_removeLine
  rw [if_neg (qp_isLine1 hL (by omega)), nI_clamp (by omega)]
  exact qv_remL (L := L) hn (by omega) 35 L fs fa fb fs fa fb (Nat.le_refl _) hL (by omega) (fun j hj => ⟨fun q => by
    unfold qv_dn
    rw [if_pos q, if_pos q, if_pos q]
    exact ⟨rfl, rfl, rfl⟩, fun _ => ⟨rfl, rfl, rfl⟩⟩)
/-- how many loans -/
theorem qv_ql {f g : Nat → Int32} {n : Nat} (h : ∀ j, j < n → f j = g j) : ql_n f n = ql_n g n := by
  induction n with
  | zero => rfl
  | succ n ih =>
    show ql_n f n + _ = ql_n g n + _
    rw [ih (fun j hj => h j (by omega)), h n (by omega)]
theorem qv_ql_up {f : Nat → Int32} {L : Nat} {x : Int32} (hx : ¬ (x = 3 ∨ x = 4)) : ∀ n, L ≤ n → ql_n (qv_up L f x) (n + 1) = ql_n f n
  | 0, h => by
    have e : L = 0 := by omega
    subst e
    show 0 + _ = 0
    rw [if_neg (by unfold qv_up; rw [if_neg (by omega), if_pos rfl]; exact hx)]
  | n + 1, h => by
    show ql_n (qv_up L f x) (n + 1) + _ = ql_n f n + _
    by_cases q : L ≤ n
    · rw [qv_ql_up hx n q]
      have e : qv_up L f x (n + 1) = f n := by
        unfold qv_up
        rw [if_neg (by omega), if_neg (by omega)]
        rfl
      rw [e]
    · have e : L = n + 1 := by omega
      subst e
      rw [if_neg (by unfold qv_up; rw [if_neg (by omega), if_pos rfl]; exact hx)]
      exact qv_ql (f := qv_up (n + 1) f x) (g := f) (n := n + 1) (fun j hj => by unfold qv_up; rw [if_pos hj])
theorem qv_ql_dn {f : Nat → Int32} {L : Nat} : ∀ n, ql_n (qv_dn L f) n ≤ ql_n f (n + 1)
  | 0 => Nat.zero_le _
  | n + 1 => by
    show ql_n (qv_dn L f) n + _ ≤ ql_n f (n + 1) + _
    by_cases q : n < L
    · have e : ql_n (qv_dn L f) n = ql_n f n := qv_ql (fun j hj => by unfold qv_dn; rw [if_pos (by omega)])
      have e2 : qv_dn L f n = f n := by unfold qv_dn; rw [if_pos q]
      rw [e, e2]
      show _ ≤ (ql_n f n + _) + _
      omega
    · have e2 : qv_dn L f n = f (n + 1) := by unfold qv_dn; rw [if_neg q]
      rw [e2]
      have := qv_ql_dn (f := f) (L := L) n
      omega
theorem qv_ql_set {f : Nat → Int32} {L : Nat} {x : Int32} : ∀ n, L < n → ql_n (upd f L x) n + (if f L = 3 ∨ f L = 4 then 1 else 0) = ql_n f n + (if x = 3 ∨ x = 4 then 1 else 0)
  | 0, h => by omega
  | n + 1, h => by
    show ql_n (upd f L x) n + _ + _ = ql_n f n + _ + _
    by_cases q : L = n
    · subst q
      rw [qb_us, qv_ql (f := upd f L x) (g := f) (fun j hj => qb_un (by omega))]
      omega
    · have h2 := qv_ql_set (f := f) (L := L) (x := x) n (by omega)
      have e : upd f L x n = f n := qb_un (by omega)
      rw [e]
      omega
