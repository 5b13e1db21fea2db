/-! ROWS OF ANY LENGTH: the next lines as the law reckons them -/
theorem lx_setP {α : Type} : ∀ {A : List α} {j : Nat} {x y : α}, A[j]? = some x → (A ++ [y]).Perm (A.set j y ++ [x])
  | [], j, x, y, h => by cases h
  | a :: t, 0, x, y, h => by
    cases h
    show (a :: (t ++ [y])).Perm (y :: (t ++ [a]))
    exact ((List.perm_append_singleton y t).cons a).trans ((List.Perm.swap y a t).trans ((List.perm_append_singleton a t).symm.cons y))
  | a :: t, j + 1, x, y, h => by
    show (a :: (t ++ [y])).Perm (a :: (t.set j y ++ [x]))
    exact (lx_setP (A := t) (j := j) h).cons a
theorem lx_swapP {G : sxG} {Xs : lxW} {A : va_W} {x y : Nat × va_E} {j : Nat} {H : Heap} {D : Nat → Prop} (hP : va_P G.1 vwCl (lxF (Xs ++ [A, [y]])) H) (hD : va_D D (lxF (Xs ++ [A, [y]]))) (h : A[j]? = some x) : va_P G.1 vwCl (lxF (Xs ++ [A.set j y])) H ∧ va_D D (lxF (Xs ++ [A.set j y])) := by
  have e1 : lxF (Xs ++ [A, [y]]) = lxF Xs ++ (A ++ [y]) := by
    unfold lxF
    simp
  have e2 : lxF (Xs ++ [A.set j y]) = lxF Xs ++ A.set j y := by
    unfold lxF
    simp
  rw [e1] at hP hD
  rw [e2]
  have pm : (lxF Xs ++ (A ++ [y])).Perm ((lxF Xs ++ A.set j y) ++ [x]) := by
    rw [List.append_assoc]
    exact List.Perm.append_left _ (lx_setP h)
  refine ⟨lx_Pm hP (fun z hz => pm.mem_iff.mpr (List.mem_append_left _ hz)), ?_⟩
  have h2 := lx_Dm hD pm
  rw [lx_Dn] at h2 ⊢
  refine ⟨?_, fun z hz => h2.2 z (List.mem_append_left _ hz)⟩
  rw [List.map_append] at h2
  exact (List.nodup_append.mp h2.1).1
def nxB (G : sxG) (nr nl : Nat → Nat) (nc : Nat → Nat → Int32) (m : Nat) : va_W := (List.range m).map (fun i => (nr i, .inl (G.2.1, nl i, .inl (nc i))))
theorem nxB_at {G : sxG} {nr nl : Nat → Nat} {nc : Nat → Nat → Int32} {m i : Nat} (h : i < m) : (nxB G nr nl nc m)[i]? = some (nr i, .inl (G.2.1, nl i, .inl (nc i))) := by
  unfold nxB
  rw [List.getElem?_map, List.getElem?_range h]
  rfl
/-- a row more -/
theorem nxB_new {G : sxG} {nr nl : Nat → Nat} {nc : Nat → Nat → Int32} {m a b : Nat} {f : Nat → Int32} : nxB G nr nl nc m ++ [(a, .inl (G.2.1, b, .inl f))] = nxB G (fun i => if i = m then a else nr i) (fun i => if i = m then b else nl i) (fun i => if i = m then f else nc i) (m + 1) := by
  unfold nxB
  rw [List.range_succ, List.map_append, List.map_singleton]
  congr 1
  · apply List.map_congr_left
    intro i hi
    have hm := List.mem_range.mp hi
    have hne : ¬ i = m := by omega
    simp only [if_neg hne]
  · simp
/-- a row laid anew -/
theorem nxB_set {G : sxG} {nr nl : Nat → Nat} {nc : Nat → Nat → Int32} {m j a b : Nat} {f : Nat → Int32} (hj : j < m) : (nxB G nr nl nc m).set j (a, .inl (G.2.1, b, .inl f)) = nxB G (fun i => if i = j then a else nr i) (fun i => if i = j then b else nl i) (fun i => if i = j then f else nc i) m := by
  apply List.ext_getElem?
  intro i
  have ln : ∀ (nr nl : Nat → Nat) (nc : Nat → Nat → Int32), (nxB G nr nl nc m).length = m := by
    intro nr nl nc
    unfold nxB
    rw [List.length_map, List.length_range]
  by_cases q : i < m
  · rw [nxB_at q, List.getElem?_set]
    by_cases e : j = i
    · subst e
      rw [if_pos rfl, if_pos (by rw [ln]; exact hj), if_pos rfl, if_pos rfl, if_pos rfl]
    · rw [if_neg e, nxB_at q, if_neg (fun z => e z.symm), if_neg (fun z => e z.symm), if_neg (fun z => e z.symm)]
  · rw [List.getElem?_eq_none (by rw [List.length_set, ln]; omega), List.getElem?_eq_none (by rw [ln]; omega)]
theorem lx_glue7 {X1 X2 X3 X4 X5 X6 A B C : va_W} (h : A ++ B = C) : lxF [X1, X2, X3, X4, X5, X6, A, B] = lxF [X1, X2, X3, X4, X5, X6, C] := by
  subst h
  unfold lxF
  simp
/-- what stands open, in the law's own rows -/
def jnR (op mi : Nat → Int32) : List (Nat × Int32) → Prop
  | [] => True
  | q :: r => op r.length = nI q.1 ∧ mi r.length = q.2 ∧ jnR op mi r
theorem jnR_cong {op mi op' mi' : Nat → Int32} : ∀ {st : List (Nat × Int32)}, (∀ i, i < st.length → op' i = op i ∧ mi' i = mi i) → jnR op mi st → jnR op' mi' st
  | [], _, _ => trivial
  | q :: r, h, h2 => by
    obtain ⟨a, b, c⟩ := h2
    obtain ⟨e1, e2⟩ := h r.length (by rw [List.length_cons]; exact Nat.lt_succ_self _)
    exact ⟨e1.trans a, e2.trans b, jnR_cong (fun i hi => h i (by rw [List.length_cons]; omega)) c⟩
/-- of the END lines ahead of i the rows are right, behind they are short -/
def jnF (fs : Nat → Int32) (n : Nat) (nl : Nat → Nat) (nc : Nat → Nat → Int32) (i : Nat) : Prop := ∀ j, j < n → fs j = 11 → (j < i → ∃ (q : Nat × Int32) (r : List (Nat × Int32)), qw_stk fs j = some (q :: r) ∧ ((fs q.1 = 10 ∧ nl j = 2 ∧ nc j 0 = nI (q.1 + 1)) ∨ (¬ fs q.1 = 10 ∧ nl j = 1))) ∧ (i ≤ j → nl j = 1)
/-- the state of join ahead of the line i -/
def jnI (fs : Nat → Int32) (n : Nat) (i d : Nat) (op mi : Nat → Int32) : Prop := ∃ st, qw_stk fs i = some st ∧ st.length = d ∧ jnR op mi st
theorem jn_step {fs : Nat → Int32} {n i : Nat} (hw : qw_stk fs n = some []) (hi : i < n) {st : List (Nat × Int32)} (hs : qw_stk fs i = some st) : ∃ st', qw_step fs i st = some st' ∧ qw_stk fs (i + 1) = some st' := by
  obtain ⟨st', h⟩ := qw_some hw (show i + 1 ≤ n from hi)
  exact ⟨st', by rw [← qw_stk_s hs]; exact h, h⟩
theorem jn_open {fs op mi : Nat → Int32} {n i d : Nat} (hJ : jnI fs n i d op mi) (h : fs i = 8 ∨ fs i = 10) : jnI fs n (i + 1) (d + 1) (upd op d (nI i)) (upd mi d (-1)) := by
  obtain ⟨st, s1, s2, s3⟩ := hJ
  refine ⟨(i, -1) :: st, by rw [qw_stk_s s1]; exact qw_open st h, by rw [List.length_cons, s2], ?_, ?_, ?_⟩
  · rw [s2, qb_us]
  · rw [s2, qb_us]
  · exact jnR_cong (fun j hj => ⟨qb_un (by omega), qb_un (by omega)⟩) s3
theorem jn_plain {fs op mi : Nat → Int32} {n i d : Nat} (hJ : jnI fs n i d op mi) (h8 : ¬ fs i = 8) (h9 : ¬ fs i = 9) (h10 : ¬ fs i = 10) (h11 : ¬ fs i = 11) : jnI fs n (i + 1) d op mi := by
  obtain ⟨st, s1, s2, s3⟩ := hJ
  exact ⟨st, by rw [qw_stk_s s1]; exact qw_plain st h8 h9 h10 h11, s2, s3⟩
theorem jn_else {fs op mi : Nat → Int32} {n i d : Nat} (hw : qw_stk fs n = some []) (hi : i < n) (hJ : jnI fs n i d op mi) (h : fs i = 9) : 1 ≤ d ∧ ∃ f : Nat, f < i ∧ op (d - 1) = nI f ∧ fs f = 8 ∧ mi (d - 1) = -1 ∧ jnI fs n (i + 1) d op (upd mi (d - 1) (nI i)) := by
  obtain ⟨st, s1, s2, s3⟩ := hJ
  obtain ⟨st', t1, t2⟩ := jn_step hw hi s1
  obtain ⟨q, r, e1, e2, e3, e4⟩ := qw_else h t1
  subst e1
  obtain ⟨a, b, c⟩ := s3
  have e : r.length = d - 1 := by rw [← s2]; rfl
  have e' : 1 ≤ d := by rw [← s2]; exact Nat.succ_le_succ (Nat.zero_le _)
  have g := (qw_goodAt s1).2 q List.mem_cons_self
  rw [e] at a b
  refine ⟨e', q.1, g.1, a, e2, b.trans e3, st', t2, by rw [e4]; exact s2, ?_⟩
  rw [e4]
  refine ⟨by rw [e]; exact a, by rw [e, qb_us], jnR_cong (fun j hj => ⟨rfl, qb_un (by omega)⟩) c⟩
theorem jn_end {fs op mi : Nat → Int32} {n i d : Nat} (hw : qw_stk fs n = some []) (hi : i < n) (hJ : jnI fs n i d op mi) (h : fs i = 11) : 1 ≤ d ∧ ∃ (q : Nat × Int32) (r : List (Nat × Int32)), qw_stk fs i = some (q :: r) ∧ q.1 < i ∧ op (d - 1) = nI q.1 ∧ mi (d - 1) = q.2 ∧ (fs q.1 = 8 ∨ fs q.1 = 10) ∧ (q.2 = -1 ∨ ∃ e : Nat, q.1 < e ∧ e < i ∧ q.2 = nI e ∧ fs e = 9) ∧ jnI fs n (i + 1) (d - 1) op mi := by
  obtain ⟨st, s1, s2, s3⟩ := hJ
  obtain ⟨st', t1, t2⟩ := jn_step hw hi s1
  obtain ⟨q, e1⟩ := qw_end h t1
  subst e1
  obtain ⟨a, b, c⟩ := s3
  have e : st'.length = d - 1 := by rw [← s2]; rfl
  have e' : 1 ≤ d := by rw [← s2]; exact Nat.succ_le_succ (Nat.zero_le _)
  have g := (qw_goodAt s1).2 q List.mem_cons_self
  rw [e] at a b
  exact ⟨e', q, st', s1, g.1, a, b, g.2.1, g.2.2, st', t2, e, c⟩
/-- another line's row: the END lines' stay -/
theorem jnF_keep {fs : Nat → Int32} {n : Nat} {nl : Nat → Nat} {nc : Nat → Nat → Int32} {i t b : Nat} {f : Nat → Int32} (h : jnF fs n nl nc i) (ht : ¬ fs t = 11) : jnF fs n (fun j => if j = t then b else nl j) (fun j => if j = t then f else nc j) i := by
  intro j hj h11
  have hne : ¬ j = t := fun z => ht (by rw [← z]; exact h11)
  dsimp only
  rw [if_neg hne, if_neg hne]
  exact h j hj h11
theorem jnF_next {fs : Nat → Int32} {n : Nat} {nl : Nat → Nat} {nc : Nat → Nat → Int32} {i : Nat} (h : jnF fs n nl nc i) (ht : ¬ fs i = 11) : jnF fs n nl nc (i + 1) := by
  intro j hj h11
  have hne : ¬ j = i := fun z => ht (by rw [← z]; exact h11)
  exact ⟨fun z => (h j hj h11).1 (by omega), fun z => (h j hj h11).2 (by omega)⟩
/-- an END of a LOOP -/
theorem jnF_loop {fs : Nat → Int32} {n : Nat} {nl : Nat → Nat} {nc : Nat → Nat → Int32} {i : Nat} {f : Nat → Int32} {q : Nat × Int32} {r : List (Nat × Int32)} (h : jnF fs n nl nc i) (hs : qw_stk fs i = some (q :: r)) (h10 : fs q.1 = 10) (hf : f 0 = nI (q.1 + 1)) : jnF fs n (fun j => if j = i then 2 else nl j) (fun j => if j = i then f else nc j) (i + 1) := by
  intro j hj h11
  dsimp only
  by_cases e : j = i
  · subst e
    rw [if_pos rfl, if_pos rfl]
    exact ⟨fun _ => ⟨q, r, hs, Or.inl ⟨h10, rfl, hf⟩⟩, fun z => by omega⟩
  · rw [if_neg e, if_neg e]
    exact ⟨fun z => (h j hj h11).1 (by omega), fun z => (h j hj h11).2 (by omega)⟩
/-- an END of an IF -/
theorem jnF_if {fs : Nat → Int32} {n : Nat} {nl : Nat → Nat} {nc : Nat → Nat → Int32} {i : Nat} {q : Nat × Int32} {r : List (Nat × Int32)} (h : jnF fs n nl nc i) (hs : qw_stk fs i = some (q :: r)) (h10 : ¬ fs q.1 = 10) : jnF fs n nl nc (i + 1) := by
  intro j hj h11
  by_cases e : j = i
  · subst e
    exact ⟨fun _ => ⟨q, r, hs, Or.inr ⟨h10, (h j hj h11).2 (Nat.le_refl _)⟩⟩, fun z => by omega⟩
  · exact ⟨fun z => (h j hj h11).1 (by omega), fun z => (h j hj h11).2 (by omega)⟩
theorem jn_done {fs op mi : Nat → Int32} {n d : Nat} (hw : qw_stk fs n = some []) (hJ : jnI fs n n d op mi) : d = 0 := by
  obtain ⟨st, s1, s2, -⟩ := hJ
  rw [hw] at s1
  cases s1
  exact s2.symm
theorem jn_nf {nf : Nat → Option Nat} {nr : Nat → Nat} {t a m : Nat} (h : ∀ j, j < m → nf j = some (nr j)) : ∀ j, j < m → va_up nf t (some a) j = some (if j = t then a else nr j) := by
  intro j hj
  by_cases e : j = t
  · rw [if_pos e]
    exact if_pos e
  · rw [if_neg e]
    exact (if_neg e).trans (h j hj)
theorem jn_nf1 {nf : Nat → Option Nat} {nr : Nat → Nat} {t a : Nat} (h : ∀ j, j < t → nf j = some (nr j)) : ∀ j, j < t + 1 → va_up nf t (some a) j = some (if j = t then a else nr j) := by
  intro j hj
  by_cases e : j = t
  · rw [if_pos e]
    exact if_pos e
  · rw [if_neg e]
    exact (if_neg e).trans (h j (by omega))
theorem jn_len {fs op mi : Nat → Int32} {n i d : Nat} (hJ : jnI fs n i d op mi) : d ≤ i := by
  obtain ⟨st, s1, s2, -⟩ := hJ
  rw [← s2]
  exact qw_len (qw_goodAt s1).1 (fun q hq => ((qw_goodAt s1).2 q hq).1)
/-- the rows of the END lines are short at first -/
theorem jn_short {fs : Nat → Int32} {n i b : Nat} {nl : Nat → Nat} (h : ∀ j, j < i → j < n → fs j = 11 → nl j = 1) (hb : i < n → fs i = 11 → b = 1) : ∀ j, j < i + 1 → j < n → fs j = 11 → (if j = i then b else nl j) = 1 := by
  intro j hj hn h11
  by_cases e : j = i
  · rw [if_pos e]
    subst e
    exact hb hn h11
  · rw [if_neg e]
    exact h j (by omega) hn h11
