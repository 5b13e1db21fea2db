/-! A WORLD IN BLOCKS: a list of lists of cells -/
abbrev lxW : Type := List va_W
def lxF (Bs : lxW) : va_W := Bs.flatten
theorem lxF_cons (B : va_W) (Bs : lxW) : lxF (B :: Bs) = B ++ lxF Bs := rfl
theorem lxF_push (Bs : lxW) (x : Nat × va_E) : lxF Bs ++ [x] = lxF (Bs ++ [[x]]) := by
  unfold lxF
  rw [List.flatten_append]; rfl
/-- a cell of a block: its place, and what laying it anew does -/
theorem lx_at : ∀ {Bs : lxW} {q i : Nat} {B : va_W} {x : Nat × va_E}, Bs[q]? = some B → B[i]? = some x → ∃ j : Nat, (lxF Bs)[j]? = some x ∧ ∀ y : Nat × va_E, (lxF Bs).set j y = lxF (Bs.set q (B.set i y))
  | [], q, i, B, x, h, _ => by cases h
  | C :: t, 0, i, B, x, h, h2 => by
    cases h
    have hi : i < C.length := (List.getElem?_eq_some_iff.mp h2).1
    refine ⟨i, ?_, fun y => ?_⟩
    · rw [lxF_cons, List.getElem?_append_left hi]; exact h2
    · rw [lxF_cons, List.set_append_left _ _ hi]; rfl
  | C :: t, q + 1, i, B, x, h, h2 => by
    obtain ⟨j, h3, h4⟩ := lx_at (Bs := t) (q := q) h h2
    refine ⟨C.length + j, ?_, fun y => ?_⟩
    · rw [lxF_cons, List.getElem?_append_right (Nat.le_add_right _ _), Nat.add_sub_cancel_left]; exact h3
    · rw [lxF_cons, List.set_append_right _ _ (Nat.le_add_right _ _), Nat.add_sub_cancel_left, h4]; rfl
/-! one world, its cells in another order -/
theorem lx_Pm {G : sxG} {ws ws' : va_W} {H : Heap} (h : va_P G.1 vwCl ws H) (hp : ∀ x ∈ ws', x ∈ ws) : va_P G.1 vwCl ws' H := fun k q hq => by
  obtain ⟨i, hi⟩ := List.getElem?_of_mem (hp q (List.mem_of_getElem? hq))
  exact h i q hi
theorem lx_Dn {A : Nat → Prop} {ws : va_W} : va_D A ws ↔ (ws.map Prod.fst).Nodup ∧ ∀ x ∈ ws, A x.1 := by
  constructor
  · rintro ⟨h1, h2⟩
    refine ⟨?_, fun x hx => ?_⟩
    · rw [List.nodup_iff_pairwise_ne, List.pairwise_iff_getElem]
      intro i j hi hj hij e
      have hi' : i < ws.length := by rw [List.length_map] at hi; exact hi
      have hj' : j < ws.length := by rw [List.length_map] at hj; exact hj
      rw [List.getElem_map, List.getElem_map] at e
      have := h1 i j ws[i] ws[j] (List.getElem?_eq_getElem hi') (List.getElem?_eq_getElem hj') e
      omega
    · obtain ⟨i, hi⟩ := List.getElem?_of_mem hx
      exact h2 i x hi
  · rintro ⟨h1, h2⟩
    refine ⟨fun i j p q hp hq e => ?_, fun k q hq => h2 q (List.mem_of_getElem? hq)⟩
    rw [List.nodup_iff_pairwise_ne, List.pairwise_iff_getElem] at h1
    obtain ⟨hi, ep⟩ := List.getElem?_eq_some_iff.mp hp
    obtain ⟨hj, eq⟩ := List.getElem?_eq_some_iff.mp hq
    rcases Nat.lt_trichotomy i j with z | z | z
    · exact absurd (by rw [List.getElem_map, List.getElem_map, ep, eq]; exact e) (h1 i j (by rw [List.length_map]; exact hi) (by rw [List.length_map]; exact hj) z)
    · exact z
    · exact absurd (by rw [List.getElem_map, List.getElem_map, ep, eq]; exact e.symm) (h1 j i (by rw [List.length_map]; exact hj) (by rw [List.length_map]; exact hi) z)
theorem lx_Dm {A : Nat → Prop} {ws ws' : va_W} (h : va_D A ws) (hp : ws.Perm ws') : va_D A ws' := by
  rw [lx_Dn] at h ⊢
  exact ⟨(hp.map Prod.fst).nodup_iff.mp h.1, fun x hx => h.2 x (hp.mem_iff.mpr hx)⟩
/-- two halves of a world, by places -/
theorem lx_nd : ∀ {l : List Nat}, l.Nodup → va_nd l = true
  | [], _ => rfl
  | a :: t, h => by
    rw [List.nodup_cons] at h
    show (decide (a ∉ t) && va_nd t) = true
    rw [lx_nd h.2, Bool.and_true, decide_eq_true_iff]
    exact h.1
theorem lx_half (wc wr : va_W) : ∃ isC isR : List Nat, isC.map (fun i => (wc ++ wr)[i]?) = wc.map some ∧ va_nd isC = true ∧ isR.map (fun i => (wc ++ wr)[i]?) = wr.map some ∧ va_nd isR = true ∧ ∀ i ∈ isR, i ∉ isC := by
  refine ⟨List.range wc.length, (List.range wr.length).map (· + wc.length), ?_, lx_nd List.nodup_range, ?_, lx_nd ?_, ?_⟩
  · apply List.ext_getElem
    · rw [List.length_map, List.length_map, List.length_range]
    · intro i h1 h2
      rw [List.length_map, List.length_range] at h1
      rw [List.getElem_map, List.getElem_map, List.getElem_range, List.getElem?_append_left h1]
      exact List.getElem?_eq_getElem h1
  · apply List.ext_getElem
    · rw [List.length_map, List.length_map, List.length_map, List.length_range]
    · intro i h1 h2
      rw [List.length_map, List.length_map, List.length_range] at h1
      rw [List.getElem_map, List.getElem_map, List.getElem_map, List.getElem_range, List.getElem?_append_right (Nat.le_add_left _ _), Nat.add_sub_cancel]
      exact List.getElem?_eq_getElem h1
  · rw [List.nodup_iff_pairwise_ne, List.pairwise_map]
    exact (List.nodup_iff_pairwise_ne.mp List.nodup_range).imp fun h e => h (Nat.add_right_cancel e)
  · intro i hi hc
    obtain ⟨j, -, rfl⟩ := List.mem_map.mp hi
    have := List.mem_range.mp hc
    omega
theorem lx_rng : ∀ Bs : lxW, (List.range Bs.length).filterMap (fun i => Bs[i]?) = Bs
  | [] => rfl
  | x :: t => by
    rw [List.length_cons, List.range_succ_eq_map, List.filterMap_cons, List.filterMap_map]
    show x :: List.filterMap (fun i => t[i]?) (List.range t.length) = x :: t
    rw [lx_rng t]
/-- a choice of blocks, and the others -/
theorem lx_perm {Bs Cs Rs : lxW} {isC isR : List Nat} (hC : isC.filterMap (fun i => Bs[i]?) = Cs) (hR : isR.filterMap (fun i => Bs[i]?) = Rs) (hp : (isC ++ isR).Perm (List.range Bs.length)) : (lxF Bs).Perm (lxF Cs ++ lxF Rs) := by
  have h1 : (Cs ++ Rs).Perm Bs := by
    rw [← hC, ← hR, ← List.filterMap_append]
    have := hp.filterMap (fun i => Bs[i]?)
    rw [lx_rng] at this
    exact this
  have h2 : (Cs ++ Rs).flatten.Perm Bs.flatten := h1.flatten
  rw [List.flatten_append] at h2
  exact h2.symm
