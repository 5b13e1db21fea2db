/-! the cache of small Integers -/
theorem px_cin {x : Int32} (h1 : ¬ x < (-128)) (h2 : ¬ 127 < x) : vp_in (x + 128) 256 := by
  obtain ⟨j, hj, e, -⟩ := bx_small h1 h2
  rw [e]
  exact vp_in_nI hj (by decide)
theorem px_cn {x : Int32} (h1 : ¬ x < (-128)) (h2 : ¬ 127 < x) : (x + 128).toNatClampNeg < 256 := by
  obtain ⟨j, hj, e, -⟩ := bx_small h1 h2
  rw [e, nI_clamp (by omega)]
  exact hj
theorem px_intAt {k : pxC} {A : Nat → Prop} {s : State} {H : Heap} {locs : List Loc} (hE : pxE k A s s.heap) (hS : va_S A s.heap H locs) {j : Nat} (hj : j < 256) : ∃ cellV : Cell, H[k.2.2.1 j]? = some cellV ∧ cellV.vm.isStatics = false ∧ s.vm.findClass RJ6 = some cellV.cls := by
  obtain ⟨cell, h1, h2, h3, -⟩ := va_O.kept (hE.2.1.2.2.2.2.2.1.1 j hj) hS.2.1
  exact ⟨cell, h1, h2, h3⟩
theorem px_asg {k : pxC} {A : Nat → Prop} {s : State} (hE : pxE k A s s.heap) : ∀ comp c0 : ClassId, s.vm.findClass "java/lang/Object" = some comp → s.vm.findClass RJ6 = some c0 → s.vm.assignable c0 comp = true := by
  intro comp c0 h1 h2
  have h := hE.1.1 (.castable RJ6 "java/lang/Object") (by simp [pxNl])
  obtain ⟨a, b, f1, f2, f3⟩ := Cond.castable_spec (va_Nw.use (A := #[]) rfl h)
  cases h2.symm.trans f1
  cases h1.symm.trans f2
  exact f3
theorem px_dE {k : pxC} {A : Nat → Prop} {s : State} {H : Heap} {locs : List Loc} (hE : pxE k A s s.heap) (hS : va_S A s.heap H locs) : ∃ cell : Cell, H[k.1]? = some cell ∧ cell.vm.isStatics = false ∧ s.vm.findClass "[Ljava/lang/Object;" = some cell.cls := by
  obtain ⟨cell, h1, h2, h3, -⟩ := va_O.kept hE.2.1.2.2.2.2.2.2.2.2.2 hS.2.1
  exact ⟨cell, h1, h2, h3⟩
