/-! ARRAYS OF ARRAYS, Object[], new T[1][0] -/
section PXA
variable {p : Program} {l : Launch} {e : Env} {R : Room} {s : State} {m : MethodId} {args : Array Value} {below : List Frame} {meth : Method} {c : Code} {H : Heap} {locs : List Loc} {cells slots : Nat} {Q : State → Prop}
variable {cc : ByteArray} {pc index : Nat} {ls : Array Slot} {rest : List Value} {G : sxG} {k : pxC} {A : Nat → Prop} {a : Nat} {ws : va_W} {own : String}
/-- the classes of arrays: int[], boolean[], int[][], Object[] -/
abbrev pxTy (G : sxG) (k : pxC) : List (ClassId × FieldType) := [(G.2.1, .int), (G.2.2, .boolean), (k.2.2.2.2.1, .array .int), (k.2.2.2.2.2.1, .object "java/lang/Object"), (k.2.2.2.2.2.2, .long)]
theorem px_K (hK : sxK G s) (hE : pxE k A s s.heap) : va_K G.1 vwCl (pxTy G k) s := by
  refine ⟨hK.1.1, fun j q h => ?_⟩
  match j, h with
  | 0, h => exact hK.1.2 0 q h
  | 1, h => exact hK.1.2 1 q h
  | 2, h => cases h; exact hE.2.2.2.1
  | 3, h => cases h; exact hE.2.2.2.2.1
  | 4, h => cases h; exact hE.2.2.2.2.2.2
  | j + 5, h => cases h
theorem px_push {q : Nat} {x : va_E} {cell : Cell} (hP : va_P G.1 vwCl ws H) (hD : va_D A ws) (hS : va_S A s.heap H locs) (hA : ∀ q : Nat, s.heap.size ≤ q → A q) (hq : q = H.size) (hc : va_at G.1 vwCl (q, x) (H.push cell)) : va_P G.1 vwCl (ws ++ [(q, x)]) (H.push cell) ∧ va_D A (ws ++ [(q, x)]) ∧ va_S A s.heap (H.push cell) locs := by
  subst hq
  have o1 : ∀ q : Nat, q < H.size → (H.push cell)[q]? = H[q]? := fun q hq => by rw [Array.getElem?_push, if_neg (Nat.ne_of_lt hq)]
  refine ⟨(hP.kept (fun k x hx => o1 x.1 ((hP k x hx).lt))).app (fun k x hx => ?_), hD.push hP rfl (hA _ hS.1), Nat.le_trans hS.1 (by rw [Array.size_push]; omega), fun x h1 h2 => (o1 x (Nat.lt_of_lt_of_le h1 hS.1)).trans (hS.2.1 x h1 h2), hS.2.2⟩
  cases k with
  | zero => cases hx; exact hc
  | succ k => cases hx
theorem px_anewI (hx : p.tables.exec = Jvm.exec) (hb : c.code = cc) (hown : s.vm.findClass own = some m.cls) (hclink : (Cond.classLink own index "[I").before args s = true) (hK : sxK G s) (hE : pxE k A s s.heap) (hP : va_P G.1 vwCl ws H) (hD : va_D A ws) (hS : va_S A s.heap H locs) (hA : ∀ q : Nat, s.heap.size ≤ q → A q)
    {n : Int32} (hn : ¬ n < 0) (N' : Nat) (hN : n.toNatClampNeg = N') (hbytes : N' * 4 ≤ 536870912) (hcells : cells + 1 ≤ R.cells) (hslots : slots + N' ≤ R.slots) (hdg : decode cc pc = .ok (.anewarray index, 3))
    (kk : ∀ (q : Nat) (H1 : Heap), va_P G.1 vwCl (ws ++ [(q, .inl (k.2.2.2.2.1, N', .inr (.inr (.inr (.inr (fun _ => none))))))]) H1 → va_D A (ws ++ [(q, .inl (k.2.2.2.2.1, N', .inr (.inr (.inr (.inr (fun _ => none))))))]) → va_S A s.heap H1 locs →
      W p l e R s m args below meth c H1 locs (cells + 1) (slots + N') Q (F0 m (pc + 3) ls (.ref q :: rest))) : W p l e R s m args below meth c H locs cells slots Q (F0 m pc ls (.int n :: rest)) := by
  subst hN
  have e0 : (FieldType.array .int).toString = "[I" := by decide +kernel
  have hcl2 : (Cond.classLink own index (FieldType.array .int).toString).before args s = true := by rw [e0]; exact hclink
  have hov : (Cond.arrayOver (.array .int)).before args s = true := hE.1.2.2.2.2.1
  have hra : s.vm.findClass ("[" ++ (FieldType.array .int).toString) = some k.2.2.2.2.1 := hE.2.2.2.1.2
  generalize hty : FieldType.array .int = ty at hcl2 hov hra
  refine W.anewA (t := .int) hx hb hown (by rw [hty]; exact hcl2) (by rw [hty]; exact hov) rfl hdg rfl hn hbytes hcells hslots fun cA kA comp f1 f2 f3 f4 => ?_
  rw [hty] at f1
  have ecA : cA = k.2.2.2.2.1 := Option.some.inj (f1.symm.trans hra)
  subst ecA
  obtain ⟨h1, h2, h3⟩ := px_push (x := .inl (k.2.2.2.2.1, n.toNatClampNeg, .inr (.inr (.inr (.inr (fun _ => none)))))) (cell := ({ cls := k.2.2.2.2.1, slots := Array.replicate n.toNatClampNeg .null, vm := .none } : Cell)) hP hD hS hA rfl (by
    show (H.push _)[H.size]? = some (vp_cell _ _)
    rw [Array.getElem?_push_size, vp_cell_q, ← arrV_new]; rfl)
  exact kk H.size _ h1 h2 h3
theorem px_anewO (hx : p.tables.exec = Jvm.exec) (hb : c.code = cc) (hown : s.vm.findClass own = some m.cls) (hclink : (Cond.classLink own index "java/lang/Object").before args s = true) (hK : sxK G s) (hE : pxE k A s s.heap) (hP : va_P G.1 vwCl ws H) (hD : va_D A ws) (hS : va_S A s.heap H locs) (hA : ∀ q : Nat, s.heap.size ≤ q → A q)
    {n : Int32} (hn : ¬ n < 0) (N' : Nat) (hN : n.toNatClampNeg = N') (hbytes : N' * 4 ≤ 536870912) (hcells : cells + 1 ≤ R.cells) (hslots : slots + N' ≤ R.slots) (hdg : decode cc pc = .ok (.anewarray index, 3))
    (kk : ∀ (q : Nat) (H1 : Heap), va_P G.1 vwCl (ws ++ [(q, .inl (k.2.2.2.2.2.1, N', .inr (.inr (.inr (.inr (fun _ => none))))))]) H1 → va_D A (ws ++ [(q, .inl (k.2.2.2.2.2.1, N', .inr (.inr (.inr (.inr (fun _ => none))))))]) → va_S A s.heap H1 locs →
      W p l e R s m args below meth c H1 locs (cells + 1) (slots + N') Q (F0 m (pc + 3) ls (.ref q :: rest))) : W p l e R s m args below meth c H locs cells slots Q (F0 m pc ls (.int n :: rest)) := by
  refine va_newq hx hb hown hclink hE.1.2.1 hK.1 hP hD hS hA hn hN hbytes hcells hslots hdg (fun q cA H1 hK9 h1 h2 h3 => ?_)
  have ecA : cA = k.2.2.2.2.2.1 := by
    obtain ⟨kA, comp, f1, f2, f3, f4⟩ := (hK9.2 2 (cA, .object "java/lang/Object") rfl).2
    obtain ⟨kB, comp2, g1, g2, g3, g4⟩ := hE.2.2.2.2.1.2
    exact Option.some.inj (f4.symm.trans g4)
  subst ecA
  exact kk q H1 h1 h2 h3
theorem px_newJ (hx : p.tables.exec = Jvm.exec) (hb : c.code = cc) (harr : (Cond.arrayClass .long).before args s = true) (hK : sxK G s) (hE : pxE k A s s.heap) (hP : va_P G.1 vwCl ws H) (hD : va_D A ws) (hS : va_S A s.heap H locs) (hA : ∀ q : Nat, s.heap.size ≤ q → A q)
    (hcells : cells + 1 ≤ R.cells) (hslots : slots + 1 ≤ R.slots) (hdg : decode cc pc = .ok (.newarray .long, 2))
    (kk : ∀ (q : Nat) (H1 : Heap), va_P G.1 vwCl (ws ++ [(q, .inl (k.2.2.2.2.2.2, 1, .inr (.inl (fun _ => 0))))]) H1 → va_D A (ws ++ [(q, .inl (k.2.2.2.2.2.2, 1, .inr (.inl (fun _ => 0))))]) → va_S A s.heap H1 locs →
      W p l e R s m args below meth c H1 locs (cells + 1) (slots + 1) Q (F0 m (pc + 2) ls (.ref q :: rest))) : W p l e R s m args below meth c H locs cells slots Q (F0 m pc ls (.int 1 :: rest)) := by
  refine va_newa (atype := .long) (ty := .long) (N' := 1) (a0 := (1, .inr (.inl (fun _ => 0)))) hx hb harr rfl hK.1 hP hD hS hA (fun cA => rfl) (by decide) (by decide) (by decide) hcells hslots hdg (fun q cA H1 hK9 h1 h2 h3 => ?_)
  have ecA : cA = k.2.2.2.2.2.2 := Option.some.inj ((hK9.2 2 (cA, .long) rfl).2.symm.trans hE.2.2.2.2.2.2.2)
  subst ecA
  exact kk q H1 h1 h2 h3
/-- an int[] into an int[][] -/
theorem px_aastI (hx : p.tables.exec = Jvm.exec) (hb : c.code = cc) (hK : sxK G s) (hE : pxE k A s s.heap) (hP : va_P G.1 vwCl ws H) (hD : va_D A ws) (hS : va_S A s.heap H locs) (q0 qk : Nat) {n v : Nat} {x : vp_A} {f : Nat → Option Nat} (ha : ws[q0]? = some (a, .inl (k.2.2.2.2.1, n, .inr (.inr (.inr (.inr f)))))) (hv : ws[qk]? = some (v, .inl (G.2.1, x))) {i : Int32} (hin : vp_in i n) (hdg : decode cc pc = .ok (.aastore, 1))
    (kk : ∀ (H1 : Heap) (locs1 : List Loc), va_P G.1 vwCl (ws.set q0 (a, .inl (k.2.2.2.2.1, n, .inr (.inr (.inr (.inr (va_up f i.toNatClampNeg (some v)))))))) H1 → va_D A (ws.set q0 (a, .inl (k.2.2.2.2.1, n, .inr (.inr (.inr (.inr (va_up f i.toNatClampNeg (some v)))))))) → va_S A s.heap H1 locs1 → W p l e R s m args below meth c H1 locs1 cells slots Q (F0 m (pc + 1) ls rest)) : W p l e R s m args below meth c H locs cells slots Q (F0 m pc ls (.ref v :: .int i :: .ref a :: rest)) := by
  have hlt : i.toNatClampNeg < n := Nat.not_le.mp fun q => hin (Or.inr q)
  have h0 : ¬ i < 0 := fun q => hin (Or.inl q)
  obtain ⟨kA, comp, k1, k2, k3⟩ := hE.2.2.2.2.2.1
  have eI : "[" ++ FieldType.int.toString = "[I" := by decide +kernel
  have hI : s.vm.findClass "[I" = some G.2.1 := by
    have h := (hK.1.2 0 (G.2.1, .int) rfl).2
    rw [← eI]; exact h
  have ec : comp = G.2.1 := Option.some.inj (k3.symm.trans hI)
  subst ec
  obtain ⟨kE, hkE, -⟩ := Vm.findClass_spec hI
  have hvm0 : (vp_cell G.2.1 x).vm = .none := by
    obtain ⟨n, f | f | f | f | f⟩ := x <;> rfl
  have hcl0 : (vp_cell G.2.1 x).cls = G.2.1 := by
    obtain ⟨n, f | f | f | f | f⟩ := x <;> rfl
  refine W.aast hx hb (hP q0 _ ha) (fun q h => by cases h) (fun h => by cases h) k1 k2 rfl hkE ⟨h0, by show _ < (arrV _ _ _).slots.size; rw [arrV_size]; exact hlt⟩ (hP qk _ hv) (fun q h => by rw [hvm0] at h; cases h) (by rw [hcl0]; exact hkE) (by rw [hcl0]; exact va_asg _ _) rfl rfl hdg fun H1 e z oq => ?_
  refine kk H1 _ (hP.set hD ha ?_ oq) (hD.set ha) (hS.put z oq (hD.2 q0 _ ha))
  show H1[a]? = some (vp_cell _ _)
  rw [e]
  rw [vp_cell_q, vp_cell_q, arrV_store]
  congr 2
  funext q
  by_cases hq : q = i.toNatClampNeg
  · subst hq
    simp [updV, va_up, va_rf]
  · simp [updV, va_up, hq]
end PXA
