/-! new T[1][0] -/
section PXN
/-- what new T[1][0] makes -/
def pxn_o (c : ClassId) : Cell := { cls := c, slots := Array.replicate 1 .null, vm := .none }
def pxn_i (comp : ClassId) (dv : Value) : Cell := { cls := comp, slots := Array.replicate 0 dv, vm := .none }
def pxn_s (s : State) (c comp : ClassId) (dv : Value) : State := ((s.pushCell (pxn_o c)).pushCell (pxn_i comp dv)).setCell s.heap.size ((pxn_o c).setSlot 0 (.ref (s.heap.size + 1)))
section
variable {E : CtlPost} {e : Env} {d : Bool} {acts : List Action} {s : State}
theorem pxn_new {c comp : ClassId} {k : Class} {type : FieldType} {len : Nat} {init : Value} (hk : s.vm.classes[c]? = some k) (hkind : k.kind = .array comp type)
    (hlimit : ¬ len > e.platform.arrayLengthLimit) (hheap : ¬ len * componentBytes type > e.platform.maxHeapBytes) (hfit : fits type init = true) (hdef : init.isDefault = true) {Q : Addr → Pre}
    (h1 : s.heap.size < e.platform.maxCells) (h2 : s.slotsUsed + len ≤ e.platform.maxSlots) (hq : Q s.heap.size d acts (s.pushCell { cls := c, slots := Array.replicate len init, vm := .none })) :
    wp (Jvm.newArray c len init) Q E e d acts s := by
  have hfits : ∀ i v, (Array.replicate len init)[i]? = some v → s.fitsSlot c .none i v = true := by
    intro i v hv
    simp only [Array.getElem?_replicate] at hv
    split at hv
    · cases hv; simp [State.fitsSlot, State.slotType?, hk, hkind, hfit]
    · cases hv
  have hda : allocActs (Array.replicate len init) s.heap.size acts = acts := by
    have hall : ((Array.replicate len init).all (·.isDefault)) = true := by
      rw [Array.all_replicate]; split <;> simp [hdef]
    unfold allocActs; rw [if_pos hall]
  simp only [Jvm.newArray, Jvm.arrayFits, wp_bind', W.ask, W.ite, hlimit, if_false, wp_pure', W.theClass, hk, hkind, hheap, W.alloc, W.stop, Option.some.injEq, exists_eq_left', Array.size_replicate, hda]
  rw [if_neg (by omega)]
  exact ⟨h1, h2, hfits, hq⟩
theorem pxn_make {c comp cc : ClassId} {k kc : Class} {type : FieldType} (hk : s.vm.classes[c]? = some k) (hkind : k.kind = .array comp (.array type)) (hkc : s.vm.classes[comp]? = some kc) (hkindc : kc.kind = .array cc type)
    (hl : ¬ (1 : Nat) > e.platform.arrayLengthLimit) (hh : ¬ (1 : Nat) * 4 > e.platform.maxHeapBytes) (hdf : fits type (defaultValue type) = true) (hdd : (defaultValue type).isDefault = true)
    (h1 : s.heap.size + 2 ≤ e.platform.maxCells) (h2 : s.slotsUsed + 1 ≤ e.platform.maxSlots) {Q : Addr → Pre} (hq : ∀ d' acts', Q s.heap.size d' acts' (pxn_s s c comp (defaultValue type))) :
    wp (Jvm.Op.multianewarray.make c [1, 0]) Q E e d acts s := by
  have hr : fits (.array type) .null = true := rfl
  rw [Jvm.Op.multianewarray.make]
  simp only [wp_bind', W.ite, show ¬ (1 : Int32) < 0 from by decide, if_false, wp_pure', W.theClass, hk, hkind, Option.some.injEq, exists_eq_left', show (1 : Int32).toNatClampNeg = 1 from by decide]
  refine pxn_new hk hkind hl hh hr rfl (by omega) (by omega) ?_
  rw [show (((1 : Int32) == 0) = false) from by decide]
  simp only [wp_bind', Bool.false_eq_true, if_false, W.ite]
  rw [Std.Legacy.Range.forIn_eq_forIn_range']
  have hsz : ([:1] : Std.Legacy.Range).size = 1 := by simp [Std.Legacy.Range.size]
  rw [hsz]
  show wp (forIn [0] PUnit.unit _) _ E e d acts _
  rw [List.forIn_cons]
  simp only [wp_bind']
  rw [Jvm.Op.multianewarray.make]
  simp only [wp_bind', W.ite, show ¬ (0 : Int32) < 0 from by decide, if_false, wp_pure', W.theClass, State.vm_pushCell, hkc, hkindc, Option.some.injEq, exists_eq_left', show (0 : Int32).toNatClampNeg = 0 from by decide]
  refine pxn_new (s := s.pushCell (pxn_o c)) (by simpa using hkc) hkindc (by omega) (by omega) hdf hdd (by simp; omega) (by simp [pxn_o]; omega) ?_
  simp only [wp_bind', W.writeLoc, wp_pure', List.forIn_nil]
  have e1 : Array.size (s.pushCell (pxn_o c)).heap = s.heap.size + 1 := by simp
  have hlt : s.heap.size < Array.size (s.pushCell (pxn_o c)).heap := by rw [e1]; exact Nat.lt_succ_self _
  refine ⟨pxn_o c, ?_, by simp [pxn_o], by simp [pxn_o], ?_, ?_⟩
  · rw [State.heap_pushCell_of_lt (h := hlt)]
    exact State.heap_pushCell_size _ _
  · simp [State.fitsSlot, State.slotType?, pxn_o, hk, hkind, fits]
  · rw [e1]
    exact hq _ _
end
theorem pxn_setTop (s : State) (f : JFrame) (c comp : ClassId) (dv : Value) : pxn_s (s.setTop f) c comp dv = (pxn_s s c comp dv).setTop f := by
  simp only [pxn_s, State.heap_setTop, State.pushCell_setTop, State.setCell_setTop]
variable {p : Program} {l : Launch} {e : Env} {R : Room} {s T : State} {m : MethodId} {args : Array Value} {below : List Frame} {meth : Method} {c : Code} {H : Heap} {locs : List Loc} {cells slots : Nat} {Q : State → Prop}
variable {cc : ByteArray} {pc index : Nat} {ls : Array Slot} {rest : List Value} {G : sxG} {A : Nat → Prop} {ws : va_W} {own : String}
theorem pxn_st (X : Stand p l e R s m args below meth c T locs cells slots) (cA comp : ClassId) (dv : Value) : Stand p l e R s m args below meth c (pxn_s T cA comp dv) (locs ++ [⟨T.heap.size, 0⟩]) (cells + 2) (slots + 1) := by
  have X1 := X.pushed (pxn_o cA)
  have X2 := X1.pushed (pxn_i comp dv)
  have e1 : Array.size (T.pushCell (pxn_o cA)).heap = T.heap.size + 1 := by simp
  have hcell : ((T.pushCell (pxn_o cA)).pushCell (pxn_i comp dv)).heap[T.heap.size]? = some (pxn_o cA) := by
    have hlt : T.heap.size < Array.size (T.pushCell (pxn_o cA)).heap := by rw [e1]; exact Nat.lt_succ_self _
    rw [State.heap_pushCell_of_lt (h := hlt)]
    exact State.heap_pushCell_size _ _
  exact X2.stored hcell 0 (.ref (T.heap.size + 1))
theorem px_multi {ty : FieldType} {nm nmA : String} (en : (FieldType.array ty).toString = nmA) (en2 : "[" ++ nmA = nm) (hdf : fits ty (defaultValue ty) = true) (hdd : (defaultValue ty).isDefault = true) (hexec : p.tables.exec = Jvm.exec) (hb : c.code = cc) (hown : s.vm.findClass own = some m.cls) (hclink : (Cond.classLink own index nm).before args s = true) (hover : (Cond.arrayOver (.array ty)).before args s = true) (harr : (Cond.arrayClass ty).before args s = true)
    (hP : va_P G.1 vwCl ws H) (hD : va_D A ws) (hS : va_S A s.heap H locs) (hA : ∀ q : Nat, s.heap.size ≤ q → A q) (hcells : cells + 2 ≤ R.cells) (hslots : slots + 1 ≤ R.slots) (hdg : decode cc pc = .ok (.multianewarray index 2, 4))
    (kk : ∀ (q : Nat) (H1 : Heap) (locs1 : List Loc), va_P G.1 vwCl ws H1 → va_D A ws → va_S A s.heap H1 locs1 → W p l e R s m args below meth c H1 locs1 (cells + 2) (slots + 1) Q (F0 m (pc + 4) ls (.ref q :: rest))) : W p l e R s m args below meth c H locs cells slots Q (F0 m pc ls (.int 0 :: .int 1 :: rest)) := by
  intro T hT X
  subst hT; subst hb
  have hpl : e.platform.magicAccessors = ({} : Platform).magicAccessors := by rw [X.admits.platform]
  obtain ⟨comp, cA, kA, hcomp, -, hkA, hkindA, hnameA⟩ := arrayOverA_spec hover
  obtain ⟨comp', kC, cc', hcomp', hkC, hkindC⟩ := Cond.arrayClass_spec harr
  have ecomp : comp' = comp := Option.some.inj (hcomp'.symm.trans hcomp)
  subst ecomp
  obtain ⟨c0, hfc0, hcl⟩ := Cond.classLink_spec hown hclink e.platform hpl
  have hnameA2 : s.vm.findClass nm = some cA := by rw [← en2, ← en]; exact hnameA
  cases hnameA2.symm.trans hfc0
  obtain ⟨hg₁, hwarm₁, hready₁⟩ := State.classEntry (e := e) X.warmed hcl
  generalize T.vm.noted m.cls index (.cls cA) = vm₁ at hg₁ hwarm₁ hready₁
  have hal : s.vm.Alike vm₁ := hwarm₁.alike
  obtain ⟨kA₁, hkA₁, heA⟩ := hal.2.2 _ _ hkA
  obtain ⟨kC₁, hkC₁, heC⟩ := hal.2.2 _ _ hkC
  have hkindA₁ : kA₁.kind = .array comp' (.array ty) := by rw [heA]; exact hkindA
  have hkindC₁ : kC₁.kind = .array cc' ty := by rw [heC]; exact hkindC
  have X₁ := X.noted hwarm₁
  obtain ⟨hr1, hr2⟩ := X.roomAbove hcells hslots
  have X₂ := pxn_st X₁ cA comp' (defaultValue ty)
  have hsz : (pxn_s (T.setVm vm₁) cA comp' (defaultValue ty)).heap.size = T.heap.size + 2 := by simp [pxn_s, State.setCell]
  have hold : ∀ q : Nat, q < T.heap.size → (pxn_s (T.setVm vm₁) cA comp' (defaultValue ty)).heap[q]? = T.heap[q]? := fun q hq => by
    have h1 : q < (T.setVm vm₁).heap.size := hq
    have h2 : q < ((T.setVm vm₁).pushCell (pxn_o cA)).heap.size := by simp; omega
    unfold pxn_s
    rw [State.heap_setCell_other (Nat.ne_of_gt h1), State.heap_pushCell_of_lt (h := h2), State.heap_pushCell_of_lt (h := h1)]
    rfl
  have hl1 : ¬ (1 : Nat) > e.platform.arrayLengthLimit := by rw [Launch.admits_arrayLengthLimit X.admits]; omega
  have hh1 : ¬ (1 : Nat) * 4 > e.platform.maxHeapBytes := by rw [Launch.admits_maxHeapBytes X.admits]; omega
  obtain ⟨t, a1, b1⟩ := kk T.heap.size _ (locs ++ [⟨T.heap.size, 0⟩]) (hP.kept (fun k x hx => hold x.1 ((hP k x hx).lt))) hD ⟨Nat.le_trans hS.1 (by rw [hsz]; omega), fun q h1 h2 => (hold q (Nat.lt_of_lt_of_le h1 hS.1)).trans (hS.2.1 q h1 h2), fun q hq => by
    rcases List.mem_append.mp hq with h | h
    · exact hS.2.2 q h
    · rw [List.mem_singleton.mp h]; exact hA _ hS.1⟩ _ rfl X₂
  refine ⟨t, ?_, b1⟩
  jvm_step X.here [X.here.top, hexec, hdg]
  simp only [Jvm.Op.multianewarray.sem, wp_bind', W.resolveClassAt_links (State.method?_setTop (F0 m pc ls (.int 0 :: .int 1 :: rest)) X.here.top) hg₁]
  rw [W.popN, if_neg (by decide)]
  refine ⟨F0 m pc ls (.int 0 :: .int 1 :: rest), State.topJava?_setTop' (s := T.setVm vm₁) (F0 m pc ls (.int 0 :: .int 1 :: rest)) X.here.top, [.int 1, .int 0], rest, rfl, rfl, ?_⟩
  simp only [List.mapM_cons, List.mapM_nil, wp_bind', wp_pure']
  refine pxn_make (k := kA₁) (kc := kC₁) (comp := comp') (cc := cc') (type := ty) hkA₁ hkindA₁ hkC₁ hkindC₁ hl1 hh1 hdf hdd (by show T.heap.size + _ ≤ _; omega) (by show T.slotsUsed + _ ≤ _; omega) (fun d' acts' => ?_)
  have eS : ((T.setTop (F0 m pc ls (.int 0 :: .int 1 :: rest))).setVm vm₁).setTop (F0 m pc ls rest) = (T.setVm vm₁).setTop (F0 m pc ls rest) := by
    show ((T.setVm vm₁).setTop _).setTop _ = _
    rw [State.setTop_setTop]
  rw [eS, pxn_setTop]
  simp only [wp_bind', W.mark, W.pushRef, State.topJava?_setTop' _ X₂.here.top, Option.some.injEq, exists_eq_left', State.setTop_setTop, State.heap_setTop]
  intro acts
  simp [jvm, X₂.here.top]
  exact a1
end PXN
