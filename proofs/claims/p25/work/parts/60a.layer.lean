/-! THE LAW'S LAYER: an answer and a world behind, with new cells; the script goes along -/
/-- the class of int[][]; the script: its address, its length, its ints -/
abbrev lxC : Type := ClassId × Nat × Nat × (Nat → Int32)
def lxT (U : State) : Prop := va_Nw (.methodLinkNest RL 83 yX10_init RL) U ∧ (Cond.arrayOver (.array .int)).before #[] U = true
theorem lx_over {ty : FieldType} {s U : State} (hW : s.WarmedH U.vm) (h : (Cond.arrayOver ty).before #[] s = true) : (Cond.arrayOver ty).before #[] U = true := by
  have h1 : (Cond.arrayOver ty).before #[] (s.setVm U.vm) = true := by rw [Cond.arrayOver_setVmC hW.alike ty]; exact h
  exact h1
theorem lxT.warm {s U : State} (hW : s.WarmedH U.vm) (h : lxT s) : lxT U := ⟨va_Nw.warmM hW h.1, lx_over hW h.2⟩
/-- the script: nobody writes it -/
def lxO (k : lxC) (A : Nat → Prop) (U : State) (H : Heap) : Prop := va_X k.2.1 k.2.2.1 k.2.2.2 U H ∧ ¬ A k.2.1
theorem lxO.lt {k : lxC} {A : Nat → Prop} {U : State} {H : Heap} (h : lxO k A U H) : k.2.1 < H.size := by
  obtain ⟨⟨scr, h1, -⟩, -⟩ := h
  exact (Array.getElem?_eq_some_iff.mp h1).1
theorem lxO.go {k : lxC} {A B : Nat → Prop} {u U : State} {H : Heap} (h : lxO k A u u.heap) (hvm : u.vm.Alike U.vm) (hk : ∀ q : Nat, q < u.heap.size → ¬ A q → H[q]? = u.heap[q]?) (hB : ∀ q, B q → A q) : lxO k B U H :=
  ⟨(va_X.moved hvm h.1).kept (hk _ h.lt h.2), fun z => h.2 (hB _ z)⟩
/-- the component of the class cA is the class of name nm -/
def lx_Co (cA : ClassId) (ty : FieldType) (nm : String) (U : State) : Prop := ∃ (kA : Class) (comp : ClassId), U.vm.classes[cA]? = some kA ∧ kA.kind = .array comp ty ∧ U.vm.findClass nm = some comp
theorem lx_Co.moved {cA : ClassId} {ty : FieldType} {nm : String} {u U : State} (hvm : u.vm.Alike U.vm) (h : lx_Co cA ty nm u) : lx_Co cA ty nm U := by
  obtain ⟨kA, comp, h1, h2, h3⟩ := h
  obtain ⟨k', hk', he⟩ := hvm.2.2 _ _ h1
  exact ⟨k', comp, hk', by rw [he]; exact h2, by rw [hvm.findClass]; exact h3⟩
/-- int[][] -/
def lxA (k : lxC) (U : State) : Prop := (ArrOfT U k.1 (.array .int) ∧ va_RA U k.1 (.array .int)) ∧ lx_Co k.1 (.array .int) "[I" U
theorem lxA.moved {k : lxC} {u U : State} (hvm : u.vm.Alike U.vm) (h : lxA k u) : lxA k U := ⟨⟨arrOfT_moved hvm h.1.1, h.1.2.moved hvm⟩, h.2.moved hvm⟩
def lxE (k : lxC) (A : Nat → Prop) (U : State) (H : Heap) : Prop := lxT U ∧ lxO k A U H ∧ lxA k U
theorem lxE.go {k : lxC} {A B : Nat → Prop} {s U : State} {H : Heap} (h : lxE k A s s.heap) (hW : s.WarmedH U.vm) (hk : ∀ q : Nat, q < s.heap.size → ¬ A q → H[q]? = s.heap[q]?) (hB : ∀ q, B q → A q) : lxE k B U H := by
  obtain ⟨h1, h2, h4⟩ := h
  exact ⟨h1.warm hW, h2.go hW.alike hk hB, h4.moved hW.alike⟩
def lxP (G : sxG) (k : lxC) (ws : va_W) (av : List Value) (sz : Nat) : Array Value → State → Prop := va_Pc av (fun U => U.heap.size = sz ∧ va_P G.1 vwCl ws U.heap ∧ va_D (fun _ => True) ws ∧ sxK G U ∧ lxE k (va_A ws sz) U U.heap)
theorem lxE.same {k : lxC} {A : Nat → Prop} {u U : State} {H : Heap} (hv : u.vm = U.vm) (h : lxE k A u H) : lxE k A U H := by
  obtain ⟨⟨h1, h5⟩, ⟨g1, g2⟩, a1⟩ := h
  have hvm : u.vm.Alike U.vm := by rw [← hv]; exact Vm.Alike.refl u.vm
  have ho : ∀ {ty : FieldType}, (Cond.arrayOver ty).before #[] u = true → (Cond.arrayOver ty).before #[] U = true := by
    intro ty h
    have e : (Cond.arrayOver ty).before #[] U = (Cond.arrayOver ty).before #[] u := by
      unfold Cond.before Cond.holds
      simp only [Cond.value, hv]
    rw [e]; exact h
  exact ⟨⟨va_Nw.same rfl hv h1, ho h5⟩, ⟨va_X.moved hvm g1, g2⟩, a1.moved hvm⟩
theorem lxP.blind {G : sxG} {k : lxC} {ws : va_W} {av : List Value} {sz : Nat} : FrameBlind (lxP G k ws av sz) := by
  intro a U g mk h
  obtain ⟨h1, h0, h2, h5, ⟨h3, h4⟩, h6⟩ := h
  exact ⟨h1, h0, h2, h5, ⟨va_K.moved (u := U) (U := U.calling g mk a) (Vm.Alike.refl U.vm) h3, fun q hq => va_Nw.same rfl (rfl : U.vm = (U.calling g mk a).vm) (h4 q hq)⟩, lxE.same (rfl : U.vm = (U.calling g mk a).vm) h6⟩
def lxQ {σ : Type} (rv : σ → Option Value) (B : σ → State → Prop) (A : Nat → Prop) : Array Value → State → Outcome → State → Prop := fun _ st oc t => (∃ u : σ, oc = .returned (rv u) ∧ B u t) ∧ va_F A st t
def lxB {σ : Type} (G : sxG) (A : Nat → Prop) (wOf : σ → va_W) (u : σ) (t : State) : Prop := va_P G.1 vwCl (wOf u) t.heap ∧ va_D A (wOf u)
def lxM {σ : Type} (l : Launch) (y : MethodName) (wd : List Cond) (fr lo mc ms : Nat) (G : sxG) (k : lxC) (ws : va_W) (av : List Value) (rv : σ → Option Value) (wOf : σ → va_W) : Prop := ∀ sz : Nat, Met l y wd ({ frames := fr, cells := mc, slots := ms, locals := lo }) (lxP G k ws av sz) (lxQ rv (lxB G (va_A ws sz) wOf) (va_A ws sz)) mc ms (va_A ws sz)
def lxZ {σ : Type} (mc ms : Nat) (G : sxG) (args : Array Value) (s : State) (below : List Frame) (A : Nat → Prop) (rv : σ → Option Value) (wOf : σ → va_W) : State → Prop := MQ below (lxQ rv (lxB G A wOf) A) args s mc ms A
def lxBd (G : sxG) (y : MethodName) (wd : List Cond) (cc : ByteArray) (maxL : Nat) (rt : Option FieldType) (p : Program) (s : State) (m : MethodId) (args : Array Value) (meth : Method) (c : Code) : Prop :=
  p.tables.exec = Jvm.exec ∧ c.code = cc ∧ meth.sig.returnType = rt ∧ c.maxLocals = maxL ∧ s.vm.findClass y.cls = some m.cls ∧ meth.locks = false ∧ (∀ w ∈ wd, w.before args s = true) ∧ sxK G s
theorem lxM.of {σ : Type} {l : Launch} {y : MethodName} {wd wd' : List Cond} {fr lo mc ms maxL : Nat} {G : sxG} {k : lxC} {ws : va_W} {av : List Value} {rv : σ → Option Value} {wOf : σ → va_W} {cc : ByteArray} {rt : Option FieldType} (hy : plainName y.cls = true) (hw : wd = Cond.code y cc maxL rt :: wd') (hn : (lg_sl av).length ≤ maxL)
    (body : ∀ (p : Program) (e : Env) (s : State) (m : MethodId) (args : Array Value) (below : List Frame) (meth : Method) (c : Code), lxBd G y wd cc maxL rt p s m args meth c → meth.name = y.name → ∀ A : Nat → Prop, (∀ q : Nat, s.heap.size ≤ q → A q) → va_P G.1 vwCl ws s.heap → va_D A ws → va_S A s.heap s.heap [] → lxE k A s s.heap → ∀ ls : Array Slot, lv_has ls maxL (lv_args 0 av) →
      W p l e ({ frames := fr, cells := mc, slots := ms, locals := lo }) s m args below meth c s.heap [] 0 0 (lxZ mc ms G args s below A rv wOf) (F0 m 0 ls [])) : lxM l y wd fr lo mc ms G k ws av rv wOf := by
  intro sz
  refine Met.ofW (cc := cc) (maxL := maxL) (ret := rt) hy hw ?_
  intro p e s m args below meth c s₁ B hml hv
  obtain ⟨rfl, hsz, hP, hD, hK, hE⟩ := hv
  subst hsz
  rw [lg_entry_eq]
  exact body p e s m _ below meth c ⟨B.exec, B.bytes, B.returns, hml, findClass_of_methodNamed B.named, B.notSynchronized, atoms_spec (ws := wd) B.pre, hK⟩ (name_of_methodNamed B.named B.method).1 _ (fun q h => Or.inr h) hP hD.self va_S.rf hE _ (lv_entry av hn)
section LX
variable {σ : Type} {p : Program} {l : Launch} {e : Env} {R : Room} {s : State} {m : MethodId} {args : Array Value} {below : List Frame} {meth : Method} {c : Code} {H : Heap} {locs : List Loc} {cells slots : Nat} {Q : State → Prop}
variable {Ts wd wd' : List Cond} {cc bytes : ByteArray} {nL maxL index n fr lo pc mc ms : Nat} {own C : String} {y : MethodName} {ret : Option FieldType} {b : Addr} {As rest st0 : List Value} {G : sxG} {k : lxC} {ws wc wr : va_W} {ls : Array Slot} {lv : List (Nat × Value)} {A : Nat → Prop} {rv : σ → Option Value} {wOf : σ → va_W}
theorem lx_go {A0 A1 : Nat → Prop} {H0 : Heap} {a : Array Value} {free : Addr → Prop} {B : σ → State → Prop} (hr : va_Run p l e R s m args below meth c H locs cells slots mc ms (F0 m pc ls st0) rest (lxQ rv B A1 a) free) (hS : va_S A0 H0 H locs) (hA : ∀ q, q < H.size → A1 q → A0 q) (hf : ∀ q, free q → A0 q)
    (kk : ∀ (u : σ) (t : State) (H1 : Heap) (locs1 : List Loc), t.heap = H1 → s.vm.Alike t.vm → B u t → H.size ≤ H1.size → (∀ q : Nat, q < H.size → ¬ A1 q → H1[q]? = H[q]?) → va_S A0 H0 H1 locs1 → W p l e R s m args below meth c H1 locs1 (cells + mc) (slots + ms) Q (F0 m (pc + 3) ls ((rv u).toList ++ rest))) : W p l e R s m args below meth c H locs cells slots Q (F0 m pc ls st0) := by
  intro T hT X
  obtain ⟨v, st₀, t, T', L, h0, X', hL, e1, e2, ⟨⟨u, hv, hb⟩, hz, hk⟩, st⟩ := hr T hT X
  cases hv
  rw [h0] at hz hk
  obtain ⟨t2, a1, b1⟩ := kk u t T'.heap (locs ++ L) e1.symm (by rw [← e2]; exact X'.warmed.alike) hb (by rw [e1]; exact hz) (fun q h1 h2 => by rw [e1]; exact hk q h1 h2)
    ⟨Nat.le_trans hS.1 (by rw [e1]; exact hz), fun q h1 h2 => by rw [e1, hk q (Nat.lt_of_lt_of_le h1 hS.1) (fun z => h2 (hA q (Nat.lt_of_lt_of_le h1 hS.1) z))]; exact hS.2.1 q h1 h2, fun q hq => by
      rcases List.mem_append.mp hq with h | h
      · exact hS.2.2 q h
      · exact hf _ (hL q h)⟩ T' rfl X'
  exact ⟨t2, st t2 a1, b1⟩
/-- the premises of a callee, out of the caller's world -/
theorem lx_pre {U : State} (hK : sxK G s) (hP : va_P G.1 vwCl ws H) (hD : va_D A ws) (hS : va_S A s.heap H locs) (hA : ∀ q : Nat, s.heap.size ≤ q → A q) (hE : lxE k A s s.heap) {isC : List Nat} (hC : isC.map (fun i => ws[i]?) = wc.map some) (hnc : va_nd isC = true) (hU : U.heap = H) (hW : s.WarmedH U.vm) (av : List Value) : lxP G k wc av H.size av.toArray U := by
  have hFc := va_free (wc := wc) hD hS hA isC hC
  refine ⟨rfl, by rw [hU], by rw [hU]; exact hP.sub isC (sx_wc hC), (hD.sub isC hnc hC).weaken (fun _ _ _ _ => trivial), hK.warm hW, ?_⟩
  rw [hU]
  exact hE.go hW hS.2.1 (fun q h => hFc q h)
theorem lx_v (hx : p.tables.exec = Jvm.exec) (hb : c.code = cc) (hml : c.maxLocals = nL) (hown : s.vm.findClass own = some m.cls) (hts : ∀ w ∈ Ts, w.before args s = true) (hM : lxM l y wd fr lo mc ms G k wc (Value.ref b :: As) rv wOf) (n : Nat) (hG : GoodIn Ts (wsV own index C y wd)) (hw : wd = Cond.code y bytes maxL ret :: wd')
    (hd : y.cls = C ∧ y.cls ≠ "java/lang/invoke/MethodHandle" ∧ y.cls ≠ "java/lang/invoke/VarHandle" ∧ (parseMethodDescriptor y.desc).map (fun d => d.parameters.length) = some n) (hR : fr + 1 ≤ R.frames ∧ 8 + (maxL + 11) + lo ≤ R.locals)
    (hK : sxK G s) (hP : va_P G.1 vwCl ws H) (hD : va_D A ws) (hS : va_S A s.heap H locs) (hA : ∀ q : Nat, s.heap.size ≤ q → A q) (hE : lxE k A s s.heap) (isC isR : List Nat) (hC : isC.map (fun i => ws[i]?) = wc.map some) (hnc : va_nd isC = true) (hR2 : isR.map (fun i => ws[i]?) = wr.map some) (hnd : va_nd isR = true) (hdis : ∀ i ∈ isR, i ∉ isC)
    (q0 : Nat) {ci N : Nat} {fs : List Value} {T : u_T} (he : wc[q0]? = some (b, .inr (ci, fs))) (hc : vwCl[ci]? = some (C, T, N)) (hn : As.length = n) (hl : lv_has ls nL lv) (hst : st0 = As.reverse ++ .ref b :: rest) (hW : (rest.map fun v => v.category).sum ≤ 8)
    (hf : cells + mc ≤ R.cells ∧ slots + ms ≤ R.slots) (hdg : decode cc pc = .ok (.invokevirtual index, 3)) (kk : ∀ (u : σ) (H1 : Heap) (locs1 : List Loc), va_P G.1 vwCl (wr ++ wOf u) H1 → va_D A (wr ++ wOf u) → va_S A s.heap H1 locs1 → W p l e R s m args below meth c H1 locs1 (cells + mc) (slots + ms) Q (F0 m (pc + 3) ls ((rv u).toList ++ rest))) : W p l e R s m args below meth c H locs cells slots Q (F0 m pc ls st0) := by
  have hPc : va_P G.1 vwCl wc H := hP.sub isC (sx_wc hC)
  have hFc := va_free (wc := wc) hD hS hA isC hC
  refine lx_go (va_runV ⟨hx, hb, hml, hown, hts⟩ (hM H.size) (cwV n hts hG hw rfl rfl hd hR) ⟨lxP.blind, va_recv hK.1 hPc hc he, fun U hU hWm => lx_pre hK hP hD hS hA hE hC hnc hU hWm _⟩ rfl hn hl.1 hst (lv_room hW) hdg hf) hS (fun q _ h => hFc q h) hFc (fun u t H1 locs1 ht hvm hB hz1 hk1 hS1 => ?_)
  obtain ⟨h1, h2⟩ := va_join hP hD isC isR hC hR2 hnd hdis hk1 hFc (by rw [← ht]; exact hB.1) hB.2
  exact kk u H1 locs1 h1 h2 hS1
theorem lx_s (hx : p.tables.exec = Jvm.exec) (hb : c.code = cc) (hml : c.maxLocals = nL) (hown : s.vm.findClass own = some m.cls) (hts : ∀ w ∈ Ts, w.before args s = true) (hM : lxM l y wd fr lo mc ms G k wc As rv wOf) (n : Nat) (hG : GoodIn Ts (va_wsS own index y wd)) (hw : wd = Cond.code y bytes maxL ret :: wd')
    (hd : y.cls ≠ "java/lang/invoke/MethodHandle" ∧ y.cls ≠ "java/lang/invoke/VarHandle" ∧ (parseMethodDescriptor y.desc).map (fun d => d.parameters.length) = some n) (hR : fr + 1 ≤ R.frames ∧ 8 + (maxL + 11) + lo ≤ R.locals)
    (hK : sxK G s) (hP : va_P G.1 vwCl ws H) (hD : va_D A ws) (hS : va_S A s.heap H locs) (hA : ∀ q : Nat, s.heap.size ≤ q → A q) (hE : lxE k A s s.heap) (isC isR : List Nat) (hC : isC.map (fun i => ws[i]?) = wc.map some) (hnc : va_nd isC = true) (hR2 : isR.map (fun i => ws[i]?) = wr.map some) (hnd : va_nd isR = true) (hdis : ∀ i ∈ isR, i ∉ isC)
    (hn : As.length = n) (hl : lv_has ls nL lv) (hst : st0 = As.reverse ++ rest) (hW : (rest.map fun v => v.category).sum ≤ 8)
    (hf : cells + mc ≤ R.cells ∧ slots + ms ≤ R.slots) (hdg : decode cc pc = .ok (.invokestatic index, 3)) (kk : ∀ (u : σ) (H1 : Heap) (locs1 : List Loc), va_P G.1 vwCl (wr ++ wOf u) H1 → va_D A (wr ++ wOf u) → va_S A s.heap H1 locs1 → W p l e R s m args below meth c H1 locs1 (cells + mc) (slots + ms) Q (F0 m (pc + 3) ls ((rv u).toList ++ rest))) : W p l e R s m args below meth c H locs cells slots Q (F0 m pc ls st0) := by
  have hFc := va_free (wc := wc) hD hS hA isC hC
  refine lx_go (va_runS ⟨hx, hb, hml, hown, hts⟩ (hM H.size) (va_cwS n hts hG hw rfl rfl hd hR) ⟨lxP.blind, fun U hU hWm => lx_pre hK hP hD hS hA hE hC hnc hU hWm _⟩ rfl hn hl.1 hst (lv_room hW) hdg hf) hS (fun q _ h => hFc q h) hFc (fun u t H1 locs1 ht hvm hB hz1 hk1 hS1 => ?_)
  obtain ⟨h1, h2⟩ := va_join hP hD isC isR hC hR2 hnd hdis hk1 hFc (by rw [← ht]; exact hB.1) hB.2
  exact kk u H1 locs1 h1 h2 hS1
theorem lx_sn {host : String} (hx : p.tables.exec = Jvm.exec) (hb : c.code = cc) (hml : c.maxLocals = nL) (hown : s.vm.findClass own = some m.cls) (hts : ∀ w ∈ Ts, w.before args s = true) (hM : lxM l y wd fr lo mc ms G k wc As rv wOf) (n : Nat) (hG : GoodIn Ts wd) (hw : wd = Cond.code y bytes maxL ret :: wd') (hN : va_Nw (.methodLinkNest own index y host) s) (hini : Cond.initialized y.cls ∈ Ts) (hstat : Cond.static y ∈ Ts)
    (hd : y.cls ≠ "java/lang/invoke/MethodHandle" ∧ y.cls ≠ "java/lang/invoke/VarHandle" ∧ (parseMethodDescriptor y.desc).map (fun d => d.parameters.length) = some n) (hR : fr + 1 ≤ R.frames ∧ 8 + (maxL + 11) + lo ≤ R.locals)
    (hK : sxK G s) (hP : va_P G.1 vwCl ws H) (hD : va_D A ws) (hS : va_S A s.heap H locs) (hA : ∀ q : Nat, s.heap.size ≤ q → A q) (hE : lxE k A s s.heap) (isC isR : List Nat) (hC : isC.map (fun i => ws[i]?) = wc.map some) (hnc : va_nd isC = true) (hR2 : isR.map (fun i => ws[i]?) = wr.map some) (hnd : va_nd isR = true) (hdis : ∀ i ∈ isR, i ∉ isC)
    (hn : As.length = n) (hl : lv_has ls nL lv) (hst : st0 = As.reverse ++ rest) (hW : (rest.map fun v => v.category).sum ≤ 8)
    (hf : cells + mc ≤ R.cells ∧ slots + ms ≤ R.slots) (hdg : decode cc pc = .ok (.invokestatic index, 3)) (kk : ∀ (u : σ) (H1 : Heap) (locs1 : List Loc), va_P G.1 vwCl (wr ++ wOf u) H1 → va_D A (wr ++ wOf u) → va_S A s.heap H1 locs1 → W p l e R s m args below meth c H1 locs1 (cells + mc) (slots + ms) Q (F0 m (pc + 3) ls ((rv u).toList ++ rest))) : W p l e R s m args below meth c H locs cells slots Q (F0 m pc ls st0) := by
  have hFc := va_free (wc := wc) hD hS hA isC hC
  refine lx_go (va_runSN ⟨hx, hb, hml, hown, hts⟩ (hM H.size) ⟨va_cnB n hts hG hw rfl rfl hN (hts _ hini) hd hR, hts _ hstat, trivial⟩ ⟨lxP.blind, fun U hU hWm => lx_pre hK hP hD hS hA hE hC hnc hU hWm _⟩ rfl hn hl.1 hst (lv_room hW) hdg hf) hS (fun q _ h => hFc q h) hFc (fun u t H1 locs1 ht hvm hB hz1 hk1 hS1 => ?_)
  obtain ⟨h1, h2⟩ := va_join hP hD isC isR hC hR2 hnd hdis hk1 hFc (by rw [← ht]; exact hB.1) hB.2
  exact kk u H1 locs1 h1 h2 hS1
theorem lx_i (hx : p.tables.exec = Jvm.exec) (hb : c.code = cc) (hml : c.maxLocals = nL) (hown : s.vm.findClass own = some m.cls) (hts : ∀ w ∈ Ts, w.before args s = true) (hM : lxM l y wd fr lo mc ms G k wc (Value.ref b :: As) rv wOf) (n : Nat) (hG : GoodIn Ts wd) (hw : wd = Cond.code y bytes maxL none :: wd') (hini : (Cond.initialized y.cls).before args s = true) (hlk : (Cond.methodLink own index y).before args s = true) (hin : (Cond.instanceMethod y).before args s = true) (hy1 : y.name = "<init>")
    (hd : y.cls ≠ "java/lang/invoke/MethodHandle" ∧ y.cls ≠ "java/lang/invoke/VarHandle" ∧ (parseMethodDescriptor y.desc).map (fun d => d.parameters.length) = some n) (hR : fr + 1 ≤ R.frames ∧ 8 + (maxL + 11) + lo ≤ R.locals)
    (hK : sxK G s) (hP : va_P G.1 vwCl ws H) (hD : va_D A ws) (hS : va_S A s.heap H locs) (hA : ∀ q : Nat, s.heap.size ≤ q → A q) (hE : lxE k A s s.heap) (isC isR : List Nat) (hC : isC.map (fun i => ws[i]?) = wc.map some) (hnc : va_nd isC = true) (hR2 : isR.map (fun i => ws[i]?) = wr.map some) (hnd : va_nd isR = true) (hdis : ∀ i ∈ isR, i ∉ isC)
    (hn : As.length = n) (hl : lv_has ls nL lv) (hst : st0 = As.reverse ++ .ref b :: rest) (hW : (rest.map fun v => v.category).sum ≤ 8)
    (hf : cells + mc ≤ R.cells ∧ slots + ms ≤ R.slots) (hdg : decode cc pc = .ok (.invokespecial index, 3)) (kk : ∀ (u : σ) (H1 : Heap) (locs1 : List Loc), va_P G.1 vwCl (wr ++ wOf u) H1 → va_D A (wr ++ wOf u) → va_S A s.heap H1 locs1 → W p l e R s m args below meth c H1 locs1 (cells + mc) (slots + ms) Q (F0 m (pc + 3) ls ((rv u).toList ++ rest))) : W p l e R s m args below meth c H locs cells slots Q (F0 m pc ls st0) := by
  have hFc := va_free (wc := wc) hD hS hA isC hC
  refine lx_go (va_runI ⟨hx, hb, hml, hown, hts⟩ (hM H.size) (cwI n hts hG hw rfl rfl hini hlk hin hy1 hd hR) ⟨lxP.blind, fun U hU hWm => lx_pre hK hP hD hS hA hE hC hnc hU hWm _⟩ rfl hn hl.1 hst (lv_room hW) hdg hf) hS (fun q _ h => hFc q h) hFc (fun u t H1 locs1 ht hvm hB hz1 hk1 hS1 => ?_)
  obtain ⟨h1, h2⟩ := va_join hP hD isC isR hC hR2 hnd hdis hk1 hFc (by rw [← ht]; exact hB.1) hB.2
  exact kk u H1 locs1 h1 h2 hS1
theorem lx_in {host : String} (hx : p.tables.exec = Jvm.exec) (hb : c.code = cc) (hml : c.maxLocals = nL) (hown : s.vm.findClass own = some m.cls) (hts : ∀ w ∈ Ts, w.before args s = true) (hM : lxM l y wd fr lo mc ms G k wc (Value.ref b :: As) rv wOf) (n : Nat) (hG : GoodIn Ts wd) (hw : wd = Cond.code y bytes maxL none :: wd') (hini : (Cond.initialized y.cls).before args s = true) (hN : va_Nw (.methodLinkNest own index y host) s) (hin : (Cond.instanceMethod y).before args s = true) (hy1 : y.name = "<init>")
    (hd : y.cls ≠ "java/lang/invoke/MethodHandle" ∧ y.cls ≠ "java/lang/invoke/VarHandle" ∧ (parseMethodDescriptor y.desc).map (fun d => d.parameters.length) = some n) (hR : fr + 1 ≤ R.frames ∧ 8 + (maxL + 11) + lo ≤ R.locals)
    (hK : sxK G s) (hP : va_P G.1 vwCl ws H) (hD : va_D A ws) (hS : va_S A s.heap H locs) (hA : ∀ q : Nat, s.heap.size ≤ q → A q) (hE : lxE k A s s.heap) (isC isR : List Nat) (hC : isC.map (fun i => ws[i]?) = wc.map some) (hnc : va_nd isC = true) (hR2 : isR.map (fun i => ws[i]?) = wr.map some) (hnd : va_nd isR = true) (hdis : ∀ i ∈ isR, i ∉ isC)
    (hn : As.length = n) (hl : lv_has ls nL lv) (hst : st0 = As.reverse ++ .ref b :: rest) (hW : (rest.map fun v => v.category).sum ≤ 8)
    (hf : cells + mc ≤ R.cells ∧ slots + ms ≤ R.slots) (hdg : decode cc pc = .ok (.invokespecial index, 3)) (kk : ∀ (u : σ) (H1 : Heap) (locs1 : List Loc), va_P G.1 vwCl (wr ++ wOf u) H1 → va_D A (wr ++ wOf u) → va_S A s.heap H1 locs1 → W p l e R s m args below meth c H1 locs1 (cells + mc) (slots + ms) Q (F0 m (pc + 3) ls ((rv u).toList ++ rest))) : W p l e R s m args below meth c H locs cells slots Q (F0 m pc ls st0) := by
  have hFc := va_free (wc := wc) hD hS hA isC hC
  refine lx_go (va_runIN ⟨hx, hb, hml, hown, hts⟩ (hM H.size) ⟨va_cnB n hts hG hw rfl rfl hN hini hd hR, hy1, hin⟩ ⟨lxP.blind, fun U hU hWm => lx_pre hK hP hD hS hA hE hC hnc hU hWm _⟩ rfl hn hl.1 hst (lv_room hW) hdg hf) hS (fun q _ h => hFc q h) hFc (fun u t H1 locs1 ht hvm hB hz1 hk1 hS1 => ?_)
  obtain ⟨h1, h2⟩ := va_join hP hD isC isR hC hR2 hnd hdis hk1 hFc (by rw [← ht]; exact hB.1) hB.2
  exact kk u H1 locs1 h1 h2 hS1
/-! the ends -/
theorem lx_ri {rt : FieldType} {v : Int32} (u : σ) (hx : p.tables.exec = Jvm.exec) (hb : c.code = cc) (hr : meth.sig.returnType = some rt) (hlk : meth.locks = false) (hP : va_P G.1 vwCl (wOf u) H) (hD : va_D A (wOf u)) (hS : va_S A s.heap H locs) (hn : narrow rt (.int v) = .int v) (hv : some (.int v) = rv u) (hdg : decode cc pc = .ok (.ireturn, 1)) : W p l e R s m args below meth c H locs mc ms (lxZ mc ms G args s below A rv wOf) (F0 m pc ls [.int v]) :=
  W.zret hx hb hr hn (fun t ht _ => ⟨⟨u, by rw [hv], by rw [← ht] at hP; exact ⟨hP, hD⟩⟩, hS.F ht⟩) hS.2.2 hdg hlk
theorem lx_rl {v : Int64} (u : σ) (hx : p.tables.exec = Jvm.exec) (hb : c.code = cc) (hr : meth.sig.returnType = some .long) (hlk : meth.locks = false) (hP : va_P G.1 vwCl (wOf u) H) (hD : va_D A (wOf u)) (hS : va_S A s.heap H locs) (hv : some (.long v) = rv u) (hdg : decode cc pc = .ok (.lreturn, 1)) : W p l e R s m args below meth c H locs mc ms (lxZ mc ms G args s below A rv wOf) (F0 m pc ls [.long v]) :=
  W.lret hx hb hr (fun t ht _ => ⟨⟨u, by rw [hv], by rw [← ht] at hP; exact ⟨hP, hD⟩⟩, hS.F ht⟩) hS.2.2 hdg hlk
theorem lx_rd {v : UInt64} (u : σ) (hx : p.tables.exec = Jvm.exec) (hb : c.code = cc) (hr : meth.sig.returnType = some .double) (hlk : meth.locks = false) (hP : va_P G.1 vwCl (wOf u) H) (hD : va_D A (wOf u)) (hS : va_S A s.heap H locs) (hv : some (.double v) = rv u) (hdg : decode cc pc = .ok (.dreturn, 1)) : W p l e R s m args below meth c H locs mc ms (lxZ mc ms G args s below A rv wOf) (F0 m pc ls [.double v]) :=
  W.dret hx hb hr (fun t ht _ => ⟨⟨u, by rw [hv], by rw [← ht] at hP; exact ⟨hP, hD⟩⟩, hS.F ht⟩) hS.2.2 hdg hlk
theorem lx_ra {rt : FieldType} {a : Nat} (u : σ) (hx : p.tables.exec = Jvm.exec) (hb : c.code = cc) (hr : meth.sig.returnType = some rt) (hrt : (∃ n, rt = .object n) ∨ ∃ t, rt = .array t) (hlk : meth.locks = false) (hP : va_P G.1 vwCl (wOf u) H) (hD : va_D A (wOf u)) (hS : va_S A s.heap H locs) (hv : some (.ref a) = rv u) (hdg : decode cc pc = .ok (.areturn, 1)) : W p l e R s m args below meth c H locs mc ms (lxZ mc ms G args s below A rv wOf) (F0 m pc ls [.ref a]) :=
  W.aret hx hb hr hrt (Or.inr ⟨a, rfl⟩) (fun t ht _ => ⟨⟨u, by rw [hv], by rw [← ht] at hP; exact ⟨hP, hD⟩⟩, hS.F ht⟩) hS.2.2 hdg hlk
theorem lx_rv (u : σ) (hx : p.tables.exec = Jvm.exec) (hb : c.code = cc) (hr : meth.sig.returnType = none) (hlk : meth.locks = false) (hP : va_P G.1 vwCl (wOf u) H) (hD : va_D A (wOf u)) (hS : va_S A s.heap H locs) (hv : none = rv u) (hdg : decode cc pc = .ok (.return_, 1)) : W p l e R s m args below meth c H locs mc ms (lxZ mc ms G args s below A rv wOf) (F0 m pc ls []) :=
  W.vret hx hb hr (fun t ht _ => ⟨⟨u, by rw [hv], by rw [← ht] at hP; exact ⟨hP, hD⟩⟩, hS.F ht⟩) hS.2.2 hdg hlk
end LX
section LXA
variable {p : Program} {l : Launch} {e : Env} {R : Room} {s : State} {m : MethodId} {args : Array Value} {below : List Frame} {meth : Method} {c : Code} {H : Heap} {locs : List Loc} {cells slots : Nat} {Q : State → Prop}
variable {cc : ByteArray} {pc index : Nat} {ls : Array Slot} {rest : List Value} {G : sxG} {k : lxC} {A : Nat → Prop} {a : Nat} {ws : va_W} {own : String}
/-- the classes of arrays: int[], boolean[], int[][] -/
abbrev lxTy (G : sxG) (k : lxC) : List (ClassId × FieldType) := [(G.2.1, .int), (G.2.2, .boolean), (k.1, .array .int)]
theorem lx_K (hK : sxK G s) (hE : lxE k A s s.heap) : va_K G.1 vwCl (lxTy G k) s := by
  refine ⟨hK.1.1, fun j q h => ?_⟩
  match j, h with
  | 0, h => exact hK.1.2 0 q h
  | 1, h => exact hK.1.2 1 q h
  | 2, h => cases h; exact hE.2.2.1
  | j + 3, h => cases h
theorem lx_push {q : Nat} {x : va_E} {cell : Cell} (hP : va_P G.1 vwCl ws H) (hD : va_D A ws) (hS : va_S A s.heap H locs) (hA : ∀ q : Nat, s.heap.size ≤ q → A q) (hq : q = H.size) (hc : va_at G.1 vwCl (q, x) (H.push cell)) : va_P G.1 vwCl (ws ++ [(q, x)]) (H.push cell) ∧ va_D A (ws ++ [(q, x)]) ∧ va_S A s.heap (H.push cell) locs := by
  subst hq
  have o1 : ∀ q : Nat, q < H.size → (H.push cell)[q]? = H[q]? := fun q hq => by rw [Array.getElem?_push, if_neg (Nat.ne_of_lt hq)]
  refine ⟨(hP.kept (fun k x hx => o1 x.1 ((hP k x hx).lt))).app (fun k x hx => ?_), hD.push hP rfl (hA _ hS.1), Nat.le_trans hS.1 (by rw [Array.size_push]; omega), fun x h1 h2 => (o1 x (Nat.lt_of_lt_of_le h1 hS.1)).trans (hS.2.1 x h1 h2), hS.2.2⟩
  cases k with
  | zero => cases hx; exact hc
  | succ k => cases hx
theorem lx_anewI (hx : p.tables.exec = Jvm.exec) (hb : c.code = cc) (hown : s.vm.findClass own = some m.cls) (hclink : (Cond.classLink own index "[I").before args s = true) (hK : sxK G s) (hE : lxE k A s s.heap) (hP : va_P G.1 vwCl ws H) (hD : va_D A ws) (hS : va_S A s.heap H locs) (hA : ∀ q : Nat, s.heap.size ≤ q → A q)
    {n : Int32} (hn : ¬ n < 0) (N' : Nat) (hN : n.toNatClampNeg = N') (hbytes : N' * 4 ≤ 536870912) (hcells : cells + 1 ≤ R.cells) (hslots : slots + N' ≤ R.slots) (hdg : decode cc pc = .ok (.anewarray index, 3))
    (kk : ∀ (q : Nat) (H1 : Heap), va_P G.1 vwCl (ws ++ [(q, .inl (k.1, N', .inr (.inr (.inr (.inr (fun _ => none))))))]) H1 → va_D A (ws ++ [(q, .inl (k.1, N', .inr (.inr (.inr (.inr (fun _ => none))))))]) → va_S A s.heap H1 locs →
      W p l e R s m args below meth c H1 locs (cells + 1) (slots + N') Q (F0 m (pc + 3) ls (.ref q :: rest))) : W p l e R s m args below meth c H locs cells slots Q (F0 m pc ls (.int n :: rest)) := by
  subst hN
  have e0 : (FieldType.array .int).toString = "[I" := by decide +kernel
  have hcl2 : (Cond.classLink own index (FieldType.array .int).toString).before args s = true := by rw [e0]; exact hclink
  have hov : (Cond.arrayOver (.array .int)).before args s = true := hE.1.2
  have hra : s.vm.findClass ("[" ++ (FieldType.array .int).toString) = some k.1 := hE.2.2.1.2
  generalize hty : FieldType.array .int = ty at hcl2 hov hra
  refine W.anewA (t := .int) hx hb hown (by rw [hty]; exact hcl2) (by rw [hty]; exact hov) rfl hdg rfl hn hbytes hcells hslots fun cA kA comp f1 f2 f3 f4 => ?_
  rw [hty] at f1
  have ecA : cA = k.1 := Option.some.inj (f1.symm.trans hra)
  subst ecA
  obtain ⟨h1, h2, h3⟩ := lx_push (x := .inl (k.1, n.toNatClampNeg, .inr (.inr (.inr (.inr (fun _ => none)))))) (cell := ({ cls := k.1, slots := Array.replicate n.toNatClampNeg .null, vm := .none } : Cell)) hP hD hS hA rfl (by
    show (H.push _)[H.size]? = some (vp_cell _ _)
    rw [Array.getElem?_push_size, vp_cell_q, ← arrV_new]; rfl)
  exact kk H.size _ h1 h2 h3
/-- an int[] into an int[][] -/
theorem lx_aastI (hx : p.tables.exec = Jvm.exec) (hb : c.code = cc) (hK : sxK G s) (hE : lxE k A s s.heap) (hP : va_P G.1 vwCl ws H) (hD : va_D A ws) (hS : va_S A s.heap H locs) (q0 qk : Nat) {n v : Nat} {x : vp_A} {f : Nat → Option Nat} (ha : ws[q0]? = some (a, .inl (k.1, n, .inr (.inr (.inr (.inr f)))))) (hv : ws[qk]? = some (v, .inl (G.2.1, x))) {i : Int32} (hin : vp_in i n) (hdg : decode cc pc = .ok (.aastore, 1))
    (kk : ∀ (H1 : Heap) (locs1 : List Loc), va_P G.1 vwCl (ws.set q0 (a, .inl (k.1, n, .inr (.inr (.inr (.inr (va_up f i.toNatClampNeg (some v)))))))) H1 → va_D A (ws.set q0 (a, .inl (k.1, n, .inr (.inr (.inr (.inr (va_up f i.toNatClampNeg (some v)))))))) → va_S A s.heap H1 locs1 → W p l e R s m args below meth c H1 locs1 cells slots Q (F0 m (pc + 1) ls rest)) : W p l e R s m args below meth c H locs cells slots Q (F0 m pc ls (.ref v :: .int i :: .ref a :: rest)) := by
  have hlt : i.toNatClampNeg < n := Nat.not_le.mp fun q => hin (Or.inr q)
  have h0 : ¬ i < 0 := fun q => hin (Or.inl q)
  obtain ⟨kA, comp, k1, k2, k3⟩ := hE.2.2.2
  have eI : "[" ++ FieldType.int.toString = "[I" := by decide +kernel
  have hI : s.vm.findClass "[I" = some G.2.1 := by
    have h := (hK.1.2 0 (G.2.1, .int) rfl).2
    rw [← eI]; exact h
  have ec : comp = G.2.1 := Option.some.inj (k3.symm.trans hI)
  subst ec
  obtain ⟨kE, hkE, -⟩ := Vm.findClass_spec hI
  have hvm0 : (vp_cell G.2.1 x).vm = .none := by
    obtain ⟨n, f | f | f | f | f⟩ := x <;> rfl
  have hcl0 : (vp_cell G.2.1 x).cls = G.2.1 := by
    obtain ⟨n, f | f | f | f | f⟩ := x <;> rfl
  refine W.aast hx hb (hP q0 _ ha) (fun q h => by cases h) (fun h => by cases h) k1 k2 rfl hkE ⟨h0, by show _ < (arrV _ _ _).slots.size; rw [arrV_size]; exact hlt⟩ (hP qk _ hv) (fun q h => by rw [hvm0] at h; cases h) (by rw [hcl0]; exact hkE) (by rw [hcl0]; exact va_asg _ _) rfl rfl hdg fun H1 e z oq => ?_
  refine kk H1 _ (hP.set hD ha ?_ oq) (hD.set ha) (hS.put z oq (hD.2 q0 _ ha))
  show H1[a]? = some (vp_cell _ _)
  rw [e]
  rw [vp_cell_q, vp_cell_q, arrV_store]
  congr 2
  funext q
  by_cases hq : q = i.toNatClampNeg
  · subst hq
    simp [updV, va_up, va_rf]
  · simp [updV, va_up, hq]
end LXA
