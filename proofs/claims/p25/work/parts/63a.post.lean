/-! CONTRACTS BY WHAT HOLDS BEHIND: the blocks behind and the answer, any that Post allows -/
abbrev lyS (Post : lxW → Option Value → Prop) : Type := {u : lxW × Option Value // Post u.1 u.2}
def lyM (l : Launch) (y : MethodName) (wd : List Cond) (fr lo mc ms : Nat) (G : sxG) (k : lxC) (Bs : lxW) (av : List Value) (Post : lxW → Option Value → Prop) : Prop := lxM (σ := lyS Post) l y wd fr lo mc ms G k (lxF Bs) av (fun u => u.1.2) (fun u => lxF u.1.1)
def lyZ (mc ms : Nat) (G : sxG) (args : Array Value) (s : State) (below : List Frame) (A : Nat → Prop) (Post : lxW → Option Value → Prop) : State → Prop := lxZ (σ := lyS Post) mc ms G args s below A (fun u => u.1.2) (fun u => lxF u.1.1)
/-- a contract with one account of what is behind -/
theorem ly_one {l : Launch} {y : MethodName} {wd : List Cond} {fr lo mc ms : Nat} {G : sxG} {k : lxC} {ws ws' : va_W} {Bs : lxW} {av : List Value} {v : Option Value} {Post : lxW → Option Value → Prop} (h : lxM l y wd fr lo mc ms G k ws av (fun _ : Unit => v) (fun _ => ws')) (e : ws = lxF Bs) (B' : lxW) (e' : (lxF B') = ws') (hp : Post B' v) : lyM l y wd fr lo mc ms G k Bs av Post := by
  subst e; subst e'
  exact lx_as h (fun _ => ⟨⟨(B', v), hp⟩, rfl, List.Perm.refl _⟩)
theorem ly_weak {l : Launch} {y : MethodName} {wd : List Cond} {fr lo mc ms : Nat} {G : sxG} {k : lxC} {Bs : lxW} {av : List Value} {Post Post' : lxW → Option Value → Prop} (h : lyM l y wd fr lo mc ms G k Bs av Post) (hp : ∀ B v, Post B v → Post' B v) : lyM l y wd fr lo mc ms G k Bs av Post' :=
  lx_as h (fun u => ⟨⟨u.1, hp _ _ u.2⟩, rfl, List.Perm.refl _⟩)
theorem lyM.of {l : Launch} {y : MethodName} {wd wd' : List Cond} {fr lo mc ms maxL : Nat} {G : sxG} {k : lxC} {Bs : lxW} {av : List Value} {Post : lxW → Option Value → Prop} {cc : ByteArray} {rt : Option FieldType} (hy : plainName y.cls = true) (hw : wd = Cond.code y cc maxL rt :: wd') (hn : (lg_sl av).length ≤ maxL)
    (body : ∀ (p : Program) (e : Env) (s : State) (m : MethodId) (args : Array Value) (below : List Frame) (meth : Method) (c : Code), lxBd G y wd cc maxL rt p s m args meth c → meth.name = y.name → ∀ A : Nat → Prop, (∀ q : Nat, s.heap.size ≤ q → A q) → va_P G.1 vwCl (lxF Bs) s.heap → va_D A (lxF Bs) → va_S A s.heap s.heap [] → lxE k A s s.heap → ∀ ls : Array Slot, lv_has ls maxL (lv_args 0 av) →
      W p l e ({ frames := fr, cells := mc, slots := ms, locals := lo }) s m args below meth c s.heap [] 0 0 (lyZ mc ms G args s below A Post) (F0 m 0 ls [])) : lyM l y wd fr lo mc ms G k Bs av Post :=
  lxM.of hy hw hn body
section LY
variable {p : Program} {l : Launch} {e : Env} {R : Room} {s : State} {m : MethodId} {args : Array Value} {below : List Frame} {meth : Method} {c : Code} {H : Heap} {locs : List Loc} {cells slots : Nat} {Q : State → Prop}
variable {Ts wd wd' : List Cond} {cc bytes : ByteArray} {nL maxL index n fr lo pc mc ms : Nat} {own C : String} {y : MethodName} {ret : Option FieldType} {b : Addr} {As rest st0 : List Value} {G : sxG} {k : lxC} {Bs Cs Rs : lxW} {ls : Array Slot} {lv : List (Nat × Value)} {A : Nat → Prop} {Post : lxW → Option Value → Prop}
theorem ly_v (hx : p.tables.exec = Jvm.exec) (hb : c.code = cc) (hml : c.maxLocals = nL) (hown : s.vm.findClass own = some m.cls) (hts : ∀ w ∈ Ts, w.before args s = true) (hM : lyM l y wd fr lo mc ms G k Cs (Value.ref b :: As) Post) (n : Nat) (hG : GoodIn Ts (wsV own index C y wd)) (hw : wd = Cond.code y bytes maxL ret :: wd')
    (hd : y.cls = C ∧ y.cls ≠ "java/lang/invoke/MethodHandle" ∧ y.cls ≠ "java/lang/invoke/VarHandle" ∧ (parseMethodDescriptor y.desc).map (fun d => d.parameters.length) = some n) (hR : fr + 1 ≤ R.frames ∧ 8 + (maxL + 11) + lo ≤ R.locals)
    (hK : sxK G s) (hP : va_P G.1 vwCl (lxF Bs) H) (hD : va_D A (lxF Bs)) (hS : va_S A s.heap H locs) (hA : ∀ q : Nat, s.heap.size ≤ q → A q) (hE : lxE k A s s.heap) (isC isR : List Nat) (hC : isC.filterMap (fun i => Bs[i]?) = Cs) (hR2 : isR.filterMap (fun i => Bs[i]?) = Rs) (hpm : (isC ++ isR).Perm (List.range Bs.length))
    (q0 i0 : Nat) {B : va_W} {ci N : Nat} {fs : List Value} {T : u_T} (hB : Cs[q0]? = some B) (he : B[i0]? = some (b, .inr (ci, fs))) (hc : vwCl[ci]? = some (C, T, N)) (hn : As.length = n) (hl : lv_has ls nL lv) (hst : st0 = As.reverse ++ .ref b :: rest) (hW : (rest.map fun v => v.category).sum ≤ 8)
    (hf : cells + mc ≤ R.cells ∧ slots + ms ≤ R.slots) (hdg : decode cc pc = .ok (.invokevirtual index, 3)) (kk : ∀ (B1 : lxW) (v1 : Option Value), Post B1 v1 → ∀ (H1 : Heap) (locs1 : List Loc), va_P G.1 vwCl (lxF (B1 ++ Rs)) H1 → va_D A (lxF (B1 ++ Rs)) → va_S A s.heap H1 locs1 → W p l e R s m args below meth c H1 locs1 (cells + mc) (slots + ms) Q (F0 m (pc + 3) ls (v1.toList ++ rest))) : W p l e R s m args below meth c H locs cells slots Q (F0 m pc ls st0) :=
  lb_v (wB := fun u : lyS Post => u.1.1) hx hb hml hown hts hM n hG hw hd hR hK hP hD hS hA hE isC isR hC hR2 hpm q0 i0 hB he hc hn hl hst hW hf hdg (fun u H1 locs1 h1 h2 h3 => kk u.1.1 u.1.2 u.2 H1 locs1 h1 h2 h3)
theorem ly_s (hx : p.tables.exec = Jvm.exec) (hb : c.code = cc) (hml : c.maxLocals = nL) (hown : s.vm.findClass own = some m.cls) (hts : ∀ w ∈ Ts, w.before args s = true) (hM : lyM l y wd fr lo mc ms G k Cs As Post) (n : Nat) (hG : GoodIn Ts (va_wsS own index y wd)) (hw : wd = Cond.code y bytes maxL ret :: wd')
    (hd : y.cls ≠ "java/lang/invoke/MethodHandle" ∧ y.cls ≠ "java/lang/invoke/VarHandle" ∧ (parseMethodDescriptor y.desc).map (fun d => d.parameters.length) = some n) (hR : fr + 1 ≤ R.frames ∧ 8 + (maxL + 11) + lo ≤ R.locals)
    (hK : sxK G s) (hP : va_P G.1 vwCl (lxF Bs) H) (hD : va_D A (lxF Bs)) (hS : va_S A s.heap H locs) (hA : ∀ q : Nat, s.heap.size ≤ q → A q) (hE : lxE k A s s.heap) (isC isR : List Nat) (hC : isC.filterMap (fun i => Bs[i]?) = Cs) (hR2 : isR.filterMap (fun i => Bs[i]?) = Rs) (hpm : (isC ++ isR).Perm (List.range Bs.length))
    (hn : As.length = n) (hl : lv_has ls nL lv) (hst : st0 = As.reverse ++ rest) (hW : (rest.map fun v => v.category).sum ≤ 8)
    (hf : cells + mc ≤ R.cells ∧ slots + ms ≤ R.slots) (hdg : decode cc pc = .ok (.invokestatic index, 3)) (kk : ∀ (B1 : lxW) (v1 : Option Value), Post B1 v1 → ∀ (H1 : Heap) (locs1 : List Loc), va_P G.1 vwCl (lxF (B1 ++ Rs)) H1 → va_D A (lxF (B1 ++ Rs)) → va_S A s.heap H1 locs1 → W p l e R s m args below meth c H1 locs1 (cells + mc) (slots + ms) Q (F0 m (pc + 3) ls (v1.toList ++ rest))) : W p l e R s m args below meth c H locs cells slots Q (F0 m pc ls st0) :=
  lb_s (wB := fun u : lyS Post => u.1.1) hx hb hml hown hts hM n hG hw hd hR hK hP hD hS hA hE isC isR hC hR2 hpm hn hl hst hW hf hdg (fun u H1 locs1 h1 h2 h3 => kk u.1.1 u.1.2 u.2 H1 locs1 h1 h2 h3)
theorem ly_i (hx : p.tables.exec = Jvm.exec) (hb : c.code = cc) (hml : c.maxLocals = nL) (hown : s.vm.findClass own = some m.cls) (hts : ∀ w ∈ Ts, w.before args s = true) (hM : lyM l y wd fr lo mc ms G k Cs (Value.ref b :: As) Post) (n : Nat) (hG : GoodIn Ts wd) (hw : wd = Cond.code y bytes maxL none :: wd') (hini : (Cond.initialized y.cls).before args s = true) (hlk : (Cond.methodLink own index y).before args s = true) (hin : (Cond.instanceMethod y).before args s = true) (hy1 : y.name = "<init>")
    (hd : y.cls ≠ "java/lang/invoke/MethodHandle" ∧ y.cls ≠ "java/lang/invoke/VarHandle" ∧ (parseMethodDescriptor y.desc).map (fun d => d.parameters.length) = some n) (hR : fr + 1 ≤ R.frames ∧ 8 + (maxL + 11) + lo ≤ R.locals)
    (hK : sxK G s) (hP : va_P G.1 vwCl (lxF Bs) H) (hD : va_D A (lxF Bs)) (hS : va_S A s.heap H locs) (hA : ∀ q : Nat, s.heap.size ≤ q → A q) (hE : lxE k A s s.heap) (isC isR : List Nat) (hC : isC.filterMap (fun i => Bs[i]?) = Cs) (hR2 : isR.filterMap (fun i => Bs[i]?) = Rs) (hpm : (isC ++ isR).Perm (List.range Bs.length))
    (hn : As.length = n) (hl : lv_has ls nL lv) (hst : st0 = As.reverse ++ .ref b :: rest) (hW : (rest.map fun v => v.category).sum ≤ 8)
    (hf : cells + mc ≤ R.cells ∧ slots + ms ≤ R.slots) (hdg : decode cc pc = .ok (.invokespecial index, 3)) (kk : ∀ (B1 : lxW) (v1 : Option Value), Post B1 v1 → ∀ (H1 : Heap) (locs1 : List Loc), va_P G.1 vwCl (lxF (B1 ++ Rs)) H1 → va_D A (lxF (B1 ++ Rs)) → va_S A s.heap H1 locs1 → W p l e R s m args below meth c H1 locs1 (cells + mc) (slots + ms) Q (F0 m (pc + 3) ls (v1.toList ++ rest))) : W p l e R s m args below meth c H locs cells slots Q (F0 m pc ls st0) :=
  lb_i (wB := fun u : lyS Post => u.1.1) hx hb hml hown hts hM n hG hw hini hlk hin hy1 hd hR hK hP hD hS hA hE isC isR hC hR2 hpm hn hl hst hW hf hdg (fun u H1 locs1 h1 h2 h3 => kk u.1.1 u.1.2 u.2 H1 locs1 h1 h2 h3)
theorem ly_in {host : String} (hx : p.tables.exec = Jvm.exec) (hb : c.code = cc) (hml : c.maxLocals = nL) (hown : s.vm.findClass own = some m.cls) (hts : ∀ w ∈ Ts, w.before args s = true) (hM : lyM l y wd fr lo mc ms G k Cs (Value.ref b :: As) Post) (n : Nat) (hG : GoodIn Ts wd) (hw : wd = Cond.code y bytes maxL none :: wd') (hini : (Cond.initialized y.cls).before args s = true) (hN : va_Nw (.methodLinkNest own index y host) s) (hin : (Cond.instanceMethod y).before args s = true) (hy1 : y.name = "<init>")
    (hd : y.cls ≠ "java/lang/invoke/MethodHandle" ∧ y.cls ≠ "java/lang/invoke/VarHandle" ∧ (parseMethodDescriptor y.desc).map (fun d => d.parameters.length) = some n) (hR : fr + 1 ≤ R.frames ∧ 8 + (maxL + 11) + lo ≤ R.locals)
    (hK : sxK G s) (hP : va_P G.1 vwCl (lxF Bs) H) (hD : va_D A (lxF Bs)) (hS : va_S A s.heap H locs) (hA : ∀ q : Nat, s.heap.size ≤ q → A q) (hE : lxE k A s s.heap) (isC isR : List Nat) (hC : isC.filterMap (fun i => Bs[i]?) = Cs) (hR2 : isR.filterMap (fun i => Bs[i]?) = Rs) (hpm : (isC ++ isR).Perm (List.range Bs.length))
    (hn : As.length = n) (hl : lv_has ls nL lv) (hst : st0 = As.reverse ++ .ref b :: rest) (hW : (rest.map fun v => v.category).sum ≤ 8)
    (hf : cells + mc ≤ R.cells ∧ slots + ms ≤ R.slots) (hdg : decode cc pc = .ok (.invokespecial index, 3)) (kk : ∀ (B1 : lxW) (v1 : Option Value), Post B1 v1 → ∀ (H1 : Heap) (locs1 : List Loc), va_P G.1 vwCl (lxF (B1 ++ Rs)) H1 → va_D A (lxF (B1 ++ Rs)) → va_S A s.heap H1 locs1 → W p l e R s m args below meth c H1 locs1 (cells + mc) (slots + ms) Q (F0 m (pc + 3) ls (v1.toList ++ rest))) : W p l e R s m args below meth c H locs cells slots Q (F0 m pc ls st0) :=
  lb_in (wB := fun u : lyS Post => u.1.1) hx hb hml hown hts hM n hG hw hini hN hin hy1 hd hR hK hP hD hS hA hE isC isR hC hR2 hpm hn hl hst hW hf hdg (fun u H1 locs1 h1 h2 h3 => kk u.1.1 u.1.2 u.2 H1 locs1 h1 h2 h3)
/-! the ends -/
theorem ly_ri {rt : FieldType} {v : Int32} (hx : p.tables.exec = Jvm.exec) (hb : c.code = cc) (hr : meth.sig.returnType = some rt) (hlk : meth.locks = false) (hP : va_P G.1 vwCl (lxF Bs) H) (hD : va_D A (lxF Bs)) (hS : va_S A s.heap H locs) (hn : narrow rt (.int v) = .int v) (hp : Post Bs (some (.int v))) (h1 : cells ≤ mc) (h2 : slots ≤ ms) (hdg : decode cc pc = .ok (.ireturn, 1)) : W p l e R s m args below meth c H locs cells slots (lyZ mc ms G args s below A Post) (F0 m pc ls [.int v]) :=
  W.widen h1 h2 (lx_ri (σ := lyS Post) ⟨(Bs, some (.int v)), hp⟩ hx hb hr hlk hP hD hS hn rfl hdg)
theorem ly_rl {v : Int64} (hx : p.tables.exec = Jvm.exec) (hb : c.code = cc) (hr : meth.sig.returnType = some .long) (hlk : meth.locks = false) (hP : va_P G.1 vwCl (lxF Bs) H) (hD : va_D A (lxF Bs)) (hS : va_S A s.heap H locs) (hp : Post Bs (some (.long v))) (h1 : cells ≤ mc) (h2 : slots ≤ ms) (hdg : decode cc pc = .ok (.lreturn, 1)) : W p l e R s m args below meth c H locs cells slots (lyZ mc ms G args s below A Post) (F0 m pc ls [.long v]) :=
  W.widen h1 h2 (lx_rl (σ := lyS Post) ⟨(Bs, some (.long v)), hp⟩ hx hb hr hlk hP hD hS rfl hdg)
theorem ly_ra {rt : FieldType} {a : Nat} (hx : p.tables.exec = Jvm.exec) (hb : c.code = cc) (hr : meth.sig.returnType = some rt) (hrt : (∃ n, rt = .object n) ∨ ∃ t, rt = .array t) (hlk : meth.locks = false) (hP : va_P G.1 vwCl (lxF Bs) H) (hD : va_D A (lxF Bs)) (hS : va_S A s.heap H locs) (hp : Post Bs (some (.ref a))) (h1 : cells ≤ mc) (h2 : slots ≤ ms) (hdg : decode cc pc = .ok (.areturn, 1)) : W p l e R s m args below meth c H locs cells slots (lyZ mc ms G args s below A Post) (F0 m pc ls [.ref a]) :=
  W.widen h1 h2 (lx_ra (σ := lyS Post) ⟨(Bs, some (.ref a)), hp⟩ hx hb hr hrt hlk hP hD hS rfl hdg)
theorem ly_rv (hx : p.tables.exec = Jvm.exec) (hb : c.code = cc) (hr : meth.sig.returnType = none) (hlk : meth.locks = false) (hP : va_P G.1 vwCl (lxF Bs) H) (hD : va_D A (lxF Bs)) (hS : va_S A s.heap H locs) (hp : Post Bs none) (h1 : cells ≤ mc) (h2 : slots ≤ ms) (hdg : decode cc pc = .ok (.return_, 1)) : W p l e R s m args below meth c H locs cells slots (lyZ mc ms G args s below A Post) (F0 m pc ls []) :=
  W.widen h1 h2 (lx_rv (σ := lyS Post) ⟨(Bs, none), hp⟩ hx hb hr hlk hP hD hS rfl hdg)
end LY
/-! THE LAW'S OWN PROGRAM: its rows -/
def lrF (fs fa fb : Nat → Int32) (i : Nat) : Nat → Int32 := upd (upd (upd (fun _ => 0) 0 (fs i)) 1 (fa i)) 2 (fb i)
def lrB (G : sxG) (r : Nat → Nat) (fs fa fb : Nat → Int32) (n : Nat) : va_W := (List.range n).map (fun i => (r i, .inl (G.2.1, 3, .inl (lrF fs fa fb i))))
theorem lrB_at {G : sxG} {r : Nat → Nat} {fs fa fb : Nat → Int32} {n i : Nat} (h : i < n) : (lrB G r fs fa fb n)[i]? = some (r i, .inl (G.2.1, 3, .inl (lrF fs fa fb i))) := by
  unfold lrB
  rw [List.getElem?_map, List.getElem?_range h]
  rfl
theorem lrB_app {G : sxG} {r : Nat → Nat} {fs fa fb : Nat → Int32} {n : Nat} : lrB G r fs fa fb (n + 1) = lrB G r fs fa fb n ++ [(r n, .inl (G.2.1, 3, .inl (lrF fs fa fb n)))] := by
  unfold lrB
  rw [List.range_succ, List.map_append]
  rfl
theorem lrB_cong {G : sxG} {r r' : Nat → Nat} {fs fa fb fs' fa' fb' : Nat → Int32} {n : Nat} (h : ∀ i, i < n → r i = r' i ∧ fs i = fs' i ∧ fa i = fa' i ∧ fb i = fb' i) : lrB G r fs fa fb n = lrB G r' fs' fa' fb' n := by
  unfold lrB
  apply List.map_congr_left
  intro i hi
  obtain ⟨h1, h2, h3, h4⟩ := h i (List.mem_range.mp hi)
  rw [h1, show lrF fs fa fb i = lrF fs' fa' fb' i from by unfold lrF; rw [h2, h3, h4]]
theorem lrB_set {G : sxG} {r r' : Nat → Nat} {fs fa fb fs' fa' fb' : Nat → Int32} {n j : Nat} (hj : j < n) (h : ∀ i, i < n → ¬ i = j → r i = r' i ∧ fs i = fs' i ∧ fa i = fa' i ∧ fb i = fb' i) : (lrB G r fs fa fb n).set j (r' j, .inl (G.2.1, 3, .inl (lrF fs' fa' fb' j))) = lrB G r' fs' fa' fb' n := by
  apply List.ext_getElem?
  intro i
  by_cases q : i < n
  · rw [lrB_at q, List.getElem?_set]
    by_cases e : j = i
    · subst e
      rw [if_pos rfl, if_pos (by unfold lrB; rw [List.length_map, List.length_range]; exact hj)]
    · rw [if_neg e, lrB_at q]
      obtain ⟨h1, h2, h3, h4⟩ := h i q (fun z => e z.symm)
      rw [h1, show lrF fs fa fb i = lrF fs' fa' fb' i from by unfold lrF; rw [h2, h3, h4]]
  · have e1 : ∀ (r : Nat → Nat) (fs fa fb : Nat → Int32), (lrB G r fs fa fb n).length = n := by
      intro r fs fa fb
      unfold lrB
      rw [List.length_map, List.length_range]
    rw [List.getElem?_eq_none (by rw [List.length_set, e1]; omega), List.getElem?_eq_none (by rw [e1]; omega)]
/-- a row's address among the cells -/
theorem lrB_mem {G : sxG} {r : Nat → Nat} {fs fa fb : Nat → Int32} {n i : Nat} (h : i < n) : (r i, Sum.inl (G.2.1, (3, .inl (lrF fs fa fb i)))) ∈ lrB G r fs fa fb n := List.mem_of_getElem? (lrB_at h)
