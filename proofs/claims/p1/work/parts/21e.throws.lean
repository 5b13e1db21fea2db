/-! A METHOD OF THE CLASS THAT THROWS; a method with handlers -/
def pxXp (G : sxG) (ws : va_W) (A : Nat → Prop) (E : String) : String → State → State → Prop := vx_X (fun _ : Unit => True) (fun E' _ t => E' = E ∧ va_P G.1 vwCl ws t.heap ∧ va_D A ws) A
def pxX (l : Launch) (y : MethodName) (wd : List Cond) (fr lo : Nat) (G : sxG) (k : pxC) (ws : va_W) (av : List Value) (E : String) : Prop := ∀ sz : Nat, vx_Met l y wd ({ frames := fr, cells := 1, slots := 6, locals := lo }) (pxP G k ws av sz) (fun _ _ _ _ => False) (pxXp G ws (va_A ws sz) E) 1 6 (va_A ws sz)
theorem pxX.of {l : Launch} {y : MethodName} {wd wd' : List Cond} {fr lo maxL : Nat} {G : sxG} {k : pxC} {ws : va_W} {av : List Value} {E : String} {cc : ByteArray} {rt : Option FieldType} (hy : plainName y.cls = true) (hw : wd = Cond.code y cc maxL rt :: wd') (hn : (lg_sl av).length ≤ maxL)
    (body : ∀ (p : Program) (e : Env) (s : State) (m : MethodId) (args : Array Value) (below : List Frame) (meth : Method) (c : Code), pxBd G y wd cc maxL rt p s m args meth c → (∀ x ∈ c.exceptionTable.toList, False) → ∀ A : Nat → Prop, (∀ q : Nat, s.heap.size ≤ q → A q) → va_P G.1 vwCl ws s.heap → va_D A ws → va_S A s.heap s.heap [] → pxE k A s s.heap → ∀ ls : Array Slot, lv_has ls maxL (lv_args 0 av) →
      W p l e ({ frames := fr, cells := 1, slots := 6, locals := lo }) s m args below meth c s.heap [] 0 0 (vx_MQ below (fun _ _ _ _ => False) (pxXp G ws A E) args s 1 6 A) (F0 m 0 ls [])) : pxX l y wd fr lo G k ws av E := by
  intro sz
  refine vx_ofW (cc := cc) (maxL := maxL) (ret := rt) hy hw ?_
  intro p e s m args below meth c s₁ B hml htb hv
  obtain ⟨rfl, hsz, hP, hD, hK, hE⟩ := hv
  subst hsz
  rw [lg_entry_eq]
  exact body p e s m _ below meth c ⟨B.exec, B.bytes, B.returns, hml, findClass_of_methodNamed B.named, B.notSynchronized, atoms_spec (ws := wd) B.pre, hK⟩ htb _ (fun q h => Or.inr h) hP hD.self va_S.rf hE _ (lv_entry av hn)
section PXX
variable {p : Program} {l : Launch} {e : Env} {R : Room} {s : State} {m : MethodId} {args : Array Value} {below : List Frame} {meth : Method} {c : Code} {H : Heap} {locs : List Loc} {cells slots : Nat} {Q : State → Prop}
variable {Ts wd wd' : List Cond} {cc bytes : ByteArray} {nL maxL index n fr lo pc : Nat} {own C E : String} {y : MethodName} {ret : Option FieldType} {b : Addr} {As rest st0 : List Value} {G : sxG} {k : pxC} {ws wc wr : va_W} {ls : Array Slot} {lv : List (Nat × Value)} {A : Nat → Prop}
/-- the words of an exception's making -/
theorem px_hat {cd : Cond} {cls : String} {ic : Nat} (hts : ∀ w ∈ cd :: bwA, w.before args s = true) (hE : pxE k A s s.heap) (hG : ∀ w ∈ vxG cls ic, w ∈ bwA) (hB : ∀ w ∈ (vxA cls ic).filter (fun w => !goodWord w), w ∈ pxNl) : ∀ w ∈ vxA cls ic, w.before args s = true := by
  refine vx_hat (B := (vxA cls ic).filter (fun w => !goodWord w)) (fun w h => aw hts (hG w h)) (fun w h => h) (fun w h => ?_)
  have h1 := hE.1.1 w (hB w h)
  have h2 := hB w h
  simp only [pxNl, List.mem_cons, List.not_mem_nil, or_false] at h2
  rcases h2 with rfl | rfl | rfl | rfl | rfl | rfl | rfl | rfl | rfl | rfl | rfl | rfl <;> exact va_Nw.use rfl h1
theorem px_XC (hP : va_P G.1 vwCl ws H) (hD : va_D A ws) (hS : va_S A s.heap H locs) {wx : va_W} (isX : List Nat) (hX : isX.filterMap (fun i => ws[i]?) = wx) (hX2 : isX.map (fun i => ws[i]?) = wx.map some) (hnx : va_nd isX = true) : ∀ t : State, s.vm.Alike t.vm → H.size ≤ t.heap.size → (∀ q : Nat, q < H.size → t.heap[q]? = H[q]?) → pxXp G wx A E E s t := by
  intro t _ hsz hk
  refine ⟨(), trivial, ⟨rfl, (hP.sub isX hX).kept (fun j x hx => hk x.1 ?_), hD.sub isX hnx hX2⟩, Nat.le_trans hS.1 hsz, fun q h1 h2 => (hk q (Nat.lt_of_lt_of_le h1 hS.1)).trans (hS.2.1 q h1 h2)⟩
  exact (hP.sub isX hX j x hx).lt
theorem px_throw {cd : Cond} {text : String} {ik is ic : Nat} {wx : va_W} (hfl : l.stackTraces = false) (hx : p.tables.exec = Jvm.exec) (hb : c.code = cc) (hml : c.maxLocals = nL) (hown : s.vm.findClass RX9 = some m.cls) (hlk : meth.locks = false) (hts : ∀ w ∈ cd :: bwA, w.before args s = true) (htb : ∀ x ∈ c.exceptionTable.toList, False)
    (hP : va_P G.1 vwCl ws H) (hD : va_D A ws) (hS : va_S A s.heap H locs) (hE : pxE k A s s.heap) (isX : List Nat) (hX : isX.filterMap (fun i => ws[i]?) = wx) (hX2 : isX.map (fun i => ws[i]?) = wx.map some) (hnx : va_nd isX = true) (hcls : Bundle.fit E = true) (hk : (Cond.classLink RX9 ik E).before args s = true) (hini : (Cond.initialized E).before args s = true) (hstr : (RX9, is, text) ∈ pxStr) (hG : ∀ w ∈ vxG E ic, w ∈ bwA) (hB : ∀ w ∈ (vxA E ic).filter (fun w => !goodWord w), w ∈ pxNl) (hgood : (Cond.classLink RX9 ik E :: Cond.initialized E :: vxA E ic).all vx_ot = true)
    (hl : lv_has ls nL lv) (d0 : decode cc pc = .ok (.new ik, 3)) (d3 : decode cc (pc + 3) = .ok (.dup, 1)) (d4 : decode cc (pc + 4) = .ok (.ldc is, 2)) (d6 : decode cc (pc + 6) = .ok (.invokespecial ic, 3)) (d9 : decode cc (pc + 9) = .ok (.athrow, 1))
    (hR : 5 < R.frames ∧ 82 ≤ R.locals ∧ cells + 1 ≤ R.cells ∧ slots + 6 ≤ R.slots) (hcs : cells + 1 ≤ 1 ∧ slots + 6 ≤ 6) : W p l e R s m args below meth c H locs cells slots (vx_MQ below (fun _ _ _ _ => False) (pxXp G wx A E) args s 1 6 A) (F0 m pc ls []) := by
  obtain ⟨sa, hsa⟩ := hE.2.2.1
  refine vx_throwS (names := ["java/lang/RuntimeException", "java/lang/Exception"]) (A := A) hx hb hfl hown hcls (by decide +kernel) hk hini (hsa _ hstr) (px_hat hts hE hG hB) (fun w hw => List.all_eq_true.mp hgood w hw) hE.2.1.2.2.2.2.2.2.2.1 hE.2.1.2.2.2.2.2.2.2.2.1 hS (hl.1.trans hml.symm) d0 d3 d4 d6 d9 (fun x h => absurd (htb x h) id) (by show 2 + 3 < R.frames; omega) (by show 0 + (13 * (2 + 1) + 43) ≤ R.locals; omega) hR.2.2.1 hR.2.2.2 hlk (px_XC hP hD hS isX hX hX2 hnx) hS.2.2 hcs.1 hcs.2
theorem px_throwW {cd : Cond} {text : String} {ik is ic : Nat} {wx : va_W} (hfl : l.stackTraces = false) (hx : p.tables.exec = Jvm.exec) (hb : c.code = cc) (hml : c.maxLocals = nL) (hown : s.vm.findClass RX9 = some m.cls) (hlk : meth.locks = false) (hts : ∀ w ∈ cd :: bwA, w.before args s = true) (htb : ∀ x ∈ c.exceptionTable.toList, False)
    (hP : va_P G.1 vwCl ws H) (hD : va_D A ws) (hS : va_S A s.heap H locs) (hE : pxE k A s s.heap) (isX : List Nat) (hX : isX.filterMap (fun i => ws[i]?) = wx) (hX2 : isX.map (fun i => ws[i]?) = wx.map some) (hnx : va_nd isX = true) (hcls : Bundle.fit E = true) (hk : (Cond.classLink RX9 ik E).before args s = true) (hini : (Cond.initialized E).before args s = true) (hstr : (RX9, is, text) ∈ pxStr) (hG : ∀ w ∈ vxG E ic, w ∈ bwA) (hB : ∀ w ∈ (vxA E ic).filter (fun w => !goodWord w), w ∈ pxNl) (hgood : (Cond.classLink RX9 ik E :: Cond.initialized E :: vxA E ic).all vx_ot = true)
    (hl : lv_has ls nL lv) (d0 : decode cc pc = .ok (.new ik, 3)) (d3 : decode cc (pc + 3) = .ok (.dup, 1)) (d4 : decode cc (pc + 4) = .ok (.ldc_w is, 3)) (d6 : decode cc (pc + 7) = .ok (.invokespecial ic, 3)) (d9 : decode cc (pc + 10) = .ok (.athrow, 1))
    (hR : 5 < R.frames ∧ 82 ≤ R.locals ∧ cells + 1 ≤ R.cells ∧ slots + 6 ≤ R.slots) (hcs : cells + 1 ≤ 1 ∧ slots + 6 ≤ 6) : W p l e R s m args below meth c H locs cells slots (vx_MQ below (fun _ _ _ _ => False) (pxXp G wx A E) args s 1 6 A) (F0 m pc ls []) := by
  obtain ⟨sa, hsa⟩ := hE.2.2.1
  refine vx_throwSW (names := ["java/lang/RuntimeException", "java/lang/Exception"]) (A := A) hx hb hfl hown hcls (by decide +kernel) hk hini (hsa _ hstr) (px_hat hts hE hG hB) (fun w hw => List.all_eq_true.mp hgood w hw) hE.2.1.2.2.2.2.2.2.2.1 hE.2.1.2.2.2.2.2.2.2.2.1 hS (hl.1.trans hml.symm) d0 d3 d4 d6 d9 (fun x h => absurd (htb x h) id) (by show 2 + 3 < R.frames; omega) (by show 0 + (13 * (2 + 1) + 43) ≤ R.locals; omega) hR.2.2.1 hR.2.2.2 hlk (px_XC hP hD hS isX hX hX2 hnx) hS.2.2 hcs.1 hcs.2
/-- a call that throws, on an object -/
theorem px_xv (hx : p.tables.exec = Jvm.exec) (hb : c.code = cc) (hml : c.maxLocals = nL) (hown : s.vm.findClass own = some m.cls) (hts : ∀ w ∈ Ts, w.before args s = true) (hM : pxX l y wd fr lo G k wc (Value.ref b :: As) E) (n : Nat) (hG : GoodIn Ts (wsV own index C y wd)) (hw : wd = Cond.code y bytes maxL ret :: wd')
    (hd : y.cls = C ∧ y.cls ≠ "java/lang/invoke/MethodHandle" ∧ y.cls ≠ "java/lang/invoke/VarHandle" ∧ (parseMethodDescriptor y.desc).map (fun d => d.parameters.length) = some n) (hR : fr + 1 ≤ R.frames ∧ 8 + (maxL + 11) + lo ≤ R.locals)
    (hK : sxK G s) (hP : va_P G.1 vwCl ws H) (hD : va_D A ws) (hS : va_S A s.heap H locs) (hA : ∀ q : Nat, s.heap.size ≤ q → A q) (hE : pxE k A s s.heap) (isC isR : List Nat) (hC : isC.map (fun i => ws[i]?) = wc.map some) (hnc : va_nd isC = true) (hR2 : isR.map (fun i => ws[i]?) = wr.map some) (hnd : va_nd isR = true) (hdis : ∀ i ∈ isR, i ∉ isC)
    (q0 : Nat) {ci N : Nat} {fs : List Value} {T : u_T} (he : wc[q0]? = some (b, .inr (ci, fs))) (hc : vwCl[ci]? = some (C, T, N)) (hn : As.length = n) (hl : lv_has ls nL lv) (hst : st0 = As.reverse ++ .ref b :: rest) (hW : (rest.map fun v => v.category).sum ≤ 8)
    (hf : cells + 1 ≤ R.cells ∧ slots + 6 ≤ R.slots) (hdg : decode cc pc = .ok (.invokevirtual index, 3))
    (kx : ∀ (ce : Cell) (q9 : Addr) (H1 : Heap) (locs1 : List Loc), va_P G.1 vwCl (wr ++ wc) H1 → va_D A (wr ++ wc) → va_S A s.heap H1 locs1 → H1[q9]? = some ce → ce.vm = .none → s.vm.findClass E = some ce.cls → vx_W p l e R s m args below meth c H1 locs1 (cells + 1) (slots + 6) Q (F0 m pc ls rest) q9) : W p l e R s m args below meth c H locs cells slots Q (F0 m pc ls st0) := by
  have hPc : va_P G.1 vwCl wc H := hP.sub isC (sx_wc hC)
  have hFc := va_free (wc := wc) hD hS hA isC hC
  have hr : vx_Run p l e R s m args below meth c H locs cells slots 1 6 (F0 m pc ls st0) rest (fun _ _ _ => False) (pxXp G wc (va_A wc H.size) E) (va_A wc H.size) := vx_runV ⟨hx, hb, hml, hown, hts⟩ (hM H.size) (cwV n hts hG hw rfl rfl hd hR) ⟨pxP.blind, va_recv hK.1 hPc hc he, fun U hU hWm => px_pre hK hP hD hS hA hE hC hnc hU hWm _⟩ (g := F0 m pc ls st0) rfl hn hl.1 hst (lv_room hW) hdg hf
  intro T hT X
  rcases hr T hT X with ⟨v, st₀, t, T', L, h0, X', hL, e1, e2, hF, st⟩ | ⟨q, st₀, t, T', L, E', ce, h0, X', hL, e1, e2, ⟨u, hp, ⟨hE', hB⟩, hF⟩, hce, hcv, hcl, st⟩
  · exact absurd hF id
  · subst hE'
    obtain ⟨k1, k2, k3⟩ := vx_keep h0 e1 hS (fun q _ h => hFc q h) hFc hL hF
    obtain ⟨j1, j2⟩ := va_join hP hD isC isR hC hR2 hnd hdis k2 hFc (by rw [e1]; exact hB.1) hB.2
    obtain ⟨t2, a1, b1⟩ := kx ce q T'.heap (locs ++ L) j1 j2 k3 (by rw [e1]; exact hce) hcv hcl T' rfl X'
    exact ⟨t2, st.trans a1, b1⟩
/-- a static call of a method that has handlers -/
theorem px_sW {σ : Type} {mc ms : Nat} {rv : σ → Option Value} {wOf : σ → va_W} {hh : List (Nat × Nat × Nat × Nat)} (hx : p.tables.exec = Jvm.exec) (hb : c.code = cc) (hml : c.maxLocals = nL) (hown : s.vm.findClass own = some m.cls) (hts : ∀ w ∈ Ts, w.before args s = true) (hM : pxM l y wd fr lo mc ms G k wc As rv wOf) (n : Nat) (hG : GoodIn Ts (va_wsS own index y wd)) (hw : wd = Cond.codeWith y bytes maxL ret hh :: wd')
    (hd : y.cls ≠ "java/lang/invoke/MethodHandle" ∧ y.cls ≠ "java/lang/invoke/VarHandle" ∧ (parseMethodDescriptor y.desc).map (fun d => d.parameters.length) = some n) (hR : fr + 1 ≤ R.frames ∧ 8 + (maxL + 11) + lo ≤ R.locals)
    (hK : sxK G s) (hP : va_P G.1 vwCl ws H) (hD : va_D A ws) (hS : va_S A s.heap H locs) (hA : ∀ q : Nat, s.heap.size ≤ q → A q) (hE : pxE k A s s.heap) (isC isR : List Nat) (hC : isC.map (fun i => ws[i]?) = wc.map some) (hnc : va_nd isC = true) (hR2 : isR.map (fun i => ws[i]?) = wr.map some) (hnd : va_nd isR = true) (hdis : ∀ i ∈ isR, i ∉ isC)
    (hn : As.length = n) (hl : lv_has ls nL lv) (hst : st0 = As.reverse ++ rest) (hW : (rest.map fun v => v.category).sum ≤ 8)
    (hf : cells + mc ≤ R.cells ∧ slots + ms ≤ R.slots) (hdg : decode cc pc = .ok (.invokestatic index, 3)) (kk : ∀ (u : σ) (H1 : Heap) (locs1 : List Loc), va_P G.1 vwCl (wr ++ wOf u) H1 → va_D A (wr ++ wOf u) → va_S A s.heap H1 locs1 → W p l e R s m args below meth c H1 locs1 (cells + mc) (slots + ms) Q (F0 m (pc + 3) ls ((rv u).toList ++ rest))) : W p l e R s m args below meth c H locs cells slots Q (F0 m pc ls st0) := by
  have hFc := va_free (wc := wc) hD hS hA isC hC
  refine px_go (vx_runSW ⟨hx, hb, hml, hown, hts⟩ (hM H.size) (vx_cwSW n hts hG hw rfl rfl hd hR) ⟨pxP.blind, fun U hU hWm => px_pre hK hP hD hS hA hE hC hnc hU hWm _⟩ rfl hn hl.1 hst (lv_room hW) hdg hf) hS (fun q _ h => hFc q h) hFc (fun u t H1 locs1 ht hvm hB hz1 hk1 hS1 => ?_)
  obtain ⟨h1, h2⟩ := va_join hP hD isC isR hC hR2 hnd hdis hk1 hFc (by rw [← ht]; exact hB.1) hB.2
  exact kk u H1 locs1 h1 h2 hS1
end PXX
theorem pxM.ofH {σ : Type} {l : Launch} {y : MethodName} {wd wd' : List Cond} {fr lo mc ms maxL : Nat} {G : sxG} {k : pxC} {ws : va_W} {av : List Value} {rv : σ → Option Value} {wOf : σ → va_W} {cc : ByteArray} {rt : Option FieldType} {hh : List (Nat × Nat × Nat × Nat)} (hy : plainName y.cls = true) (hw : wd = Cond.codeWith y cc maxL rt hh :: wd') (hn : (lg_sl av).length ≤ maxL)
    (body : ∀ (p : Program) (e : Env) (s : State) (m : MethodId) (args : Array Value) (below : List Frame) (meth : Method) (c : Code), pxBd G y wd cc maxL rt p s m args meth c → c.exceptionTable.toList = tableOf hh → ∀ A : Nat → Prop, (∀ q : Nat, s.heap.size ≤ q → A q) → va_P G.1 vwCl ws s.heap → va_D A ws → va_S A s.heap s.heap [] → pxE k A s s.heap → ∀ ls : Array Slot, lv_has ls maxL (lv_args 0 av) →
      W p l e ({ frames := fr, cells := mc, slots := ms, locals := lo }) s m args below meth c s.heap [] 0 0 (pxZ mc ms G args s below A rv wOf) (F0 m 0 ls [])) : pxM l y wd fr lo mc ms G k ws av rv wOf := by
  intro sz
  refine va_MetW (cc := cc) (maxL := maxL) (ret := rt) (hh := hh) hy hw ?_
  intro p e s m args below meth c s₁ B hml hv
  obtain ⟨rfl, hsz, hP, hD, hK, hE⟩ := hv
  subst hsz
  rw [lg_entry_eq]
  exact body p e s m _ below meth c ⟨B.exec, B.bytes, B.returns, hml, findClass_of_methodNamed B.named, B.notSynchronized, atoms_spec (ws := wd) B.pre, hK⟩ (vx_table (x := y) B (atoms_spec (ws := wd) B.pre _ (by rw [hw]; exact List.mem_cons_self))) _ (fun q h => Or.inr h) hP hD.self va_S.rf hE _ (lv_entry av hn)
