/-! THE LAYER: one form of contract for methods that only read; what a method begins with; calls in one row. -/
/-- the nest's links: own class, place, method, host -/
def sxN4 : List (String × Nat × MethodName × String) := [(RX1, 77, yX9_isBorrowKind, RX9), (RX3, 41, yX9_loansOf, RX9), (RX3, 44, yX9_isIndexOf, RX9), (RX8, 71, yX9_isIndexOf, RX9), (RX2, 28, yX9_isIndexOf, RX9), (RX0, 155, yX9_isIndexOf, RX9), (RX0, 214, yX9_meets, RX9), (RX5, 65, yX9_isOwned, RX9), (RX5, 55, yX9_isBorrowKind, RX9), (RX4, 32, yX9_isIndexOf, RX9), (RX6, 138, yX9_isIndexOf, RX9), (RX7, 25, yX9_isIndexOf, RX9), (RX6, 232, yX9_isBorrowKind, RX9), (RX6, 208, yX9_isOwned, RX9), (RX5, 37, yX9_isIndexOf, RX9), (RX5, 68, yX9_isSmall, RX9), (RX5, 71, yX9_canBeLent, RX9), (RX5, 74, yX9_loansOf, RX9)]
def sxNw (U : State) : Prop := ∀ q ∈ sxN4, va_Nw (.methodLinkNest q.1 q.2.1 q.2.2.1 q.2.2.2) U
theorem sxNw.at {U : State} (h : sxNw U) (k : Nat) {a : String} {i : Nat} {y : MethodName} {b : String} (hk : sxN4[k]? = some (a, i, y, b)) : va_Nw (.methodLinkNest a i y b) U := h (a, i, y, b) (List.mem_of_getElem? hk)
theorem sxNw.warm {s U : State} (hW : s.WarmedH U.vm) (h : sxNw s) : sxNw U := fun q hq => va_Nw.warmM hW (h q hq)
/-- the class's own kinds of objects: their places in vwCl -/
abbrev kCheck : Nat := 0
abbrev kDeeds : Nat := 1
abbrev kFaults : Nat := 2
abbrev kLoans : Nat := 3
abbrev kNodes : Nat := 4
abbrev kProgram : Nat := 5
abbrev kRun : Nat := 6
abbrev kStory : Nat := 7
abbrev kWays : Nat := 8
abbrev kMill : Nat := 9
/-- classes and slots, the class of int[], the class of boolean[] -/
abbrev sxG : Type := va_G × ClassId × ClassId
def sxK (G : sxG) (U : State) : Prop := va_K G.1 vwCl [(G.2.1, .int), (G.2.2, .boolean)] U ∧ sxNw U
theorem sxK.warm {G : sxG} {s U : State} (hW : s.WarmedH U.vm) (h : sxK G s) : sxK G U := ⟨va_K.moved hW.alike h.1, h.2.warm hW⟩
/-- ahead of a method that reads -/
def sxP (G : sxG) (ws : va_W) (av : List Value) : Array Value → State → Prop := va_Pc av (fun U => va_P G.1 vwCl ws U.heap ∧ sxK G U)
theorem sxP.blind {G : sxG} {ws : va_W} {av : List Value} : FrameBlind (sxP G ws av) := by
  intro a U g mk h
  obtain ⟨h1, h2, h3, h4⟩ := h
  exact ⟨h1, h2, va_K.moved (u := U) (U := U.calling g mk a) (Vm.Alike.refl U.vm) h3, fun q hq => va_Nw.same rfl (rfl : U.vm = (U.calling g mk a).vm) (h4 q hq)⟩
/-- the contract of a method that reads and answers an int or a boolean -/
def sxM (l : Launch) (y : MethodName) (wd : List Cond) (fr lo : Nat) (G : sxG) (ws : va_W) (av : List Value) (post : Int32 → Prop) : Prop := Met l y wd ({ frames := fr, cells := 0, slots := 0, locals := lo }) (sxP G ws av) (vp_Si post) 0 0 (fun _ => False)
/-- what a body may use -/
def sxB (G : sxG) (y : MethodName) (wd : List Cond) (cc : ByteArray) (maxL : Nat) (rt : FieldType) (p : Program) (s : State) (m : MethodId) (args : Array Value) (meth : Method) (c : Code) : Prop :=
  p.tables.exec = Jvm.exec ∧ c.code = cc ∧ meth.sig.returnType = some rt ∧ c.maxLocals = maxL ∧ s.vm.findClass y.cls = some m.cls ∧ meth.locks = false ∧ (∀ w ∈ wd, w.before args s = true) ∧ sxK G s
theorem sxM.of {l : Launch} {y : MethodName} {wd wd' : List Cond} {fr lo maxL : Nat} {G : sxG} {ws : va_W} {av : List Value} {post : Int32 → Prop} {cc : ByteArray} {rt : FieldType} (hy : plainName y.cls = true) (hw : wd = Cond.code y cc maxL (some rt) :: wd') (hn : (lg_sl av).length ≤ maxL)
    (body : ∀ (p : Program) (e : Env) (s : State) (m : MethodId) (args : Array Value) (below : List Frame) (meth : Method) (c : Code), sxB G y wd cc maxL rt p s m args meth c → va_P G.1 vwCl ws s.heap → ∀ ls : Array Slot, lv_has ls maxL (lv_args 0 av) →
      W p l e ({ frames := fr, cells := 0, slots := 0, locals := lo }) s m args below meth c s.heap [] 0 0 (MQ below (vp_Si post) args s 0 0 (fun _ => False)) (F0 m 0 ls [])) : sxM l y wd fr lo G ws av post := by
  refine Met.ofW (cc := cc) (maxL := maxL) (ret := some rt) hy hw ?_
  intro p e s m args below meth c s₁ B hml hv
  obtain ⟨rfl, hP, hK⟩ := hv
  rw [lg_entry_eq]
  exact body p e s m _ below meth c ⟨B.exec, B.bytes, B.returns, hml, findClass_of_methodNamed B.named, B.notSynchronized, atoms_spec (ws := wd) B.pre, hK⟩ hP _ (lv_entry av hn)
section SX
variable {p : Program} {l : Launch} {e : Env} {R : Room} {s : State} {m : MethodId} {args : Array Value} {below : List Frame} {meth : Method} {c : Code} {H : Heap} {locs : List Loc} {cells slots : Nat} {Q : State → Prop}
variable {Ts wd wd' : List Cond} {cc bytes : ByteArray} {nL maxL index n fr lo pc : Nat} {own C : String} {y : MethodName} {ret : Option FieldType} {b : Addr} {As rest st0 : List Value} {G : sxG} {ws wc : va_W} {post : Int32 → Prop} {ls : Array Slot} {lv : List (Nat × Value)}
/-- a call of a method that reads, on an object -/
theorem sx_v (hx : p.tables.exec = Jvm.exec) (hb : c.code = cc) (hml : c.maxLocals = nL) (hown : s.vm.findClass own = some m.cls) (hts : ∀ w ∈ Ts, w.before args s = true) (hM : sxM l y wd fr lo G wc (Value.ref b :: As) post) (n : Nat) (hG : GoodIn Ts (wsV own index C y wd)) (hw : wd = Cond.code y bytes maxL ret :: wd')
    (hd : y.cls = C ∧ y.cls ≠ "java/lang/invoke/MethodHandle" ∧ y.cls ≠ "java/lang/invoke/VarHandle" ∧ (parseMethodDescriptor y.desc).map (fun d => d.parameters.length) = some n) (hR : fr + 1 ≤ R.frames ∧ 8 + (maxL + 11) + lo ≤ R.locals)
    (hK : sxK G s) (hP : va_P G.1 vwCl ws H) (isC : List Nat) (hC : isC.filterMap (fun i => ws[i]?) = wc) (q0 : Nat) {ci N : Nat} {fs : List Value} {T : u_T} (he : wc[q0]? = some (b, .inr (ci, fs))) (hc : vwCl[ci]? = some (C, T, N)) (hn : As.length = n) (hl : lv_has ls nL lv) (hst : st0 = As.reverse ++ .ref b :: rest) (hW : (rest.map fun v => v.category).sum ≤ 8)
    (hf : cells ≤ R.cells ∧ slots ≤ R.slots) (hdg : decode cc pc = .ok (.invokevirtual index, 3)) (kk : ∀ r : Int32, post r → W p l e R s m args below meth c H locs cells slots Q (F0 m (pc + 3) ls (.int r :: rest))) : W p l e R s m args below meth c H locs cells slots Q (F0 m pc ls st0) :=
  vp_callSi (W.runV ⟨hx, hb, hml, hown, hts⟩ hM (cwV n hts hG hw rfl rfl hd hR) ⟨sxP.blind, va_recv hK.1 (hP.sub isC hC) hc he, fun U hU hWm => ⟨rfl, by rw [hU]; exact hP.sub isC hC, hK.warm hWm⟩⟩ rfl hn hl.1 hst (lv_room hW) hdg hf) kk
/-- a call of a nest mate's private static method that reads -/
theorem sx_sn {host : String} (hx : p.tables.exec = Jvm.exec) (hb : c.code = cc) (hml : c.maxLocals = nL) (hown : s.vm.findClass own = some m.cls) (hts : ∀ w ∈ Ts, w.before args s = true) (hM : sxM l y wd fr lo G wc As post) (n : Nat) (hG : GoodIn Ts wd) (hw : wd = Cond.code y bytes maxL ret :: wd') (hN : va_Nw (.methodLinkNest own index y host) s) (hini : Cond.initialized y.cls ∈ Ts) (hstat : Cond.static y ∈ Ts)
    (hd : y.cls ≠ "java/lang/invoke/MethodHandle" ∧ y.cls ≠ "java/lang/invoke/VarHandle" ∧ (parseMethodDescriptor y.desc).map (fun d => d.parameters.length) = some n) (hR : fr + 1 ≤ R.frames ∧ 8 + (maxL + 11) + lo ≤ R.locals)
    (hK : sxK G s) (hP : va_P G.1 vwCl ws H) (isC : List Nat) (hC : isC.filterMap (fun i => ws[i]?) = wc) (hn : As.length = n) (hl : lv_has ls nL lv) (hst : st0 = As.reverse ++ rest) (hW : (rest.map fun v => v.category).sum ≤ 8)
    (hf : cells ≤ R.cells ∧ slots ≤ R.slots) (hdg : decode cc pc = .ok (.invokestatic index, 3)) (kk : ∀ r : Int32, post r → W p l e R s m args below meth c H locs cells slots Q (F0 m (pc + 3) ls (.int r :: rest))) : W p l e R s m args below meth c H locs cells slots Q (F0 m pc ls st0) :=
  vp_callSi (va_Run.run (va_runSN ⟨hx, hb, hml, hown, hts⟩ hM ⟨va_cnB n hts hG hw rfl rfl hN (hts _ hini) hd hR, hts _ hstat, trivial⟩ ⟨sxP.blind, fun U hU hWm => ⟨rfl, by rw [hU]; exact hP.sub isC hC, hK.warm hWm⟩⟩ rfl hn hl.1 hst (lv_room hW) hdg hf)) kk
/-- a call of the own class's static method that reads -/
theorem sx_s (hx : p.tables.exec = Jvm.exec) (hb : c.code = cc) (hml : c.maxLocals = nL) (hown : s.vm.findClass own = some m.cls) (hts : ∀ w ∈ Ts, w.before args s = true) (hM : sxM l y wd fr lo G wc As post) (n : Nat) (hG : GoodIn Ts (va_wsS own index y wd)) (hw : wd = Cond.code y bytes maxL ret :: wd')
    (hd : y.cls ≠ "java/lang/invoke/MethodHandle" ∧ y.cls ≠ "java/lang/invoke/VarHandle" ∧ (parseMethodDescriptor y.desc).map (fun d => d.parameters.length) = some n) (hR : fr + 1 ≤ R.frames ∧ 8 + (maxL + 11) + lo ≤ R.locals)
    (hK : sxK G s) (hP : va_P G.1 vwCl ws H) (isC : List Nat) (hC : isC.filterMap (fun i => ws[i]?) = wc) (hn : As.length = n) (hl : lv_has ls nL lv) (hst : st0 = As.reverse ++ rest) (hW : (rest.map fun v => v.category).sum ≤ 8)
    (hf : cells ≤ R.cells ∧ slots ≤ R.slots) (hdg : decode cc pc = .ok (.invokestatic index, 3)) (kk : ∀ r : Int32, post r → W p l e R s m args below meth c H locs cells slots Q (F0 m (pc + 3) ls (.int r :: rest))) : W p l e R s m args below meth c H locs cells slots Q (F0 m pc ls st0) := by
  have ok : ∀ w ∈ va_wsS own index y wd, w.before args s = true := fun w h => hts w (hG w h).1
  exact vp_callSi (W.runS ⟨hx, hb, hml, hown, hts⟩ hM ⟨callB_of n hts (fun w h => hG w (by unfold va_wsS; exact List.mem_append_right _ h)) hw rfl rfl (ok _ (by simp [va_wsS])) (ok _ (by simp [va_wsS])) hd hR, ok _ (by simp [va_wsS])⟩ ⟨sxP.blind, fun U hU hWm => ⟨rfl, by rw [hU]; exact hP.sub isC hC, hK.warm hWm⟩⟩ rfl hn hl.1 hst (lv_room hW) hdg hf) kk
/-- the end of a method that reads -/
theorem sx_ret {rt : FieldType} {v : Int32} (hx : p.tables.exec = Jvm.exec) (hb : c.code = cc) (hr : meth.sig.returnType = some rt) (hlk : meth.locks = false) (hn : narrow rt (.int v) = .int v) (hp : post v) (hdg : decode cc pc = .ok (.ireturn, 1)) : W p l e R s m args below meth c s.heap [] 0 0 (MQ below (vp_Si post) args s 0 0 (fun _ => False)) (F0 m pc ls [.int v]) :=
  W.zret hx hb hr hn (fun t ht hWm => ⟨v, rfl, hp, ht⟩) (fun _ h => nomatch h) hdg hlk
end SX
/-! ranges of ints -/
def sx_le (x : Int32) (k : Nat) : Prop := ∃ j : Nat, j ≤ k ∧ x = nI j
theorem sx_pos {x : Int32} (h : ¬ x < 0) : ∃ j : Nat, j < 2 ^ 31 ∧ x = nI j := nI_of h
theorem sx_inN {j k : Nat} (h : j < k) (hk : k < 2 ^ 31) : vp_in (nI j) k := vp_in_nI h hk
theorem sx_in_lt {x n : Int32} {k : Nat} (hk : k < 2 ^ 31) (hn : sx_le n k) (h0 : ¬ x < 0) (h1 : ¬ n ≤ x) : vp_in x k := by
  obtain ⟨j, hj, rfl⟩ := hn
  obtain ⟨i, hi, rfl⟩ := nI_of h0
  have : i < j := by
    rcases Nat.lt_or_ge i j with q | q
    · exact q
    · exact absurd (nI_le q hi) h1
  exact vp_in_nI (by omega) hk
/-! methods that write: the answer and the cells behind are a function's (S: the cells' new contents, then the answer) -/
def sxQ (G : sxG) (ws : va_W) (av : List Value) (sz : Nat) : Array Value → State → Prop := va_Pc av (fun U => U.heap.size = sz ∧ va_P G.1 vwCl ws U.heap ∧ va_D (fun _ => True) ws ∧ sxK G U)
theorem sxQ.blind {G : sxG} {ws : va_W} {av : List Value} {sz : Nat} : FrameBlind (sxQ G ws av sz) := by
  intro a U g mk h
  obtain ⟨h1, h0, h2, h5, h3, h4⟩ := h
  exact ⟨h1, h0, h2, h5, va_K.moved (u := U) (U := U.calling g mk a) (Vm.Alike.refl U.vm) h3, fun q hq => va_Nw.same rfl (rfl : U.vm = (U.calling g mk a).vm) (h4 q hq)⟩
def sxQi {σ : Type} (G : sxG) (A : Nat → Prop) (wOf : σ → va_W) (S : σ × Int32) : Array Value → State → Outcome → State → Prop := va_Qi (fun (r : Int32) (u : σ) => u = S.1 ∧ r = S.2) (fun u t => va_P G.1 vwCl (wOf u) t.heap ∧ va_D A (wOf u)) A
def sxQv {σ : Type} (G : sxG) (A : Nat → Prop) (wOf : σ → va_W) (S : σ) : Array Value → State → Outcome → State → Prop := va_Qv (fun (u : σ) => u = S) (fun u t => va_P G.1 vwCl (wOf u) t.heap ∧ va_D A (wOf u)) A
def sxC {σ : Type} (l : Launch) (y : MethodName) (wd : List Cond) (fr lo : Nat) (G : sxG) (ws : va_W) (av : List Value) (wOf : σ → va_W) (S : σ × Int32) : Prop := ∀ sz : Nat, Met l y wd ({ frames := fr, cells := 0, slots := 0, locals := lo }) (sxQ G ws av sz) (sxQi G (va_A ws sz) wOf S) 0 0 (va_A ws sz)
def sxV {σ : Type} (l : Launch) (y : MethodName) (wd : List Cond) (fr lo : Nat) (G : sxG) (ws : va_W) (av : List Value) (wOf : σ → va_W) (S : σ) : Prop := ∀ sz : Nat, Met l y wd ({ frames := fr, cells := 0, slots := 0, locals := lo }) (sxQ G ws av sz) (sxQv G (va_A ws sz) wOf S) 0 0 (va_A ws sz)
def sxZ {σ : Type} (G : sxG) (args : Array Value) (s : State) (below : List Frame) (A : Nat → Prop) (wOf : σ → va_W) (S : σ × Int32) : State → Prop := MQ below (sxQi G A wOf S) args s 0 0 A
def sxZv {σ : Type} (G : sxG) (args : Array Value) (s : State) (below : List Frame) (A : Nat → Prop) (wOf : σ → va_W) (S : σ) : State → Prop := MQ below (sxQv G A wOf S) args s 0 0 A
def sxBv (G : sxG) (y : MethodName) (wd : List Cond) (cc : ByteArray) (maxL : Nat) (p : Program) (s : State) (m : MethodId) (args : Array Value) (meth : Method) (c : Code) : Prop :=
  p.tables.exec = Jvm.exec ∧ c.code = cc ∧ meth.sig.returnType = none ∧ c.maxLocals = maxL ∧ s.vm.findClass y.cls = some m.cls ∧ meth.locks = false ∧ (∀ w ∈ wd, w.before args s = true) ∧ sxK G s
theorem sxC.of {σ : Type} {l : Launch} {y : MethodName} {wd wd' : List Cond} {fr lo maxL : Nat} {G : sxG} {ws : va_W} {av : List Value} {wOf : σ → va_W} {S : σ × Int32} {cc : ByteArray} {rt : FieldType} (hy : plainName y.cls = true) (hw : wd = Cond.code y cc maxL (some rt) :: wd') (hn : (lg_sl av).length ≤ maxL)
    (body : ∀ (p : Program) (e : Env) (s : State) (m : MethodId) (args : Array Value) (below : List Frame) (meth : Method) (c : Code), sxB G y wd cc maxL rt p s m args meth c → ∀ A : Nat → Prop, (∀ q : Nat, s.heap.size ≤ q → A q) → va_P G.1 vwCl ws s.heap → va_D A ws → va_S A s.heap s.heap [] → ∀ ls : Array Slot, lv_has ls maxL (lv_args 0 av) →
      W p l e ({ frames := fr, cells := 0, slots := 0, locals := lo }) s m args below meth c s.heap [] 0 0 (sxZ G args s below A wOf S) (F0 m 0 ls [])) : sxC l y wd fr lo G ws av wOf S := by
  intro sz
  refine Met.ofW (cc := cc) (maxL := maxL) (ret := some rt) hy hw ?_
  intro p e s m args below meth c s₁ B hml hv
  obtain ⟨rfl, hsz, hP, hD, hK⟩ := hv
  subst hsz
  rw [lg_entry_eq]
  exact body p e s m _ below meth c ⟨B.exec, B.bytes, B.returns, hml, findClass_of_methodNamed B.named, B.notSynchronized, atoms_spec (ws := wd) B.pre, hK⟩ _ (fun q h => Or.inr h) hP hD.self va_S.rf _ (lv_entry av hn)
theorem sxV.of {σ : Type} {l : Launch} {y : MethodName} {wd wd' : List Cond} {fr lo maxL : Nat} {G : sxG} {ws : va_W} {av : List Value} {wOf : σ → va_W} {S : σ} {cc : ByteArray} (hy : plainName y.cls = true) (hw : wd = Cond.code y cc maxL none :: wd') (hn : (lg_sl av).length ≤ maxL)
    (body : ∀ (p : Program) (e : Env) (s : State) (m : MethodId) (args : Array Value) (below : List Frame) (meth : Method) (c : Code), sxBv G y wd cc maxL p s m args meth c → ∀ A : Nat → Prop, (∀ q : Nat, s.heap.size ≤ q → A q) → va_P G.1 vwCl ws s.heap → va_D A ws → va_S A s.heap s.heap [] → ∀ ls : Array Slot, lv_has ls maxL (lv_args 0 av) →
      W p l e ({ frames := fr, cells := 0, slots := 0, locals := lo }) s m args below meth c s.heap [] 0 0 (sxZv G args s below A wOf S) (F0 m 0 ls [])) : sxV l y wd fr lo G ws av wOf S := by
  intro sz
  refine Met.ofW (cc := cc) (maxL := maxL) (ret := none) hy hw ?_
  intro p e s m args below meth c s₁ B hml hv
  obtain ⟨rfl, hsz, hP, hD, hK⟩ := hv
  subst hsz
  rw [lg_entry_eq]
  exact body p e s m _ below meth c ⟨B.exec, B.bytes, B.returns, hml, findClass_of_methodNamed B.named, B.notSynchronized, atoms_spec (ws := wd) B.pre, hK⟩ _ (fun q h => Or.inr h) hP hD.self va_S.rf _ (lv_entry av hn)
section SXW
variable {σ : Type} {p : Program} {l : Launch} {e : Env} {R : Room} {s : State} {m : MethodId} {args : Array Value} {below : List Frame} {meth : Method} {c : Code} {H : Heap} {locs : List Loc} {Q : State → Prop}
variable {Ts wd wd' : List Cond} {cc bytes : ByteArray} {nL maxL index fr lo pc : Nat} {own C : String} {y : MethodName} {ret : Option FieldType} {b : Addr} {As rest st0 : List Value} {G : sxG} {ws wc wr ws' : va_W} {ls : Array Slot} {lv : List (Nat × Value)} {A : Nat → Prop} {wOf : σ → va_W}
theorem sx_retI {rt : FieldType} {v : Int32} {u : σ} {S : σ × Int32} (hx : p.tables.exec = Jvm.exec) (hb : c.code = cc) (hr : meth.sig.returnType = some rt) (hlk : meth.locks = false) (_hK : sxK G s) (hP : va_P G.1 vwCl (wOf u) H) (hD : va_D A (wOf u)) (hS : va_S A s.heap H locs) (hn : narrow rt (.int v) = .int v) (hu : u = S.1) (hv : v = S.2) (hdg : decode cc pc = .ok (.ireturn, 1)) : W p l e R s m args below meth c H locs 0 0 (sxZ G args s below A wOf S) (F0 m pc ls [.int v]) :=
  W.zret hx hb hr hn (fun t ht _ => ⟨⟨v, u, rfl, ⟨hu, hv⟩, by rw [ht]; exact hP, hD⟩, hS.F ht⟩) hS.2.2 hdg hlk
theorem sx_retV {u S : σ} (hx : p.tables.exec = Jvm.exec) (hb : c.code = cc) (hr : meth.sig.returnType = none) (hlk : meth.locks = false) (_hK : sxK G s) (hP : va_P G.1 vwCl (wOf u) H) (hD : va_D A (wOf u)) (hS : va_S A s.heap H locs) (hu : u = S) (hdg : decode cc pc = .ok (.return_, 1)) : W p l e R s m args below meth c H locs 0 0 (sxZv G args s below A wOf S) (F0 m pc ls []) :=
  W.vret hx hb hr (fun t ht _ => ⟨⟨u, rfl, hu, by rw [ht]; exact hP, hD⟩, hS.F ht⟩) hS.2.2 hdg hlk
/-- behind a callee that wrote: what came back, in the caller's order -/
theorem sx_back {w1 : va_W} {H1 : Heap} (hP : va_P G.1 vwCl ws H) (hD : va_D A ws) (isC isR : List Nat) (hC : isC.map (fun i => ws[i]?) = wc.map some) (hR : isR.map (fun i => ws[i]?) = wr.map some) (hn : va_nd isR = true) (hdis : ∀ i ∈ isR, i ∉ isC) (perm : List Nat) (hp1 : perm.filterMap (fun i => (wr ++ w1)[i]?) = ws') (hp2 : perm.map (fun i => (wr ++ w1)[i]?) = ws'.map some) (hnp : va_nd perm = true)
    (hk : ∀ q : Nat, q < H.size → ¬ va_A wc H.size q → H1[q]? = H[q]?) (hF : ∀ q, va_A wc H.size q → A q) (hP1 : va_P G.1 vwCl w1 H1) (hD1 : va_D (va_A wc H.size) w1) : va_P G.1 vwCl ws' H1 ∧ va_D A ws' := by
  obtain ⟨h1, h2⟩ := va_join hP hD isC isR hC hR hn hdis hk hF hP1 hD1
  exact ⟨h1.sub perm hp1, h2.sub perm hnp hp2⟩
theorem sx_wc {isC : List Nat} (hC : isC.map (fun i => ws[i]?) = wc.map some) : isC.filterMap (fun i => ws[i]?) = wc := by
  induction isC generalizing wc with
  | nil => cases wc with
    | nil => rfl
    | cons a t => simp at hC
  | cons i t ih => cases wc with
    | nil => simp at hC
    | cons a w =>
      simp only [List.map_cons, List.cons.injEq] at hC
      rw [List.filterMap_cons, hC.1, ih hC.2]
theorem sx_vV {cells slots : Nat} {S : σ} (hx : p.tables.exec = Jvm.exec) (hb : c.code = cc) (hml : c.maxLocals = nL) (hown : s.vm.findClass own = some m.cls) (hts : ∀ w ∈ Ts, w.before args s = true) (hM : sxV l y wd fr lo G wc (Value.ref b :: As) wOf S) (n : Nat) (hG : GoodIn Ts (wsV own index C y wd)) (hw : wd = Cond.code y bytes maxL ret :: wd')
    (hd : y.cls = C ∧ y.cls ≠ "java/lang/invoke/MethodHandle" ∧ y.cls ≠ "java/lang/invoke/VarHandle" ∧ (parseMethodDescriptor y.desc).map (fun d => d.parameters.length) = some n) (hR : fr + 1 ≤ R.frames ∧ 8 + (maxL + 11) + lo ≤ R.locals)
    (hK : sxK G s) (hP : va_P G.1 vwCl ws H) (hD : va_D A ws) (hS : va_S A s.heap H locs) (hA : ∀ q : Nat, s.heap.size ≤ q → A q) (isC isR : List Nat) (hC : isC.map (fun i => ws[i]?) = wc.map some) (hnc : va_nd isC = true) (hR2 : isR.map (fun i => ws[i]?) = wr.map some) (hnd : va_nd isR = true) (hdis : ∀ i ∈ isR, i ∉ isC) (perm : List Nat) (hp1 : perm.filterMap (fun i => (wr ++ wOf S)[i]?) = ws') (hp2 : perm.map (fun i => (wr ++ wOf S)[i]?) = ws'.map some) (hnp : va_nd perm = true)
    (q0 : Nat) {ci N : Nat} {fs : List Value} {T : u_T} (he : wc[q0]? = some (b, .inr (ci, fs))) (hc : vwCl[ci]? = some (C, T, N)) (hn : As.length = n) (hl : lv_has ls nL lv) (hst : st0 = As.reverse ++ .ref b :: rest) (hW : (rest.map fun v => v.category).sum ≤ 8)
    (hf : cells ≤ R.cells ∧ slots ≤ R.slots) (hdg : decode cc pc = .ok (.invokevirtual index, 3)) (kk : ∀ (H1 : Heap) (locs1 : List Loc), va_P G.1 vwCl ws' H1 → va_D A ws' → va_S A s.heap H1 locs1 → W p l e R s m args below meth c H1 locs1 cells slots Q (F0 m (pc + 3) ls rest)) : W p l e R s m args below meth c H locs cells slots Q (F0 m pc ls st0) := by
  have hPc : va_P G.1 vwCl wc H := hP.sub isC (sx_wc hC)
  have hFc := va_free (wc := wc) hD hS hA isC hC
  have hDc := hD.sub isC hnc hC
  refine va_callv (va_runV ⟨hx, hb, hml, hown, hts⟩ (hM H.size) (cwV n hts hG hw rfl rfl hd hR) ⟨sxQ.blind, va_recv hK.1 hPc hc he, fun U hU hWm => ⟨rfl, by rw [hU], by rw [hU]; exact hPc, hDc.weaken (fun _ _ _ _ => trivial), hK.warm hWm⟩⟩ rfl hn hl.1 hst (lv_room hW) hdg hf) hS (fun q _ h => hFc q h) hFc (fun u t H1 locs1 ht hvm hw2 hB hz1 hk1 hS1 => by
    subst hw2
    obtain ⟨h1, h2⟩ := sx_back hP hD isC isR hC hR2 hnd hdis perm hp1 hp2 hnp hk1 hFc (by rw [← ht]; exact hB.1) hB.2
    exact kk H1 locs1 h1 h2 hS1)

theorem sx_vC {cells slots : Nat} {S : σ × Int32} (hx : p.tables.exec = Jvm.exec) (hb : c.code = cc) (hml : c.maxLocals = nL) (hown : s.vm.findClass own = some m.cls) (hts : ∀ w ∈ Ts, w.before args s = true) (hM : sxC l y wd fr lo G wc (Value.ref b :: As) wOf S) (n : Nat) (hG : GoodIn Ts (wsV own index C y wd)) (hw : wd = Cond.code y bytes maxL ret :: wd')
    (hd : y.cls = C ∧ y.cls ≠ "java/lang/invoke/MethodHandle" ∧ y.cls ≠ "java/lang/invoke/VarHandle" ∧ (parseMethodDescriptor y.desc).map (fun d => d.parameters.length) = some n) (hR : fr + 1 ≤ R.frames ∧ 8 + (maxL + 11) + lo ≤ R.locals)
    (hK : sxK G s) (hP : va_P G.1 vwCl ws H) (hD : va_D A ws) (hS : va_S A s.heap H locs) (hA : ∀ q : Nat, s.heap.size ≤ q → A q) (isC isR : List Nat) (hC : isC.map (fun i => ws[i]?) = wc.map some) (hnc : va_nd isC = true) (hR2 : isR.map (fun i => ws[i]?) = wr.map some) (hnd : va_nd isR = true) (hdis : ∀ i ∈ isR, i ∉ isC) (perm : List Nat) (hp1 : perm.filterMap (fun i => (wr ++ wOf S.1)[i]?) = ws') (hp2 : perm.map (fun i => (wr ++ wOf S.1)[i]?) = ws'.map some) (hnp : va_nd perm = true)
    (q0 : Nat) {ci N : Nat} {fs : List Value} {T : u_T} (he : wc[q0]? = some (b, .inr (ci, fs))) (hc : vwCl[ci]? = some (C, T, N)) (hn : As.length = n) (hl : lv_has ls nL lv) (hst : st0 = As.reverse ++ .ref b :: rest) (hW : (rest.map fun v => v.category).sum ≤ 8)
    (hf : cells ≤ R.cells ∧ slots ≤ R.slots) (hdg : decode cc pc = .ok (.invokevirtual index, 3)) (kk : ∀ (H1 : Heap) (locs1 : List Loc), va_P G.1 vwCl ws' H1 → va_D A ws' → va_S A s.heap H1 locs1 → W p l e R s m args below meth c H1 locs1 cells slots Q (F0 m (pc + 3) ls (.int S.2 :: rest))) : W p l e R s m args below meth c H locs cells slots Q (F0 m pc ls st0) := by
  have hPc : va_P G.1 vwCl wc H := hP.sub isC (sx_wc hC)
  have hFc := va_free (wc := wc) hD hS hA isC hC
  have hDc := hD.sub isC hnc hC
  refine va_calli (va_runV ⟨hx, hb, hml, hown, hts⟩ (hM H.size) (cwV n hts hG hw rfl rfl hd hR) ⟨sxQ.blind, va_recv hK.1 hPc hc he, fun U hU hWm => ⟨rfl, by rw [hU], by rw [hU]; exact hPc, hDc.weaken (fun _ _ _ _ => trivial), hK.warm hWm⟩⟩ rfl hn hl.1 hst (lv_room hW) hdg hf) hS (fun q _ h => hFc q h) hFc (fun r u t H1 locs1 ht hvm hw2 hB hz1 hk1 hS1 => by
    obtain ⟨hu, hr2⟩ := hw2
    subst hu; subst hr2
    obtain ⟨h1, h2⟩ := sx_back hP hD isC isR hC hR2 hnd hdis perm hp1 hp2 hnp hk1 hFc (by rw [← ht]; exact hB.1) hB.2
    exact kk H1 locs1 h1 h2 hS1)

theorem sx_sV {cells slots : Nat} {S : σ} (hx : p.tables.exec = Jvm.exec) (hb : c.code = cc) (hml : c.maxLocals = nL) (hown : s.vm.findClass own = some m.cls) (hts : ∀ w ∈ Ts, w.before args s = true) (hM : sxV l y wd fr lo G wc As wOf S) (n : Nat) (hG : GoodIn Ts (va_wsS own index y wd)) (hw : wd = Cond.code y bytes maxL ret :: wd')
    (hd : y.cls ≠ "java/lang/invoke/MethodHandle" ∧ y.cls ≠ "java/lang/invoke/VarHandle" ∧ (parseMethodDescriptor y.desc).map (fun d => d.parameters.length) = some n) (hR : fr + 1 ≤ R.frames ∧ 8 + (maxL + 11) + lo ≤ R.locals)
    (hK : sxK G s) (hP : va_P G.1 vwCl ws H) (hD : va_D A ws) (hS : va_S A s.heap H locs) (hA : ∀ q : Nat, s.heap.size ≤ q → A q) (isC isR : List Nat) (hC : isC.map (fun i => ws[i]?) = wc.map some) (hnc : va_nd isC = true) (hR2 : isR.map (fun i => ws[i]?) = wr.map some) (hnd : va_nd isR = true) (hdis : ∀ i ∈ isR, i ∉ isC) (perm : List Nat) (hp1 : perm.filterMap (fun i => (wr ++ wOf S)[i]?) = ws') (hp2 : perm.map (fun i => (wr ++ wOf S)[i]?) = ws'.map some) (hnp : va_nd perm = true)
    (hn : As.length = n) (hl : lv_has ls nL lv) (hst : st0 = As.reverse ++ rest) (hW : (rest.map fun v => v.category).sum ≤ 8)
    (hf : cells ≤ R.cells ∧ slots ≤ R.slots) (hdg : decode cc pc = .ok (.invokestatic index, 3)) (kk : ∀ (H1 : Heap) (locs1 : List Loc), va_P G.1 vwCl ws' H1 → va_D A ws' → va_S A s.heap H1 locs1 → W p l e R s m args below meth c H1 locs1 cells slots Q (F0 m (pc + 3) ls rest)) : W p l e R s m args below meth c H locs cells slots Q (F0 m pc ls st0) := by
  have hPc : va_P G.1 vwCl wc H := hP.sub isC (sx_wc hC)
  have hFc := va_free (wc := wc) hD hS hA isC hC
  have hDc := hD.sub isC hnc hC
  have ok : ∀ w ∈ va_wsS own index y wd, w.before args s = true := fun w h => hts w (hG w h).1
  refine va_callv (va_runS ⟨hx, hb, hml, hown, hts⟩ (hM H.size) ⟨callB_of n hts (fun w h => hG w (by unfold va_wsS; exact List.mem_append_right _ h)) hw rfl rfl (ok _ (by simp [va_wsS])) (ok _ (by simp [va_wsS])) hd hR, ok _ (by simp [va_wsS])⟩ ⟨sxQ.blind, fun U hU hWm => ⟨rfl, by rw [hU], by rw [hU]; exact hPc, hDc.weaken (fun _ _ _ _ => trivial), hK.warm hWm⟩⟩ rfl hn hl.1 hst (lv_room hW) hdg hf) hS (fun q _ h => hFc q h) hFc (fun u t H1 locs1 ht hvm hw2 hB hz1 hk1 hS1 => by
    subst hw2
    obtain ⟨h1, h2⟩ := sx_back hP hD isC isR hC hR2 hnd hdis perm hp1 hp2 hnp hk1 hFc (by rw [← ht]; exact hB.1) hB.2
    exact kk H1 locs1 h1 h2 hS1)

theorem sx_sC {cells slots : Nat} {S : σ × Int32} (hx : p.tables.exec = Jvm.exec) (hb : c.code = cc) (hml : c.maxLocals = nL) (hown : s.vm.findClass own = some m.cls) (hts : ∀ w ∈ Ts, w.before args s = true) (hM : sxC l y wd fr lo G wc As wOf S) (n : Nat) (hG : GoodIn Ts (va_wsS own index y wd)) (hw : wd = Cond.code y bytes maxL ret :: wd')
    (hd : y.cls ≠ "java/lang/invoke/MethodHandle" ∧ y.cls ≠ "java/lang/invoke/VarHandle" ∧ (parseMethodDescriptor y.desc).map (fun d => d.parameters.length) = some n) (hR : fr + 1 ≤ R.frames ∧ 8 + (maxL + 11) + lo ≤ R.locals)
    (hK : sxK G s) (hP : va_P G.1 vwCl ws H) (hD : va_D A ws) (hS : va_S A s.heap H locs) (hA : ∀ q : Nat, s.heap.size ≤ q → A q) (isC isR : List Nat) (hC : isC.map (fun i => ws[i]?) = wc.map some) (hnc : va_nd isC = true) (hR2 : isR.map (fun i => ws[i]?) = wr.map some) (hnd : va_nd isR = true) (hdis : ∀ i ∈ isR, i ∉ isC) (perm : List Nat) (hp1 : perm.filterMap (fun i => (wr ++ wOf S.1)[i]?) = ws') (hp2 : perm.map (fun i => (wr ++ wOf S.1)[i]?) = ws'.map some) (hnp : va_nd perm = true)
    (hn : As.length = n) (hl : lv_has ls nL lv) (hst : st0 = As.reverse ++ rest) (hW : (rest.map fun v => v.category).sum ≤ 8)
    (hf : cells ≤ R.cells ∧ slots ≤ R.slots) (hdg : decode cc pc = .ok (.invokestatic index, 3)) (kk : ∀ (H1 : Heap) (locs1 : List Loc), va_P G.1 vwCl ws' H1 → va_D A ws' → va_S A s.heap H1 locs1 → W p l e R s m args below meth c H1 locs1 cells slots Q (F0 m (pc + 3) ls (.int S.2 :: rest))) : W p l e R s m args below meth c H locs cells slots Q (F0 m pc ls st0) := by
  have hPc : va_P G.1 vwCl wc H := hP.sub isC (sx_wc hC)
  have hFc := va_free (wc := wc) hD hS hA isC hC
  have hDc := hD.sub isC hnc hC
  have ok : ∀ w ∈ va_wsS own index y wd, w.before args s = true := fun w h => hts w (hG w h).1
  refine va_calli (va_runS ⟨hx, hb, hml, hown, hts⟩ (hM H.size) ⟨callB_of n hts (fun w h => hG w (by unfold va_wsS; exact List.mem_append_right _ h)) hw rfl rfl (ok _ (by simp [va_wsS])) (ok _ (by simp [va_wsS])) hd hR, ok _ (by simp [va_wsS])⟩ ⟨sxQ.blind, fun U hU hWm => ⟨rfl, by rw [hU], by rw [hU]; exact hPc, hDc.weaken (fun _ _ _ _ => trivial), hK.warm hWm⟩⟩ rfl hn hl.1 hst (lv_room hW) hdg hf) hS (fun q _ h => hFc q h) hFc (fun r u t H1 locs1 ht hvm hw2 hB hz1 hk1 hS1 => by
    obtain ⟨hu, hr2⟩ := hw2
    subst hu; subst hr2
    obtain ⟨h1, h2⟩ := sx_back hP hD isC isR hC hR2 hnd hdis perm hp1 hp2 hnp hk1 hFc (by rw [← ht]; exact hB.1) hB.2
    exact kk H1 locs1 h1 h2 hS1)

theorem sx_snV {cells slots : Nat} {S : σ} {host : String} (hx : p.tables.exec = Jvm.exec) (hb : c.code = cc) (hml : c.maxLocals = nL) (hown : s.vm.findClass own = some m.cls) (hts : ∀ w ∈ Ts, w.before args s = true) (hM : sxV l y wd fr lo G wc As wOf S) (n : Nat) (hG : GoodIn Ts wd) (hw : wd = Cond.code y bytes maxL ret :: wd') (hN : va_Nw (.methodLinkNest own index y host) s) (hini : Cond.initialized y.cls ∈ Ts) (hstat : Cond.static y ∈ Ts)
    (hd : y.cls ≠ "java/lang/invoke/MethodHandle" ∧ y.cls ≠ "java/lang/invoke/VarHandle" ∧ (parseMethodDescriptor y.desc).map (fun d => d.parameters.length) = some n) (hR : fr + 1 ≤ R.frames ∧ 8 + (maxL + 11) + lo ≤ R.locals)
    (hK : sxK G s) (hP : va_P G.1 vwCl ws H) (hD : va_D A ws) (hS : va_S A s.heap H locs) (hA : ∀ q : Nat, s.heap.size ≤ q → A q) (isC isR : List Nat) (hC : isC.map (fun i => ws[i]?) = wc.map some) (hnc : va_nd isC = true) (hR2 : isR.map (fun i => ws[i]?) = wr.map some) (hnd : va_nd isR = true) (hdis : ∀ i ∈ isR, i ∉ isC) (perm : List Nat) (hp1 : perm.filterMap (fun i => (wr ++ wOf S)[i]?) = ws') (hp2 : perm.map (fun i => (wr ++ wOf S)[i]?) = ws'.map some) (hnp : va_nd perm = true)
    (hn : As.length = n) (hl : lv_has ls nL lv) (hst : st0 = As.reverse ++ rest) (hW : (rest.map fun v => v.category).sum ≤ 8)
    (hf : cells ≤ R.cells ∧ slots ≤ R.slots) (hdg : decode cc pc = .ok (.invokestatic index, 3)) (kk : ∀ (H1 : Heap) (locs1 : List Loc), va_P G.1 vwCl ws' H1 → va_D A ws' → va_S A s.heap H1 locs1 → W p l e R s m args below meth c H1 locs1 cells slots Q (F0 m (pc + 3) ls rest)) : W p l e R s m args below meth c H locs cells slots Q (F0 m pc ls st0) := by
  have hPc : va_P G.1 vwCl wc H := hP.sub isC (sx_wc hC)
  have hFc := va_free (wc := wc) hD hS hA isC hC
  have hDc := hD.sub isC hnc hC
  refine va_callv (va_runSN ⟨hx, hb, hml, hown, hts⟩ (hM H.size) ⟨va_cnB n hts hG hw rfl rfl hN (hts _ hini) hd hR, hts _ hstat, trivial⟩ ⟨sxQ.blind, fun U hU hWm => ⟨rfl, by rw [hU], by rw [hU]; exact hPc, hDc.weaken (fun _ _ _ _ => trivial), hK.warm hWm⟩⟩ rfl hn hl.1 hst (lv_room hW) hdg hf) hS (fun q _ h => hFc q h) hFc (fun u t H1 locs1 ht hvm hw2 hB hz1 hk1 hS1 => by
    subst hw2
    obtain ⟨h1, h2⟩ := sx_back hP hD isC isR hC hR2 hnd hdis perm hp1 hp2 hnp hk1 hFc (by rw [← ht]; exact hB.1) hB.2
    exact kk H1 locs1 h1 h2 hS1)

theorem sx_snC {cells slots : Nat} {S : σ × Int32} {host : String} (hx : p.tables.exec = Jvm.exec) (hb : c.code = cc) (hml : c.maxLocals = nL) (hown : s.vm.findClass own = some m.cls) (hts : ∀ w ∈ Ts, w.before args s = true) (hM : sxC l y wd fr lo G wc As wOf S) (n : Nat) (hG : GoodIn Ts wd) (hw : wd = Cond.code y bytes maxL ret :: wd') (hN : va_Nw (.methodLinkNest own index y host) s) (hini : Cond.initialized y.cls ∈ Ts) (hstat : Cond.static y ∈ Ts)
    (hd : y.cls ≠ "java/lang/invoke/MethodHandle" ∧ y.cls ≠ "java/lang/invoke/VarHandle" ∧ (parseMethodDescriptor y.desc).map (fun d => d.parameters.length) = some n) (hR : fr + 1 ≤ R.frames ∧ 8 + (maxL + 11) + lo ≤ R.locals)
    (hK : sxK G s) (hP : va_P G.1 vwCl ws H) (hD : va_D A ws) (hS : va_S A s.heap H locs) (hA : ∀ q : Nat, s.heap.size ≤ q → A q) (isC isR : List Nat) (hC : isC.map (fun i => ws[i]?) = wc.map some) (hnc : va_nd isC = true) (hR2 : isR.map (fun i => ws[i]?) = wr.map some) (hnd : va_nd isR = true) (hdis : ∀ i ∈ isR, i ∉ isC) (perm : List Nat) (hp1 : perm.filterMap (fun i => (wr ++ wOf S.1)[i]?) = ws') (hp2 : perm.map (fun i => (wr ++ wOf S.1)[i]?) = ws'.map some) (hnp : va_nd perm = true)
    (hn : As.length = n) (hl : lv_has ls nL lv) (hst : st0 = As.reverse ++ rest) (hW : (rest.map fun v => v.category).sum ≤ 8)
    (hf : cells ≤ R.cells ∧ slots ≤ R.slots) (hdg : decode cc pc = .ok (.invokestatic index, 3)) (kk : ∀ (H1 : Heap) (locs1 : List Loc), va_P G.1 vwCl ws' H1 → va_D A ws' → va_S A s.heap H1 locs1 → W p l e R s m args below meth c H1 locs1 cells slots Q (F0 m (pc + 3) ls (.int S.2 :: rest))) : W p l e R s m args below meth c H locs cells slots Q (F0 m pc ls st0) := by
  have hPc : va_P G.1 vwCl wc H := hP.sub isC (sx_wc hC)
  have hFc := va_free (wc := wc) hD hS hA isC hC
  have hDc := hD.sub isC hnc hC
  refine va_calli (va_runSN ⟨hx, hb, hml, hown, hts⟩ (hM H.size) ⟨va_cnB n hts hG hw rfl rfl hN (hts _ hini) hd hR, hts _ hstat, trivial⟩ ⟨sxQ.blind, fun U hU hWm => ⟨rfl, by rw [hU], by rw [hU]; exact hPc, hDc.weaken (fun _ _ _ _ => trivial), hK.warm hWm⟩⟩ rfl hn hl.1 hst (lv_room hW) hdg hf) hS (fun q _ h => hFc q h) hFc (fun r u t H1 locs1 ht hvm hw2 hB hz1 hk1 hS1 => by
    obtain ⟨hu, hr2⟩ := hw2
    subst hu; subst hr2
    obtain ⟨h1, h2⟩ := sx_back hP hD isC isR hC hR2 hnd hdis perm hp1 hp2 hnp hk1 hFc (by rw [← ht]; exact hB.1) hB.2
    exact kk H1 locs1 h1 h2 hS1)
end SXW
/-! counting down -/
theorem sx_sub1 (n : Nat) : nI n - 1 = nI n + (-1) := by
  rw [Int32.sub_eq_add_neg]
theorem sx_m1 {i : Nat} (h : 1 ≤ i) : nI i + (-1) = nI (i - 1) := by
  obtain ⟨j, rfl⟩ : ∃ j, i = j + 1 := ⟨i - 1, by omega⟩
  exact pk_m1 j
theorem sx_dnI {i : Nat} (hi : i < 2 ^ 31) : nI i + (-1) < 0 ↔ i = 0 := by
  rcases i with _ | j
  · exact ⟨fun _ => rfl, fun _ => by decide⟩
  · rw [pk_m1 j]
    exact ⟨fun h => absurd h (nI_pos (by omega)), fun h => by omega⟩
theorem sx_dn0 {i : Nat} (hi : i < 2 ^ 31) (h : nI i + (-1) < 0) : i = 0 := (sx_dnI hi).mp h
theorem sx_dn1 {i : Nat} (hi : i < 2 ^ 31) (h : ¬ nI i + (-1) < 0) : 1 ≤ i := by
  have := (not_congr (sx_dnI hi)).mp h
  omega
theorem sx_dn2 {i : Nat} (hi : i < 2 ^ 31) (h : 0 ≤ nI i + (-1)) : 1 ≤ i := sx_dn1 hi (fun q => absurd q (by simpa using h))
theorem sx_dn3 {i : Nat} (hi : i < 2 ^ 31) (h : ¬ 0 ≤ nI i + (-1)) : i = 0 := sx_dn0 hi (by simpa using h)
theorem sx_gt {x : Int32} {i : Nat} (hi : i < 2 ^ 31) (h0 : ¬ x < 0) (h : x < nI i) : 1 ≤ i := by
  obtain ⟨j, hj, rfl⟩ := nI_of h0
  have := (nI_ltI hj hi).mp h
  omega
/-! Math.min and max -/
def s_mmin (x y : Int32) : Int32 := if y < x then y else x
def s_mmax (x y : Int32) : Int32 := if x < y then y else x
section SXM
variable {p : Program} {l : Launch} {e : Env} {R : Room} {s : State} {m : MethodId} {args : Array Value} {below : List Frame} {meth : Method} {c : Code} {H : Heap} {locs : List Loc} {cells slots pc : Nat} {Q : State → Prop} {ls : Array Slot} {rest : List Value}
theorem sx_mmin {cc : ByteArray} (hexec : p.tables.exec = Jvm.exec) (hb : c.code = cc) (hml : c.maxLocals = ls.size) {own : String} {index : Nat} (hown : s.vm.findClass own = some m.cls) (hlink : (Cond.methodLink own index Lib.Math.min.name).before args s = true) (hstat : (Cond.static Lib.Math.min.name).before args s = true) (hini : (Cond.initialized "java/lang/Math").before args s = true) (hcode : (Cond.code Lib.Math.min.name Lib.Math.min.code 2 (some .int)).before args s = true)
    (hframes : 1 ≤ R.frames) (hlocals : (rest.map fun v => v.category).sum + 13 ≤ R.locals) (hc : cells ≤ R.cells) (hs : slots ≤ R.slots) {x y : Int32} (hdg : decode cc pc = .ok (.invokestatic index, 3))
    (kk : W p l e R s m args below meth c H locs cells slots Q (F0 m (pc + 3) ls (.int (s_mmin x y) :: rest))) : W p l e R s m args below meth c H locs cells slots Q (F0 m pc ls (.int y :: .int x :: rest)) := va_mmin hexec hb hml hown hlink hstat hini hcode hframes hlocals hc hs hdg kk
theorem sx_mmax {cc : ByteArray} (hexec : p.tables.exec = Jvm.exec) (hb : c.code = cc) (hml : c.maxLocals = ls.size) {own : String} {index : Nat} (hown : s.vm.findClass own = some m.cls) (hlink : (Cond.methodLink own index Lib.Math.max.name).before args s = true) (hstat : (Cond.static Lib.Math.max.name).before args s = true) (hini : (Cond.initialized "java/lang/Math").before args s = true) (hcode : (Cond.code Lib.Math.max.name Lib.Math.max.code 2 (some .int)).before args s = true)
    (hframes : 1 ≤ R.frames) (hlocals : (rest.map fun v => v.category).sum + 13 ≤ R.locals) (hc : cells ≤ R.cells) (hs : slots ≤ R.slots) {x y : Int32} (hdg : decode cc pc = .ok (.invokestatic index, 3))
    (kk : W p l e R s m args below meth c H locs cells slots Q (F0 m (pc + 3) ls (.int (s_mmax x y) :: rest))) : W p l e R s m args below meth c H locs cells slots Q (F0 m pc ls (.int y :: .int x :: rest)) := va_mmax hexec hb hml hown hlink hstat hini hcode hframes hlocals hc hs hdg kk
end SXM
def s_ushr (x y : Int32) : Int32 := (x.toUInt32 >>> (y.toUInt32 &&& Int32.toUInt32 31)).toInt32

/-! constructors -/
def sxI {σ : Type} (l : Launch) (y : MethodName) (wd : List Cond) (fr lo mc ms : Nat) (G : sxG) (ws : va_W) (av : List Value) (wOf : σ → va_W) : Prop := ∀ sz : Nat, Met l y wd ({ frames := fr, cells := mc, slots := ms, locals := lo }) (sxQ G ws av sz) (va_Qv (fun _ : σ => True) (fun u t => va_P G.1 vwCl (wOf u) t.heap ∧ va_D (va_A ws sz) (wOf u)) (va_A ws sz)) mc ms (va_A ws sz)
def sxZi {σ : Type} (mc ms : Nat) (G : sxG) (args : Array Value) (s : State) (below : List Frame) (A : Nat → Prop) (wOf : σ → va_W) : State → Prop := MQ below (va_Qv (fun _ : σ => True) (fun u t => va_P G.1 vwCl (wOf u) t.heap ∧ va_D A (wOf u)) A) args s mc ms A
theorem sxI.of {σ : Type} {l : Launch} {y : MethodName} {wd wd' : List Cond} {fr lo mc ms maxL : Nat} {G : sxG} {ws : va_W} {av : List Value} {wOf : σ → va_W} {cc : ByteArray} (hy : plainName y.cls = true) (hw : wd = Cond.code y cc maxL none :: wd') (hn : (lg_sl av).length ≤ maxL)
    (body : ∀ (p : Program) (e : Env) (s : State) (m : MethodId) (args : Array Value) (below : List Frame) (meth : Method) (c : Code), sxBv G y wd cc maxL p s m args meth c → meth.name = y.name → ∀ A : Nat → Prop, (∀ q : Nat, s.heap.size ≤ q → A q) → va_P G.1 vwCl ws s.heap → va_D A ws → va_S A s.heap s.heap [] → ∀ ls : Array Slot, lv_has ls maxL (lv_args 0 av) →
      W p l e ({ frames := fr, cells := mc, slots := ms, locals := lo }) s m args below meth c s.heap [] 0 0 (sxZi mc ms G args s below A wOf) (F0 m 0 ls [])) : sxI l y wd fr lo mc ms G ws av wOf := by
  intro sz
  refine Met.ofW (cc := cc) (maxL := maxL) (ret := none) hy hw ?_
  intro p e s m args below meth c s₁ B hml hv
  obtain ⟨rfl, hsz, hP, hD, hK⟩ := hv
  subst hsz
  rw [lg_entry_eq]
  exact body p e s m _ below meth c ⟨B.exec, B.bytes, B.returns, hml, findClass_of_methodNamed B.named, B.notSynchronized, atoms_spec (ws := wd) B.pre, hK⟩ (name_of_methodNamed B.named B.method).1 _ (fun q h => Or.inr h) hP hD.self va_S.rf _ (lv_entry av hn)
section SXI
variable {σ : Type} {p : Program} {l : Launch} {e : Env} {R : Room} {s : State} {m : MethodId} {args : Array Value} {below : List Frame} {meth : Method} {c : Code} {H : Heap} {locs : List Loc} {cells slots : Nat} {Q : State → Prop}
variable {Ts wd wd' : List Cond} {cc bytes : ByteArray} {nL maxL index fr lo pc : Nat} {own C : String} {y : MethodName} {b : Addr} {As rest st0 : List Value} {G : sxG} {ws wc wr ws' : va_W} {ls : Array Slot} {lv : List (Nat × Value)} {A : Nat → Prop} {wOf : σ → va_W}
theorem sx_retN {mc ms : Nat} (u : σ) (hx : p.tables.exec = Jvm.exec) (hb : c.code = cc) (hr : meth.sig.returnType = none) (hlk : meth.locks = false) (hP : va_P G.1 vwCl (wOf u) H) (hD : va_D A (wOf u)) (hS : va_S A s.heap H locs) (hdg : decode cc pc = .ok (.return_, 1)) : W p l e R s m args below meth c H locs mc ms (sxZi mc ms G args s below A wOf) (F0 m pc ls []) :=
  W.vret hx hb hr (fun t ht _ => ⟨⟨u, rfl, trivial, by rw [ht]; exact hP, hD⟩, hS.F ht⟩) hS.2.2 hdg hlk
theorem sx_cls {t : FieldType} {cA cB : ClassId} (h1 : va_RA s cA t) (h2 : va_RA s cB t) (ht : ∀ C, t ≠ .object C) : cA = cB := by
  cases t with
  | object C => exact absurd rfl (ht C)
  | _ => exact Option.some.inj (h1.symm.trans h2)
theorem sx_newi (hx : p.tables.exec = Jvm.exec) (hb : c.code = cc) (harr : (Cond.arrayClass .int).before args s = true) (hK : sxK G s) (hP : va_P G.1 vwCl ws H) (hD : va_D A ws) (hS : va_S A s.heap H locs) (hA : ∀ q : Nat, s.heap.size ≤ q → A q) {n : Int32} (N' : Nat) (hn : ¬ n < 0) (hN : n.toNatClampNeg = N') (hbt : N' * componentBytes .int ≤ 536870912) (hc : cells + 1 ≤ R.cells) (hs : slots + N' ≤ R.slots) (hdg : decode cc pc = .ok (.newarray .int, 2))
    (kk : ∀ (q : Nat) (H1 : Heap), va_P G.1 vwCl (ws ++ [(q, .inl (G.2.1, N', .inl (fun _ => 0)))]) H1 → va_D A (ws ++ [(q, .inl (G.2.1, N', .inl (fun _ => 0)))]) → va_S A s.heap H1 locs → W p l e R s m args below meth c H1 locs (cells + 1) (slots + N') Q (F0 m (pc + 2) ls (.ref q :: rest))) : W p l e R s m args below meth c H locs cells slots Q (F0 m pc ls (.int n :: rest)) := by
  refine va_newa (atype := .int) (ty := .int) (a0 := (N', .inl (fun _ => 0))) hx hb harr rfl hK.1 hP hD hS hA (fun cA => rfl) hn hN hbt hc hs hdg (fun q cA H1 hK1 hP1 hD1 hS1 => ?_)
  have e : cA = G.2.1 := sx_cls (hK1.2 2 (cA, .int) rfl).2 (hK1.2 0 (G.2.1, .int) rfl).2 (fun C h => by cases h)
  subst e
  exact kk q H1 hP1 hD1 hS1
theorem sx_newz (hx : p.tables.exec = Jvm.exec) (hb : c.code = cc) (harr : (Cond.arrayClass .boolean).before args s = true) (hK : sxK G s) (hP : va_P G.1 vwCl ws H) (hD : va_D A ws) (hS : va_S A s.heap H locs) (hA : ∀ q : Nat, s.heap.size ≤ q → A q) {n : Int32} (N' : Nat) (hn : ¬ n < 0) (hN : n.toNatClampNeg = N') (hbt : N' * componentBytes .boolean ≤ 536870912) (hc : cells + 1 ≤ R.cells) (hs : slots + N' ≤ R.slots) (hdg : decode cc pc = .ok (.newarray .boolean, 2))
    (kk : ∀ (q : Nat) (H1 : Heap), va_P G.1 vwCl (ws ++ [(q, .inl (G.2.2, N', .inl (fun _ => 0)))]) H1 → va_D A (ws ++ [(q, .inl (G.2.2, N', .inl (fun _ => 0)))]) → va_S A s.heap H1 locs → W p l e R s m args below meth c H1 locs (cells + 1) (slots + N') Q (F0 m (pc + 2) ls (.ref q :: rest))) : W p l e R s m args below meth c H locs cells slots Q (F0 m pc ls (.int n :: rest)) := by
  refine va_newa (atype := .boolean) (ty := .boolean) (a0 := (N', .inl (fun _ => 0))) hx hb harr rfl hK.1 hP hD hS hA (fun cA => rfl) hn hN hbt hc hs hdg (fun q cA H1 hK1 hP1 hD1 hS1 => ?_)
  have e : cA = G.2.2 := sx_cls (hK1.2 2 (cA, .boolean) rfl).2 (hK1.2 1 (G.2.2, .boolean) rfl).2 (fun C h => by cases h)
  subst e
  exact kk q H1 hP1 hD1 hS1
/-- a call of a constructor -/
theorem sx_i {mc ms : Nat} (hx : p.tables.exec = Jvm.exec) (hb : c.code = cc) (hml : c.maxLocals = nL) (hown : s.vm.findClass own = some m.cls) (hts : ∀ w ∈ Ts, w.before args s = true) (hM : sxI l y wd fr lo mc ms G wc (Value.ref b :: As) wOf) (n : Nat) (hG : GoodIn Ts wd) (hw : wd = Cond.code y bytes maxL none :: wd') (hini : (Cond.initialized y.cls).before args s = true) (hlk : (Cond.methodLink own index y).before args s = true) (hin : (Cond.instanceMethod y).before args s = true) (hy1 : y.name = "<init>")
    (hd : y.cls ≠ "java/lang/invoke/MethodHandle" ∧ y.cls ≠ "java/lang/invoke/VarHandle" ∧ (parseMethodDescriptor y.desc).map (fun d => d.parameters.length) = some n) (hR : fr + 1 ≤ R.frames ∧ 8 + (maxL + 11) + lo ≤ R.locals)
    (hK : sxK G s) (hP : va_P G.1 vwCl ws H) (hD : va_D A ws) (hS : va_S A s.heap H locs) (hA : ∀ q : Nat, s.heap.size ≤ q → A q) (isC isR : List Nat) (hC : isC.map (fun i => ws[i]?) = wc.map some) (hnc : va_nd isC = true) (hR2 : isR.map (fun i => ws[i]?) = wr.map some) (hnd : va_nd isR = true) (hdis : ∀ i ∈ isR, i ∉ isC)
    (hn : As.length = n) (hl : lv_has ls nL lv) (hst : st0 = As.reverse ++ .ref b :: rest) (hW : (rest.map fun v => v.category).sum ≤ 8)
    (hf : cells + mc ≤ R.cells ∧ slots + ms ≤ R.slots) (hdg : decode cc pc = .ok (.invokespecial index, 3)) (kk : ∀ (u : σ) (H1 : Heap) (locs1 : List Loc), va_P G.1 vwCl (wr ++ wOf u) H1 → va_D A (wr ++ wOf u) → va_S A s.heap H1 locs1 → W p l e R s m args below meth c H1 locs1 (cells + mc) (slots + ms) Q (F0 m (pc + 3) ls rest)) : W p l e R s m args below meth c H locs cells slots Q (F0 m pc ls st0) := by
  have hPc : va_P G.1 vwCl wc H := hP.sub isC (sx_wc hC)
  have hFc := va_free (wc := wc) hD hS hA isC hC
  have hDc := hD.sub isC hnc hC
  refine va_callv (va_runI ⟨hx, hb, hml, hown, hts⟩ (hM H.size) (cwI n hts hG hw rfl rfl hini hlk hin hy1 hd hR) ⟨sxQ.blind, fun U hU hWm => ⟨rfl, by rw [hU], by rw [hU]; exact hPc, hDc.weaken (fun _ _ _ _ => trivial), hK.warm hWm⟩⟩ rfl hn hl.1 hst (lv_room hW) hdg hf) hS (fun q _ h => hFc q h) hFc (fun u t H1 locs1 ht hvm hw2 hB hz1 hk1 hS1 => ?_)
  obtain ⟨h1, h2⟩ := va_join hP hD isC isR hC hR2 hnd hdis hk1 hFc (by rw [← ht]; exact hB.1) hB.2
  exact kk u H1 locs1 h1 h2 hS1
end SXI
