/-! methods that answer a long -/
def sxQl {σ : Type} (G : sxG) (A : Nat → Prop) (wOf : σ → va_W) (S : σ × Int64) : Array Value → State → Outcome → State → Prop := va_Ql (fun (r : Int64) (u : σ) => u = S.1 ∧ r = S.2) (fun u t => va_P G.1 vwCl (wOf u) t.heap ∧ va_D A (wOf u)) A
def sxJ {σ : Type} (l : Launch) (y : MethodName) (wd : List Cond) (fr lo : Nat) (G : sxG) (ws : va_W) (av : List Value) (wOf : σ → va_W) (S : σ × Int64) : Prop := ∀ sz : Nat, Met l y wd ({ frames := fr, cells := 0, slots := 0, locals := lo }) (sxQ G ws av sz) (sxQl G (va_A ws sz) wOf S) 0 0 (va_A ws sz)
def sxZl {σ : Type} (G : sxG) (args : Array Value) (s : State) (below : List Frame) (A : Nat → Prop) (wOf : σ → va_W) (S : σ × Int64) : State → Prop := MQ below (sxQl G A wOf S) args s 0 0 A
theorem sxJ.of {σ : Type} {l : Launch} {y : MethodName} {wd wd' : List Cond} {fr lo maxL : Nat} {G : sxG} {ws : va_W} {av : List Value} {wOf : σ → va_W} {S : σ × Int64} {cc : ByteArray} {rt : FieldType} (hy : plainName y.cls = true) (hw : wd = Cond.code y cc maxL (some rt) :: wd') (hn : (lg_sl av).length ≤ maxL)
    (body : ∀ (p : Program) (e : Env) (s : State) (m : MethodId) (args : Array Value) (below : List Frame) (meth : Method) (c : Code), sxB G y wd cc maxL rt p s m args meth c → ∀ A : Nat → Prop, (∀ q : Nat, s.heap.size ≤ q → A q) → va_P G.1 vwCl ws s.heap → va_D A ws → va_S A s.heap s.heap [] → ∀ ls : Array Slot, lv_has ls maxL (lv_args 0 av) →
      W p l e ({ frames := fr, cells := 0, slots := 0, locals := lo }) s m args below meth c s.heap [] 0 0 (sxZl G args s below A wOf S) (F0 m 0 ls [])) : sxJ l y wd fr lo G ws av wOf S := by
  intro sz
  refine Met.ofW (cc := cc) (maxL := maxL) (ret := some rt) hy hw ?_
  intro p e s m args below meth c s₁ B hml hv
  obtain ⟨rfl, hsz, hP, hD, hK⟩ := hv
  subst hsz
  rw [lg_entry_eq]
  exact body p e s m _ below meth c ⟨B.exec, B.bytes, B.returns, hml, findClass_of_methodNamed B.named, B.notSynchronized, atoms_spec (ws := wd) B.pre, hK⟩ _ (fun q h => Or.inr h) hP hD.self va_S.rf _ (lv_entry av hn)
section SXL
variable {σ : Type} {p : Program} {l : Launch} {e : Env} {R : Room} {s : State} {m : MethodId} {args : Array Value} {below : List Frame} {meth : Method} {c : Code} {H : Heap} {locs : List Loc} {Q : State → Prop}
variable {Ts wd wd' : List Cond} {cc bytes : ByteArray} {nL maxL index fr lo pc : Nat} {own C : String} {y : MethodName} {ret : Option FieldType} {b : Addr} {As rest st0 : List Value} {G : sxG} {ws wc wr ws' : va_W} {ls : Array Slot} {lv : List (Nat × Value)} {A : Nat → Prop} {wOf : σ → va_W}
theorem sx_retJ {v : Int64} {u : σ} {S : σ × Int64} (hx : p.tables.exec = Jvm.exec) (hb : c.code = cc) (hr : meth.sig.returnType = some .long) (hlk : meth.locks = false) (_hK : sxK G s) (hP : va_P G.1 vwCl (wOf u) H) (hD : va_D A (wOf u)) (hS : va_S A s.heap H locs) (hu : u = S.1) (hv : v = S.2) (hdg : decode cc pc = .ok (.lreturn, 1)) : W p l e R s m args below meth c H locs 0 0 (sxZl G args s below A wOf S) (F0 m pc ls [.long v]) :=
  W.lret hx hb hr (fun t ht _ => ⟨⟨v, u, rfl, ⟨hu, hv⟩, by rw [ht]; exact hP, hD⟩, hS.F ht⟩) hS.2.2 hdg hlk
theorem sx_vJ {cells slots : Nat} {S : σ × Int64} (hx : p.tables.exec = Jvm.exec) (hb : c.code = cc) (hml : c.maxLocals = nL) (hown : s.vm.findClass own = some m.cls) (hts : ∀ w ∈ Ts, w.before args s = true) (hM : sxJ l y wd fr lo G wc (Value.ref b :: As) wOf S) (n : Nat) (hG : GoodIn Ts (wsV own index C y wd)) (hw : wd = Cond.code y bytes maxL ret :: wd')
    (hd : y.cls = C ∧ y.cls ≠ "java/lang/invoke/MethodHandle" ∧ y.cls ≠ "java/lang/invoke/VarHandle" ∧ (parseMethodDescriptor y.desc).map (fun d => d.parameters.length) = some n) (hR : fr + 1 ≤ R.frames ∧ 8 + (maxL + 11) + lo ≤ R.locals)
    (hK : sxK G s) (hP : va_P G.1 vwCl ws H) (hD : va_D A ws) (hS : va_S A s.heap H locs) (hA : ∀ q : Nat, s.heap.size ≤ q → A q) (isC isR : List Nat) (hC : isC.map (fun i => ws[i]?) = wc.map some) (hnc : va_nd isC = true) (hR2 : isR.map (fun i => ws[i]?) = wr.map some) (hnd : va_nd isR = true) (hdis : ∀ i ∈ isR, i ∉ isC) (perm : List Nat) (hp1 : perm.filterMap (fun i => (wr ++ wOf S.1)[i]?) = ws') (hp2 : perm.map (fun i => (wr ++ wOf S.1)[i]?) = ws'.map some) (hnp : va_nd perm = true)
    (q0 : Nat) {ci N : Nat} {fs : List Value} {T : u_T} (he : wc[q0]? = some (b, .inr (ci, fs))) (hc : vwCl[ci]? = some (C, T, N)) (hn : As.length = n) (hl : lv_has ls nL lv) (hst : st0 = As.reverse ++ .ref b :: rest) (hW : (rest.map fun v => v.category).sum ≤ 8)
    (hf : cells ≤ R.cells ∧ slots ≤ R.slots) (hdg : decode cc pc = .ok (.invokevirtual index, 3)) (kk : ∀ (H1 : Heap) (locs1 : List Loc), va_P G.1 vwCl ws' H1 → va_D A ws' → va_S A s.heap H1 locs1 → W p l e R s m args below meth c H1 locs1 cells slots Q (F0 m (pc + 3) ls (.long S.2 :: rest))) : W p l e R s m args below meth c H locs cells slots Q (F0 m pc ls st0) := by
  have hPc : va_P G.1 vwCl wc H := hP.sub isC (sx_wc hC)
  have hFc := va_free (wc := wc) hD hS hA isC hC
  have hDc := hD.sub isC hnc hC
  refine va_calll (va_runV ⟨hx, hb, hml, hown, hts⟩ (hM H.size) (cwV n hts hG hw rfl rfl hd hR) ⟨sxQ.blind, va_recv hK.1 hPc hc he, fun U hU hWm => ⟨rfl, by rw [hU], by rw [hU]; exact hPc, hDc.weaken (fun _ _ _ _ => trivial), hK.warm hWm⟩⟩ rfl hn hl.1 hst (lv_room hW) hdg hf) hS (fun q _ h => hFc q h) hFc (fun r u t H1 locs1 ht hvm hw2 hB hz1 hk1 hS1 => by
    obtain ⟨hu, hr2⟩ := hw2
    subst hu; subst hr2
    obtain ⟨h1, h2⟩ := sx_back hP hD isC isR hC hR2 hnd hdis perm hp1 hp2 hnp hk1 hFc (by rw [← ht]; exact hB.1) hB.2
    exact kk H1 locs1 h1 h2 hS1)
end SXL
