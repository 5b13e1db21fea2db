/-! THE GENERAL CONTRACT: an answer and a world behind, with new cells; what is there at the start goes along -/
/-- the empty array of new lists, the cache of small Integers and what it holds, the mirror of Object[] -/
abbrev pxC : Type := Nat × Nat × (Nat → Nat) × Nat × ClassId × ClassId × ClassId
def pxStr : List (String × Nat × String) := [(RX9, 118, "no such what"), (RX9, 204, "no such variable"), (RX9, 103, "no such line"), (RX9, 143, "no such line, or place"), (RX9, 152, "no such line, or borrow"), (RX9, 173, "no such loan"), (RX9, 196, "no such fault"), (RX9, 269, "nothing is kept there"), (RX9, 56, "no such kind"), (RX9, 66, "there are 8 variables"), (RX9, 77, "no such line can be"), (RX9, 82, "there are 32 lines"), (RX9, 91, "there are 16 loans"), (RX9, 112, "there is no line"), (RX9, 224, "there are faults"), (RX9, 297, "no such line, or owned place"), (RX9, 306, "no such line that is a make or write"), (RX9, 311, "not a number from -99 to 99")]
def pxNl : List Cond := [.methodLinkNest RX16 9 yX14_init RX16, .methodLinkNest RX14 30 yX16_isIn RX16, .fieldLinkNest RJx35411 28 RJx4a65c "size" "I" RJx4a65c, .castable RJ6 "java/lang/Object", .castable RX12 "java/lang/Object", .declares ⟨"java/lang/Object", "getClass", "()Ljava/lang/Class;"⟩, .castable "java/lang/IllegalArgumentException" "java/lang/IllegalArgumentException", .castable "java/lang/IllegalStateException" "java/lang/IllegalStateException", .castable "java/lang/IndexOutOfBoundsException" "java/lang/IndexOutOfBoundsException", .declares ⟨"java/lang/RuntimeException", "<init>", "(Ljava/lang/String;)V"⟩, .declares ⟨"java/lang/Exception", "<init>", "(Ljava/lang/String;)V"⟩, .declares ⟨"java/lang/Throwable", "<init>", "(Ljava/lang/String;)V"⟩]
def yItr_hasNext : MethodName := ⟨"java/util/Iterator", "hasNext", "()Z"⟩
def yCol_toArray : MethodName := ⟨"java/util/Collection", "toArray", "()[Ljava/lang/Object;"⟩
/-- what the tables say, that isn't among the good words -/
def pxT (U : State) : Prop := (∀ w ∈ pxNl, va_Nw w U) ∧ va_AO "java/lang/Object" U ∧ va_AO RX10 U ∧ va_AO RX13 U ∧ (Cond.arrayOver (.array .int)).before #[] U = true ∧ (Cond.arrayOver (.array .boolean)).before #[] U = true ∧ va_Fw RJx35411 yItr_hasNext yJx35411_hasNext_aae02 U ∧ va_Fw RJx4a65c yCol_toArray yJx4a65c_toArray_d5877 U
theorem pxNl.warm {s U : State} (hW : s.WarmedH U.vm) (h : ∀ w ∈ pxNl, va_Nw w s) : ∀ w ∈ pxNl, va_Nw w U := by
  intro w hw
  have h1 := h w hw
  simp only [pxNl, List.mem_cons, List.not_mem_nil, or_false] at hw
  rcases hw with rfl | rfl | rfl | rfl | rfl | rfl | rfl | rfl | rfl | rfl | rfl | rfl
  · exact va_Nw.warmM hW h1
  · exact va_Nw.warmM hW h1
  · exact va_Nw.warmF hW h1
  · exact va_Nw.warmC hW h1
  · exact va_Nw.warmC hW h1
  · exact va_Nw.warmD hW h1
  · exact va_Nw.warmC hW h1
  · exact va_Nw.warmC hW h1
  · exact va_Nw.warmC hW h1
  · exact va_Nw.warmD hW h1
  · exact va_Nw.warmD hW h1
  · exact va_Nw.warmD hW h1
theorem px_over {ty : FieldType} {s U : State} (hW : s.WarmedH U.vm) (h : (Cond.arrayOver ty).before #[] s = true) : (Cond.arrayOver ty).before #[] U = true := by
  have h1 : (Cond.arrayOver ty).before #[] (s.setVm U.vm) = true := by rw [Cond.arrayOver_setVmC hW.alike ty]; exact h
  exact h1
theorem pxT.warm {s U : State} (hW : s.WarmedH U.vm) (h : pxT s) : pxT U :=
  ⟨pxNl.warm hW h.1, va_AO.moved hW.alike h.2.1, va_AO.moved hW.alike h.2.2.1, va_AO.moved hW.alike h.2.2.2.1, px_over hW h.2.2.2.2.1, px_over hW h.2.2.2.2.2.1, va_Fw.moved ⟨by decide, by decide⟩ hW.alike h.2.2.2.2.2.2.1, va_Fw.moved ⟨by decide, by decide⟩ hW.alike h.2.2.2.2.2.2.2⟩
/-- what old cells hold, that nobody writes -/
def pxO (k : pxC) (A : Nat → Prop) (U : State) (H : Heap) : Prop :=
  va_Z RJx4a65c "DEFAULTCAPACITY_EMPTY_ELEMENTDATA" "[Ljava/lang/Object;" (.ref k.1) A U H ∧ va_T (.object "java/lang/Object") k.1 0 (fun _ => .null) A U H ∧
  va_Z RJxabbfe "high" "I" (.int 127) A U H ∧ va_Z RJxabbfe "cache" "[Ljava/lang/Integer;" (.ref k.2.1) A U H ∧ va_T (.object RJ6) k.2.1 256 (fun j => .ref (k.2.2.1 j)) A U H ∧ vb_C k.2.2.1 A U H ∧ va_Mi "[Ljava/lang/Object;" k.2.2.2.1 U ∧
  vx_Zq Bundle.tN "UNASSIGNED_STACK" Bundle.steD A U H ∧ vx_Zq Bundle.tN "SUPPRESSED_SENTINEL" Bundle.listD A U H ∧ va_O "[Ljava/lang/Object;" k.1 A U H
theorem pxO.go {k : pxC} {A B : Nat → Prop} {u U : State} {H : Heap} (h : pxO k A u u.heap) (hvm : u.vm.Alike U.vm) (hk : ∀ q : Nat, q < u.heap.size → ¬ A q → H[q]? = u.heap[q]?) (hB : ∀ q, B q → A q) : pxO k B U H := by
  obtain ⟨h1, h2, h3, h4, h5, h6, h7, h8, h9, h10⟩ := h
  exact ⟨((va_Z.moved hvm h1).kept hk).narrow hB, ((va_T.moved hvm h2).kept hk).narrow hB, ((va_Z.moved hvm h3).kept hk).narrow hB, ((va_Z.moved hvm h4).kept hk).narrow hB, ((va_T.moved hvm h5).kept hk).narrow hB, ((vb_C.moved hvm h6).kept hk).narrow hB, va_Mi.moved hvm h7, ((vx_Zq.moved hvm h8).kept hk).narrow hB, ((vx_Zq.moved hvm h9).kept hk).narrow hB, ((va_O.moved hvm h10).kept hk).narrow hB⟩
/-- the texts of the class's exceptions -/
def pxS (sa : Nat → Nat) (U : State) : Prop := ∀ q ∈ pxStr, vk_R q.1 q.2.1 q.2.2 (sa q.2.1) U
/-- the component of the class cA is the class of name nm -/
def px_Co (cA : ClassId) (ty : FieldType) (nm : String) (U : State) : Prop := ∃ (kA : Class) (comp : ClassId), U.vm.classes[cA]? = some kA ∧ kA.kind = .array comp ty ∧ U.vm.findClass nm = some comp
theorem px_Co.moved {cA : ClassId} {ty : FieldType} {nm : String} {u U : State} (hvm : u.vm.Alike U.vm) (h : px_Co cA ty nm u) : px_Co cA ty nm U := by
  obtain ⟨kA, comp, h1, h2, h3⟩ := h
  obtain ⟨k', hk', he⟩ := hvm.2.2 _ _ h1
  exact ⟨k', comp, hk', by rw [he]; exact h2, by rw [hvm.findClass]; exact h3⟩
/-- int[][] and Object[] -/
def pxA (k : pxC) (U : State) : Prop := (ArrOfT U k.2.2.2.2.1 (.array .int) ∧ va_RA U k.2.2.2.2.1 (.array .int)) ∧ (ArrOfT U k.2.2.2.2.2.1 (.object "java/lang/Object") ∧ va_RA U k.2.2.2.2.2.1 (.object "java/lang/Object")) ∧ px_Co k.2.2.2.2.1 (.array .int) "[I" U ∧ (ArrOfT U k.2.2.2.2.2.2 .long ∧ va_RA U k.2.2.2.2.2.2 .long)
theorem pxA.moved {k : pxC} {u U : State} (hvm : u.vm.Alike U.vm) (h : pxA k u) : pxA k U := ⟨⟨arrOfT_moved hvm h.1.1, h.1.2.moved hvm⟩, ⟨arrOfT_moved hvm h.2.1.1, h.2.1.2.moved hvm⟩, h.2.2.1.moved hvm, ⟨arrOfT_moved hvm h.2.2.2.1, h.2.2.2.2.moved hvm⟩⟩
def pxE (k : pxC) (A : Nat → Prop) (U : State) (H : Heap) : Prop := pxT U ∧ pxO k A U H ∧ (∃ sa : Nat → Nat, pxS sa U) ∧ pxA k U
theorem pxE.go {k : pxC} {A B : Nat → Prop} {s U : State} {H : Heap} (h : pxE k A s s.heap) (hW : s.WarmedH U.vm) (hk : ∀ q : Nat, q < s.heap.size → ¬ A q → H[q]? = s.heap[q]?) (hB : ∀ q, B q → A q) : pxE k B U H := by
  obtain ⟨h1, h2, ⟨sa, h3⟩, h4⟩ := h
  exact ⟨h1.warm hW, h2.go hW.alike hk hB, ⟨sa, fun q hq => vk_R.warm hW (h3 q hq)⟩, h4.moved hW.alike⟩
def pxP (G : sxG) (k : pxC) (ws : va_W) (av : List Value) (sz : Nat) : Array Value → State → Prop := va_Pc av (fun U => U.heap.size = sz ∧ va_P G.1 vwCl ws U.heap ∧ va_D (fun _ => True) ws ∧ sxK G U ∧ pxE k (va_A ws sz) U U.heap)
theorem pxE.same {k : pxC} {A : Nat → Prop} {u U : State} {H : Heap} (hv : u.vm = U.vm) (h : pxE k A u H) : pxE k A U H := by
  obtain ⟨⟨h1, h2, h3, h4, h5, h6, h7, h8⟩, ⟨g1, g2, g3, g4, g5, g6, g7, g8, g9, g10⟩, ⟨sa, s1⟩, a1⟩ := h
  have hvm : u.vm.Alike U.vm := by rw [← hv]; exact Vm.Alike.refl u.vm
  have ho : ∀ {ty : FieldType}, (Cond.arrayOver ty).before #[] u = true → (Cond.arrayOver ty).before #[] U = true := by
    intro ty h
    have e : (Cond.arrayOver ty).before #[] U = (Cond.arrayOver ty).before #[] u := by
      unfold Cond.before Cond.holds
      simp only [Cond.value, hv]
    rw [e]; exact h
  refine ⟨⟨fun w hw => ?_, va_AO.moved hvm h2, va_AO.moved hvm h3, va_AO.moved hvm h4, ho h5, ho h6, va_Fw.moved ⟨by decide, by decide⟩ hvm h7, va_Fw.moved ⟨by decide, by decide⟩ hvm h8⟩, ⟨va_Z.moved hvm g1, va_T.moved hvm g2, va_Z.moved hvm g3, va_Z.moved hvm g4, va_T.moved hvm g5, vb_C.moved hvm g6, va_Mi.moved hvm g7, vx_Zq.moved hvm g8, vx_Zq.moved hvm g9, va_O.moved hvm g10⟩, ⟨sa, fun q hq => vk_R.same hv.symm (s1 q hq)⟩, a1.moved hvm⟩
  have h9 := h1 w hw
  simp only [pxNl, List.mem_cons, List.not_mem_nil, or_false] at hw
  rcases hw with rfl | rfl | rfl | rfl | rfl | rfl | rfl | rfl | rfl | rfl | rfl | rfl <;> exact va_Nw.same rfl hv h9
theorem pxP.blind {G : sxG} {k : pxC} {ws : va_W} {av : List Value} {sz : Nat} : FrameBlind (pxP G k ws av sz) := by
  intro a U g mk h
  obtain ⟨h1, h0, h2, h5, ⟨h3, h4⟩, h6⟩ := h
  exact ⟨h1, h0, h2, h5, ⟨va_K.moved (u := U) (U := U.calling g mk a) (Vm.Alike.refl U.vm) h3, fun q hq => va_Nw.same rfl (rfl : U.vm = (U.calling g mk a).vm) (h4 q hq)⟩, pxE.same (rfl : U.vm = (U.calling g mk a).vm) h6⟩
def pxQ {σ : Type} (rv : σ → Option Value) (B : σ → State → Prop) (A : Nat → Prop) : Array Value → State → Outcome → State → Prop := fun _ st oc t => (∃ u : σ, oc = .returned (rv u) ∧ B u t) ∧ va_F A st t
def pxB {σ : Type} (G : sxG) (A : Nat → Prop) (wOf : σ → va_W) (u : σ) (t : State) : Prop := va_P G.1 vwCl (wOf u) t.heap ∧ va_D A (wOf u)
def pxM {σ : Type} (l : Launch) (y : MethodName) (wd : List Cond) (fr lo mc ms : Nat) (G : sxG) (k : pxC) (ws : va_W) (av : List Value) (rv : σ → Option Value) (wOf : σ → va_W) : Prop := ∀ sz : Nat, Met l y wd ({ frames := fr, cells := mc, slots := ms, locals := lo }) (pxP G k ws av sz) (pxQ rv (pxB G (va_A ws sz) wOf) (va_A ws sz)) mc ms (va_A ws sz)
def pxZ {σ : Type} (mc ms : Nat) (G : sxG) (args : Array Value) (s : State) (below : List Frame) (A : Nat → Prop) (rv : σ → Option Value) (wOf : σ → va_W) : State → Prop := MQ below (pxQ rv (pxB G A wOf) A) args s mc ms A
def pxBd (G : sxG) (y : MethodName) (wd : List Cond) (cc : ByteArray) (maxL : Nat) (rt : Option FieldType) (p : Program) (s : State) (m : MethodId) (args : Array Value) (meth : Method) (c : Code) : Prop :=
  p.tables.exec = Jvm.exec ∧ c.code = cc ∧ meth.sig.returnType = rt ∧ c.maxLocals = maxL ∧ s.vm.findClass y.cls = some m.cls ∧ meth.locks = false ∧ (∀ w ∈ wd, w.before args s = true) ∧ sxK G s
theorem pxM.of {σ : Type} {l : Launch} {y : MethodName} {wd wd' : List Cond} {fr lo mc ms maxL : Nat} {G : sxG} {k : pxC} {ws : va_W} {av : List Value} {rv : σ → Option Value} {wOf : σ → va_W} {cc : ByteArray} {rt : Option FieldType} (hy : plainName y.cls = true) (hw : wd = Cond.code y cc maxL rt :: wd') (hn : (lg_sl av).length ≤ maxL)
    (body : ∀ (p : Program) (e : Env) (s : State) (m : MethodId) (args : Array Value) (below : List Frame) (meth : Method) (c : Code), pxBd G y wd cc maxL rt p s m args meth c → meth.name = y.name → ∀ A : Nat → Prop, (∀ q : Nat, s.heap.size ≤ q → A q) → va_P G.1 vwCl ws s.heap → va_D A ws → va_S A s.heap s.heap [] → pxE k A s s.heap → ∀ ls : Array Slot, lv_has ls maxL (lv_args 0 av) →
      W p l e ({ frames := fr, cells := mc, slots := ms, locals := lo }) s m args below meth c s.heap [] 0 0 (pxZ mc ms G args s below A rv wOf) (F0 m 0 ls [])) : pxM l y wd fr lo mc ms G k ws av rv wOf := by
  intro sz
  refine Met.ofW (cc := cc) (maxL := maxL) (ret := rt) hy hw ?_
  intro p e s m args below meth c s₁ B hml hv
  obtain ⟨rfl, hsz, hP, hD, hK, hE⟩ := hv
  subst hsz
  rw [lg_entry_eq]
  exact body p e s m _ below meth c ⟨B.exec, B.bytes, B.returns, hml, findClass_of_methodNamed B.named, B.notSynchronized, atoms_spec (ws := wd) B.pre, hK⟩ (name_of_methodNamed B.named B.method).1 _ (fun q h => Or.inr h) hP hD.self va_S.rf hE _ (lv_entry av hn)
section PX
variable {σ : Type} {p : Program} {l : Launch} {e : Env} {R : Room} {s : State} {m : MethodId} {args : Array Value} {below : List Frame} {meth : Method} {c : Code} {H : Heap} {locs : List Loc} {cells slots : Nat} {Q : State → Prop}
variable {Ts wd wd' : List Cond} {cc bytes : ByteArray} {nL maxL index n fr lo pc mc ms : Nat} {own C : String} {y : MethodName} {ret : Option FieldType} {b : Addr} {As rest st0 : List Value} {G : sxG} {k : pxC} {ws wc wr : va_W} {ls : Array Slot} {lv : List (Nat × Value)} {A : Nat → Prop} {rv : σ → Option Value} {wOf : σ → va_W}
theorem px_go {A0 A1 : Nat → Prop} {H0 : Heap} {a : Array Value} {free : Addr → Prop} {B : σ → State → Prop} (hr : va_Run p l e R s m args below meth c H locs cells slots mc ms (F0 m pc ls st0) rest (pxQ rv B A1 a) free) (hS : va_S A0 H0 H locs) (hA : ∀ q, q < H.size → A1 q → A0 q) (hf : ∀ q, free q → A0 q)
    (kk : ∀ (u : σ) (t : State) (H1 : Heap) (locs1 : List Loc), t.heap = H1 → s.vm.Alike t.vm → B u t → H.size ≤ H1.size → (∀ q : Nat, q < H.size → ¬ A1 q → H1[q]? = H[q]?) → va_S A0 H0 H1 locs1 → W p l e R s m args below meth c H1 locs1 (cells + mc) (slots + ms) Q (F0 m (pc + 3) ls ((rv u).toList ++ rest))) : W p l e R s m args below meth c H locs cells slots Q (F0 m pc ls st0) := by
  intro T hT X
  obtain ⟨v, st₀, t, T', L, h0, X', hL, e1, e2, ⟨⟨u, hv, hb⟩, hz, hk⟩, st⟩ := hr T hT X
  cases hv
  rw [h0] at hz hk
  obtain ⟨t2, a1, b1⟩ := kk u t T'.heap (locs ++ L) e1.symm (by rw [← e2]; exact X'.warmed.alike) hb (by rw [e1]; exact hz) (fun q h1 h2 => by rw [e1]; exact hk q h1 h2)
    ⟨Nat.le_trans hS.1 (by rw [e1]; exact hz), fun q h1 h2 => by rw [e1, hk q (Nat.lt_of_lt_of_le h1 hS.1) (fun z => h2 (hA q (Nat.lt_of_lt_of_le h1 hS.1) z))]; exact hS.2.1 q h1 h2, fun q hq => by
      rcases List.mem_append.mp hq with h | h
      · exact hS.2.2 q h
      · exact hf _ (hL q h)⟩ T' rfl X'
  exact ⟨t2, st t2 a1, b1⟩
theorem px_go5 {A0 A1 : Nat → Prop} {H0 : Heap} {a : Array Value} {free : Addr → Prop} {B : σ → State → Prop} (hr : va_Run5 p l e R s m args below meth c H locs cells slots mc ms (F0 m pc ls st0) rest (pxQ rv B A1 a) free) (hS : va_S A0 H0 H locs) (hA : ∀ q, q < H.size → A1 q → A0 q) (hf : ∀ q, free q → A0 q)
    (kk : ∀ (u : σ) (t : State) (H1 : Heap) (locs1 : List Loc), t.heap = H1 → s.vm.Alike t.vm → B u t → H.size ≤ H1.size → (∀ q : Nat, q < H.size → ¬ A1 q → H1[q]? = H[q]?) → va_S A0 H0 H1 locs1 → W p l e R s m args below meth c H1 locs1 (cells + mc) (slots + ms) Q (F0 m (pc + 5) ls ((rv u).toList ++ rest))) : W p l e R s m args below meth c H locs cells slots Q (F0 m pc ls st0) := by
  intro T hT X
  obtain ⟨v, st₀, t, T', L, h0, X', hL, e1, e2, ⟨⟨u, hv, hb⟩, hz, hk⟩, st⟩ := hr T hT X
  cases hv
  rw [h0] at hz hk
  obtain ⟨t2, a1, b1⟩ := kk u t T'.heap (locs ++ L) e1.symm (by rw [← e2]; exact X'.warmed.alike) hb (by rw [e1]; exact hz) (fun q h1 h2 => by rw [e1]; exact hk q h1 h2)
    ⟨Nat.le_trans hS.1 (by rw [e1]; exact hz), fun q h1 h2 => by rw [e1, hk q (Nat.lt_of_lt_of_le h1 hS.1) (fun z => h2 (hA q (Nat.lt_of_lt_of_le h1 hS.1) z))]; exact hS.2.1 q h1 h2, fun q hq => by
      rcases List.mem_append.mp hq with h | h
      · exact hS.2.2 q h
      · exact hf _ (hL q h)⟩ T' rfl X'
  exact ⟨t2, st t2 a1, b1⟩
/-- the premises of a callee, out of the caller's world -/
theorem px_pre {U : State} (hK : sxK G s) (hP : va_P G.1 vwCl ws H) (hD : va_D A ws) (hS : va_S A s.heap H locs) (hA : ∀ q : Nat, s.heap.size ≤ q → A q) (hE : pxE k A s s.heap) {isC : List Nat} (hC : isC.map (fun i => ws[i]?) = wc.map some) (hnc : va_nd isC = true) (hU : U.heap = H) (hW : s.WarmedH U.vm) (av : List Value) : pxP G k wc av H.size av.toArray U := by
  have hFc := va_free (wc := wc) hD hS hA isC hC
  refine ⟨rfl, by rw [hU], by rw [hU]; exact hP.sub isC (sx_wc hC), (hD.sub isC hnc hC).weaken (fun _ _ _ _ => trivial), hK.warm hW, ?_⟩
  rw [hU]
  exact hE.go hW hS.2.1 (fun q h => hFc q h)
theorem px_v (hx : p.tables.exec = Jvm.exec) (hb : c.code = cc) (hml : c.maxLocals = nL) (hown : s.vm.findClass own = some m.cls) (hts : ∀ w ∈ Ts, w.before args s = true) (hM : pxM l y wd fr lo mc ms G k wc (Value.ref b :: As) rv wOf) (n : Nat) (hG : GoodIn Ts (wsV own index C y wd)) (hw : wd = Cond.code y bytes maxL ret :: wd')
    (hd : y.cls = C ∧ y.cls ≠ "java/lang/invoke/MethodHandle" ∧ y.cls ≠ "java/lang/invoke/VarHandle" ∧ (parseMethodDescriptor y.desc).map (fun d => d.parameters.length) = some n) (hR : fr + 1 ≤ R.frames ∧ 8 + (maxL + 11) + lo ≤ R.locals)
    (hK : sxK G s) (hP : va_P G.1 vwCl ws H) (hD : va_D A ws) (hS : va_S A s.heap H locs) (hA : ∀ q : Nat, s.heap.size ≤ q → A q) (hE : pxE k A s s.heap) (isC isR : List Nat) (hC : isC.map (fun i => ws[i]?) = wc.map some) (hnc : va_nd isC = true) (hR2 : isR.map (fun i => ws[i]?) = wr.map some) (hnd : va_nd isR = true) (hdis : ∀ i ∈ isR, i ∉ isC)
    (q0 : Nat) {ci N : Nat} {fs : List Value} {T : u_T} (he : wc[q0]? = some (b, .inr (ci, fs))) (hc : vwCl[ci]? = some (C, T, N)) (hn : As.length = n) (hl : lv_has ls nL lv) (hst : st0 = As.reverse ++ .ref b :: rest) (hW : (rest.map fun v => v.category).sum ≤ 8)
    (hf : cells + mc ≤ R.cells ∧ slots + ms ≤ R.slots) (hdg : decode cc pc = .ok (.invokevirtual index, 3)) (kk : ∀ (u : σ) (H1 : Heap) (locs1 : List Loc), va_P G.1 vwCl (wr ++ wOf u) H1 → va_D A (wr ++ wOf u) → va_S A s.heap H1 locs1 → W p l e R s m args below meth c H1 locs1 (cells + mc) (slots + ms) Q (F0 m (pc + 3) ls ((rv u).toList ++ rest))) : W p l e R s m args below meth c H locs cells slots Q (F0 m pc ls st0) := by
  have hPc : va_P G.1 vwCl wc H := hP.sub isC (sx_wc hC)
  have hFc := va_free (wc := wc) hD hS hA isC hC
  refine px_go (va_runV ⟨hx, hb, hml, hown, hts⟩ (hM H.size) (cwV n hts hG hw rfl rfl hd hR) ⟨pxP.blind, va_recv hK.1 hPc hc he, fun U hU hWm => px_pre hK hP hD hS hA hE hC hnc hU hWm _⟩ rfl hn hl.1 hst (lv_room hW) hdg hf) hS (fun q _ h => hFc q h) hFc (fun u t H1 locs1 ht hvm hB hz1 hk1 hS1 => ?_)
  obtain ⟨h1, h2⟩ := va_join hP hD isC isR hC hR2 hnd hdis hk1 hFc (by rw [← ht]; exact hB.1) hB.2
  exact kk u H1 locs1 h1 h2 hS1
theorem px_s (hx : p.tables.exec = Jvm.exec) (hb : c.code = cc) (hml : c.maxLocals = nL) (hown : s.vm.findClass own = some m.cls) (hts : ∀ w ∈ Ts, w.before args s = true) (hM : pxM l y wd fr lo mc ms G k wc As rv wOf) (n : Nat) (hG : GoodIn Ts (va_wsS own index y wd)) (hw : wd = Cond.code y bytes maxL ret :: wd')
    (hd : y.cls ≠ "java/lang/invoke/MethodHandle" ∧ y.cls ≠ "java/lang/invoke/VarHandle" ∧ (parseMethodDescriptor y.desc).map (fun d => d.parameters.length) = some n) (hR : fr + 1 ≤ R.frames ∧ 8 + (maxL + 11) + lo ≤ R.locals)
    (hK : sxK G s) (hP : va_P G.1 vwCl ws H) (hD : va_D A ws) (hS : va_S A s.heap H locs) (hA : ∀ q : Nat, s.heap.size ≤ q → A q) (hE : pxE k A s s.heap) (isC isR : List Nat) (hC : isC.map (fun i => ws[i]?) = wc.map some) (hnc : va_nd isC = true) (hR2 : isR.map (fun i => ws[i]?) = wr.map some) (hnd : va_nd isR = true) (hdis : ∀ i ∈ isR, i ∉ isC)
    (hn : As.length = n) (hl : lv_has ls nL lv) (hst : st0 = As.reverse ++ rest) (hW : (rest.map fun v => v.category).sum ≤ 8)
    (hf : cells + mc ≤ R.cells ∧ slots + ms ≤ R.slots) (hdg : decode cc pc = .ok (.invokestatic index, 3)) (kk : ∀ (u : σ) (H1 : Heap) (locs1 : List Loc), va_P G.1 vwCl (wr ++ wOf u) H1 → va_D A (wr ++ wOf u) → va_S A s.heap H1 locs1 → W p l e R s m args below meth c H1 locs1 (cells + mc) (slots + ms) Q (F0 m (pc + 3) ls ((rv u).toList ++ rest))) : W p l e R s m args below meth c H locs cells slots Q (F0 m pc ls st0) := by
  have hFc := va_free (wc := wc) hD hS hA isC hC
  refine px_go (va_runS ⟨hx, hb, hml, hown, hts⟩ (hM H.size) (va_cwS n hts hG hw rfl rfl hd hR) ⟨pxP.blind, fun U hU hWm => px_pre hK hP hD hS hA hE hC hnc hU hWm _⟩ rfl hn hl.1 hst (lv_room hW) hdg hf) hS (fun q _ h => hFc q h) hFc (fun u t H1 locs1 ht hvm hB hz1 hk1 hS1 => ?_)
  obtain ⟨h1, h2⟩ := va_join hP hD isC isR hC hR2 hnd hdis hk1 hFc (by rw [← ht]; exact hB.1) hB.2
  exact kk u H1 locs1 h1 h2 hS1
theorem px_sn {host : String} (hx : p.tables.exec = Jvm.exec) (hb : c.code = cc) (hml : c.maxLocals = nL) (hown : s.vm.findClass own = some m.cls) (hts : ∀ w ∈ Ts, w.before args s = true) (hM : pxM l y wd fr lo mc ms G k wc As rv wOf) (n : Nat) (hG : GoodIn Ts wd) (hw : wd = Cond.code y bytes maxL ret :: wd') (hN : va_Nw (.methodLinkNest own index y host) s) (hini : Cond.initialized y.cls ∈ Ts) (hstat : Cond.static y ∈ Ts)
    (hd : y.cls ≠ "java/lang/invoke/MethodHandle" ∧ y.cls ≠ "java/lang/invoke/VarHandle" ∧ (parseMethodDescriptor y.desc).map (fun d => d.parameters.length) = some n) (hR : fr + 1 ≤ R.frames ∧ 8 + (maxL + 11) + lo ≤ R.locals)
    (hK : sxK G s) (hP : va_P G.1 vwCl ws H) (hD : va_D A ws) (hS : va_S A s.heap H locs) (hA : ∀ q : Nat, s.heap.size ≤ q → A q) (hE : pxE k A s s.heap) (isC isR : List Nat) (hC : isC.map (fun i => ws[i]?) = wc.map some) (hnc : va_nd isC = true) (hR2 : isR.map (fun i => ws[i]?) = wr.map some) (hnd : va_nd isR = true) (hdis : ∀ i ∈ isR, i ∉ isC)
    (hn : As.length = n) (hl : lv_has ls nL lv) (hst : st0 = As.reverse ++ rest) (hW : (rest.map fun v => v.category).sum ≤ 8)
    (hf : cells + mc ≤ R.cells ∧ slots + ms ≤ R.slots) (hdg : decode cc pc = .ok (.invokestatic index, 3)) (kk : ∀ (u : σ) (H1 : Heap) (locs1 : List Loc), va_P G.1 vwCl (wr ++ wOf u) H1 → va_D A (wr ++ wOf u) → va_S A s.heap H1 locs1 → W p l e R s m args below meth c H1 locs1 (cells + mc) (slots + ms) Q (F0 m (pc + 3) ls ((rv u).toList ++ rest))) : W p l e R s m args below meth c H locs cells slots Q (F0 m pc ls st0) := by
  have hFc := va_free (wc := wc) hD hS hA isC hC
  refine px_go (va_runSN ⟨hx, hb, hml, hown, hts⟩ (hM H.size) ⟨va_cnB n hts hG hw rfl rfl hN (hts _ hini) hd hR, hts _ hstat, trivial⟩ ⟨pxP.blind, fun U hU hWm => px_pre hK hP hD hS hA hE hC hnc hU hWm _⟩ rfl hn hl.1 hst (lv_room hW) hdg hf) hS (fun q _ h => hFc q h) hFc (fun u t H1 locs1 ht hvm hB hz1 hk1 hS1 => ?_)
  obtain ⟨h1, h2⟩ := va_join hP hD isC isR hC hR2 hnd hdis hk1 hFc (by rw [← ht]; exact hB.1) hB.2
  exact kk u H1 locs1 h1 h2 hS1
theorem px_i (hx : p.tables.exec = Jvm.exec) (hb : c.code = cc) (hml : c.maxLocals = nL) (hown : s.vm.findClass own = some m.cls) (hts : ∀ w ∈ Ts, w.before args s = true) (hM : pxM l y wd fr lo mc ms G k wc (Value.ref b :: As) rv wOf) (n : Nat) (hG : GoodIn Ts wd) (hw : wd = Cond.code y bytes maxL none :: wd') (hini : (Cond.initialized y.cls).before args s = true) (hlk : (Cond.methodLink own index y).before args s = true) (hin : (Cond.instanceMethod y).before args s = true) (hy1 : y.name = "<init>")
    (hd : y.cls ≠ "java/lang/invoke/MethodHandle" ∧ y.cls ≠ "java/lang/invoke/VarHandle" ∧ (parseMethodDescriptor y.desc).map (fun d => d.parameters.length) = some n) (hR : fr + 1 ≤ R.frames ∧ 8 + (maxL + 11) + lo ≤ R.locals)
    (hK : sxK G s) (hP : va_P G.1 vwCl ws H) (hD : va_D A ws) (hS : va_S A s.heap H locs) (hA : ∀ q : Nat, s.heap.size ≤ q → A q) (hE : pxE k A s s.heap) (isC isR : List Nat) (hC : isC.map (fun i => ws[i]?) = wc.map some) (hnc : va_nd isC = true) (hR2 : isR.map (fun i => ws[i]?) = wr.map some) (hnd : va_nd isR = true) (hdis : ∀ i ∈ isR, i ∉ isC)
    (hn : As.length = n) (hl : lv_has ls nL lv) (hst : st0 = As.reverse ++ .ref b :: rest) (hW : (rest.map fun v => v.category).sum ≤ 8)
    (hf : cells + mc ≤ R.cells ∧ slots + ms ≤ R.slots) (hdg : decode cc pc = .ok (.invokespecial index, 3)) (kk : ∀ (u : σ) (H1 : Heap) (locs1 : List Loc), va_P G.1 vwCl (wr ++ wOf u) H1 → va_D A (wr ++ wOf u) → va_S A s.heap H1 locs1 → W p l e R s m args below meth c H1 locs1 (cells + mc) (slots + ms) Q (F0 m (pc + 3) ls ((rv u).toList ++ rest))) : W p l e R s m args below meth c H locs cells slots Q (F0 m pc ls st0) := by
  have hFc := va_free (wc := wc) hD hS hA isC hC
  refine px_go (va_runI ⟨hx, hb, hml, hown, hts⟩ (hM H.size) (cwI n hts hG hw rfl rfl hini hlk hin hy1 hd hR) ⟨pxP.blind, fun U hU hWm => px_pre hK hP hD hS hA hE hC hnc hU hWm _⟩ rfl hn hl.1 hst (lv_room hW) hdg hf) hS (fun q _ h => hFc q h) hFc (fun u t H1 locs1 ht hvm hB hz1 hk1 hS1 => ?_)
  obtain ⟨h1, h2⟩ := va_join hP hD isC isR hC hR2 hnd hdis hk1 hFc (by rw [← ht]; exact hB.1) hB.2
  exact kk u H1 locs1 h1 h2 hS1
theorem px_in {host : String} (hx : p.tables.exec = Jvm.exec) (hb : c.code = cc) (hml : c.maxLocals = nL) (hown : s.vm.findClass own = some m.cls) (hts : ∀ w ∈ Ts, w.before args s = true) (hM : pxM l y wd fr lo mc ms G k wc (Value.ref b :: As) rv wOf) (n : Nat) (hG : GoodIn Ts wd) (hw : wd = Cond.code y bytes maxL none :: wd') (hini : (Cond.initialized y.cls).before args s = true) (hN : va_Nw (.methodLinkNest own index y host) s) (hin : (Cond.instanceMethod y).before args s = true) (hy1 : y.name = "<init>")
    (hd : y.cls ≠ "java/lang/invoke/MethodHandle" ∧ y.cls ≠ "java/lang/invoke/VarHandle" ∧ (parseMethodDescriptor y.desc).map (fun d => d.parameters.length) = some n) (hR : fr + 1 ≤ R.frames ∧ 8 + (maxL + 11) + lo ≤ R.locals)
    (hK : sxK G s) (hP : va_P G.1 vwCl ws H) (hD : va_D A ws) (hS : va_S A s.heap H locs) (hA : ∀ q : Nat, s.heap.size ≤ q → A q) (hE : pxE k A s s.heap) (isC isR : List Nat) (hC : isC.map (fun i => ws[i]?) = wc.map some) (hnc : va_nd isC = true) (hR2 : isR.map (fun i => ws[i]?) = wr.map some) (hnd : va_nd isR = true) (hdis : ∀ i ∈ isR, i ∉ isC)
    (hn : As.length = n) (hl : lv_has ls nL lv) (hst : st0 = As.reverse ++ .ref b :: rest) (hW : (rest.map fun v => v.category).sum ≤ 8)
    (hf : cells + mc ≤ R.cells ∧ slots + ms ≤ R.slots) (hdg : decode cc pc = .ok (.invokespecial index, 3)) (kk : ∀ (u : σ) (H1 : Heap) (locs1 : List Loc), va_P G.1 vwCl (wr ++ wOf u) H1 → va_D A (wr ++ wOf u) → va_S A s.heap H1 locs1 → W p l e R s m args below meth c H1 locs1 (cells + mc) (slots + ms) Q (F0 m (pc + 3) ls ((rv u).toList ++ rest))) : W p l e R s m args below meth c H locs cells slots Q (F0 m pc ls st0) := by
  have hFc := va_free (wc := wc) hD hS hA isC hC
  refine px_go (va_runIN ⟨hx, hb, hml, hown, hts⟩ (hM H.size) ⟨va_cnB n hts hG hw rfl rfl hN hini hd hR, hy1, hin⟩ ⟨pxP.blind, fun U hU hWm => px_pre hK hP hD hS hA hE hC hnc hU hWm _⟩ rfl hn hl.1 hst (lv_room hW) hdg hf) hS (fun q _ h => hFc q h) hFc (fun u t H1 locs1 ht hvm hB hz1 hk1 hS1 => ?_)
  obtain ⟨h1, h2⟩ := va_join hP hD isC isR hC hR2 hnd hdis hk1 hFc (by rw [← ht]; exact hB.1) hB.2
  exact kk u H1 locs1 h1 h2 hS1
theorem px_f {x : MethodName} {count : Nat} (hx : p.tables.exec = Jvm.exec) (hb : c.code = cc) (hml : c.maxLocals = nL) (hown : s.vm.findClass own = some m.cls) (hts : ∀ w ∈ Ts, w.before args s = true) (hM : pxM l y wd fr lo mc ms G k wc (Value.ref b :: As) rv wOf) (n : Nat) (hG : GoodIn Ts (va_wsF own index C x y wd)) (hw : wd = Cond.code y bytes maxL ret :: wd') (hF : va_Fw C x y s)
    (hd : x.cls ≠ "java/lang/invoke/MethodHandle" ∧ x.cls ≠ "java/lang/invoke/VarHandle" ∧ (parseMethodDescriptor x.desc).map (fun d => d.parameters.length) = some n) (hR : fr + 1 ≤ R.frames ∧ 8 + (maxL + 11) + lo ≤ R.locals)
    (hK : sxK G s) (hP : va_P G.1 vwCl ws H) (hD : va_D A ws) (hS : va_S A s.heap H locs) (hA : ∀ q : Nat, s.heap.size ≤ q → A q) (hE : pxE k A s s.heap) (isC isR : List Nat) (hC : isC.map (fun i => ws[i]?) = wc.map some) (hnc : va_nd isC = true) (hR2 : isR.map (fun i => ws[i]?) = wr.map some) (hnd : va_nd isR = true) (hdis : ∀ i ∈ isR, i ∉ isC)
    (q0 : Nat) {ci N : Nat} {fs : List Value} {T : u_T} (he : wc[q0]? = some (b, .inr (ci, fs))) (hc : vwCl[ci]? = some (C, T, N)) (hn : As.length = n) (hl : lv_has ls nL lv) (hst : st0 = As.reverse ++ .ref b :: rest) (hW : (rest.map fun v => v.category).sum ≤ 8)
    (hf : cells + mc ≤ R.cells ∧ slots + ms ≤ R.slots) (hdg : decode cc pc = .ok (.invokeinterface index count, 5)) (kk : ∀ (u : σ) (H1 : Heap) (locs1 : List Loc), va_P G.1 vwCl (wr ++ wOf u) H1 → va_D A (wr ++ wOf u) → va_S A s.heap H1 locs1 → W p l e R s m args below meth c H1 locs1 (cells + mc) (slots + ms) Q (F0 m (pc + 5) ls ((rv u).toList ++ rest))) : W p l e R s m args below meth c H locs cells slots Q (F0 m pc ls st0) := by
  have hPc : va_P G.1 vwCl wc H := hP.sub isC (sx_wc hC)
  have hFc := va_free (wc := wc) hD hS hA isC hC
  refine px_go5 (va_runF (hK.1.1 ci _ hc).2 ⟨hx, hb, hml, hown, hts⟩ (hM H.size) (va_cwF n hts hG hw rfl rfl hF hd hR) ⟨pxP.blind, va_recv hK.1 hPc hc he, fun U hU hWm => px_pre hK hP hD hS hA hE hC hnc hU hWm _⟩ rfl hn hl.1 hst (lv_room hW) hdg hf) hS (fun q _ h => hFc q h) hFc (fun u t H1 locs1 ht hvm hB hz1 hk1 hS1 => ?_)
  obtain ⟨h1, h2⟩ := va_join hP hD isC isR hC hR2 hnd hdis hk1 hFc (by rw [← ht]; exact hB.1) hB.2
  exact kk u H1 locs1 h1 h2 hS1
/-! the ends -/
theorem px_ri {rt : FieldType} {v : Int32} (u : σ) (hx : p.tables.exec = Jvm.exec) (hb : c.code = cc) (hr : meth.sig.returnType = some rt) (hlk : meth.locks = false) (hP : va_P G.1 vwCl (wOf u) H) (hD : va_D A (wOf u)) (hS : va_S A s.heap H locs) (hn : narrow rt (.int v) = .int v) (hv : some (.int v) = rv u) (hdg : decode cc pc = .ok (.ireturn, 1)) : W p l e R s m args below meth c H locs mc ms (pxZ mc ms G args s below A rv wOf) (F0 m pc ls [.int v]) :=
  W.zret hx hb hr hn (fun t ht _ => ⟨⟨u, by rw [hv], by rw [← ht] at hP; exact ⟨hP, hD⟩⟩, hS.F ht⟩) hS.2.2 hdg hlk
theorem px_rl {v : Int64} (u : σ) (hx : p.tables.exec = Jvm.exec) (hb : c.code = cc) (hr : meth.sig.returnType = some .long) (hlk : meth.locks = false) (hP : va_P G.1 vwCl (wOf u) H) (hD : va_D A (wOf u)) (hS : va_S A s.heap H locs) (hv : some (.long v) = rv u) (hdg : decode cc pc = .ok (.lreturn, 1)) : W p l e R s m args below meth c H locs mc ms (pxZ mc ms G args s below A rv wOf) (F0 m pc ls [.long v]) :=
  W.lret hx hb hr (fun t ht _ => ⟨⟨u, by rw [hv], by rw [← ht] at hP; exact ⟨hP, hD⟩⟩, hS.F ht⟩) hS.2.2 hdg hlk
theorem px_rd {v : UInt64} (u : σ) (hx : p.tables.exec = Jvm.exec) (hb : c.code = cc) (hr : meth.sig.returnType = some .double) (hlk : meth.locks = false) (hP : va_P G.1 vwCl (wOf u) H) (hD : va_D A (wOf u)) (hS : va_S A s.heap H locs) (hv : some (.double v) = rv u) (hdg : decode cc pc = .ok (.dreturn, 1)) : W p l e R s m args below meth c H locs mc ms (pxZ mc ms G args s below A rv wOf) (F0 m pc ls [.double v]) :=
  W.dret hx hb hr (fun t ht _ => ⟨⟨u, by rw [hv], by rw [← ht] at hP; exact ⟨hP, hD⟩⟩, hS.F ht⟩) hS.2.2 hdg hlk
theorem px_ra {rt : FieldType} {a : Nat} (u : σ) (hx : p.tables.exec = Jvm.exec) (hb : c.code = cc) (hr : meth.sig.returnType = some rt) (hrt : (∃ n, rt = .object n) ∨ ∃ t, rt = .array t) (hlk : meth.locks = false) (hP : va_P G.1 vwCl (wOf u) H) (hD : va_D A (wOf u)) (hS : va_S A s.heap H locs) (hv : some (.ref a) = rv u) (hdg : decode cc pc = .ok (.areturn, 1)) : W p l e R s m args below meth c H locs mc ms (pxZ mc ms G args s below A rv wOf) (F0 m pc ls [.ref a]) :=
  W.aret hx hb hr hrt (Or.inr ⟨a, rfl⟩) (fun t ht _ => ⟨⟨u, by rw [hv], by rw [← ht] at hP; exact ⟨hP, hD⟩⟩, hS.F ht⟩) hS.2.2 hdg hlk
theorem px_rv (u : σ) (hx : p.tables.exec = Jvm.exec) (hb : c.code = cc) (hr : meth.sig.returnType = none) (hlk : meth.locks = false) (hP : va_P G.1 vwCl (wOf u) H) (hD : va_D A (wOf u)) (hS : va_S A s.heap H locs) (hv : none = rv u) (hdg : decode cc pc = .ok (.return_, 1)) : W p l e R s m args below meth c H locs mc ms (pxZ mc ms G args s below A rv wOf) (F0 m pc ls []) :=
  W.vret hx hb hr (fun t ht _ => ⟨⟨u, by rw [hv], by rw [← ht] at hP; exact ⟨hP, hD⟩⟩, hS.F ht⟩) hS.2.2 hdg hlk
end PX
