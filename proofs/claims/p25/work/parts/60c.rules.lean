/-! THE RULES OVER BLOCKS -/
theorem lxF_app (X Y : lxW) : lxF (X ++ Y) = lxF X ++ lxF Y := by
  unfold lxF
  exact List.flatten_append
theorem lxF_comm (X Y : lxW) : (lxF Y ++ lxF X).Perm (lxF (X ++ Y)) := by
  rw [lxF_app]
  exact List.perm_append_comm
section LB
variable {σ : Type}
variable {p : Program} {l : Launch} {e : Env} {R : Room} {s : State} {m : MethodId} {args : Array Value} {below : List Frame} {meth : Method} {c : Code} {H : Heap} {locs : List Loc} {cells slots : Nat} {Q : State → Prop}
variable {Ts wd wd' : List Cond} {cc bytes : ByteArray} {nL maxL index n fr lo pc mc ms : Nat} {own C : String} {y : MethodName} {ret : Option FieldType} {b : Addr} {As rest st0 : List Value} {G : sxG} {k : lxC} {Bs Cs Rs : lxW} {ls : Array Slot} {lv : List (Nat × Value)} {A : Nat → Prop} {rv : σ → Option Value} {wB : σ → lxW}
theorem lb_v (hx : p.tables.exec = Jvm.exec) (hb : c.code = cc) (hml : c.maxLocals = nL) (hown : s.vm.findClass own = some m.cls) (hts : ∀ w ∈ Ts, w.before args s = true) (hM : lxM l y wd fr lo mc ms G k (lxF Cs) (Value.ref b :: As) rv (fun u => lxF (wB u))) (n : Nat) (hG : GoodIn Ts (wsV own index C y wd)) (hw : wd = Cond.code y bytes maxL ret :: wd')
    (hd : y.cls = C ∧ y.cls ≠ "java/lang/invoke/MethodHandle" ∧ y.cls ≠ "java/lang/invoke/VarHandle" ∧ (parseMethodDescriptor y.desc).map (fun d => d.parameters.length) = some n) (hR : fr + 1 ≤ R.frames ∧ 8 + (maxL + 11) + lo ≤ R.locals)
    (hK : sxK G s) (hP : va_P G.1 vwCl (lxF Bs) H) (hD : va_D A (lxF Bs)) (hS : va_S A s.heap H locs) (hA : ∀ q : Nat, s.heap.size ≤ q → A q) (hE : lxE k A s s.heap) (isC isR : List Nat) (hC : isC.filterMap (fun i => Bs[i]?) = Cs) (hR2 : isR.filterMap (fun i => Bs[i]?) = Rs) (hpm : (isC ++ isR).Perm (List.range Bs.length))
    (q0 i0 : Nat) {B : va_W} {ci N : Nat} {fs : List Value} {T : u_T} (hB : Cs[q0]? = some B) (he : B[i0]? = some (b, .inr (ci, fs))) (hc : vwCl[ci]? = some (C, T, N)) (hn : As.length = n) (hl : lv_has ls nL lv) (hst : st0 = As.reverse ++ .ref b :: rest) (hW : (rest.map fun v => v.category).sum ≤ 8)
    (hf : cells + mc ≤ R.cells ∧ slots + ms ≤ R.slots) (hdg : decode cc pc = .ok (.invokevirtual index, 3)) (kk : ∀ (u : σ) (H1 : Heap) (locs1 : List Loc), va_P G.1 vwCl (lxF (wB u ++ Rs)) H1 → va_D A (lxF (wB u ++ Rs)) → va_S A s.heap H1 locs1 → W p l e R s m args below meth c H1 locs1 (cells + mc) (slots + ms) Q (F0 m (pc + 3) ls ((rv u).toList ++ rest))) : W p l e R s m args below meth c H locs cells slots Q (F0 m pc ls st0) := by
  obtain ⟨jsC, jsR, e1, e2, e3, e4, e5⟩ := lx_half (lxF Cs) (lxF Rs)
  have pm := lx_perm hC hR2 hpm
  have hP2 : va_P G.1 vwCl (lxF Cs ++ lxF Rs) H := lx_Pm hP (fun x hx => pm.mem_iff.mpr hx)
  have hD2 : va_D A (lxF Cs ++ lxF Rs) := lx_Dm hD pm
  obtain ⟨j, hj, -⟩ := lx_at hB he
  refine lx_v (wr := lxF Rs) hx hb hml hown hts hM n hG hw hd hR hK hP2 hD2 hS hA hE jsC jsR e1 e2 e3 e4 e5 j hj hc hn hl hst hW hf hdg (fun u H1 locs1 h1 h2 h3 => ?_)
  exact kk u H1 locs1 (lx_Pm h1 (fun x hx => (lxF_comm _ _).mem_iff.mpr hx)) (lx_Dm h2 (lxF_comm _ _)) h3
theorem lb_s (hx : p.tables.exec = Jvm.exec) (hb : c.code = cc) (hml : c.maxLocals = nL) (hown : s.vm.findClass own = some m.cls) (hts : ∀ w ∈ Ts, w.before args s = true) (hM : lxM l y wd fr lo mc ms G k (lxF Cs) As rv (fun u => lxF (wB u))) (n : Nat) (hG : GoodIn Ts (va_wsS own index y wd)) (hw : wd = Cond.code y bytes maxL ret :: wd')
    (hd : y.cls ≠ "java/lang/invoke/MethodHandle" ∧ y.cls ≠ "java/lang/invoke/VarHandle" ∧ (parseMethodDescriptor y.desc).map (fun d => d.parameters.length) = some n) (hR : fr + 1 ≤ R.frames ∧ 8 + (maxL + 11) + lo ≤ R.locals)
    (hK : sxK G s) (hP : va_P G.1 vwCl (lxF Bs) H) (hD : va_D A (lxF Bs)) (hS : va_S A s.heap H locs) (hA : ∀ q : Nat, s.heap.size ≤ q → A q) (hE : lxE k A s s.heap) (isC isR : List Nat) (hC : isC.filterMap (fun i => Bs[i]?) = Cs) (hR2 : isR.filterMap (fun i => Bs[i]?) = Rs) (hpm : (isC ++ isR).Perm (List.range Bs.length))
    (hn : As.length = n) (hl : lv_has ls nL lv) (hst : st0 = As.reverse ++ rest) (hW : (rest.map fun v => v.category).sum ≤ 8)
    (hf : cells + mc ≤ R.cells ∧ slots + ms ≤ R.slots) (hdg : decode cc pc = .ok (.invokestatic index, 3)) (kk : ∀ (u : σ) (H1 : Heap) (locs1 : List Loc), va_P G.1 vwCl (lxF (wB u ++ Rs)) H1 → va_D A (lxF (wB u ++ Rs)) → va_S A s.heap H1 locs1 → W p l e R s m args below meth c H1 locs1 (cells + mc) (slots + ms) Q (F0 m (pc + 3) ls ((rv u).toList ++ rest))) : W p l e R s m args below meth c H locs cells slots Q (F0 m pc ls st0) := by
  obtain ⟨jsC, jsR, e1, e2, e3, e4, e5⟩ := lx_half (lxF Cs) (lxF Rs)
  have pm := lx_perm hC hR2 hpm
  have hP2 : va_P G.1 vwCl (lxF Cs ++ lxF Rs) H := lx_Pm hP (fun x hx => pm.mem_iff.mpr hx)
  have hD2 : va_D A (lxF Cs ++ lxF Rs) := lx_Dm hD pm
  refine lx_s (wr := lxF Rs) hx hb hml hown hts hM n hG hw hd hR hK hP2 hD2 hS hA hE jsC jsR e1 e2 e3 e4 e5 hn hl hst hW hf hdg (fun u H1 locs1 h1 h2 h3 => ?_)
  exact kk u H1 locs1 (lx_Pm h1 (fun x hx => (lxF_comm _ _).mem_iff.mpr hx)) (lx_Dm h2 (lxF_comm _ _)) h3
theorem lb_sn {host : String} (hx : p.tables.exec = Jvm.exec) (hb : c.code = cc) (hml : c.maxLocals = nL) (hown : s.vm.findClass own = some m.cls) (hts : ∀ w ∈ Ts, w.before args s = true) (hM : lxM l y wd fr lo mc ms G k (lxF Cs) As rv (fun u => lxF (wB u))) (n : Nat) (hG : GoodIn Ts wd) (hw : wd = Cond.code y bytes maxL ret :: wd') (hN : va_Nw (.methodLinkNest own index y host) s) (hini : Cond.initialized y.cls ∈ Ts) (hstat : Cond.static y ∈ Ts)
    (hd : y.cls ≠ "java/lang/invoke/MethodHandle" ∧ y.cls ≠ "java/lang/invoke/VarHandle" ∧ (parseMethodDescriptor y.desc).map (fun d => d.parameters.length) = some n) (hR : fr + 1 ≤ R.frames ∧ 8 + (maxL + 11) + lo ≤ R.locals)
    (hK : sxK G s) (hP : va_P G.1 vwCl (lxF Bs) H) (hD : va_D A (lxF Bs)) (hS : va_S A s.heap H locs) (hA : ∀ q : Nat, s.heap.size ≤ q → A q) (hE : lxE k A s s.heap) (isC isR : List Nat) (hC : isC.filterMap (fun i => Bs[i]?) = Cs) (hR2 : isR.filterMap (fun i => Bs[i]?) = Rs) (hpm : (isC ++ isR).Perm (List.range Bs.length))
    (hn : As.length = n) (hl : lv_has ls nL lv) (hst : st0 = As.reverse ++ rest) (hW : (rest.map fun v => v.category).sum ≤ 8)
    (hf : cells + mc ≤ R.cells ∧ slots + ms ≤ R.slots) (hdg : decode cc pc = .ok (.invokestatic index, 3)) (kk : ∀ (u : σ) (H1 : Heap) (locs1 : List Loc), va_P G.1 vwCl (lxF (wB u ++ Rs)) H1 → va_D A (lxF (wB u ++ Rs)) → va_S A s.heap H1 locs1 → W p l e R s m args below meth c H1 locs1 (cells + mc) (slots + ms) Q (F0 m (pc + 3) ls ((rv u).toList ++ rest))) : W p l e R s m args below meth c H locs cells slots Q (F0 m pc ls st0) := by
  obtain ⟨jsC, jsR, e1, e2, e3, e4, e5⟩ := lx_half (lxF Cs) (lxF Rs)
  have pm := lx_perm hC hR2 hpm
  have hP2 : va_P G.1 vwCl (lxF Cs ++ lxF Rs) H := lx_Pm hP (fun x hx => pm.mem_iff.mpr hx)
  have hD2 : va_D A (lxF Cs ++ lxF Rs) := lx_Dm hD pm
  refine lx_sn (wr := lxF Rs) hx hb hml hown hts hM n hG hw hN hini hstat hd hR hK hP2 hD2 hS hA hE jsC jsR e1 e2 e3 e4 e5 hn hl hst hW hf hdg (fun u H1 locs1 h1 h2 h3 => ?_)
  exact kk u H1 locs1 (lx_Pm h1 (fun x hx => (lxF_comm _ _).mem_iff.mpr hx)) (lx_Dm h2 (lxF_comm _ _)) h3
theorem lb_i (hx : p.tables.exec = Jvm.exec) (hb : c.code = cc) (hml : c.maxLocals = nL) (hown : s.vm.findClass own = some m.cls) (hts : ∀ w ∈ Ts, w.before args s = true) (hM : lxM l y wd fr lo mc ms G k (lxF Cs) (Value.ref b :: As) rv (fun u => lxF (wB u))) (n : Nat) (hG : GoodIn Ts wd) (hw : wd = Cond.code y bytes maxL none :: wd') (hini : (Cond.initialized y.cls).before args s = true) (hlk : (Cond.methodLink own index y).before args s = true) (hin : (Cond.instanceMethod y).before args s = true) (hy1 : y.name = "<init>")
    (hd : y.cls ≠ "java/lang/invoke/MethodHandle" ∧ y.cls ≠ "java/lang/invoke/VarHandle" ∧ (parseMethodDescriptor y.desc).map (fun d => d.parameters.length) = some n) (hR : fr + 1 ≤ R.frames ∧ 8 + (maxL + 11) + lo ≤ R.locals)
    (hK : sxK G s) (hP : va_P G.1 vwCl (lxF Bs) H) (hD : va_D A (lxF Bs)) (hS : va_S A s.heap H locs) (hA : ∀ q : Nat, s.heap.size ≤ q → A q) (hE : lxE k A s s.heap) (isC isR : List Nat) (hC : isC.filterMap (fun i => Bs[i]?) = Cs) (hR2 : isR.filterMap (fun i => Bs[i]?) = Rs) (hpm : (isC ++ isR).Perm (List.range Bs.length))
    (hn : As.length = n) (hl : lv_has ls nL lv) (hst : st0 = As.reverse ++ .ref b :: rest) (hW : (rest.map fun v => v.category).sum ≤ 8)
    (hf : cells + mc ≤ R.cells ∧ slots + ms ≤ R.slots) (hdg : decode cc pc = .ok (.invokespecial index, 3)) (kk : ∀ (u : σ) (H1 : Heap) (locs1 : List Loc), va_P G.1 vwCl (lxF (wB u ++ Rs)) H1 → va_D A (lxF (wB u ++ Rs)) → va_S A s.heap H1 locs1 → W p l e R s m args below meth c H1 locs1 (cells + mc) (slots + ms) Q (F0 m (pc + 3) ls ((rv u).toList ++ rest))) : W p l e R s m args below meth c H locs cells slots Q (F0 m pc ls st0) := by
  obtain ⟨jsC, jsR, e1, e2, e3, e4, e5⟩ := lx_half (lxF Cs) (lxF Rs)
  have pm := lx_perm hC hR2 hpm
  have hP2 : va_P G.1 vwCl (lxF Cs ++ lxF Rs) H := lx_Pm hP (fun x hx => pm.mem_iff.mpr hx)
  have hD2 : va_D A (lxF Cs ++ lxF Rs) := lx_Dm hD pm
  refine lx_i (wr := lxF Rs) hx hb hml hown hts hM n hG hw hini hlk hin hy1 hd hR hK hP2 hD2 hS hA hE jsC jsR e1 e2 e3 e4 e5 hn hl hst hW hf hdg (fun u H1 locs1 h1 h2 h3 => ?_)
  exact kk u H1 locs1 (lx_Pm h1 (fun x hx => (lxF_comm _ _).mem_iff.mpr hx)) (lx_Dm h2 (lxF_comm _ _)) h3
theorem lb_in {host : String} (hx : p.tables.exec = Jvm.exec) (hb : c.code = cc) (hml : c.maxLocals = nL) (hown : s.vm.findClass own = some m.cls) (hts : ∀ w ∈ Ts, w.before args s = true) (hM : lxM l y wd fr lo mc ms G k (lxF Cs) (Value.ref b :: As) rv (fun u => lxF (wB u))) (n : Nat) (hG : GoodIn Ts wd) (hw : wd = Cond.code y bytes maxL none :: wd') (hini : (Cond.initialized y.cls).before args s = true) (hN : va_Nw (.methodLinkNest own index y host) s) (hin : (Cond.instanceMethod y).before args s = true) (hy1 : y.name = "<init>")
    (hd : y.cls ≠ "java/lang/invoke/MethodHandle" ∧ y.cls ≠ "java/lang/invoke/VarHandle" ∧ (parseMethodDescriptor y.desc).map (fun d => d.parameters.length) = some n) (hR : fr + 1 ≤ R.frames ∧ 8 + (maxL + 11) + lo ≤ R.locals)
    (hK : sxK G s) (hP : va_P G.1 vwCl (lxF Bs) H) (hD : va_D A (lxF Bs)) (hS : va_S A s.heap H locs) (hA : ∀ q : Nat, s.heap.size ≤ q → A q) (hE : lxE k A s s.heap) (isC isR : List Nat) (hC : isC.filterMap (fun i => Bs[i]?) = Cs) (hR2 : isR.filterMap (fun i => Bs[i]?) = Rs) (hpm : (isC ++ isR).Perm (List.range Bs.length))
    (hn : As.length = n) (hl : lv_has ls nL lv) (hst : st0 = As.reverse ++ .ref b :: rest) (hW : (rest.map fun v => v.category).sum ≤ 8)
    (hf : cells + mc ≤ R.cells ∧ slots + ms ≤ R.slots) (hdg : decode cc pc = .ok (.invokespecial index, 3)) (kk : ∀ (u : σ) (H1 : Heap) (locs1 : List Loc), va_P G.1 vwCl (lxF (wB u ++ Rs)) H1 → va_D A (lxF (wB u ++ Rs)) → va_S A s.heap H1 locs1 → W p l e R s m args below meth c H1 locs1 (cells + mc) (slots + ms) Q (F0 m (pc + 3) ls ((rv u).toList ++ rest))) : W p l e R s m args below meth c H locs cells slots Q (F0 m pc ls st0) := by
  obtain ⟨jsC, jsR, e1, e2, e3, e4, e5⟩ := lx_half (lxF Cs) (lxF Rs)
  have pm := lx_perm hC hR2 hpm
  have hP2 : va_P G.1 vwCl (lxF Cs ++ lxF Rs) H := lx_Pm hP (fun x hx => pm.mem_iff.mpr hx)
  have hD2 : va_D A (lxF Cs ++ lxF Rs) := lx_Dm hD pm
  refine lx_in (wr := lxF Rs) hx hb hml hown hts hM n hG hw hini hN hin hy1 hd hR hK hP2 hD2 hS hA hE jsC jsR e1 e2 e3 e4 e5 hn hl hst hW hf hdg (fun u H1 locs1 h1 h2 h3 => ?_)
  exact kk u H1 locs1 (lx_Pm h1 (fun x hx => (lxF_comm _ _).mem_iff.mpr hx)) (lx_Dm h2 (lxF_comm _ _)) h3
end LB
section LBR
variable {p : Program} {l : Launch} {e : Env} {R : Room} {s : State} {m : MethodId} {args : Array Value} {below : List Frame} {meth : Method} {c : Code} {H : Heap} {locs : List Loc} {cells slots : Nat} {Q : State → Prop}
variable {cc : ByteArray} {pc : Nat} {ls : Array Slot} {rest : List Value} {G : sxG} {k : lxC} {A : Nat → Prop} {a : Nat} {Bs : lxW} {B : va_W} {own : String} {index : Nat}
theorem lb_get (hx : p.tables.exec = Jvm.exec) (hb : c.code = cc) {ref C : String} {T : u_T} {N ci : Nat} {Ts : List Cond} (hts : ∀ w ∈ Ts, w.before args s = true) (hin : ∀ w ∈ u_ws C T N, w ∈ Ts) (hown : s.vm.findClass own = some m.cls) (hK : sxK G s) (hP : va_P G.1 vwCl (lxF Bs) H) (q0 i0 : Nat) {fs : List Value} (hB : Bs[q0]? = some B) (he : B[i0]? = some (a, .inr (ci, fs))) (hc : vwCl[ci]? = some (C, T, N)) (k0 : Nat) (hk : k0 < N) (hlink : (Cond.fieldLink own index ref (T k0).2.1 (T k0).2.2.1).before args s = true) (hsame : ∀ x, s.fieldFound? (T k0).1 (T k0).2.1 (T k0).2.2.1 = some x → s.fieldFound? ref (T k0).2.1 (T k0).2.2.1 = some x) {v : Value} (hv : fs[k0]? = some v) (hdg : decode cc pc = .ok (.getfield index, 3))
    (kk : W p l e R s m args below meth c H locs cells slots Q (F0 m (pc + 3) ls (v :: rest))) : W p l e R s m args below meth c H locs cells slots Q (F0 m pc ls (.ref a :: rest)) := by
  obtain ⟨j, hj, -⟩ := lx_at hB he
  exact va_get hx hb hts hin hown hK.1 hP j hj hc k0 hk hlink hsame hv hdg kk
theorem lb_put (hx : p.tables.exec = Jvm.exec) (hb : c.code = cc) {ref C : String} {T : u_T} {N ci : Nat} {Ts : List Cond} (hts : ∀ w ∈ Ts, w.before args s = true) (hin : ∀ w ∈ u_ws C T N, w ∈ Ts) (ty0 : Nat → FieldType) (hty : ∀ k, k < N → parseFieldDescriptor (T k).2.2.1 = some (ty0 k)) (hnm : ∀ a, a < N → ∀ b, b < N → a ≠ b → (T a).2.1 ≠ (T b).2.1) (hown : s.vm.findClass own = some m.cls) (hK : sxK G s) (hP : va_P G.1 vwCl (lxF Bs) H) (hD : va_D A (lxF Bs)) (hS : va_S A s.heap H locs) (q0 i0 : Nat) {fs : List Value} (hB : Bs[q0]? = some B) (he : B[i0]? = some (a, .inr (ci, fs))) (hc : vwCl[ci]? = some (C, T, N)) (k0 : Nat) (hk : k0 < N) (hlink : (Cond.fieldLink own index ref (T k0).2.1 (T k0).2.2.1).before args s = true) (hsame : ∀ x, s.fieldFound? (T k0).1 (T k0).2.1 (T k0).2.2.1 = some x → s.fieldFound? ref (T k0).2.1 (T k0).2.2.1 = some x) (hfin : (T k0).2.2.2 = false) {ty : FieldType} {v : Value} (hd : parseFieldDescriptor (T k0).2.2.1 = some ty) (hn : narrow ty v = v) (hfit : fits ty v = true) (hl : k0 < fs.length)
    (hdg : decode cc pc = .ok (.putfield index, 3)) (kk : ∀ (H1 : Heap) (locs1 : List Loc), va_P G.1 vwCl (lxF (Bs.set q0 (B.set i0 (a, .inr (ci, fs.set k0 v))))) H1 → va_D A (lxF (Bs.set q0 (B.set i0 (a, .inr (ci, fs.set k0 v))))) → va_S A s.heap H1 locs1 → W p l e R s m args below meth c H1 locs1 cells slots Q (F0 m (pc + 3) ls rest)) : W p l e R s m args below meth c H locs cells slots Q (F0 m pc ls (v :: .ref a :: rest)) := by
  obtain ⟨j, hj, hs⟩ := lx_at hB he
  refine va_put hx hb hts hin ty0 hty hnm hown hK.1 hP hD hS j hj hc k0 hk hlink hsame hfin hd hn hfit hl hdg (fun H1 locs1 h1 h2 h3 => ?_)
  rw [hs] at h1 h2
  exact kk H1 locs1 h1 h2 h3
theorem lb_iald (hx : p.tables.exec = Jvm.exec) (hb : c.code = cc) (hK : sxK G s) (hP : va_P G.1 vwCl (lxF Bs) H) (q0 i0 : Nat) {n : Nat} {f : Nat → Int32} (hB : Bs[q0]? = some B) (he : B[i0]? = some (a, .inl (G.2.1, n, .inl f))) {i : Int32} (hin : vp_in i n) {v : Int32} (hv : f i.toNatClampNeg = v) (hdg : decode cc pc = .ok (.iaload, 1))
    (kk : W p l e R s m args below meth c H locs cells slots Q (F0 m (pc + 1) ls (.int v :: rest))) : W p l e R s m args below meth c H locs cells slots Q (F0 m pc ls (.int i :: .ref a :: rest)) := by
  obtain ⟨j, hj, -⟩ := lx_at hB he
  subst hv
  exact va_iald hx hb hK.1 hP j 0 hj rfl hin hdg kk
theorem lb_iast (hx : p.tables.exec = Jvm.exec) (hb : c.code = cc) (hK : sxK G s) (hP : va_P G.1 vwCl (lxF Bs) H) (hD : va_D A (lxF Bs)) (hS : va_S A s.heap H locs) (q0 i0 : Nat) {n : Nat} {f : Nat → Int32} (hB : Bs[q0]? = some B) (he : B[i0]? = some (a, .inl (G.2.1, n, .inl f))) {i : Int32} {x : Int32} (hin : vp_in i n) {i' : Nat} (hi : i.toNatClampNeg = i') (hdg : decode cc pc = .ok (.iastore, 1))
    (kk : ∀ (H1 : Heap) (locs1 : List Loc), va_P G.1 vwCl (lxF (Bs.set q0 (B.set i0 (a, .inl (G.2.1, n, .inl (upd f i' x)))))) H1 → va_D A (lxF (Bs.set q0 (B.set i0 (a, .inl (G.2.1, n, .inl (upd f i' x)))))) → va_S A s.heap H1 locs1 → W p l e R s m args below meth c H1 locs1 cells slots Q (F0 m (pc + 1) ls rest)) : W p l e R s m args below meth c H locs cells slots Q (F0 m pc ls (.int x :: .int i :: .ref a :: rest)) := by
  obtain ⟨j, hj, hs⟩ := lx_at hB he
  subst hi
  refine va_iast hx hb hK.1 hP hD hS j 0 hj rfl hin hdg (fun H1 locs1 h1 h2 h3 => ?_)
  rw [hs] at h1 h2
  exact kk H1 locs1 h1 h2 h3
theorem lb_alen (hx : p.tables.exec = Jvm.exec) (hb : c.code = cc) (hK : sxK G s) (hP : va_P G.1 vwCl (lxF Bs) H) (q0 i0 : Nat) {n : Nat} {f : Nat → Int32} (hB : Bs[q0]? = some B) (he : B[i0]? = some (a, .inl (G.2.1, n, .inl f))) {v : Int32} (hv : Int32.ofNat n = v) (hdg : decode cc pc = .ok (.arraylength, 1))
    (kk : W p l e R s m args below meth c H locs cells slots Q (F0 m (pc + 1) ls (.int v :: rest))) : W p l e R s m args below meth c H locs cells slots Q (F0 m pc ls (.ref a :: rest)) := by
  obtain ⟨j, hj, -⟩ := lx_at hB he
  exact va_alen hx hb hK.1 hP j 0 hj rfl hv hdg kk
/-- an array of int[] -/
abbrev lxq (k : lxC) (n : Nat) (f : Nat → Option Nat) : va_E := .inl (k.1, n, .inr (.inr (.inr (.inr f))))
theorem lb_alenq (hx : p.tables.exec = Jvm.exec) (hb : c.code = cc) (hK : sxK G s) (hE : lxE k A s s.heap) (hP : va_P G.1 vwCl (lxF Bs) H) (q0 i0 : Nat) {n : Nat} {f : Nat → Option Nat} (hB : Bs[q0]? = some B) (he : B[i0]? = some (a, lxq k n f)) {v : Int32} (hv : Int32.ofNat n = v) (hdg : decode cc pc = .ok (.arraylength, 1))
    (kk : W p l e R s m args below meth c H locs cells slots Q (F0 m (pc + 1) ls (.int v :: rest))) : W p l e R s m args below meth c H locs cells slots Q (F0 m pc ls (.ref a :: rest)) := by
  obtain ⟨j, hj, -⟩ := lx_at hB he
  exact va_alen hx hb (lx_K hK hE) hP j 2 hj rfl hv hdg kk
theorem lb_aald (hx : p.tables.exec = Jvm.exec) (hb : c.code = cc) (hK : sxK G s) (hE : lxE k A s s.heap) (hP : va_P G.1 vwCl (lxF Bs) H) (q0 i0 : Nat) {n : Nat} {f : Nat → Option Nat} (hB : Bs[q0]? = some B) (he : B[i0]? = some (a, lxq k n f)) {i : Int32} (hin : vp_in i n) {v : Value} (hv : va_rf (f i.toNatClampNeg) = v) (hdg : decode cc pc = .ok (.aaload, 1))
    (kk : W p l e R s m args below meth c H locs cells slots Q (F0 m (pc + 1) ls (v :: rest))) : W p l e R s m args below meth c H locs cells slots Q (F0 m pc ls (.int i :: .ref a :: rest)) := by
  obtain ⟨j, hj, -⟩ := lx_at hB he
  subst hv
  have hlt : i.toNatClampNeg < n := Nat.not_le.mp fun q => hin (Or.inr q)
  exact W.aald (v := va_rf (f i.toNatClampNeg)) (ty := .array .int) hx hb (hP j _ hj) (((lx_K hK hE).2 2 _ rfl).1 n (fun j => va_rf (f j))) rfl (fun q => by cases q) (by show ¬ (i < 0 ∨ (arrV _ _ _).slots.size ≤ _); rw [arrV_size]; exact hin) (by show (arrV _ _ _).slots[_]? = _; rw [arrV_read _ _ hlt]) rfl rfl hdg kk
theorem lb_aast (hx : p.tables.exec = Jvm.exec) (hb : c.code = cc) (hK : sxK G s) (hE : lxE k A s s.heap) (hP : va_P G.1 vwCl (lxF Bs) H) (hD : va_D A (lxF Bs)) (hS : va_S A s.heap H locs) (q0 i0 q1 i1 : Nat) {n r : Nat} {x : vp_A} {f : Nat → Option Nat} {B1 : va_W} (hB : Bs[q0]? = some B) (he : B[i0]? = some (a, lxq k n f)) (hB1 : Bs[q1]? = some B1) (he1 : B1[i1]? = some (r, .inl (G.2.1, x))) {i : Int32} (hin : vp_in i n) {i' : Nat} (hi : i.toNatClampNeg = i') (hdg : decode cc pc = .ok (.aastore, 1))
    (kk : ∀ (H1 : Heap) (locs1 : List Loc), va_P G.1 vwCl (lxF (Bs.set q0 (B.set i0 (a, lxq k n (va_up f i' (some r)))))) H1 → va_D A (lxF (Bs.set q0 (B.set i0 (a, lxq k n (va_up f i' (some r)))))) → va_S A s.heap H1 locs1 → W p l e R s m args below meth c H1 locs1 cells slots Q (F0 m (pc + 1) ls rest)) : W p l e R s m args below meth c H locs cells slots Q (F0 m pc ls (.ref r :: .int i :: .ref a :: rest)) := by
  obtain ⟨j, hj, hs⟩ := lx_at hB he
  obtain ⟨j1, hj1, -⟩ := lx_at hB1 he1
  subst hi
  refine lx_aastI hx hb hK hE hP hD hS j j1 hj hj1 hin hdg (fun H1 locs1 h1 h2 h3 => ?_)
  rw [hs] at h1 h2
  exact kk H1 locs1 h1 h2 h3
theorem lb_newi (hx : p.tables.exec = Jvm.exec) (hb : c.code = cc) (harr : (Cond.arrayClass .int).before args s = true) (hK : sxK G s) (hP : va_P G.1 vwCl (lxF Bs) H) (hD : va_D A (lxF Bs)) (hS : va_S A s.heap H locs) (hA : ∀ q : Nat, s.heap.size ≤ q → A q) {n : Int32} (N' : Nat) (hn : ¬ n < 0) (hN : n.toNatClampNeg = N') (hbt : N' * componentBytes .int ≤ 536870912) (hc : cells + 1 ≤ R.cells) (hs : slots + N' ≤ R.slots) (hdg : decode cc pc = .ok (.newarray .int, 2))
    (kk : ∀ (q : Nat) (H1 : Heap), va_P G.1 vwCl (lxF (Bs ++ [[(q, .inl (G.2.1, N', .inl (fun _ => 0)))]])) H1 → va_D A (lxF (Bs ++ [[(q, .inl (G.2.1, N', .inl (fun _ => 0)))]])) → va_S A s.heap H1 locs → W p l e R s m args below meth c H1 locs (cells + 1) (slots + N') Q (F0 m (pc + 2) ls (.ref q :: rest))) : W p l e R s m args below meth c H locs cells slots Q (F0 m pc ls (.int n :: rest)) := by
  refine sx_newi hx hb harr hK hP hD hS hA N' hn hN hbt hc hs hdg (fun q H1 h1 h2 h3 => ?_)
  rw [lxF_push] at h1 h2
  exact kk q H1 h1 h2 h3
theorem lb_anew (hx : p.tables.exec = Jvm.exec) (hb : c.code = cc) (hown : s.vm.findClass own = some m.cls) (hclink : (Cond.classLink own index "[I").before args s = true) (hK : sxK G s) (hE : lxE k A s s.heap) (hP : va_P G.1 vwCl (lxF Bs) H) (hD : va_D A (lxF Bs)) (hS : va_S A s.heap H locs) (hA : ∀ q : Nat, s.heap.size ≤ q → A q)
    {n : Int32} (hn : ¬ n < 0) (N' : Nat) (hN : n.toNatClampNeg = N') (hbytes : N' * 4 ≤ 536870912) (hcells : cells + 1 ≤ R.cells) (hslots : slots + N' ≤ R.slots) (hdg : decode cc pc = .ok (.anewarray index, 3))
    (kk : ∀ (q : Nat) (H1 : Heap), va_P G.1 vwCl (lxF (Bs ++ [[(q, lxq k N' (fun _ => none))]])) H1 → va_D A (lxF (Bs ++ [[(q, lxq k N' (fun _ => none))]])) → va_S A s.heap H1 locs →
      W p l e R s m args below meth c H1 locs (cells + 1) (slots + N') Q (F0 m (pc + 3) ls (.ref q :: rest))) : W p l e R s m args below meth c H locs cells slots Q (F0 m pc ls (.int n :: rest)) := by
  refine lx_anewI hx hb hown hclink hK hE hP hD hS hA hn N' hN hbytes hcells hslots hdg (fun q H1 h1 h2 h3 => ?_)
  rw [lxF_push] at h1 h2
  exact kk q H1 h1 h2 h3
theorem lb_new (hx : p.tables.exec = Jvm.exec) (hb : c.code = cc) {C : String} {T : u_T} {N ci : Nat} {Ts : List Cond} (hts : ∀ w ∈ Ts, w.before args s = true) (hin : ∀ w ∈ u_ws C T N, w ∈ Ts) (ty : Nat → FieldType) (hty : ∀ k, k < N → parseFieldDescriptor (T k).2.2.1 = some (ty k)) (hown : s.vm.findClass own = some m.cls) (hcl : (Cond.classLink own index C).before args s = true) (hinst : (Cond.instantiable C N).before args s = true) (hini : (Cond.initialized C).before args s = true)
    (hK : sxK G s) (hP : va_P G.1 vwCl (lxF Bs) H) (hD : va_D A (lxF Bs)) (hS : va_S A s.heap H locs) (hA : ∀ q, s.heap.size ≤ q → A q) (hc : vwCl[ci]? = some (C, T, N)) {fs : List Value} (hfs : ∀ j, j < N → defaultValue (ty j) = vp_V fs j) (hcells : cells + 1 ≤ R.cells) (hslots : slots + N ≤ R.slots) (hdg : decode cc pc = .ok (.new index, 3))
    (kk : ∀ (q : Nat) (H1 : Heap), va_P G.1 vwCl (lxF (Bs ++ [[(q, .inr (ci, fs))]])) H1 → va_D A (lxF (Bs ++ [[(q, .inr (ci, fs))]])) → va_S A s.heap H1 locs →
      W p l e R s m args below meth c H1 locs (cells + 1) (slots + N) Q (F0 m (pc + 3) ls (.ref q :: rest))) : W p l e R s m args below meth c H locs cells slots Q (F0 m pc ls rest) := by
  refine va_new hx hb hts hin ty hty hown hcl hinst hini hK.1 hP hD hS hA hc hfs hcells hslots hdg (fun q H1 h1 h2 h3 => ?_)
  rw [lxF_push] at h1 h2
  exact kk q H1 h1 h2 h3
/-- the script -/
theorem lb_slen (hx : p.tables.exec = Jvm.exec) (hb : c.code = cc) (hE : lxE k A s s.heap) (hS : va_S A s.heap H locs) (hdg : decode cc pc = .ok (.arraylength, 1))
    (kk : W p l e R s m args below meth c H locs cells slots Q (F0 m (pc + 1) ls (.int (nI k.2.2.1) :: rest))) : W p l e R s m args below meth c H locs cells slots Q (F0 m pc ls (.ref k.2.1 :: rest)) :=
  va_slen hx hb hE.2.1.1 hE.2.1.lt hE.2.1.2 hS hdg kk
theorem lb_sld (hx : p.tables.exec = Jvm.exec) (hb : c.code = cc) (hE : lxE k A s s.heap) (hS : va_S A s.heap H locs) {i : Int32} (hin : vp_in i k.2.2.1) {v : Int32} (hv : k.2.2.2 i.toNatClampNeg = v) (hdg : decode cc pc = .ok (.iaload, 1))
    (kk : W p l e R s m args below meth c H locs cells slots Q (F0 m (pc + 1) ls (.int v :: rest))) : W p l e R s m args below meth c H locs cells slots Q (F0 m pc ls (.int i :: .ref k.2.1 :: rest)) := by
  subst hv
  exact va_sld hx hb hE.2.1.1 hE.2.1.lt hE.2.1.2 hS hin hdg kk
/-- the same cells, in another order, some left out -/
theorem lb_sub {Cs : lxW} (isC isR : List Nat) (hP : va_P G.1 vwCl (lxF Bs) H) (hD : va_D A (lxF Bs)) (hC : isC.filterMap (fun i => Bs[i]?) = Cs) (hpm : (isC ++ isR).Perm (List.range Bs.length)) : va_P G.1 vwCl (lxF Cs) H ∧ va_D A (lxF Cs) := by
  have pm := lx_perm hC (Rs := isR.filterMap (fun i => Bs[i]?)) rfl hpm
  have hD2 : va_D A (lxF Cs ++ lxF (isR.filterMap (fun i => Bs[i]?))) := lx_Dm hD pm
  refine ⟨lx_Pm hP (fun x hx => pm.mem_iff.mpr (List.mem_append_left _ hx)), ?_⟩
  rw [lx_Dn] at hD2 ⊢
  refine ⟨?_, fun x hx => hD2.2 x (List.mem_append_left _ hx)⟩
  rw [List.map_append] at hD2
  exact (List.nodup_append.mp hD2.1).1
end LBR

