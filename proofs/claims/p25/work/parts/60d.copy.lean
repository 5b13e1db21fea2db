/-! System.arraycopy of an int[][] -/
section LBC
variable {p : Program} {l : Launch} {e : Env} {R : Room} {s : State} {m : MethodId} {args : Array Value} {below : List Frame} {meth : Method} {c : Code} {H : Heap} {locs : List Loc} {cells slots : Nat} {Q : State → Prop}
variable {cc : ByteArray} {pc : Nat} {ls : Array Slot} {rest : List Value} {G : sxG} {k : lxC} {A : Nat → Prop} {a : Nat} {Bs : lxW} {B : va_W} {own : String} {index : Nat}
theorem lb_copyq (hx : p.tables.exec = Jvm.exec) (hb : c.code = cc) (hml : c.maxLocals = ls.size) (hown : s.vm.findClass own = some m.cls) (hlink : (Cond.methodLink own index arraycopyName).before args s = true) (hnat : (Cond.native arraycopyName).before args s = true) (hstat : (Cond.static arraycopyName).before args s = true) (hini : (Cond.initialized "java/lang/System").before args s = true)
    (hK : sxK G s) (hE : lxE k A s s.heap) (hP : va_P G.1 vwCl (lxF Bs) H) (hD : va_D A (lxF Bs)) (hS : va_S A s.heap H locs) (q0 i0 q1 i1 : Nat) {a0 n0 n1 : Nat} {f g : Nat → Option Nat} {B1 : va_W} (hB : Bs[q0]? = some B) (he : B[i0]? = some (a0, lxq k n0 f)) (hB1 : Bs[q1]? = some B1) (he1 : B1[i1]? = some (a, lxq k n1 g))
    {n : Int32} {n' : Nat} (h3 : ¬ n < 0) (hn : n.toNatClampNeg = n') (h4 : n' ≤ n0) (h5 : n' ≤ n1) (hv : ∀ i, i < n' → ∃ (r : Nat) (x : vp_A), f i = some r ∧ ((r, .inl (G.2.1, x)) : Nat × va_E) ∈ lxF Bs)
    (hframes : 1 ≤ R.frames) (hlocals : (rest.map fun v => v.category).sum + (nativeFrameWords "java/lang/System" "arraycopy" 5 + 11) ≤ R.locals) (hdg : decode cc pc = .ok (.invokestatic index, 3))
    (kk : ∀ (H1 : Heap) (locs1 : List Loc), va_P G.1 vwCl (lxF (Bs.set q1 (B1.set i1 (a, lxq k n1 (va_cpy f g 0 0 n'))))) H1 → va_D A (lxF (Bs.set q1 (B1.set i1 (a, lxq k n1 (va_cpy f g 0 0 n'))))) → va_S A s.heap H1 locs1 → W p l e R s m args below meth c H1 locs1 cells slots Q (F0 m (pc + 3) ls rest)) : W p l e R s m args below meth c H locs cells slots Q (F0 m pc ls (.int n :: .int 0 :: .ref a :: .int 0 :: .ref a0 :: rest)) := by
  subst hn
  obtain ⟨j0, hj0, -⟩ := lx_at hB he
  obtain ⟨j1, hj1, hs⟩ := lx_at hB1 he1
  have nn : n.toInt = (n.toNatClampNeg : Int) := by
    have hz0 : (0 : Int) ≤ n.toInt := by
      have := Int32.not_lt.mp h3
      simpa using Int32.le_iff_toInt_le.mp this
    show n.toInt = ((n.toInt.toNat : Nat) : Int)
    omega
  intro T hT X
  have hc0 : H[a0]? = some (arrV k.1 n0 (fun j => va_rf (f j))) := hP j0 _ hj0
  have hc1 : H[a]? = some (arrV k.1 n1 (fun j => va_rf (g j))) := hP j1 _ hj1
  obtain ⟨kA, comp, k1, k2, k3⟩ := hE.2.2.2
  have eI : "[" ++ FieldType.int.toString = "[I" := by decide +kernel
  have hI : s.vm.findClass "[I" = some G.2.1 := by
    have h := (hK.1.2 0 (G.2.1, .int) rfl).2
    rw [← eI]; exact h
  have ec : comp = G.2.1 := Option.some.inj (k3.symm.trans hI)
  subst ec
  obtain ⟨kE, hkE, -⟩ := Vm.findClass_spec hI
  have e0 : (0 : Int32).toNatClampNeg = 0 := by decide
  obtain ⟨vm', X', step⟩ := X.arraycopy hx hown hlink hnat hstat hini (src := a0) (dst := a) (cs := arrV k.1 n0 (fun j => va_rf (f j))) (cd := arrV k.1 n1 (fun j => va_rf (g j))) (srcPos := 0) (destPos := 0) (n := n) (by rw [hT]; exact hc0) (by rw [hT]; exact hc1)
    (fun _ h => by cases h) (fun _ h => by cases h) (fun h => by cases h) (fun h => by cases h) k1 k1 k2 k2 (by decide) (by decide) (by decide) h3
    (by rw [nn, arrV_size, show (0 : Int32).toInt = 0 by decide]; omega)
    (by rw [nn, arrV_size, show (0 : Int32).toInt = 0 by decide]; omega)
    (fun vm₁ hA i hi => by
      obtain ⟨r, x, fr, hm⟩ := hv i hi
      have ev : (arrV k.1 n0 (fun j => va_rf (f j))).slots.getD ((0 : Int32).toNatClampNeg + i) .null = .ref r := by
        rw [Array.getD_eq_getD_getElem?, e0, Nat.zero_add, arrV_read _ _ (by omega), fr]
        rfl
      rw [ev]
      refine ⟨rfl, ?_⟩
      obtain ⟨j2, hj2⟩ := List.getElem?_of_mem hm
      have hr : H[r]? = some (vp_cell G.2.1 x) := hP j2 _ hj2
      have hvm0 : (vp_cell G.2.1 x).vm = .none := by
        obtain ⟨n, f | f | f | f | f⟩ := x <;> rfl
      have hcl0 : (vp_cell G.2.1 x).cls = G.2.1 := by
        obtain ⟨n, f | f | f | f | f⟩ := x <;> rfl
      obtain ⟨kE', hkE', -⟩ := hA.2.2 _ _ hkE
      refine ⟨vp_cell G.2.1 x, ?_, (fun q h => by rw [hvm0] at h; cases h), ⟨kE', (by rw [hcl0]; exact hkE')⟩, ⟨kE', hkE'⟩, (by rw [hcl0]; exact va_asg _ _)⟩
      show T.heap[r]? = _
      rw [hT]; exact hr)
    (g := F0 m pc ls (.int n :: .int 0 :: .ref a :: .int 0 :: .ref a0 :: rest)) rfl (by rw [hml]) (rest := rest) rfl (by rw [hb]; exact hdg) hframes (by show 2 * 0 + _ + _ ≤ _; omega)
  have e1 : copied (arrV k.1 n0 (fun j => va_rf (f j))) (arrV k.1 n1 (fun j => va_rf (g j))) 0 0 n = arrV k.1 n1 (fun j => va_rf (va_cpy f g 0 0 n.toNatClampNeg j)) := va_copied va_rf k.1 k.1 f g (sp := 0) (dp := 0) (by omega)
  rw [e1] at X' step
  have hl : a < H.size := (Array.getElem?_eq_some_iff.mp hc1).1
  have hheap : ((T.setVm vm').setCell a (arrV k.1 n1 (fun j => va_rf (va_cpy f g 0 0 n.toNatClampNeg j)))).heap = H.setIfInBounds a (arrV k.1 n1 (fun j => va_rf (va_cpy f g 0 0 n.toNatClampNeg j))) := by rw [← hT]; rfl
  have oq : ∀ q : Nat, q ≠ a → (H.setIfInBounds a (arrV k.1 n1 (fun j => va_rf (va_cpy f g 0 0 n.toNatClampNeg j))))[q]? = H[q]? := fun q hq => by simp [Array.getElem?_setIfInBounds, Ne.symm hq]
  have g1 := hP.set (e := lxq k n1 (va_cpy f g 0 0 n.toNatClampNeg)) hD hj1 (show (H.setIfInBounds a _)[a]? = some _ by simp [Array.getElem?_setIfInBounds, hl]; rfl) oq
  have g2 := hD.set (e := lxq k n1 (va_cpy f g 0 0 n.toNatClampNeg)) hj1
  rw [hs] at g1 g2
  obtain ⟨t, a1, b1⟩ := kk _ _ g1 g2 ⟨by simp; exact hS.1, fun q g3 g4 => by
      rw [oq q (fun e => g4 (by rw [e]; exact hD.2 j1 _ hj1))]
      exact hS.2.1 q g3 g4, fun q hq => by
      rcases List.mem_append.mp hq with h | h
      · exact hS.2.2 q h
      · obtain ⟨z, -, hz⟩ := List.mem_map.mp h
        rw [← hz]
        exact hD.2 j1 _ hj1⟩ _ hheap X'
  exact ⟨t, step t a1, b1⟩
end LBC
/-! what is known of the class's methods, in the law's form -/
theorem lx_met {l : Launch} {y : MethodName} {wd : List Cond} {rm : Room} {P P' : Array Value → State → Prop} {Qc Q' : Array Value → State → Outcome → State → Prop} {mc ms : Nat} {fr fr' : Addr → Prop} (h : Met l y wd rm P Qc mc ms fr)
    (hp : ∀ a U, P' a U → P a U) (hq : ∀ a U o t, P' a U → Qc a U o t → Q' a U o t) (hf : ∀ q, fr q → fr' q) : Met l y wd rm P' Q' mc ms fr' :=
  MetFree.mono h hp (fun _ _ _ _ _ h => h) (fun a U o t h1 ⟨h2, L, h3, h4⟩ => ⟨hq a U o t h1 h2, L, h3, fun q hq => hf _ (h4 q hq)⟩)
theorem lx_cells {A : Nat → Prop} {ws wc wr : va_W} {sz : Nat} (hp : ws.Perm (wc ++ wr)) : ∀ q, va_A wc sz q → va_A ws sz q := by
  rintro q (⟨j, e, h⟩ | h)
  · obtain ⟨i, hi⟩ := List.getElem?_of_mem (hp.mem_iff.mpr (List.mem_append_left _ (List.mem_of_getElem? h)))
    exact Or.inl ⟨i, e, hi⟩
  · exact Or.inr h
/-- the world of a callee grows by cells that it doesn't know -/
theorem lx_grow {G : sxG} {ws wc wr w1 : va_W} {H H1 : Heap} (hp : ws.Perm (wc ++ wr)) (hP : va_P G.1 vwCl ws H) (hD : va_D (fun _ => True) ws) (hk : ∀ q : Nat, q < H.size → ¬ va_A wc H.size q → H1[q]? = H[q]?) (h1 : va_P G.1 vwCl w1 H1) (h2 : va_D (va_A wc H.size) w1) : va_P G.1 vwCl (w1 ++ wr) H1 ∧ va_D (va_A ws H.size) (w1 ++ wr) := by
  obtain ⟨jsC, jsR, e1, e2, e3, e4, e5⟩ := lx_half wc wr
  have hP2 : va_P G.1 vwCl (wc ++ wr) H := lx_Pm hP (fun x hx => hp.mem_iff.mpr hx)
  have hD2 : va_D (va_A ws H.size) (wc ++ wr) := lx_Dm hD.self hp
  obtain ⟨g1, g2⟩ := va_join hP2 hD2 jsC jsR e1 e3 e4 e5 hk (lx_cells (A := fun _ => True) hp) h1 h2
  exact ⟨lx_Pm g1 (fun x hx => List.perm_append_comm.mem_iff.mp hx), lx_Dm g2 List.perm_append_comm⟩
theorem lx_readM {l : Launch} {y : MethodName} {wd : List Cond} {fr lo : Nat} {G : sxG} {ws wc wr : va_W} {av : List Value} {v : Int32} (k : lxC) (h : sxM l y wd fr lo G wc av (fun r => r = v)) (hp : ws.Perm (wc ++ wr)) : lxM l y wd fr lo 0 0 G k ws av (fun _ : Unit => some (.int v)) (fun _ => ws) := by
  intro sz
  refine lx_met h (fun a U h1 => ?_) (fun a U o t h1 h2 => ?_) (fun q h => h.elim)
  · obtain ⟨h1, h3, h4, h5, h6, h7⟩ := h1
    exact ⟨h1, lx_Pm h4 (fun x hx => hp.mem_iff.mpr (List.mem_append_left _ hx)), h6⟩
  · obtain ⟨h1, h3, h4, h5, h6, h7⟩ := h1
    obtain ⟨r, e1, e2, e3⟩ := h2
    subst e2
    refine ⟨⟨(), e1, ?_, ?_⟩, ?_⟩
    · rw [e3]; exact h4
    · exact h5.self
    · exact ⟨by rw [e3]; exact Nat.le_refl _, fun q _ _ => by rw [e3]⟩
theorem lx_readC {σ : Type} {l : Launch} {y : MethodName} {wd : List Cond} {fr lo : Nat} {G : sxG} {ws ws' wc wr : va_W} {av : List Value} {wOf : σ → va_W} {S : σ × Int32} (k : lxC) (h : sxC l y wd fr lo G wc av wOf S) (hp : ws.Perm (wc ++ wr)) (hp2 : (wOf S.1 ++ wr).Perm ws') : lxM l y wd fr lo 0 0 G k ws av (fun _ : Unit => some (.int S.2)) (fun _ => ws') := by
  intro sz
  refine lx_met (h sz) (fun a U h1 => ?_) (fun a U o t h1 h2 => ?_) (lx_cells (A := fun _ => True) hp)
  · obtain ⟨h1, h3, h4, h5, h6, h7⟩ := h1
    refine ⟨h1, h3, lx_Pm h4 (fun x hx => hp.mem_iff.mpr (List.mem_append_left _ hx)), ?_, h6⟩
    have := lx_Dm h5 hp
    rw [lx_Dn] at this ⊢
    rw [List.map_append] at this
    exact ⟨(List.nodup_append.mp this.1).1, fun _ _ => trivial⟩
  · obtain ⟨h1, h3, h4, h5, h6, h7⟩ := h1
    obtain ⟨⟨r, u, e1, ⟨e2, e3⟩, e4, e5⟩, f1, f2⟩ := h2
    subst e2; subst e3; subst h3
    obtain ⟨g1, g2⟩ := lx_grow hp h4 h5 f2 e4 e5
    exact ⟨⟨(), e1, lx_Pm g1 (fun x hx => hp2.mem_iff.mpr hx), lx_Dm g2 hp2⟩, f1, fun q q1 q2 => f2 q q1 (fun z => q2 (lx_cells (A := fun _ => True) hp q z))⟩
theorem lx_readV {σ : Type} {l : Launch} {y : MethodName} {wd : List Cond} {fr lo : Nat} {G : sxG} {ws ws' wc wr : va_W} {av : List Value} {wOf : σ → va_W} {S : σ} (k : lxC) (h : sxV l y wd fr lo G wc av wOf S) (hp : ws.Perm (wc ++ wr)) (hp2 : (wOf S ++ wr).Perm ws') : lxM l y wd fr lo 0 0 G k ws av (fun _ : Unit => none) (fun _ => ws') := by
  intro sz
  refine lx_met (h sz) (fun a U h1 => ?_) (fun a U o t h1 h2 => ?_) (lx_cells (A := fun _ => True) hp)
  · obtain ⟨h1, h3, h4, h5, h6, h7⟩ := h1
    refine ⟨h1, h3, lx_Pm h4 (fun x hx => hp.mem_iff.mpr (List.mem_append_left _ hx)), ?_, h6⟩
    have := lx_Dm h5 hp
    rw [lx_Dn] at this ⊢
    rw [List.map_append] at this
    exact ⟨(List.nodup_append.mp this.1).1, fun _ _ => trivial⟩
  · obtain ⟨h1, h3, h4, h5, h6, h7⟩ := h1
    obtain ⟨⟨u, e1, e2, e4, e5⟩, f1, f2⟩ := h2
    subst e2; subst h3
    obtain ⟨g1, g2⟩ := lx_grow hp h4 h5 f2 e4 e5
    exact ⟨⟨(), e1, lx_Pm g1 (fun x hx => hp2.mem_iff.mpr hx), lx_Dm g2 hp2⟩, f1, fun q q1 q2 => f2 q q1 (fun z => q2 (lx_cells (A := fun _ => True) hp q z))⟩
theorem lx_readI {σ : Type} {l : Launch} {y : MethodName} {wd : List Cond} {fr lo mc ms : Nat} {G : sxG} {ws : va_W} {av : List Value} {wOf : σ → va_W} (k : lxC) (h : sxI l y wd fr lo mc ms G ws av wOf) : lxM l y wd fr lo mc ms G k ws av (fun _ : σ => none) wOf := by
  intro sz
  refine lx_met (h sz) (fun a U h1 => ?_) (fun a U o t h1 h2 => ?_) (fun q h => h)
  · obtain ⟨h1, h3, h4, h5, h6, h7⟩ := h1
    exact ⟨h1, h3, h4, h5, h6⟩
  · obtain ⟨⟨u, e1, -, e4, e5⟩, f⟩ := h2
    exact ⟨⟨u, e1, e4, e5⟩, f⟩
/-- another account of what is behind -/
theorem lx_as {σ τ : Type} {l : Launch} {y : MethodName} {wd : List Cond} {fr lo mc ms : Nat} {G : sxG} {k : lxC} {ws : va_W} {av : List Value} {rv : σ → Option Value} {wOf : σ → va_W} {rv' : τ → Option Value} {wOf' : τ → va_W} (h : lxM l y wd fr lo mc ms G k ws av rv wOf) (hc : ∀ u : σ, ∃ v : τ, rv u = rv' v ∧ (wOf u).Perm (wOf' v)) : lxM l y wd fr lo mc ms G k ws av rv' wOf' := by
  intro sz
  refine lx_met (h sz) (fun a U h1 => h1) (fun a U o t h1 h2 => ?_) (fun q h => h)
  obtain ⟨⟨u, e1, e4, e5⟩, f⟩ := h2
  obtain ⟨v, c1, c2⟩ := hc u
  exact ⟨⟨v, by rw [e1, c1], lx_Pm e4 (fun x hx => c2.mem_iff.mpr hx), lx_Dm e5 c2⟩, f⟩
