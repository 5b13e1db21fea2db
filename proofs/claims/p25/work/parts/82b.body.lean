set_option maxHeartbeats 8000000 in
set_option maxRecDepth 100000 in
theorem lw_body {p : Program} {e : Env} {s : State} {m : MethodId} {below : List Frame} {meth : Method} {c : Code} (l : Launch) {A : Nat → Prop} (hAe : A = lwS s) {G : sxG} {k : lxC} {b : Nat} (hk : k.2.2.1 ≤ 260) (hx : p.tables.exec = Jvm.exec) (hb : c.code = cL_law) (hr : meth.sig.returnType = ret) (hml : c.maxLocals = 9) (hown : s.vm.findClass RL = some m.cls) (hlk : meth.locks = false) (hts : ∀ w ∈ Cond.initialized RX9 :: bwC, w.before #[Value.ref b] s = true) (hK : sxK G s) (hE : lxE k A s s.heap) (ls : Array Slot) (hl : lv_has ls 9 [(0, .ref k.2.1)]) : W p l e room_1 s m #[Value.ref b] below meth c s.heap [] 0 0 (lw_Z below #[Value.ref b] s) (F0 m 0 ls []) := by
  have hA : ∀ q : Nat, s.heap.size ≤ q → A q := fun q h => by rw [hAe]; exact h
  have hP : va_P G.1 vwCl (lxF []) s.heap := ((fun j x hx => (by cases hx)) : va_P G.1 vwCl [] s.heap)
  have hD : va_D A (lxF []) := (⟨fun i j p q h => (by cases h), fun j q h => (by cases h)⟩ : va_D A [])
  have hS : va_S A s.heap s.heap [] := va_S.rf
  refine lb_new (C := RX9) (T := TX9) (N := 7) (ci := 9) (fs := [.null, .null, .null, .null, .null, .null, .int 0]) hx hb hts owX9 tyX9 tyX9_ok hown (bw14 (w := Cond.classLink RL 24 RX9) hts 36 rfl) (bw14 (w := Cond.instantiable RX9 7) hts 37 rfl) (bw1 (w := Cond.initialized RX9) hts 58 rfl) hK hP hD hS hA rfl (by decide) (by show _ ≤ 600104; omega) (by show _ ≤ 7301314; omega) dL_law_0 (fun a1_ H hP hD hS => ?_)
  have hP : va_P G.1 vwCl (lxF [[(a1_, .inr (9, [.null, .null, .null, .null, .null, .null, .int 0]))]]) H := hP
  have hD : va_D A (lxF [[(a1_, .inr (9, [.null, .null, .null, .null, .null, .null, .int 0]))]]) := hD
  refine lv_dup hx hb dL_law_3 rfl ?_
  refine ly_i (As := []) (rest := [.ref a1_]) hx hb hml hown hts (t_X9_init l G k a1_) 0 (sxGC (bi10 (w := Cond.code yX9_init cX9_init 1 none) 5 rfl)) rfl (bw1 (w := Cond.initialized RX9) hts 58 rfl) (bw14 (w := Cond.methodLink RL 82 yX9_init) hts 40 rfl) (bw14 (w := Cond.instanceMethod yX9_init) hts 41 rfl) rfl (by decide +kernel) ⟨Nat.le_of_ble_eq_true rfl, Nat.le_of_ble_eq_true rfl⟩ hK hP hD hS hA hE [0] [] rfl rfl (by show List.Perm _ (List.range 1); decide) rfl hl rfl (Nat.le_of_ble_eq_true rfl) ⟨by show _ ≤ 600104; omega, by show _ ≤ 7301314; omega⟩ dL_law_4 (fun B1 v1 hp1 H locs hP hD hS => ?_)
  obtain ⟨q, M0, hq0, rfl, rfl, hM0, hr0⟩ := hp1
  show W p l e _ s m #[Value.ref b] below meth c H locs _ _ _ (F0 m 7 ls [.ref a1_])
  have hP : va_P G.1 vwCl (lxF [mlW G q M0]) H := hP
  have hD : va_D A (lxF [mlW G q M0]) := hD
  subst hq0
  refine lv_astore_n (lv' := [(1, .ref (q 0)), (0, .ref k.2.1)]) hx hb dL_law_7 rfl hl (by decide) rfl (fun ls hl => ?_)
  refine lb_new (C := RX10) (T := TX10) (N := 3) (ci := 10) (fs := [.null, .null, .null]) hx hb hts owX10 tyX10 tyX10_ok hown (bw14 (w := Cond.classLink RL 10 RX10) hts 38 rfl) (bw14 (w := Cond.instantiable RX10 3) hts 39 rfl) (bw13 (w := Cond.initialized RX10) hts 21 rfl) hK hP hD hS hA rfl (by decide) (by show _ ≤ 600104; omega) (by show _ ≤ 7301314; omega) dL_law_8 (fun a2_ H hP hD hS => ?_)
  have hP : va_P G.1 vwCl (lxF [mlW G q M0, [(a2_, .inr (10, [.null, .null, .null]))]]) H := hP
  have hD : va_D A (lxF [mlW G q M0, [(a2_, .inr (10, [.null, .null, .null]))]]) := hD
  refine lv_dup hx hb dL_law_11 rfl ?_
  refine ly_in (As := []) (rest := [.ref a2_]) hx hb hml hown hts (t_X10_init l G k a2_) 0 (sxGC (bi13 (w := Cond.code yX10_init cX10_init 1 none) 8 rfl)) rfl (bw13 (w := Cond.initialized RX10) hts 21 rfl) hE.1.1 (bw14 (w := Cond.instanceMethod yX10_init) hts 42 rfl) rfl (by decide +kernel) ⟨Nat.le_of_ble_eq_true rfl, Nat.le_of_ble_eq_true rfl⟩ hK hP hD hS hA hE [1] [0] rfl rfl (by show List.Perm _ (List.range 2); decide) rfl hl rfl (Nat.le_of_ble_eq_true rfl) ⟨by show _ ≤ 600104; omega, by show _ ≤ 7301314; omega⟩ dL_law_12 (fun B1 v1 hp1 H locs hP hD hS => ?_)
  obtain ⟨ok0, ol0, on0, rfl, rfl⟩ := hp1
  show W p l e _ s m #[Value.ref b] below meth c H locs _ _ _ (F0 m 15 ls [.ref a2_])
  have hP : va_P G.1 vwCl (lxF [[(a2_, .inr (10, [.ref ok0, .ref ol0, .ref on0]))], [(ok0, .inl (G.2.1, 0, .inl (fun _ => 0)))], [(ol0, lxq k 0 (fun _ => none))], [(on0, lxq k 0 (fun _ => none))], mlW G q M0]) H := hP
  have hD : va_D A (lxF [[(a2_, .inr (10, [.ref ok0, .ref ol0, .ref on0]))], [(ok0, .inl (G.2.1, 0, .inl (fun _ => 0)))], [(ol0, lxq k 0 (fun _ => none))], [(on0, lxq k 0 (fun _ => none))], mlW G q M0]) := hD
  obtain ⟨hP, hD⟩ := lb_sub (Cs := [mlW G q M0, [(a2_, .inr (10, [.ref ok0, .ref ol0, .ref on0]))], [(ok0, .inl (G.2.1, 0, .inl (fun _ => 0)))], [(ol0, lxq k 0 (fun _ => none))], [(on0, lxq k 0 (fun _ => none))]]) [4, 0, 1, 2, 3] [] hP hD rfl (by show List.Perm _ (List.range 5); decide)
  obtain ⟨hP, hD⟩ := lb_sub (Cs := [mlW G q M0, [(a2_, .inr (10, [.ref ok0, .ref ol0, .ref on0]))], [(ol0, lxq k 0 (fun _ => none))]]) [0, 1, 3] [2, 4] hP hD rfl (by show List.Perm _ (List.range 5); decide)
  have hP : va_P G.1 vwCl (lxF [mlW G q M0, [(a2_, .inr (10, [.ref ok0, .ref ol0, .ref on0]))], [(ol0, lxq k 0 (fun _ => none))]]) H := hP
  have hD : va_D A (lxF [mlW G q M0, [(a2_, .inr (10, [.ref ok0, .ref ol0, .ref on0]))], [(ol0, lxq k 0 (fun _ => none))]]) := hD
  refine lv_astore_n (lv' := [(2, .ref a2_), (1, .ref (q 0)), (0, .ref k.2.1)]) hx hb dL_law_15 rfl hl (by decide) rfl (fun ls hl => ?_)
  refine lv_aload_n hx hb dL_law_16 rfl (lv_at hl 1 rfl) ?_
  refine lv_aload_n hx hb dL_law_17 rfl (lv_at hl 0 rfl) ?_
  refine lv_aload_n hx hb dL_law_18 rfl (lv_at hl 2 rfl) ?_
  refine lv_aload_n hx hb dL_law_19 rfl (lv_at hl 2 rfl) ?_
  refine lv_bipush (v := 15) hx hb dL_law_20 (by decide) ?_
  refine ly_s (As := [.ref k.2.1, .int 15]) (rest := [.ref k.2.1, .ref a2_, .ref (q 0)]) hx hb hml hown hts (t_L_cell l G k 15 (by omega) hk) 2 (sxGS (bi13 (w := Cond.methodLink RL 57 yL_cell) 59 rfl) (bi14 (w := Cond.static yL_cell) 0 rfl) (bi13 (w := Cond.initialized RL) 44 rfl) (bi13 (w := Cond.code yL_cell cL_cell 2 (some .int)) 29 rfl)) rfl (by decide +kernel) ⟨Nat.le_of_ble_eq_true rfl, Nat.le_of_ble_eq_true rfl⟩ hK hP hD hS hA hE [] [0, 1, 2] rfl rfl (by show List.Perm _ (List.range 3); decide) rfl hl rfl (Nat.le_of_ble_eq_true rfl) ⟨by show _ ≤ 600104; omega, by show _ ≤ 7301314; omega⟩ dL_law_22 (fun B1 v1 hp1 H locs hP hD hS => ?_)
  obtain ⟨rfl, x3_, rfl⟩ := hp1
  show W p l e _ s m #[Value.ref b] below meth c H locs _ _ _ (F0 m 25 ls [.int x3_, .ref k.2.1, .ref a2_, .ref (q 0)])
  have hP : va_P G.1 vwCl (lxF [mlW G q M0, [(a2_, .inr (10, [.ref ok0, .ref ol0, .ref on0]))], [(ol0, lxq k 0 (fun _ => none))]]) H := hP
  have hD : va_D A (lxF [mlW G q M0, [(a2_, .inr (10, [.ref ok0, .ref ol0, .ref on0]))], [(ol0, lxq k 0 (fun _ => none))]]) := hD
  refine lv_bipush (v := 12) hx hb dL_law_25 (by decide) ?_
  refine ly_s (As := [.int x3_, .int 12]) (rest := [.ref k.2.1, .ref a2_, .ref (q 0)]) hx hb hml hown hts (t_L_below l G k x3_ 12 (by decide) (by decide)) 2 (sxGS (bi13 (w := Cond.methodLink RL 29 yL_below) 42 rfl) (bi13 (w := Cond.static yL_below) 43 rfl) (bi13 (w := Cond.initialized RL) 44 rfl) (bi13 (w := Cond.code yL_below cL_below 2 (some .int)) 27 rfl)) rfl (by decide +kernel) ⟨Nat.le_of_ble_eq_true rfl, Nat.le_of_ble_eq_true rfl⟩ hK hP hD hS hA hE [] [0, 1, 2] rfl rfl (by show List.Perm _ (List.range 3); decide) rfl hl rfl (Nat.le_of_ble_eq_true rfl) ⟨by show _ ≤ 600104; omega, by show _ ≤ 7301314; omega⟩ dL_law_27 (fun B1 v1 hp1 H locs hP hD hS => ?_)
  obtain ⟨rfl, rfl⟩ := hp1
  have hb12 := lbl_lt x3_ (n := 12) (by decide)
  show W p l e _ s m #[Value.ref b] below meth c H locs _ _ _ (F0 m 30 ls [.int (nI (lbl x3_ 12)), .ref k.2.1, .ref a2_, .ref (q 0)])
  have hP : va_P G.1 vwCl (lxF [mlW G q M0, [(a2_, .inr (10, [.ref ok0, .ref ol0, .ref on0]))], [(ol0, lxq k 0 (fun _ => none))]]) H := hP
  have hD : va_D A (lxF [mlW G q M0, [(a2_, .inr (10, [.ref ok0, .ref ol0, .ref on0]))], [(ol0, lxq k 0 (fun _ => none))]]) := hD
  refine ly_s (As := [.ref (q 0), .ref a2_, .ref k.2.1, .int (nI (lbl x3_ 12))]) (rest := []) hx hb hml hown hts (t_L_write l G k q a2_ ok0 ol0 on0 M0 (lbl x3_ 12) hM0 hr0 (by omega) hk) 4 (sxGS (bi14 (w := Cond.methodLink RL 84 yL_write) 43 rfl) (bi14 (w := Cond.static yL_write) 44 rfl) (bi13 (w := Cond.initialized RL) 44 rfl) (bi14 (w := Cond.code yL_write cL_write 9 (some .boolean)) 5 rfl)) rfl (by decide +kernel) ⟨Nat.le_of_ble_eq_true rfl, Nat.le_of_ble_eq_true rfl⟩ hK hP hD hS hA hE [0, 1, 2] [] rfl rfl (by show List.Perm _ (List.range 3); decide) rfl hl rfl (Nat.le_of_ble_eq_true rfl) ⟨by show _ ≤ 600104; omega, by show _ ≤ 7301314; omega⟩ dL_law_30 (fun B1 v1 hp1 H locs hP hD hS => ?_)
  obtain ⟨rfl, M1, ok, ol, n, rr, r, fk, fs, fa, fb, rfl, hKz, hI, hG⟩ := hp1
  show W p l e _ s m #[Value.ref b] below meth c H locs _ _ _ (F0 m 33 ls [.int 1])
  have hP : va_P G.1 vwCl (lxF [mlW G q M1, [(a2_, .inr (10, [.ref ok, .ref ol, .ref on0]))], [(ok, .inl (G.2.1, 8, .inl fk))], [(ol, lxq k n rr)], lrB G r fs fa fb n]) H := hP
  have hD : va_D A (lxF [mlW G q M1, [(a2_, .inr (10, [.ref ok, .ref ol, .ref on0]))], [(ok, .inl (G.2.1, 8, .inl fk))], [(ol, lxq k n rr)], lrB G r fs fa fb n]) := hD
  refine lv_if_eq (tgt := 44) hx hb dL_law_33 (by decide) (fun c1 => absurd c1 (by decide)) (fun c1 => ?_)
  refine lv_aload_n hx hb dL_law_36 rfl (lv_at hl 1 rfl) ?_
  refine lv_aload_n hx hb dL_law_37 rfl (lv_at hl 0 rfl) ?_
  refine ly_s (As := [.ref (q 0), .ref a2_]) (rest := []) hx hb hml hown hts (t_L_mend l G k q a2_ ok ol on0 n rr r fk fs fa fb M1 0 hI hG) 2 (sxGS (bi14 (w := Cond.methodLink RL 88 yL_mend) 45 rfl) (bi14 (w := Cond.static yL_mend) 46 rfl) (bi13 (w := Cond.initialized RL) 44 rfl) (bi14 (w := Cond.code yL_mend cL_mend 6 (some .boolean)) 14 rfl)) rfl (by decide +kernel) ⟨Nat.le_of_ble_eq_true rfl, Nat.le_of_ble_eq_true rfl⟩ hK hP hD hS hA hE [0, 1, 3, 4] [2] rfl rfl (by show List.Perm _ (List.range 5); decide) rfl hl rfl (Nat.le_of_ble_eq_true rfl) ⟨by show _ ≤ 600104; omega, by show _ ≤ 7301314; omega⟩ dL_law_38 (fun B1 v1 hp1 H locs hP hD hS => ?_)
  obtain ⟨rfl, M2, rr, r, fs, fa, fb, na, nf, nr, nl, nc, rfl, hI, hG, hz, hnf, hF⟩ := hp1
  show W p l e _ s m #[Value.ref b] below meth c H locs _ _ _ (F0 m 41 ls [.int 1])
  have hP : va_P G.1 vwCl (lxF [mlW G q M2, [(a2_, .inr (10, [.ref ok, .ref ol, .ref na]))], [(ol, lxq k n rr)], lrB G r fs fa fb n, [(na, lxq k (n + 1) nf)], nxB G nr nl nc (n + 1), [(ok, .inl (G.2.1, 8, .inl fk))]]) H := hP
  have hD : va_D A (lxF [mlW G q M2, [(a2_, .inr (10, [.ref ok, .ref ol, .ref na]))], [(ol, lxq k n rr)], lrB G r fs fa fb n, [(na, lxq k (n + 1) nf)], nxB G nr nl nc (n + 1), [(ok, .inl (G.2.1, 8, .inl fk))]]) := hD
  obtain ⟨hP, hD⟩ := lb_sub (Cs := [mlW G q M2, [(a2_, .inr (10, [.ref ok, .ref ol, .ref na]))], [(ok, .inl (G.2.1, 8, .inl fk))], [(ol, lxq k n rr)], lrB G r fs fa fb n, [(na, lxq k (n + 1) nf)], nxB G nr nl nc (n + 1)]) [0, 1, 6, 2, 3, 4, 5] [] hP hD rfl (by show List.Perm _ (List.range 7); decide)
  refine lv_if_ne (tgt := 46) hx hb dL_law_41 (by decide) (fun c2 => ?_) (fun c2 => absurd c2 (by decide))
  refine lv_iconst (v := 0) hx hb dL_law_46 (by decide) ?_
  refine lv_istore_n (lv' := [(3, .int 0), (2, .ref a2_), (1, .ref (q 0)), (0, .ref k.2.1)]) hx hb dL_law_47 rfl hl (by decide) rfl (fun ls hl => ?_)
  have LP48_3 : ∀ (kk3 : Nat) (i : Nat) (t : Nat) (M : mlS) (fb : Nat → Int32), 3 - i < kk3 → (i ≤ 3) → (t ≤ 2 * i) → (lsI fk n rr r fs fa fb M (nI t)) → (qz_G n fk fs fa fb) → (qk_fc M.2.1 = 0) → ∀ cells slots : Nat, cells ≤ 423 + 32 * i → slots ≤ 10116 + 64 * i → ∀ (H : Heap) (locs : List Loc), va_P G.1 vwCl (lxF [mlW G q M, [(a2_, .inr (10, [.ref ok, .ref ol, .ref na]))], [(ok, .inl (G.2.1, 8, .inl fk))], [(ol, lxq k n rr)], lrB G r fs fa fb n, [(na, lxq k (n + 1) nf)], nxB G nr nl nc (n + 1)]) H → va_D A (lxF [mlW G q M, [(a2_, .inr (10, [.ref ok, .ref ol, .ref na]))], [(ok, .inl (G.2.1, 8, .inl fk))], [(ol, lxq k n rr)], lrB G r fs fa fb n, [(na, lxq k (n + 1) nf)], nxB G nr nl nc (n + 1)]) → va_S A s.heap H locs → ∀ ls : Array Slot, lv_has ls 9 [(0, .ref k.2.1), (1, .ref (q 0)), (2, .ref a2_), (3, .int (nI i))] → W p l e room_1 s m #[Value.ref b] below meth c H locs cells slots (lw_Z below #[Value.ref b] s) (F0 m 48 ls []) := by
    intro kk3
    induction kk3 with
    | zero =>
      intro i t M fb hm
      exact absurd hm (Nat.not_lt_zero _)
    | succ kk3 ih3 =>
      intro i t M fb hm3 hi ht hI hG hz cells slots hcc3 hss3 H locs hP hD hS ls hl
      refine lv_iload_n hx hb dL_law_48 rfl (lv_at hl 3 rfl) ?_
      refine lv_iconst (v := 3) hx hb dL_law_49 (by decide) ?_
      refine lv_icmp_ge (tgt := 216) hx hb dL_law_50 (by decide) (fun c4 => ?_) (fun c4 => ?_)
      · have nc4 := (nI_leI (a := 3) (b := i) (by omega) (by omega)).mp c4
        obtain ⟨hrr, hM, hP4, hrn⟩ := id hI
        have hn := hP4.2.1
        have hn1 : 1 ≤ n := hG.2.1
        have hql := hP4.2.2.2
        have hKK := qz_KK hG.1
        obtain ⟨hw, hwr, hbd⟩ := ml_good hM.2.1 hz
        refine lv_aload_n hx hb dL_law_216 rfl (lv_at hl 1 rfl) ?_
        refine ly_v (As := []) (rest := []) hx hb hml hown hts (m_digest (l := l) (G := G) (k := k) (q := q) (M := M) hM hP4 hKK hn1) 0 (sxGV (bi14 (w := Cond.methodLink RL 108 yX9_digest) 57 rfl) (bi14 (w := Cond.instanceMethod yX9_digest) 58 rfl) (bi14 (w := Cond.selects RX9 yX9_digest yX9_digest) 59 rfl) (bi1 (w := Cond.initialized RX9) 58 rfl) (bi13 (w := Cond.code yX9_digest cX9_digest 5 (some .long)) 7 rfl)) rfl (by decide +kernel) ⟨Nat.le_of_ble_eq_true rfl, Nat.le_of_ble_eq_true rfl⟩ hK hP hD hS hA hE [0] [1, 2, 3, 4, 5, 6] rfl rfl (by show List.Perm _ (List.range 7); decide) 0 0 rfl rfl rfl rfl hl rfl (Nat.le_of_ble_eq_true rfl) ⟨by show _ ≤ 600104; omega, by show _ ≤ 7301314; omega⟩ dL_law_217 (fun B1 v1 hp1 H locs hP hD hS => ?_)
        obtain ⟨M6, rfl, rfl, hM6, eT6, eY6, eR6⟩ := hp1
        show W p l e _ s m #[Value.ref b] below meth c H locs _ _ _ (F0 m 220 ls [.long (dgD M.2.1 M.2.2.1 M.2.2.2.1 n fk fs fa fb)])
        have hP : va_P G.1 vwCl (lxF [mlW G q M6, [(a2_, .inr (10, [.ref ok, .ref ol, .ref na]))], [(ok, .inl (G.2.1, 8, .inl fk))], [(ol, lxq k n rr)], lrB G r fs fa fb n, [(na, lxq k (n + 1) nf)], nxB G nr nl nc (n + 1)]) H := hP
        have hD : va_D A (lxF [mlW G q M6, [(a2_, .inr (10, [.ref ok, .ref ol, .ref na]))], [(ok, .inl (G.2.1, 8, .inl fk))], [(ol, lxq k n rr)], lrB G r fs fa fb n, [(na, lxq k (n + 1) nf)], nxB G nr nl nc (n + 1)]) := hD
        refine lv_lstore_n (lv' := [(3, .long (dgD M.2.1 M.2.2.1 M.2.2.2.1 n fk fs fa fb)), (0, .ref k.2.1), (1, .ref (q 0)), (2, .ref a2_)]) hx hb dL_law_220 rfl hl (by decide) rfl (fun ls hl => ?_)
        refine lv_aload_n hx hb dL_law_221 rfl (lv_at hl 2 rfl) ?_
        refine lv_iconst (v := 0) hx hb dL_law_222 (by decide) ?_
        refine ly_v (As := [.int 0]) (rest := []) hx hb hml hown hts (m_leakedBy (l := l) (G := G) (k := k) (q := q) (M := M6) (L := 0) hM6 hP4 hKK (by omega)) 1 (sxGV (bi15 (w := Cond.methodLink RL 112 yX9_leakedBy) 0 rfl) (bi13 (w := Cond.instanceMethod yX9_leakedBy) 5 rfl) (bi13 (w := Cond.selects RX9 yX9_leakedBy yX9_leakedBy) 6 rfl) (bi1 (w := Cond.initialized RX9) 58 rfl) (bi12 (w := Cond.code yX9_leakedBy cX9_leakedBy 2 (some .int)) 10 rfl)) rfl (by decide +kernel) ⟨Nat.le_of_ble_eq_true rfl, Nat.le_of_ble_eq_true rfl⟩ hK hP hD hS hA hE [0] [1, 2, 3, 4, 5, 6] rfl rfl (by show List.Perm _ (List.range 7); decide) 0 0 rfl rfl rfl rfl hl rfl (Nat.le_of_ble_eq_true rfl) ⟨by show _ ≤ 600104; omega, by show _ ≤ 7301314; omega⟩ dL_law_223 (fun B1 v1 hp1 H locs hP hD hS => ?_)
        obtain ⟨M7, rfl, rfl, hlq, e7, hM7, eT7, eY7, eR7⟩ := hp1
        rw [lk_zero hG hlq]
        show W p l e _ s m #[Value.ref b] below meth c H locs _ _ _ (F0 m 226 ls [.int 0])
        have hP : va_P G.1 vwCl (lxF [mlW G q M7, [(a2_, .inr (10, [.ref ok, .ref ol, .ref na]))], [(ok, .inl (G.2.1, 8, .inl fk))], [(ol, lxq k n rr)], lrB G r fs fa fb n, [(na, lxq k (n + 1) nf)], nxB G nr nl nc (n + 1)]) H := hP
        have hD : va_D A (lxF [mlW G q M7, [(a2_, .inr (10, [.ref ok, .ref ol, .ref na]))], [(ok, .inl (G.2.1, 8, .inl fk))], [(ol, lxq k n rr)], lrB G r fs fa fb n, [(na, lxq k (n + 1) nf)], nxB G nr nl nc (n + 1)]) := hD
        refine lv_if_ne (tgt := 254) hx hb dL_law_226 (by decide) (fun c5 => absurd c5 (by decide)) (fun c5 => ?_)
        refine lv_aload_n hx hb dL_law_229 rfl (lv_at hl 2 rfl) ?_
        refine lv_aload_n hx hb dL_law_230 rfl (lv_at hl 3 rfl) ?_
        refine lb_get (ci := 10) (v := .ref ol) (C := RX10) (T := TX10) (N := 3) hx hb hts owX10 hown hK hP 1 0 rfl rfl rfl 1 (by decide) (bw13 (w := Cond.fieldLink RL 9 "DropflagMillLaw$Own" "lines" "[[I") hts 31 rfl) (fun _ h9 => h9) rfl dL_law_231 ?_
        refine lb_alenq (v := nI n) hx hb hK hE hP 3 0 rfl rfl rfl dL_law_234 ?_
        refine lv_iconst (v := 1) hx hb dL_law_235 (by decide) ?_
        refine lv_isub hx hb dL_law_236 ?_
        rw [show ((nI n) - 1 : Int32) = nI (n - 1) from pk_sub (b := 1) (by omega)]
        refine ly_v (As := [.int (nI (n - 1))]) (rest := []) hx hb hml hown hts (m_faultsWithout (l := l) (G := G) (k := k) (q := q) (M := M7) (L := n - 1) hM7 hP4 (by omega)) 1 (sxGV (bi15 (w := Cond.methodLink RL 115 yX9_faultsWithout) 1 rfl) (bi12 (w := Cond.instanceMethod yX9_faultsWithout) 30 rfl) (bi12 (w := Cond.selects RX9 yX9_faultsWithout yX9_faultsWithout) 31 rfl) (bi1 (w := Cond.initialized RX9) 58 rfl) (bi12 (w := Cond.code yX9_faultsWithout cX9_faultsWithout 2 (some .int)) 3 rfl)) rfl (by decide +kernel) ⟨Nat.le_of_ble_eq_true rfl, Nat.le_of_ble_eq_true rfl⟩ hK hP hD hS hA hE [0] [1, 2, 3, 4, 5, 6] rfl rfl (by show List.Perm _ (List.range 7); decide) 0 0 rfl rfl rfl rfl hl rfl (Nat.le_of_ble_eq_true rfl) ⟨by show _ ≤ 600104; omega, by show _ ≤ 7301314; omega⟩ dL_law_237 (fun B1 v1 hp1 H locs hP hD hS => ?_)
        obtain ⟨M8, rfl, rfl, hfw, e8, hM8, eT8, eY8, eR8⟩ := hp1
        show W p l e _ s m #[Value.ref b] below meth c H locs _ _ _ (F0 m 240 ls [.int (nI (fwN fk n fs fa fb (n - 1)))])
        have hP : va_P G.1 vwCl (lxF [mlW G q M8, [(a2_, .inr (10, [.ref ok, .ref ol, .ref na]))], [(ok, .inl (G.2.1, 8, .inl fk))], [(ol, lxq k n rr)], lrB G r fs fa fb n, [(na, lxq k (n + 1) nf)], nxB G nr nl nc (n + 1)]) H := hP
        have hD : va_D A (lxF [mlW G q M8, [(a2_, .inr (10, [.ref ok, .ref ol, .ref na]))], [(ok, .inl (G.2.1, 8, .inl fk))], [(ol, lxq k n rr)], lrB G r fs fa fb n, [(na, lxq k (n + 1) nf)], nxB G nr nl nc (n + 1)]) := hD
        refine lv_if_lt (tgt := 254) hx hb dL_law_240 (by decide) (fun c6 => False.elim (by have nc6 := (nI_ltI (a := (fwN fk n fs fa fb (n - 1))) (b := 0) (by omega) (by omega)).mp c6; omega)) (fun c6 => ?_)
        have nc6 := (not_congr (nI_ltI (a := (fwN fk n fs fa fb (n - 1))) (b := 0) (by omega) (by omega))).mp c6
        refine lv_aload_n hx hb dL_law_243 rfl (lv_at hl 2 rfl) ?_
        refine lv_iconst (v := 0) hx hb dL_law_244 (by decide) ?_
        refine lv_bipush (v := 6) hx hb dL_law_245 (by decide) ?_
        refine ly_v (As := [.int 0, .int 6]) (rest := []) hx hb hml hown hts (m_couldDrop (l := l) (G := G) (k := k) (q := q) (M := M8) (L := 0) (p := 6) hM8 hP4 hw (Nat.zero_le _) (by omega) (Or.inl (lk_all hG.1).2.2.1)) 2 (sxGV (bi14 (w := Cond.methodLink RL 118 yX9_couldDrop) 31 rfl) (bi14 (w := Cond.instanceMethod yX9_couldDrop) 32 rfl) (bi14 (w := Cond.selects RX9 yX9_couldDrop yX9_couldDrop) 33 rfl) (bi1 (w := Cond.initialized RX9) 58 rfl) (bi12 (w := Cond.code yX9_couldDrop cX9_couldDrop 3 (some .int)) 9 rfl)) rfl (by decide +kernel) ⟨Nat.le_of_ble_eq_true rfl, Nat.le_of_ble_eq_true rfl⟩ hK hP hD hS hA hE [0] [1, 2, 3, 4, 5, 6] rfl rfl (by show List.Perm _ (List.range 7); decide) 0 0 rfl rfl rfl rfl hl rfl (Nat.le_of_ble_eq_true rfl) ⟨by show _ ≤ 600104; omega, by show _ ≤ 7301314; omega⟩ dL_law_247 (fun B1 v1 hp1 H locs hP hD hS => ?_)
        obtain ⟨M9, T1, gs, ga, gb, rfl, rfl, hM9, eT9, eY9, eR9, hL9, hins⟩ := hp1
        obtain ⟨hw9, h79, ha9⟩ := cz_ins hn hw hins
        rw [cz_one hKK hL9 hw9 (by omega) (by omega) h79 ha9 (lk_all hG.1).2.2.1]
        show W p l e _ s m #[Value.ref b] below meth c H locs _ _ _ (F0 m 250 ls [.int 1])
        have hP : va_P G.1 vwCl (lxF [mlW G q M9, [(a2_, .inr (10, [.ref ok, .ref ol, .ref na]))], [(ok, .inl (G.2.1, 8, .inl fk))], [(ol, lxq k n rr)], lrB G r fs fa fb n, [(na, lxq k (n + 1) nf)], nxB G nr nl nc (n + 1)]) H := hP
        have hD : va_D A (lxF [mlW G q M9, [(a2_, .inr (10, [.ref ok, .ref ol, .ref na]))], [(ok, .inl (G.2.1, 8, .inl fk))], [(ol, lxq k n rr)], lrB G r fs fa fb n, [(na, lxq k (n + 1) nf)], nxB G nr nl nc (n + 1)]) := hD
        refine lv_iconst (v := 1) hx hb dL_law_250 (by decide) ?_
        refine lv_icmp_eq (tgt := 256) hx hb dL_law_251 (by decide) (fun c7 => ?_) (fun c7 => absurd c7 (by decide))
        refine lv_aload_n hx hb dL_law_256 rfl (lv_at hl 2 rfl) ?_
        refine ly_v (As := []) (rest := []) hx hb hml hown hts (m_digest (l := l) (G := G) (k := k) (q := q) (M := M9) hM9 hP4 hKK hn1) 0 (sxGV (bi14 (w := Cond.methodLink RL 108 yX9_digest) 57 rfl) (bi14 (w := Cond.instanceMethod yX9_digest) 58 rfl) (bi14 (w := Cond.selects RX9 yX9_digest yX9_digest) 59 rfl) (bi1 (w := Cond.initialized RX9) 58 rfl) (bi13 (w := Cond.code yX9_digest cX9_digest 5 (some .long)) 7 rfl)) rfl (by decide +kernel) ⟨Nat.le_of_ble_eq_true rfl, Nat.le_of_ble_eq_true rfl⟩ hK hP hD hS hA hE [0] [1, 2, 3, 4, 5, 6] rfl rfl (by show List.Perm _ (List.range 7); decide) 0 0 rfl rfl rfl rfl hl rfl (Nat.le_of_ble_eq_true rfl) ⟨by show _ ≤ 600104; omega, by show _ ≤ 7301314; omega⟩ dL_law_257 (fun B1 v1 hp1 H locs hP hD hS => ?_)
        obtain ⟨M10, rfl, rfl, hM10, eT10, eY10, eR10⟩ := hp1
        rw [eT9, eT8, eT7, eT6, eY9, eY8, eY7, eY6, eR9, eR8, eR7, eR6]
        show W p l e _ s m #[Value.ref b] below meth c H locs _ _ _ (F0 m 260 ls [.long (dgD M.2.1 M.2.2.1 M.2.2.2.1 n fk fs fa fb)])
        have hP : va_P G.1 vwCl (lxF [mlW G q M10, [(a2_, .inr (10, [.ref ok, .ref ol, .ref na]))], [(ok, .inl (G.2.1, 8, .inl fk))], [(ol, lxq k n rr)], lrB G r fs fa fb n, [(na, lxq k (n + 1) nf)], nxB G nr nl nc (n + 1)]) H := hP
        have hD : va_D A (lxF [mlW G q M10, [(a2_, .inr (10, [.ref ok, .ref ol, .ref na]))], [(ok, .inl (G.2.1, 8, .inl fk))], [(ol, lxq k n rr)], lrB G r fs fa fb n, [(na, lxq k (n + 1) nf)], nxB G nr nl nc (n + 1)]) := hD
        refine lv_lload_n hx hb dL_law_260 rfl (lv_at hl 0 rfl) ?_
        refine W.lcmp hx hb dL_law_261 ?_
        rw [show lg_cmp (dgD M.2.1 M.2.2.1 M.2.2.2.1 n fk fs fa fb) (dgD M.2.1 M.2.2.1 M.2.2.2.1 n fk fs fa fb) = 0 from lg_same _]
        refine lv_if_ne (tgt := 269) hx hb dL_law_262 (by decide) (fun c8 => absurd c8 (by decide)) (fun c8 => ?_)
        refine lv_iconst (v := 1) hx hb dL_law_265 (by decide) ?_
        refine lv_goto (tgt := 270) hx hb dL_law_266 (by decide) ?_
        exact lw_fin l hAe hx hb hr hlk hS (by omega) (by omega) dL_law_270
      · have nc4 := (not_congr (nI_leI (a := 3) (b := i) (by omega) (by omega))).mp c4
        obtain ⟨hrr, hM, hP4, hrn⟩ := id hI
        have hn := hP4.2.1
        have hn1 : 1 ≤ n := hG.2.1
        have hql := hP4.2.2.2
        have hKK := qz_KK hG.1
        obtain ⟨hw, hwr, hbd⟩ := ml_good hM.2.1 hz
        refine lv_aload_n hx hb dL_law_53 rfl (lv_at hl 1 rfl) ?_
        refine ly_v (As := []) (rest := []) hx hb hml hown hts (m_run (l := l) (G := G) (k := k) (q := q) (M := M) hM hP4 hKK hz) 0 (sxGV (bi14 (w := Cond.methodLink RL 92 yX9_run) 47 rfl) (bi14 (w := Cond.instanceMethod yX9_run) 48 rfl) (bi14 (w := Cond.selects RX9 yX9_run yX9_run) 49 rfl) (bi1 (w := Cond.initialized RX9) 58 rfl) (bi11 (w := Cond.code yX9_run cX9_run 1 (some .int)) 28 rfl)) rfl (by decide +kernel) ⟨Nat.le_of_ble_eq_true rfl, Nat.le_of_ble_eq_true rfl⟩ hK hP hD hS hA hE [0] [1, 2, 3, 4, 5, 6] rfl rfl (by show List.Perm _ (List.range 7); decide) 0 0 rfl rfl rfl rfl hl rfl (Nat.le_of_ble_eq_true rfl) ⟨by show _ ≤ 600104; omega, by show _ ≤ 7301314; omega⟩ dL_law_54 (fun B1 v1 hp1 H locs hP hD hS => ?_)
        obtain ⟨M1, rfl, rfl, hM1, eT1, hZ1, eR1, hgo1⟩ := hp1
        have hz1 : qk_fc M1.2.1 = 0 := by rw [eT1]; exact hz
        have er1 : M1.2.2.2.1 = nI (t + 1) := eR1.trans (by rw [hrn]; exact nI_1 t)
        have hI1 : lsI fk n rr r fs fa fb M1 (nI (t + 1)) := ⟨hrr, hM1, hP4, er1⟩
        have hrn1 : ¬ M1.2.2.2.1 = 0 := by rw [er1]; exact nI_ne0 (by omega) (by omega)
        show W p l e _ s m #[Value.ref b] below meth c H locs _ _ _ (F0 m 57 ls [.int (qr_yoco M1.2.2.1)])
        have hP : va_P G.1 vwCl (lxF [mlW G q M1, [(a2_, .inr (10, [.ref ok, .ref ol, .ref na]))], [(ok, .inl (G.2.1, 8, .inl fk))], [(ol, lxq k n rr)], lrB G r fs fa fb n, [(na, lxq k (n + 1) nf)], nxB G nr nl nc (n + 1)]) H := hP
        have hD : va_D A (lxF [mlW G q M1, [(a2_, .inr (10, [.ref ok, .ref ol, .ref na]))], [(ok, .inl (G.2.1, 8, .inl fk))], [(ol, lxq k n rr)], lrB G r fs fa fb n, [(na, lxq k (n + 1) nf)], nxB G nr nl nc (n + 1)]) := hD
        refine lv_istore (lv' := [(4, .int (qr_yoco M1.2.2.1)), (0, .ref k.2.1), (1, .ref (q 0)), (2, .ref a2_), (3, .int (nI i))]) hx hb dL_law_57 hl (by decide) rfl (fun ls hl => ?_)
        refine lv_aload_n hx hb dL_law_59 rfl (lv_at hl 2 rfl) ?_
        refine lv_iconst (v := 0) hx hb dL_law_60 (by decide) ?_
        refine ly_v (As := [.int 0]) (rest := []) hx hb hml hown hts (m_ofRun (l := l) (G := G) (k := k) (q := q) (M := M1) (p1 := 0) (v1 := qr_yoco M1.2.2.1) (sx_x_ofRun _ (w := 0) (by omega)) (qo_0 _ _ _ _ _ _ _ _ _)) 1 (sxGV (bi14 (w := Cond.methodLink RL 95 yX9_ofRun) 16 rfl) (bi12 (w := Cond.instanceMethod yX9_ofRun) 41 rfl) (bi12 (w := Cond.selects RX9 yX9_ofRun yX9_ofRun) 42 rfl) (bi1 (w := Cond.initialized RX9) 58 rfl) (bi11 (w := Cond.code yX9_ofRun cX9_ofRun 2 (some .int)) 29 rfl)) rfl (by decide +kernel) ⟨Nat.le_of_ble_eq_true rfl, Nat.le_of_ble_eq_true rfl⟩ hK hP hD hS hA hE [0] [1, 2, 3, 4, 5, 6] rfl rfl (by show List.Perm _ (List.range 7); decide) 0 0 rfl rfl rfl rfl hl rfl (Nat.le_of_ble_eq_true rfl) ⟨by show _ ≤ 600104; omega, by show _ ≤ 7301314; omega⟩ dL_law_61 (fun B1 v1 hp1 H locs hP hD hS => ?_)
        obtain ⟨rfl, rfl⟩ := hp1
        show W p l e _ s m #[Value.ref b] below meth c H locs _ _ _ (F0 m 64 ls [.int (qr_yoco M1.2.2.1)])
        have hP : va_P G.1 vwCl (lxF [mlW G q M1, [(a2_, .inr (10, [.ref ok, .ref ol, .ref na]))], [(ok, .inl (G.2.1, 8, .inl fk))], [(ol, lxq k n rr)], lrB G r fs fa fb n, [(na, lxq k (n + 1) nf)], nxB G nr nl nc (n + 1)]) H := hP
        have hD : va_D A (lxF [mlW G q M1, [(a2_, .inr (10, [.ref ok, .ref ol, .ref na]))], [(ok, .inl (G.2.1, 8, .inl fk))], [(ol, lxq k n rr)], lrB G r fs fa fb n, [(na, lxq k (n + 1) nf)], nxB G nr nl nc (n + 1)]) := hD
        refine lv_iload hx hb dL_law_64 (lv_at hl 0 rfl) ?_
        refine lv_icmp_ne (tgt := 86) hx hb dL_law_66 (by decide) (fun c9 => False.elim (by exact c9 rfl)) (fun c9 => ?_)
        refine lv_aload_n hx hb dL_law_69 rfl (lv_at hl 2 rfl) ?_
        refine lv_iload hx hb dL_law_70 (lv_at hl 0 rfl) ?_
        refine ly_s (As := [.ref (q 0), .int (qr_yoco M1.2.2.1)]) (rest := []) hx hb hml hown hts (t_L_isFair l G k q M1 n (by omega) hZ1 hrn1) 2 (sxGS (bi14 (w := Cond.methodLink RL 98 yL_isFair) 50 rfl) (bi14 (w := Cond.static yL_isFair) 51 rfl) (bi13 (w := Cond.initialized RL) 44 rfl) (bi14 (w := Cond.code yL_isFair cL_isFair 6 (some .boolean)) 18 rfl)) rfl (by decide +kernel) ⟨Nat.le_of_ble_eq_true rfl, Nat.le_of_ble_eq_true rfl⟩ hK hP hD hS hA hE [0] [1, 2, 3, 4, 5, 6] rfl rfl (by show List.Perm _ (List.range 7); decide) rfl hl rfl (Nat.le_of_ble_eq_true rfl) ⟨by show _ ≤ 600104; omega, by show _ ≤ 7301314; omega⟩ dL_law_72 (fun B1 v1 hp1 H locs hP hD hS => ?_)
        obtain ⟨rfl, rfl⟩ := hp1
        show W p l e _ s m #[Value.ref b] below meth c H locs _ _ _ (F0 m 75 ls [.int 1])
        have hP : va_P G.1 vwCl (lxF [mlW G q M1, [(a2_, .inr (10, [.ref ok, .ref ol, .ref na]))], [(ok, .inl (G.2.1, 8, .inl fk))], [(ol, lxq k n rr)], lrB G r fs fa fb n, [(na, lxq k (n + 1) nf)], nxB G nr nl nc (n + 1)]) H := hP
        have hD : va_D A (lxF [mlW G q M1, [(a2_, .inr (10, [.ref ok, .ref ol, .ref na]))], [(ok, .inl (G.2.1, 8, .inl fk))], [(ol, lxq k n rr)], lrB G r fs fa fb n, [(na, lxq k (n + 1) nf)], nxB G nr nl nc (n + 1)]) := hD
        refine lv_if_eq (tgt := 86) hx hb dL_law_75 (by decide) (fun c10 => absurd c10 (by decide)) (fun c10 => ?_)
        refine lv_aload_n hx hb dL_law_78 rfl (lv_at hl 2 rfl) ?_
        refine lv_aload_n hx hb dL_law_79 rfl (lv_at hl 3 rfl) ?_
        refine ly_s (As := [.ref (q 0), .ref a2_]) (rest := []) hx hb hml hown hts (t_L_isSound l G k q a2_ ok ol na n fk rr r fs fa fb nf nr nl nc M1 (nI (t + 1)) hI1 hG hz1 hnf hF) 2 (sxGS (bi14 (w := Cond.methodLink RL 102 yL_isSound) 52 rfl) (bi14 (w := Cond.static yL_isSound) 53 rfl) (bi13 (w := Cond.initialized RL) 44 rfl) (bi14 (w := Cond.code yL_isSound cL_isSound 7 (some .boolean)) 35 rfl)) rfl (by decide +kernel) ⟨Nat.le_of_ble_eq_true rfl, Nat.le_of_ble_eq_true rfl⟩ hK hP hD hS hA hE [0, 1, 2, 3, 4, 5, 6] [] rfl rfl (by show List.Perm _ (List.range 7); decide) rfl hl rfl (Nat.le_of_ble_eq_true rfl) ⟨by show _ ≤ 600104; omega, by show _ ≤ 7301314; omega⟩ dL_law_80 (fun B1 v1 hp1 H locs hP hD hS => ?_)
        obtain ⟨rfl, M2, rfl, hI2, hz2⟩ := hp1
        show W p l e _ s m #[Value.ref b] below meth c H locs _ _ _ (F0 m 83 ls [.int 1])
        have hP : va_P G.1 vwCl (lxF [mlW G q M2, [(a2_, .inr (10, [.ref ok, .ref ol, .ref na]))], [(ok, .inl (G.2.1, 8, .inl fk))], [(ol, lxq k n rr)], lrB G r fs fa fb n, [(na, lxq k (n + 1) nf)], nxB G nr nl nc (n + 1)]) H := hP
        have hD : va_D A (lxF [mlW G q M2, [(a2_, .inr (10, [.ref ok, .ref ol, .ref na]))], [(ok, .inl (G.2.1, 8, .inl fk))], [(ol, lxq k n rr)], lrB G r fs fa fb n, [(na, lxq k (n + 1) nf)], nxB G nr nl nc (n + 1)]) := hD
        refine lv_if_ne (tgt := 88) hx hb dL_law_83 (by decide) (fun c11 => ?_) (fun c11 => absurd c11 (by decide))
        refine lv_aload_n hx hb dL_law_88 rfl (lv_at hl 1 rfl) ?_
        refine lv_iload_n hx hb dL_law_89 rfl (lv_at hl 4 rfl) ?_
        refine ly_s (As := [.ref k.2.1, .int (nI i)]) (rest := []) hx hb hml hown hts (t_L_cell l G k i (by omega) hk) 2 (sxGS (bi13 (w := Cond.methodLink RL 57 yL_cell) 59 rfl) (bi14 (w := Cond.static yL_cell) 0 rfl) (bi13 (w := Cond.initialized RL) 44 rfl) (bi13 (w := Cond.code yL_cell cL_cell 2 (some .int)) 29 rfl)) rfl (by decide +kernel) ⟨Nat.le_of_ble_eq_true rfl, Nat.le_of_ble_eq_true rfl⟩ hK hP hD hS hA hE [] [0, 1, 2, 3, 4, 5, 6] rfl rfl (by show List.Perm _ (List.range 7); decide) rfl hl rfl (Nat.le_of_ble_eq_true rfl) ⟨by show _ ≤ 600104; omega, by show _ ≤ 7301314; omega⟩ dL_law_90 (fun B1 v1 hp1 H locs hP hD hS => ?_)
        obtain ⟨rfl, x4_, rfl⟩ := hp1
        show W p l e _ s m #[Value.ref b] below meth c H locs _ _ _ (F0 m 93 ls [.int x4_])
        have hP : va_P G.1 vwCl (lxF [mlW G q M2, [(a2_, .inr (10, [.ref ok, .ref ol, .ref na]))], [(ok, .inl (G.2.1, 8, .inl fk))], [(ol, lxq k n rr)], lrB G r fs fa fb n, [(na, lxq k (n + 1) nf)], nxB G nr nl nc (n + 1)]) H := hP
        have hD : va_D A (lxF [mlW G q M2, [(a2_, .inr (10, [.ref ok, .ref ol, .ref na]))], [(ok, .inl (G.2.1, 8, .inl fk))], [(ol, lxq k n rr)], lrB G r fs fa fb n, [(na, lxq k (n + 1) nf)], nxB G nr nl nc (n + 1)]) := hD
        refine lv_aload_n hx hb dL_law_93 rfl (lv_at hl 3 rfl) ?_
        refine lb_get (ci := 10) (v := .ref ol) (C := RX10) (T := TX10) (N := 3) hx hb hts owX10 hown hK hP 1 0 rfl rfl rfl 1 (by decide) (bw13 (w := Cond.fieldLink RL 9 "DropflagMillLaw$Own" "lines" "[[I") hts 31 rfl) (fun _ h9 => h9) rfl dL_law_94 ?_
        refine lb_alenq (v := nI n) hx hb hK hE hP 3 0 rfl rfl rfl dL_law_97 ?_
        refine ly_s (As := [.int x4_, .int (nI n)]) (rest := []) hx hb hml hown hts (t_L_below l G k x4_ n (by omega) (by omega)) 2 (sxGS (bi13 (w := Cond.methodLink RL 29 yL_below) 42 rfl) (bi13 (w := Cond.static yL_below) 43 rfl) (bi13 (w := Cond.initialized RL) 44 rfl) (bi13 (w := Cond.code yL_below cL_below 2 (some .int)) 27 rfl)) rfl (by decide +kernel) ⟨Nat.le_of_ble_eq_true rfl, Nat.le_of_ble_eq_true rfl⟩ hK hP hD hS hA hE [] [0, 1, 2, 3, 4, 5, 6] rfl rfl (by show List.Perm _ (List.range 7); decide) rfl hl rfl (Nat.le_of_ble_eq_true rfl) ⟨by show _ ≤ 600104; omega, by show _ ≤ 7301314; omega⟩ dL_law_98 (fun B1 v1 hp1 H locs hP hD hS => ?_)
        obtain ⟨rfl, rfl⟩ := hp1
        obtain ⟨L, hLe⟩ : ∃ z : Nat, z = lbl x4_ n := ⟨_, rfl⟩
        have hL : L < n := by rw [hLe]; exact lbl_lt _ (by omega)
        rw [← hLe]
        show W p l e _ s m #[Value.ref b] below meth c H locs _ _ _ (F0 m 101 ls [.int (nI L)])
        have hP : va_P G.1 vwCl (lxF [mlW G q M2, [(a2_, .inr (10, [.ref ok, .ref ol, .ref na]))], [(ok, .inl (G.2.1, 8, .inl fk))], [(ol, lxq k n rr)], lrB G r fs fa fb n, [(na, lxq k (n + 1) nf)], nxB G nr nl nc (n + 1)]) H := hP
        have hD : va_D A (lxF [mlW G q M2, [(a2_, .inr (10, [.ref ok, .ref ol, .ref na]))], [(ok, .inl (G.2.1, 8, .inl fk))], [(ol, lxq k n rr)], lrB G r fs fa fb n, [(na, lxq k (n + 1) nf)], nxB G nr nl nc (n + 1)]) := hD
        refine lv_istore (lv' := [(5, .int (nI L)), (4, .int (qr_yoco M1.2.2.1)), (0, .ref k.2.1), (1, .ref (q 0)), (2, .ref a2_), (3, .int (nI i))]) hx hb dL_law_101 hl (by decide) rfl (fun ls hl => ?_)
        refine lv_aload_n hx hb dL_law_103 rfl (lv_at hl 4 rfl) ?_
        refine lb_get (ci := 10) (v := .ref ol) (C := RX10) (T := TX10) (N := 3) hx hb hts owX10 hown hK hP 1 0 rfl rfl rfl 1 (by decide) (bw13 (w := Cond.fieldLink RL 9 "DropflagMillLaw$Own" "lines" "[[I") hts 31 rfl) (fun _ h9 => h9) rfl dL_law_104 ?_
        refine lv_iload hx hb dL_law_107 (lv_at hl 0 rfl) ?_
        refine lb_aald (v := .ref (r L)) hx hb hK hE hP 3 0 rfl rfl (i := nI L) (vp_in_nI (n := L) (by omega) (by omega)) (by rw [nI_clamp (by omega), hrr _ (by omega)]; rfl) dL_law_109 ?_
        refine lv_iconst (v := 0) hx hb dL_law_110 (by decide) ?_
        refine lb_iald (v := fs L) hx hb hK hP 4 L rfl (lrB_at (by omega)) (i := 0) (vp_in_nI (n := 0) (by omega) (by omega)) rfl dL_law_111 ?_
        refine lv_istore (lv' := [(6, .int (fs L)), (5, .int (nI L)), (4, .int (qr_yoco M1.2.2.1)), (0, .ref k.2.1), (1, .ref (q 0)), (2, .ref a2_), (3, .int (nI i))]) hx hb dL_law_112 hl (by decide) rfl (fun ls hl => ?_)
        refine lv_iload hx hb dL_law_114 (lv_at hl 0 rfl) ?_
        refine lv_if_eq (tgt := 129) hx hb dL_law_116 (by decide) (fun c12 => ?_) (fun c12 => ?_)
        · have h6 : fs L = 0 ∨ fs L = 6 := Or.inl c12
          obtain ⟨-, hM2, -, hrn2⟩ := id hI2
          refine lv_aload_n hx hb dL_law_129 rfl (lv_at hl 3 rfl) ?_
          refine lv_iload_n hx hb dL_law_130 rfl (lv_at hl 6 rfl) ?_
          refine lv_iconst (v := 4) hx hb dL_law_131 (by decide) ?_
          refine lv_iadd hx hb dL_law_132 ?_
          rw [show ((nI i) + 4 : Int32) = nI (i + 4) from nI_add i 4]
          refine ly_s (As := [.ref k.2.1, .int (nI (i + 4))]) (rest := []) hx hb hml hown hts (t_L_cell l G k (i + 4) (by omega) hk) 2 (sxGS (bi13 (w := Cond.methodLink RL 57 yL_cell) 59 rfl) (bi14 (w := Cond.static yL_cell) 0 rfl) (bi13 (w := Cond.initialized RL) 44 rfl) (bi13 (w := Cond.code yL_cell cL_cell 2 (some .int)) 29 rfl)) rfl (by decide +kernel) ⟨Nat.le_of_ble_eq_true rfl, Nat.le_of_ble_eq_true rfl⟩ hK hP hD hS hA hE [] [0, 1, 2, 3, 4, 5, 6] rfl rfl (by show List.Perm _ (List.range 7); decide) rfl hl rfl (Nat.le_of_ble_eq_true rfl) ⟨by show _ ≤ 600104; omega, by show _ ≤ 7301314; omega⟩ dL_law_133 (fun B1 v1 hp1 H locs hP hD hS => ?_)
          obtain ⟨rfl, x5_, rfl⟩ := hp1
          show W p l e _ s m #[Value.ref b] below meth c H locs _ _ _ (F0 m 136 ls [.int x5_])
          have hP : va_P G.1 vwCl (lxF [mlW G q M2, [(a2_, .inr (10, [.ref ok, .ref ol, .ref na]))], [(ok, .inl (G.2.1, 8, .inl fk))], [(ol, lxq k n rr)], lrB G r fs fa fb n, [(na, lxq k (n + 1) nf)], nxB G nr nl nc (n + 1)]) H := hP
          have hD : va_D A (lxF [mlW G q M2, [(a2_, .inr (10, [.ref ok, .ref ol, .ref na]))], [(ok, .inl (G.2.1, 8, .inl fk))], [(ol, lxq k n rr)], lrB G r fs fa fb n, [(na, lxq k (n + 1) nf)], nxB G nr nl nc (n + 1)]) := hD
          refine lv_bipush (v := 41) hx hb dL_law_136 (by decide) ?_
          refine ly_s (As := [.int x5_, .int 41]) (rest := []) hx hb hml hown hts (t_L_below l G k x5_ 41 (by decide) (by decide)) 2 (sxGS (bi13 (w := Cond.methodLink RL 29 yL_below) 42 rfl) (bi13 (w := Cond.static yL_below) 43 rfl) (bi13 (w := Cond.initialized RL) 44 rfl) (bi13 (w := Cond.code yL_below cL_below 2 (some .int)) 27 rfl)) rfl (by decide +kernel) ⟨Nat.le_of_ble_eq_true rfl, Nat.le_of_ble_eq_true rfl⟩ hK hP hD hS hA hE [] [0, 1, 2, 3, 4, 5, 6] rfl rfl (by show List.Perm _ (List.range 7); decide) rfl hl rfl (Nat.le_of_ble_eq_true rfl) ⟨by show _ ≤ 600104; omega, by show _ ≤ 7301314; omega⟩ dL_law_138 (fun B1 v1 hp1 H locs hP hD hS => ?_)
          obtain ⟨rfl, rfl⟩ := hp1
          have hb41 := lbl_lt x5_ (n := 41) (by decide)
          show W p l e _ s m #[Value.ref b] below meth c H locs _ _ _ (F0 m 141 ls [.int (nI (lbl x5_ 41))])
          have hP : va_P G.1 vwCl (lxF [mlW G q M2, [(a2_, .inr (10, [.ref ok, .ref ol, .ref na]))], [(ok, .inl (G.2.1, 8, .inl fk))], [(ol, lxq k n rr)], lrB G r fs fa fb n, [(na, lxq k (n + 1) nf)], nxB G nr nl nc (n + 1)]) H := hP
          have hD : va_D A (lxF [mlW G q M2, [(a2_, .inr (10, [.ref ok, .ref ol, .ref na]))], [(ok, .inl (G.2.1, 8, .inl fk))], [(ol, lxq k n rr)], lrB G r fs fa fb n, [(na, lxq k (n + 1) nf)], nxB G nr nl nc (n + 1)]) := hD
          refine lv_bipush (v := 20) hx hb dL_law_141 (by decide) ?_
          refine lv_isub hx hb dL_law_143 ?_
          obtain ⟨nb, hnb⟩ : ∃ z : Int32, z = (nI (lbl x5_ 41)) - 20 := ⟨_, rfl⟩
          have hsm : ¬ s_X9_isSmall nb = 0 := by rw [hnb]; exact lf_small (c := lbl x5_ 41) (d := 20) (by omega) (by omega)
          rw [← hnb]
          refine lv_istore (lv' := [(7, .int nb), (6, .int (fs L)), (5, .int (nI L)), (4, .int (qr_yoco M1.2.2.1)), (0, .ref k.2.1), (1, .ref (q 0)), (2, .ref a2_), (3, .int (nI i))]) hx hb dL_law_144 hl (by decide) rfl (fun ls hl => ?_)
          refine lv_aload_n hx hb dL_law_146 rfl (lv_at hl 5 rfl) ?_
          refine lv_iload hx hb dL_law_147 (lv_at hl 2 rfl) ?_
          refine lv_iload hx hb dL_law_149 (lv_at hl 0 rfl) ?_
          refine ly_v (As := [.int (nI L), .int nb]) (rest := []) hx hb hml hown hts (m_outcomeWith (l := l) (G := G) (k := k) (q := q) (M := M2) (L := L) (b := nb) hM2 hP4 hKK hL h6 hsm hz2) 2 (sxGV (bi14 (w := Cond.methodLink RL 105 yX9_outcomeWith) 54 rfl) (bi14 (w := Cond.instanceMethod yX9_outcomeWith) 55 rfl) (bi14 (w := Cond.selects RX9 yX9_outcomeWith yX9_outcomeWith) 56 rfl) (bi1 (w := Cond.initialized RX9) 58 rfl) (bi12 (w := Cond.code yX9_outcomeWith cX9_outcomeWith 4 (some .int)) 12 rfl)) rfl (by decide +kernel) ⟨Nat.le_of_ble_eq_true rfl, Nat.le_of_ble_eq_true rfl⟩ hK hP hD hS hA hE [0] [1, 2, 3, 4, 5, 6] rfl rfl (by show List.Perm _ (List.range 7); decide) 0 0 rfl rfl rfl rfl hl rfl (Nat.le_of_ble_eq_true rfl) ⟨by show _ ≤ 600104; omega, by show _ ≤ 7301314; omega⟩ dL_law_151 (fun B1 v1 hp1 H locs hP hD hS => ?_)
          obtain ⟨M3, T1, Z, rfl, rfl, hM3, eT3, eY3, eR3, hL1, hgo⟩ := hp1
          show W p l e _ s m #[Value.ref b] below meth c H locs _ _ _ (F0 m 154 ls [.int (qr_yoco Z)])
          have hP : va_P G.1 vwCl (lxF [mlW G q M3, [(a2_, .inr (10, [.ref ok, .ref ol, .ref na]))], [(ok, .inl (G.2.1, 8, .inl fk))], [(ol, lxq k n rr)], lrB G r fs fa fb n, [(na, lxq k (n + 1) nf)], nxB G nr nl nc (n + 1)]) H := hP
          have hD : va_D A (lxF [mlW G q M3, [(a2_, .inr (10, [.ref ok, .ref ol, .ref na]))], [(ok, .inl (G.2.1, 8, .inl fk))], [(ol, lxq k n rr)], lrB G r fs fa fb n, [(na, lxq k (n + 1) nf)], nxB G nr nl nc (n + 1)]) := hD
          refine lv_istore (lv' := [(8, .int (qr_yoco Z)), (7, .int nb), (6, .int (fs L)), (5, .int (nI L)), (4, .int (qr_yoco M1.2.2.1)), (0, .ref k.2.1), (1, .ref (q 0)), (2, .ref a2_), (3, .int (nI i))]) hx hb dL_law_154 hl (by decide) rfl (fun ls hl => ?_)
          refine lv_aload_n hx hb dL_law_156 rfl (lv_at hl 6 rfl) ?_
          refine lv_iload hx hb dL_law_157 (lv_at hl 3 rfl) ?_
          refine lv_iload hx hb dL_law_159 (lv_at hl 2 rfl) ?_
          refine lv_aload_n hx hb dL_law_161 rfl (lv_at hl 7 rfl) ?_
          refine lb_get (ci := 10) (v := .ref ol) (C := RX10) (T := TX10) (N := 3) hx hb hts owX10 hown hK hP 1 0 rfl rfl rfl 1 (by decide) (bw13 (w := Cond.fieldLink RL 9 "DropflagMillLaw$Own" "lines" "[[I") hts 31 rfl) (fun _ h9 => h9) rfl dL_law_162 ?_
          refine lv_iload hx hb dL_law_165 (lv_at hl 3 rfl) ?_
          refine lb_aald (v := .ref (r L)) hx hb hK hE hP 3 0 rfl rfl (i := nI L) (vp_in_nI (n := L) (by omega) (by omega)) (by rw [nI_clamp (by omega), hrr _ (by omega)]; rfl) dL_law_167 ?_
          refine lv_iconst (v := 1) hx hb dL_law_168 (by decide) ?_
          refine lb_iald (v := fa L) hx hb hK hP 4 L rfl (lrB_at (by omega)) (i := 1) (vp_in_nI (n := 1) (by omega) (by omega)) rfl dL_law_169 ?_
          refine lv_iload hx hb dL_law_170 (lv_at hl 1 rfl) ?_
          have hF5 : qp_F 8 fk (fs L) (fa L) nb := by have z := lg_numF hP4.2.2.1 hL h6 hsm L hL; rw [qb_us] at z; exact z
          have hl5 : ql_n (upd fs L (fs L)) n ≤ 16 := by rw [up_self]; exact hql
          refine ly_v (As := [.int (nI L), .int (fs L), .int (fa L), .int nb]) (rest := []) hx hb hml hown hts (m_put (l := l) (G := G) (k := k) (q := q) (M := M3) (L := L) (a := fs L) (b := fa L) (c := nb) hM3 hP4 hL hF5 hl5) 4 (sxGV (bi14 (w := Cond.methodLink RL 75 yX9_put) 8 rfl) (bi14 (w := Cond.instanceMethod yX9_put) 9 rfl) (bi14 (w := Cond.selects RX9 yX9_put yX9_put) 10 rfl) (bi1 (w := Cond.initialized RX9) 58 rfl) (bi10 (w := Cond.code yX9_put cX9_put 6 (some .int)) 32 rfl)) rfl (by decide +kernel) ⟨Nat.le_of_ble_eq_true rfl, Nat.le_of_ble_eq_true rfl⟩ hK hP hD hS hA hE [0] [1, 2, 3, 4, 5, 6] rfl rfl (by show List.Perm _ (List.range 7); decide) 0 0 rfl rfl rfl rfl hl rfl (Nat.le_of_ble_eq_true rfl) ⟨by show _ ≤ 600104; omega, by show _ ≤ 7301314; omega⟩ dL_law_172 (fun B1 v1 hp1 H locs hP hD hS => ?_)
          obtain ⟨M4, rfl, rfl, hM4, eR4⟩ := hp1
          rw [up_self, up_self] at hM4
          have hP5 : lgP 8 fk n fs fa (upd fb L nb) := ⟨hP4.1, hP4.2.1, lg_numF hP4.2.2.1 hL h6 hsm, hP4.2.2.2⟩
          have hG5 := lg_num hG hL h6 hsm
          have hz4 : qk_fc M4.2.1 = 0 := lg_numT (by omega) hql hL h6 hM3.2.1 hM4.2.1 (by rw [eT3]; exact hz2)
          show W p l e _ s m #[Value.ref b] below meth c H locs _ _ _ (F0 m 175 ls [.int (fs L)])
          have hP : va_P G.1 vwCl (lxF [mlW G q M4, [(a2_, .inr (10, [.ref ok, .ref ol, .ref na]))], [(ok, .inl (G.2.1, 8, .inl fk))], [(ol, lxq k n rr)], lrB G r fs fa fb n, [(na, lxq k (n + 1) nf)], nxB G nr nl nc (n + 1)]) H := hP
          have hD : va_D A (lxF [mlW G q M4, [(a2_, .inr (10, [.ref ok, .ref ol, .ref na]))], [(ok, .inl (G.2.1, 8, .inl fk))], [(ol, lxq k n rr)], lrB G r fs fa fb n, [(na, lxq k (n + 1) nf)], nxB G nr nl nc (n + 1)]) := hD
          refine lv_iload hx hb dL_law_175 (lv_at hl 2 rfl) ?_
          refine lv_icmp_ne (tgt := 197) hx hb dL_law_177 (by decide) (fun c13 => False.elim (by exact c13 rfl)) (fun c13 => ?_)
          refine lv_aload_n hx hb dL_law_180 rfl (lv_at hl 6 rfl) ?_
          refine lv_iconst (v := 2) hx hb dL_law_181 (by decide) ?_
          refine ly_v (As := [.int 2]) (rest := []) hx hb hml hown hts (m_many2 (l := l) (G := G) (k := k) (q := q) (M := M4) hM4 hP5) 1 (sxGV (bi14 (w := Cond.methodLink RL 69 yX9_many) 6 rfl) (bi12 (w := Cond.instanceMethod yX9_many) 50 rfl) (bi12 (w := Cond.selects RX9 yX9_many yX9_many) 51 rfl) (bi1 (w := Cond.initialized RX9) 58 rfl) (bi11 (w := Cond.code yX9_many cX9_many 2 (some .int)) 56 rfl)) rfl (by decide +kernel) ⟨Nat.le_of_ble_eq_true rfl, Nat.le_of_ble_eq_true rfl⟩ hK hP hD hS hA hE [0] [1, 2, 3, 4, 5, 6] rfl rfl (by show List.Perm _ (List.range 7); decide) 0 0 rfl rfl rfl rfl hl rfl (Nat.le_of_ble_eq_true rfl) ⟨by show _ ≤ 600104; omega, by show _ ≤ 7301314; omega⟩ dL_law_182 (fun B1 v1 hp1 H locs hP hD hS => ?_)
          obtain ⟨rfl, rfl⟩ := hp1
          show W p l e _ s m #[Value.ref b] below meth c H locs _ _ _ (F0 m 185 ls [.int (nI (qk_fc M4.2.1))])
          have hP : va_P G.1 vwCl (lxF [mlW G q M4, [(a2_, .inr (10, [.ref ok, .ref ol, .ref na]))], [(ok, .inl (G.2.1, 8, .inl fk))], [(ol, lxq k n rr)], lrB G r fs fa fb n, [(na, lxq k (n + 1) nf)], nxB G nr nl nc (n + 1)]) H := hP
          have hD : va_D A (lxF [mlW G q M4, [(a2_, .inr (10, [.ref ok, .ref ol, .ref na]))], [(ok, .inl (G.2.1, 8, .inl fk))], [(ol, lxq k n rr)], lrB G r fs fa fb n, [(na, lxq k (n + 1) nf)], nxB G nr nl nc (n + 1)]) := hD
          refine lv_if_ne (tgt := 197) hx hb dL_law_185 (by decide) (fun c14 => False.elim (by have nc14 := (not_congr (nI_eq (a := (qk_fc M4.2.1)) (b := 0) (by omega) (by omega))).mp c14; exact c14 (by rw [hz4]; rfl))) (fun c14 => ?_)
          have nc14 := (nI_eq (a := (qk_fc M4.2.1)) (b := 0) (by omega) (by omega)).mp c14
          refine lv_aload_n hx hb dL_law_188 rfl (lv_at hl 6 rfl) ?_
          refine ly_v (As := []) (rest := []) hx hb hml hown hts (m_run (l := l) (G := G) (k := k) (q := q) (M := M4) hM4 hP5 hKK hz4) 0 (sxGV (bi14 (w := Cond.methodLink RL 92 yX9_run) 47 rfl) (bi14 (w := Cond.instanceMethod yX9_run) 48 rfl) (bi14 (w := Cond.selects RX9 yX9_run yX9_run) 49 rfl) (bi1 (w := Cond.initialized RX9) 58 rfl) (bi11 (w := Cond.code yX9_run cX9_run 1 (some .int)) 28 rfl)) rfl (by decide +kernel) ⟨Nat.le_of_ble_eq_true rfl, Nat.le_of_ble_eq_true rfl⟩ hK hP hD hS hA hE [0] [1, 2, 3, 4, 5, 6] rfl rfl (by show List.Perm _ (List.range 7); decide) 0 0 rfl rfl rfl rfl hl rfl (Nat.le_of_ble_eq_true rfl) ⟨by show _ ≤ 600104; omega, by show _ ≤ 7301314; omega⟩ dL_law_189 (fun B1 v1 hp1 H locs hP hD hS => ?_)
          obtain ⟨M5, rfl, rfl, hM5, eT5, hZ5, eR5, hgo5⟩ := hp1
          show W p l e _ s m #[Value.ref b] below meth c H locs _ _ _ (F0 m 192 ls [.int (qr_yoco M5.2.2.1)])
          have hP : va_P G.1 vwCl (lxF [mlW G q M5, [(a2_, .inr (10, [.ref ok, .ref ol, .ref na]))], [(ok, .inl (G.2.1, 8, .inl fk))], [(ol, lxq k n rr)], lrB G r fs fa fb n, [(na, lxq k (n + 1) nf)], nxB G nr nl nc (n + 1)]) H := hP
          have hD : va_D A (lxF [mlW G q M5, [(a2_, .inr (10, [.ref ok, .ref ol, .ref na]))], [(ok, .inl (G.2.1, 8, .inl fk))], [(ol, lxq k n rr)], lrB G r fs fa fb n, [(na, lxq k (n + 1) nf)], nxB G nr nl nc (n + 1)]) := hD
          refine lv_iload hx hb dL_law_192 (lv_at hl 0 rfl) ?_
          refine lv_icmp_eq (tgt := 199) hx hb dL_law_194 (by decide) (fun c15 => ?_) (fun c15 => False.elim (by exact c15 (go_one (by omega) hql hM4.2.1 hL1 hz4 hgo5 hgo).1))
          refine lv_aload_n hx hb dL_law_199 rfl (lv_at hl 7 rfl) ?_
          refine lb_get (ci := 10) (v := .ref ol) (C := RX10) (T := TX10) (N := 3) hx hb hts owX10 hown hK hP 1 0 rfl rfl rfl 1 (by decide) (bw13 (w := Cond.fieldLink RL 9 "DropflagMillLaw$Own" "lines" "[[I") hts 31 rfl) (fun _ h9 => h9) rfl dL_law_200 ?_
          refine lv_iload hx hb dL_law_203 (lv_at hl 3 rfl) ?_
          refine lb_aald (v := .ref (r L)) hx hb hK hE hP 3 0 rfl rfl (i := nI L) (vp_in_nI (n := L) (by omega) (by omega)) (by rw [nI_clamp (by omega), hrr _ (by omega)]; rfl) dL_law_205 ?_
          refine lv_iconst (v := 2) hx hb dL_law_206 (by decide) ?_
          refine lv_iload hx hb dL_law_207 (lv_at hl 1 rfl) ?_
          refine lb_iast (x := nb) hx hb hK hP hD hS 4 L rfl (lrB_at (by omega)) (i := 2) (i' := 2) (vp_in_nI (n := 2) (by omega) (by omega)) rfl dL_law_209 (fun H locs hP hD hS => ?_)
          rw [lrB_num hL] at hP hD
          have hP : va_P G.1 vwCl (lxF [mlW G q M5, [(a2_, .inr (10, [.ref ok, .ref ol, .ref na]))], [(ok, .inl (G.2.1, 8, .inl fk))], [(ol, lxq k n rr)], lrB G r fs fa (upd fb L nb) n, [(na, lxq k (n + 1) nf)], nxB G nr nl nc (n + 1)]) H := hP
          have hD : va_D A (lxF [mlW G q M5, [(a2_, .inr (10, [.ref ok, .ref ol, .ref na]))], [(ok, .inl (G.2.1, 8, .inl fk))], [(ol, lxq k n rr)], lrB G r fs fa (upd fb L nb) n, [(na, lxq k (n + 1) nf)], nxB G nr nl nc (n + 1)]) := hD
          refine lv_iinc (v := nI (i + 1)) (lv' := [(3, .int (nI (i + 1))), (8, .int (qr_yoco Z)), (7, .int nb), (6, .int (fs L)), (5, .int (nI L)), (4, .int (qr_yoco M1.2.2.1)), (0, .ref k.2.1), (1, .ref (q 0)), (2, .ref a2_)]) hx hb dL_law_210 hl (k := 8) rfl (nI_1 i) (by decide) rfl (fun ls hl => ?_)
          refine lv_goto (tgt := 48) hx hb dL_law_213 (by decide) ?_
          exact ih3 (i + 1) (t + 1 + 1) M5 (upd fb L nb) (by omega) (by omega) (by omega) (⟨hrr, hM5, hP5, eR5.trans (by rw [eR4, eR3, hrn2]; exact nI_1 (t + 1))⟩) (hG5) (by rw [eT5]; exact hz4) _ _ (by omega) (by omega) _ _ hP hD hS ls (lv_sub hl [6, 7, 8, 0] rfl)
        · refine lv_iload hx hb dL_law_119 (lv_at hl 0 rfl) ?_
          refine lv_bipush (v := 6) hx hb dL_law_121 (by decide) ?_
          refine lv_icmp_eq (tgt := 129) hx hb dL_law_123 (by decide) (fun c16 => ?_) (fun c16 => ?_)
          · have h6 : fs L = 0 ∨ fs L = 6 := Or.inr c16
            obtain ⟨-, hM2, -, hrn2⟩ := id hI2
            refine lv_aload_n hx hb dL_law_129 rfl (lv_at hl 3 rfl) ?_
            refine lv_iload_n hx hb dL_law_130 rfl (lv_at hl 6 rfl) ?_
            refine lv_iconst (v := 4) hx hb dL_law_131 (by decide) ?_
            refine lv_iadd hx hb dL_law_132 ?_
            rw [show ((nI i) + 4 : Int32) = nI (i + 4) from nI_add i 4]
            refine ly_s (As := [.ref k.2.1, .int (nI (i + 4))]) (rest := []) hx hb hml hown hts (t_L_cell l G k (i + 4) (by omega) hk) 2 (sxGS (bi13 (w := Cond.methodLink RL 57 yL_cell) 59 rfl) (bi14 (w := Cond.static yL_cell) 0 rfl) (bi13 (w := Cond.initialized RL) 44 rfl) (bi13 (w := Cond.code yL_cell cL_cell 2 (some .int)) 29 rfl)) rfl (by decide +kernel) ⟨Nat.le_of_ble_eq_true rfl, Nat.le_of_ble_eq_true rfl⟩ hK hP hD hS hA hE [] [0, 1, 2, 3, 4, 5, 6] rfl rfl (by show List.Perm _ (List.range 7); decide) rfl hl rfl (Nat.le_of_ble_eq_true rfl) ⟨by show _ ≤ 600104; omega, by show _ ≤ 7301314; omega⟩ dL_law_133 (fun B1 v1 hp1 H locs hP hD hS => ?_)
            obtain ⟨rfl, x6_, rfl⟩ := hp1
            show W p l e _ s m #[Value.ref b] below meth c H locs _ _ _ (F0 m 136 ls [.int x6_])
            have hP : va_P G.1 vwCl (lxF [mlW G q M2, [(a2_, .inr (10, [.ref ok, .ref ol, .ref na]))], [(ok, .inl (G.2.1, 8, .inl fk))], [(ol, lxq k n rr)], lrB G r fs fa fb n, [(na, lxq k (n + 1) nf)], nxB G nr nl nc (n + 1)]) H := hP
            have hD : va_D A (lxF [mlW G q M2, [(a2_, .inr (10, [.ref ok, .ref ol, .ref na]))], [(ok, .inl (G.2.1, 8, .inl fk))], [(ol, lxq k n rr)], lrB G r fs fa fb n, [(na, lxq k (n + 1) nf)], nxB G nr nl nc (n + 1)]) := hD
            refine lv_bipush (v := 41) hx hb dL_law_136 (by decide) ?_
            refine ly_s (As := [.int x6_, .int 41]) (rest := []) hx hb hml hown hts (t_L_below l G k x6_ 41 (by decide) (by decide)) 2 (sxGS (bi13 (w := Cond.methodLink RL 29 yL_below) 42 rfl) (bi13 (w := Cond.static yL_below) 43 rfl) (bi13 (w := Cond.initialized RL) 44 rfl) (bi13 (w := Cond.code yL_below cL_below 2 (some .int)) 27 rfl)) rfl (by decide +kernel) ⟨Nat.le_of_ble_eq_true rfl, Nat.le_of_ble_eq_true rfl⟩ hK hP hD hS hA hE [] [0, 1, 2, 3, 4, 5, 6] rfl rfl (by show List.Perm _ (List.range 7); decide) rfl hl rfl (Nat.le_of_ble_eq_true rfl) ⟨by show _ ≤ 600104; omega, by show _ ≤ 7301314; omega⟩ dL_law_138 (fun B1 v1 hp1 H locs hP hD hS => ?_)
            obtain ⟨rfl, rfl⟩ := hp1
            have hb41 := lbl_lt x6_ (n := 41) (by decide)
            show W p l e _ s m #[Value.ref b] below meth c H locs _ _ _ (F0 m 141 ls [.int (nI (lbl x6_ 41))])
            have hP : va_P G.1 vwCl (lxF [mlW G q M2, [(a2_, .inr (10, [.ref ok, .ref ol, .ref na]))], [(ok, .inl (G.2.1, 8, .inl fk))], [(ol, lxq k n rr)], lrB G r fs fa fb n, [(na, lxq k (n + 1) nf)], nxB G nr nl nc (n + 1)]) H := hP
            have hD : va_D A (lxF [mlW G q M2, [(a2_, .inr (10, [.ref ok, .ref ol, .ref na]))], [(ok, .inl (G.2.1, 8, .inl fk))], [(ol, lxq k n rr)], lrB G r fs fa fb n, [(na, lxq k (n + 1) nf)], nxB G nr nl nc (n + 1)]) := hD
            refine lv_bipush (v := 20) hx hb dL_law_141 (by decide) ?_
            refine lv_isub hx hb dL_law_143 ?_
            obtain ⟨nb, hnb⟩ : ∃ z : Int32, z = (nI (lbl x6_ 41)) - 20 := ⟨_, rfl⟩
            have hsm : ¬ s_X9_isSmall nb = 0 := by rw [hnb]; exact lf_small (c := lbl x6_ 41) (d := 20) (by omega) (by omega)
            rw [← hnb]
            refine lv_istore (lv' := [(7, .int nb), (6, .int (fs L)), (5, .int (nI L)), (4, .int (qr_yoco M1.2.2.1)), (0, .ref k.2.1), (1, .ref (q 0)), (2, .ref a2_), (3, .int (nI i))]) hx hb dL_law_144 hl (by decide) rfl (fun ls hl => ?_)
            refine lv_aload_n hx hb dL_law_146 rfl (lv_at hl 5 rfl) ?_
            refine lv_iload hx hb dL_law_147 (lv_at hl 2 rfl) ?_
            refine lv_iload hx hb dL_law_149 (lv_at hl 0 rfl) ?_
            refine ly_v (As := [.int (nI L), .int nb]) (rest := []) hx hb hml hown hts (m_outcomeWith (l := l) (G := G) (k := k) (q := q) (M := M2) (L := L) (b := nb) hM2 hP4 hKK hL h6 hsm hz2) 2 (sxGV (bi14 (w := Cond.methodLink RL 105 yX9_outcomeWith) 54 rfl) (bi14 (w := Cond.instanceMethod yX9_outcomeWith) 55 rfl) (bi14 (w := Cond.selects RX9 yX9_outcomeWith yX9_outcomeWith) 56 rfl) (bi1 (w := Cond.initialized RX9) 58 rfl) (bi12 (w := Cond.code yX9_outcomeWith cX9_outcomeWith 4 (some .int)) 12 rfl)) rfl (by decide +kernel) ⟨Nat.le_of_ble_eq_true rfl, Nat.le_of_ble_eq_true rfl⟩ hK hP hD hS hA hE [0] [1, 2, 3, 4, 5, 6] rfl rfl (by show List.Perm _ (List.range 7); decide) 0 0 rfl rfl rfl rfl hl rfl (Nat.le_of_ble_eq_true rfl) ⟨by show _ ≤ 600104; omega, by show _ ≤ 7301314; omega⟩ dL_law_151 (fun B1 v1 hp1 H locs hP hD hS => ?_)
            obtain ⟨M3, T1, Z, rfl, rfl, hM3, eT3, eY3, eR3, hL1, hgo⟩ := hp1
            show W p l e _ s m #[Value.ref b] below meth c H locs _ _ _ (F0 m 154 ls [.int (qr_yoco Z)])
            have hP : va_P G.1 vwCl (lxF [mlW G q M3, [(a2_, .inr (10, [.ref ok, .ref ol, .ref na]))], [(ok, .inl (G.2.1, 8, .inl fk))], [(ol, lxq k n rr)], lrB G r fs fa fb n, [(na, lxq k (n + 1) nf)], nxB G nr nl nc (n + 1)]) H := hP
            have hD : va_D A (lxF [mlW G q M3, [(a2_, .inr (10, [.ref ok, .ref ol, .ref na]))], [(ok, .inl (G.2.1, 8, .inl fk))], [(ol, lxq k n rr)], lrB G r fs fa fb n, [(na, lxq k (n + 1) nf)], nxB G nr nl nc (n + 1)]) := hD
            refine lv_istore (lv' := [(8, .int (qr_yoco Z)), (7, .int nb), (6, .int (fs L)), (5, .int (nI L)), (4, .int (qr_yoco M1.2.2.1)), (0, .ref k.2.1), (1, .ref (q 0)), (2, .ref a2_), (3, .int (nI i))]) hx hb dL_law_154 hl (by decide) rfl (fun ls hl => ?_)
            refine lv_aload_n hx hb dL_law_156 rfl (lv_at hl 6 rfl) ?_
            refine lv_iload hx hb dL_law_157 (lv_at hl 3 rfl) ?_
            refine lv_iload hx hb dL_law_159 (lv_at hl 2 rfl) ?_
            refine lv_aload_n hx hb dL_law_161 rfl (lv_at hl 7 rfl) ?_
            refine lb_get (ci := 10) (v := .ref ol) (C := RX10) (T := TX10) (N := 3) hx hb hts owX10 hown hK hP 1 0 rfl rfl rfl 1 (by decide) (bw13 (w := Cond.fieldLink RL 9 "DropflagMillLaw$Own" "lines" "[[I") hts 31 rfl) (fun _ h9 => h9) rfl dL_law_162 ?_
            refine lv_iload hx hb dL_law_165 (lv_at hl 3 rfl) ?_
            refine lb_aald (v := .ref (r L)) hx hb hK hE hP 3 0 rfl rfl (i := nI L) (vp_in_nI (n := L) (by omega) (by omega)) (by rw [nI_clamp (by omega), hrr _ (by omega)]; rfl) dL_law_167 ?_
            refine lv_iconst (v := 1) hx hb dL_law_168 (by decide) ?_
            refine lb_iald (v := fa L) hx hb hK hP 4 L rfl (lrB_at (by omega)) (i := 1) (vp_in_nI (n := 1) (by omega) (by omega)) rfl dL_law_169 ?_
            refine lv_iload hx hb dL_law_170 (lv_at hl 1 rfl) ?_
            have hF5 : qp_F 8 fk (fs L) (fa L) nb := by have z := lg_numF hP4.2.2.1 hL h6 hsm L hL; rw [qb_us] at z; exact z
            have hl5 : ql_n (upd fs L (fs L)) n ≤ 16 := by rw [up_self]; exact hql
            refine ly_v (As := [.int (nI L), .int (fs L), .int (fa L), .int nb]) (rest := []) hx hb hml hown hts (m_put (l := l) (G := G) (k := k) (q := q) (M := M3) (L := L) (a := fs L) (b := fa L) (c := nb) hM3 hP4 hL hF5 hl5) 4 (sxGV (bi14 (w := Cond.methodLink RL 75 yX9_put) 8 rfl) (bi14 (w := Cond.instanceMethod yX9_put) 9 rfl) (bi14 (w := Cond.selects RX9 yX9_put yX9_put) 10 rfl) (bi1 (w := Cond.initialized RX9) 58 rfl) (bi10 (w := Cond.code yX9_put cX9_put 6 (some .int)) 32 rfl)) rfl (by decide +kernel) ⟨Nat.le_of_ble_eq_true rfl, Nat.le_of_ble_eq_true rfl⟩ hK hP hD hS hA hE [0] [1, 2, 3, 4, 5, 6] rfl rfl (by show List.Perm _ (List.range 7); decide) 0 0 rfl rfl rfl rfl hl rfl (Nat.le_of_ble_eq_true rfl) ⟨by show _ ≤ 600104; omega, by show _ ≤ 7301314; omega⟩ dL_law_172 (fun B1 v1 hp1 H locs hP hD hS => ?_)
            obtain ⟨M4, rfl, rfl, hM4, eR4⟩ := hp1
            rw [up_self, up_self] at hM4
            have hP5 : lgP 8 fk n fs fa (upd fb L nb) := ⟨hP4.1, hP4.2.1, lg_numF hP4.2.2.1 hL h6 hsm, hP4.2.2.2⟩
            have hG5 := lg_num hG hL h6 hsm
            have hz4 : qk_fc M4.2.1 = 0 := lg_numT (by omega) hql hL h6 hM3.2.1 hM4.2.1 (by rw [eT3]; exact hz2)
            show W p l e _ s m #[Value.ref b] below meth c H locs _ _ _ (F0 m 175 ls [.int (fs L)])
            have hP : va_P G.1 vwCl (lxF [mlW G q M4, [(a2_, .inr (10, [.ref ok, .ref ol, .ref na]))], [(ok, .inl (G.2.1, 8, .inl fk))], [(ol, lxq k n rr)], lrB G r fs fa fb n, [(na, lxq k (n + 1) nf)], nxB G nr nl nc (n + 1)]) H := hP
            have hD : va_D A (lxF [mlW G q M4, [(a2_, .inr (10, [.ref ok, .ref ol, .ref na]))], [(ok, .inl (G.2.1, 8, .inl fk))], [(ol, lxq k n rr)], lrB G r fs fa fb n, [(na, lxq k (n + 1) nf)], nxB G nr nl nc (n + 1)]) := hD
            refine lv_iload hx hb dL_law_175 (lv_at hl 2 rfl) ?_
            refine lv_icmp_ne (tgt := 197) hx hb dL_law_177 (by decide) (fun c17 => False.elim (by exact c17 rfl)) (fun c17 => ?_)
            refine lv_aload_n hx hb dL_law_180 rfl (lv_at hl 6 rfl) ?_
            refine lv_iconst (v := 2) hx hb dL_law_181 (by decide) ?_
            refine ly_v (As := [.int 2]) (rest := []) hx hb hml hown hts (m_many2 (l := l) (G := G) (k := k) (q := q) (M := M4) hM4 hP5) 1 (sxGV (bi14 (w := Cond.methodLink RL 69 yX9_many) 6 rfl) (bi12 (w := Cond.instanceMethod yX9_many) 50 rfl) (bi12 (w := Cond.selects RX9 yX9_many yX9_many) 51 rfl) (bi1 (w := Cond.initialized RX9) 58 rfl) (bi11 (w := Cond.code yX9_many cX9_many 2 (some .int)) 56 rfl)) rfl (by decide +kernel) ⟨Nat.le_of_ble_eq_true rfl, Nat.le_of_ble_eq_true rfl⟩ hK hP hD hS hA hE [0] [1, 2, 3, 4, 5, 6] rfl rfl (by show List.Perm _ (List.range 7); decide) 0 0 rfl rfl rfl rfl hl rfl (Nat.le_of_ble_eq_true rfl) ⟨by show _ ≤ 600104; omega, by show _ ≤ 7301314; omega⟩ dL_law_182 (fun B1 v1 hp1 H locs hP hD hS => ?_)
            obtain ⟨rfl, rfl⟩ := hp1
            show W p l e _ s m #[Value.ref b] below meth c H locs _ _ _ (F0 m 185 ls [.int (nI (qk_fc M4.2.1))])
            have hP : va_P G.1 vwCl (lxF [mlW G q M4, [(a2_, .inr (10, [.ref ok, .ref ol, .ref na]))], [(ok, .inl (G.2.1, 8, .inl fk))], [(ol, lxq k n rr)], lrB G r fs fa fb n, [(na, lxq k (n + 1) nf)], nxB G nr nl nc (n + 1)]) H := hP
            have hD : va_D A (lxF [mlW G q M4, [(a2_, .inr (10, [.ref ok, .ref ol, .ref na]))], [(ok, .inl (G.2.1, 8, .inl fk))], [(ol, lxq k n rr)], lrB G r fs fa fb n, [(na, lxq k (n + 1) nf)], nxB G nr nl nc (n + 1)]) := hD
            refine lv_if_ne (tgt := 197) hx hb dL_law_185 (by decide) (fun c18 => False.elim (by have nc18 := (not_congr (nI_eq (a := (qk_fc M4.2.1)) (b := 0) (by omega) (by omega))).mp c18; exact c18 (by rw [hz4]; rfl))) (fun c18 => ?_)
            have nc18 := (nI_eq (a := (qk_fc M4.2.1)) (b := 0) (by omega) (by omega)).mp c18
            refine lv_aload_n hx hb dL_law_188 rfl (lv_at hl 6 rfl) ?_
            refine ly_v (As := []) (rest := []) hx hb hml hown hts (m_run (l := l) (G := G) (k := k) (q := q) (M := M4) hM4 hP5 hKK hz4) 0 (sxGV (bi14 (w := Cond.methodLink RL 92 yX9_run) 47 rfl) (bi14 (w := Cond.instanceMethod yX9_run) 48 rfl) (bi14 (w := Cond.selects RX9 yX9_run yX9_run) 49 rfl) (bi1 (w := Cond.initialized RX9) 58 rfl) (bi11 (w := Cond.code yX9_run cX9_run 1 (some .int)) 28 rfl)) rfl (by decide +kernel) ⟨Nat.le_of_ble_eq_true rfl, Nat.le_of_ble_eq_true rfl⟩ hK hP hD hS hA hE [0] [1, 2, 3, 4, 5, 6] rfl rfl (by show List.Perm _ (List.range 7); decide) 0 0 rfl rfl rfl rfl hl rfl (Nat.le_of_ble_eq_true rfl) ⟨by show _ ≤ 600104; omega, by show _ ≤ 7301314; omega⟩ dL_law_189 (fun B1 v1 hp1 H locs hP hD hS => ?_)
            obtain ⟨M5, rfl, rfl, hM5, eT5, hZ5, eR5, hgo5⟩ := hp1
            show W p l e _ s m #[Value.ref b] below meth c H locs _ _ _ (F0 m 192 ls [.int (qr_yoco M5.2.2.1)])
            have hP : va_P G.1 vwCl (lxF [mlW G q M5, [(a2_, .inr (10, [.ref ok, .ref ol, .ref na]))], [(ok, .inl (G.2.1, 8, .inl fk))], [(ol, lxq k n rr)], lrB G r fs fa fb n, [(na, lxq k (n + 1) nf)], nxB G nr nl nc (n + 1)]) H := hP
            have hD : va_D A (lxF [mlW G q M5, [(a2_, .inr (10, [.ref ok, .ref ol, .ref na]))], [(ok, .inl (G.2.1, 8, .inl fk))], [(ol, lxq k n rr)], lrB G r fs fa fb n, [(na, lxq k (n + 1) nf)], nxB G nr nl nc (n + 1)]) := hD
            refine lv_iload hx hb dL_law_192 (lv_at hl 0 rfl) ?_
            refine lv_icmp_eq (tgt := 199) hx hb dL_law_194 (by decide) (fun c19 => ?_) (fun c19 => False.elim (by exact c19 (go_one (by omega) hql hM4.2.1 hL1 hz4 hgo5 hgo).1))
            refine lv_aload_n hx hb dL_law_199 rfl (lv_at hl 7 rfl) ?_
            refine lb_get (ci := 10) (v := .ref ol) (C := RX10) (T := TX10) (N := 3) hx hb hts owX10 hown hK hP 1 0 rfl rfl rfl 1 (by decide) (bw13 (w := Cond.fieldLink RL 9 "DropflagMillLaw$Own" "lines" "[[I") hts 31 rfl) (fun _ h9 => h9) rfl dL_law_200 ?_
            refine lv_iload hx hb dL_law_203 (lv_at hl 3 rfl) ?_
            refine lb_aald (v := .ref (r L)) hx hb hK hE hP 3 0 rfl rfl (i := nI L) (vp_in_nI (n := L) (by omega) (by omega)) (by rw [nI_clamp (by omega), hrr _ (by omega)]; rfl) dL_law_205 ?_
            refine lv_iconst (v := 2) hx hb dL_law_206 (by decide) ?_
            refine lv_iload hx hb dL_law_207 (lv_at hl 1 rfl) ?_
            refine lb_iast (x := nb) hx hb hK hP hD hS 4 L rfl (lrB_at (by omega)) (i := 2) (i' := 2) (vp_in_nI (n := 2) (by omega) (by omega)) rfl dL_law_209 (fun H locs hP hD hS => ?_)
            rw [lrB_num hL] at hP hD
            have hP : va_P G.1 vwCl (lxF [mlW G q M5, [(a2_, .inr (10, [.ref ok, .ref ol, .ref na]))], [(ok, .inl (G.2.1, 8, .inl fk))], [(ol, lxq k n rr)], lrB G r fs fa (upd fb L nb) n, [(na, lxq k (n + 1) nf)], nxB G nr nl nc (n + 1)]) H := hP
            have hD : va_D A (lxF [mlW G q M5, [(a2_, .inr (10, [.ref ok, .ref ol, .ref na]))], [(ok, .inl (G.2.1, 8, .inl fk))], [(ol, lxq k n rr)], lrB G r fs fa (upd fb L nb) n, [(na, lxq k (n + 1) nf)], nxB G nr nl nc (n + 1)]) := hD
            refine lv_iinc (v := nI (i + 1)) (lv' := [(3, .int (nI (i + 1))), (8, .int (qr_yoco Z)), (7, .int nb), (6, .int (fs L)), (5, .int (nI L)), (4, .int (qr_yoco M1.2.2.1)), (0, .ref k.2.1), (1, .ref (q 0)), (2, .ref a2_)]) hx hb dL_law_210 hl (k := 8) rfl (nI_1 i) (by decide) rfl (fun ls hl => ?_)
            refine lv_goto (tgt := 48) hx hb dL_law_213 (by decide) ?_
            exact ih3 (i + 1) (t + 1 + 1) M5 (upd fb L nb) (by omega) (by omega) (by omega) (⟨hrr, hM5, hP5, eR5.trans (by rw [eR4, eR3, hrn2]; exact nI_1 (t + 1))⟩) (hG5) (by rw [eT5]; exact hz4) _ _ (by omega) (by omega) _ _ hP hD hS ls (lv_sub hl [6, 7, 8, 0] rfl)
          · refine lv_goto (tgt := 210) hx hb dL_law_126 (by decide) ?_
            refine lv_iinc (v := nI (i + 1)) (lv' := [(3, .int (nI (i + 1))), (6, .int (fs L)), (5, .int (nI L)), (4, .int (qr_yoco M1.2.2.1)), (0, .ref k.2.1), (1, .ref (q 0)), (2, .ref a2_)]) hx hb dL_law_210 hl (k := 6) rfl (nI_1 i) (by decide) rfl (fun ls hl => ?_)
            refine lv_goto (tgt := 48) hx hb dL_law_213 (by decide) ?_
            exact ih3 (i + 1) (t + 1) M2 fb (by omega) (by omega) (by omega) (hI2) (hG) (hz2) _ _ (by omega) (by omega) _ _ hP hD hS ls (lv_sub hl [4, 5, 6, 0] rfl)
  exact LP48_3 4 0 0 M2 fb (by omega) (Nat.zero_le _) (Nat.zero_le _) (hI) (hG) (hz) _ _ (by omega) (by omega) _ _ hP hD hS ls (lv_sub hl [3, 2, 1, 0] rfl)
