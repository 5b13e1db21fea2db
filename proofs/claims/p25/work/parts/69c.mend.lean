abbrev wdL_mend : List Cond := Cond.code yL_mend cL_mend 6 (some .boolean) :: bwC
set_option maxHeartbeats 4000000 in
set_option maxRecDepth 100000 in
theorem t_L_mend (l : Launch) (G : sxG) (k : lxC) (q : Nat → Nat) (o ok ol on n : Nat) (rr : Nat → Option Nat) (r : Nat → Nat) (fk fs fa fb : Nat → Int32) (M : mlS) (rn : Int32) (hI : lsI fk n rr r fs fa fb M rn) (hG : qz_G n fk fs fa fb) : lyM l yL_mend wdL_mend 6 147 170 450 G k [mlW G q M, [(o, .inr (10, [.ref ok, .ref ol, .ref on]))], [(ol, lxq k n rr)], lrB G r fs fa fb n] [.ref (q 0), .ref o] (fun B v => v = some (.int 1) ∧ ∃ (M1 : mlS) (rr1 : Nat → Option Nat) (r1 : Nat → Nat) (fs1 fa1 fb1 : Nat → Int32) (na : Nat) (nf : Nat → Option Nat) (nr nl : Nat → Nat) (nc : Nat → Nat → Int32), B = [mlW G q M1, [(o, .inr (10, [.ref ok, .ref ol, .ref na]))], [(ol, lxq k n rr1)], lrB G r1 fs1 fa1 fb1 n, [(na, lxq k (n + 1) nf)], nxB G nr nl nc (n + 1)] ∧ lsI fk n rr1 r1 fs1 fa1 fb1 M1 rn ∧ qz_G n fk fs1 fa1 fb1 ∧ qk_fc M1.2.1 = 0 ∧ (∀ j, j < n + 1 → nf j = some (nr j)) ∧ jnF fs1 n nl nc n) := by
  refine lyM.of (cc := cL_mend) (maxL := 6) (rt := (some .boolean)) (by decide) rfl (Nat.le_of_ble_eq_true rfl) ?_
  intro p e s m args below meth c ⟨hx, hb, hr, hml, hown, hlk, hts, hK⟩ hnm A hA hP hD hS hE ls hl
  have hl : lv_has ls 6 [(0, .ref (q 0)), (1, .ref o)] := hl
  have LP125_1 : ∀ (kk1 : Nat) (M : mlS) (rr : Nat → Option Nat) (r : Nat → Nat) (fs : Nat → Int32) (fa : Nat → Int32) (fb : Nat → Int32), 0 < kk1 → (lsI fk n rr r fs fa fb M rn) → (qz_G n fk fs fa fb) → (qk_fc M.2.1 = 0) → ∀ cells slots : Nat, cells ≤ 41 → slots ≤ 130 → ∀ (H : Heap) (locs : List Loc), va_P G.1 vwCl (lxF [mlW G q M, [(o, .inr (10, [.ref ok, .ref ol, .ref on]))], [(ol, lxq k n rr)], lrB G r fs fa fb n]) H → va_D A (lxF [mlW G q M, [(o, .inr (10, [.ref ok, .ref ol, .ref on]))], [(ol, lxq k n rr)], lrB G r fs fa fb n]) → va_S A s.heap H locs → ∀ ls : Array Slot, lv_has ls 6 [(0, .ref (q 0)), (1, .ref o)] → W p l e ({ frames := 6, cells := 170, slots := 450, locals := 147 } : Room) s m args below meth c H locs cells slots (lyZ 170 450 G args s below A (fun B v => v = some (.int 1) ∧ ∃ (M1 : mlS) (rr1 : Nat → Option Nat) (r1 : Nat → Nat) (fs1 fa1 fb1 : Nat → Int32) (na : Nat) (nf : Nat → Option Nat) (nr nl : Nat → Nat) (nc : Nat → Nat → Int32), B = [mlW G q M1, [(o, .inr (10, [.ref ok, .ref ol, .ref na]))], [(ol, lxq k n rr1)], lrB G r1 fs1 fa1 fb1 n, [(na, lxq k (n + 1) nf)], nxB G nr nl nc (n + 1)] ∧ lsI fk n rr1 r1 fs1 fa1 fb1 M1 rn ∧ qz_G n fk fs1 fa1 fb1 ∧ qk_fc M1.2.1 = 0 ∧ (∀ j, j < n + 1 → nf j = some (nr j)) ∧ jnF fs1 n nl nc n)) (F0 m 125 ls []) := by
    intro kk1
    induction kk1 with
    | zero =>
      intro M rr r fs fa fb hm
      exact absurd hm (Nat.not_lt_zero _)
    | succ kk1 ih1 =>
      intro M rr r fs fa fb hm1 hI hG hz cells slots hcc1 hss1 H locs hP hD hS ls hl
      obtain ⟨hrr, hM, hP4, hrn⟩ := id hI
      have hn := hP4.2.1
      have hql := hP4.2.2.2
      refine lv_aload_n hx hb dL_mend_125 rfl (lv_at hl 0 rfl) ?_
      refine lv_iconst (v := 2) hx hb dL_mend_126 (by decide) ?_
      refine ly_v (As := [.int 2]) (rest := []) hx hb hml hown hts (m_many2 (l := l) (G := G) (k := k) (q := q) hM hP4) 1 (sxGV (bi14 (w := Cond.methodLink RL 69 yX9_many) 6 rfl) (bi12 (w := Cond.instanceMethod yX9_many) 50 rfl) (bi12 (w := Cond.selects RX9 yX9_many yX9_many) 51 rfl) (bi1 (w := Cond.initialized RX9) 58 rfl) (bi11 (w := Cond.code yX9_many cX9_many 2 (some .int)) 56 rfl)) rfl (by decide +kernel) ⟨Nat.le_of_ble_eq_true rfl, Nat.le_of_ble_eq_true rfl⟩ hK hP hD hS hA hE [0] [1, 2, 3] rfl rfl (by show List.Perm _ (List.range 4); decide) 0 0 rfl rfl rfl rfl hl rfl (Nat.le_of_ble_eq_true rfl) ⟨by show _ ≤ 170; omega, by show _ ≤ 450; omega⟩ dL_mend_127 (fun B1 v1 hp1 H locs hP hD hS => ?_)
      obtain ⟨rfl, rfl⟩ := hp1
      show W p l e _ s m args below meth c H locs _ _ _ (F0 m 130 ls [.int (nI (qk_fc M.2.1))])
      have hP : va_P G.1 vwCl (lxF [mlW G q M, [(o, .inr (10, [.ref ok, .ref ol, .ref on]))], [(ol, lxq k n rr)], lrB G r fs fa fb n]) H := hP
      have hD : va_D A (lxF [mlW G q M, [(o, .inr (10, [.ref ok, .ref ol, .ref on]))], [(ol, lxq k n rr)], lrB G r fs fa fb n]) := hD
      refine lv_if_ne (tgt := 144) hx hb dL_mend_130 (by decide) (fun c2 => False.elim (by have nc2 := (not_congr (nI_eq (a := (qk_fc M.2.1)) (b := 0) (by omega) (by omega))).mp c2; exact c2 (by rw [hz]; rfl))) (fun c2 => ?_)
      have nc2 := (nI_eq (a := (qk_fc M.2.1)) (b := 0) (by omega) (by omega)).mp c2
      refine lv_aload_n hx hb dL_mend_133 rfl (lv_at hl 1 rfl) ?_
      refine ly_v (As := []) (rest := []) hx hb hml hown hts (t_X10_join l G k o ok ol on n rr r fs fa fb hn hrr hG.2.2.2.2.2.2.2.2) 0 (sxGV (bi14 (w := Cond.methodLink RL 79 yX10_join) 11 rfl) (bi14 (w := Cond.instanceMethod yX10_join) 12 rfl) (bi14 (w := Cond.selects RX10 yX10_join yX10_join) 13 rfl) (bi13 (w := Cond.initialized RX10) 21 rfl) (bi13 (w := Cond.code yX10_join cX10_join 7 (some .int)) 23 rfl)) rfl (by decide +kernel) ⟨Nat.le_of_ble_eq_true rfl, Nat.le_of_ble_eq_true rfl⟩ hK hP hD hS hA hE [1, 2, 3] [0] rfl rfl (by show List.Perm _ (List.range 4); decide) 0 0 rfl rfl rfl rfl hl rfl (Nat.le_of_ble_eq_true rfl) ⟨by show _ ≤ 170; omega, by show _ ≤ 450; omega⟩ dL_mend_134 (fun B1 v1 hp1 H locs hP hD hS => ?_)
      obtain ⟨rfl, na, nf, nr, nl, nc, rfl, hnf, hF⟩ := hp1
      show W p l e _ s m args below meth c H locs _ _ _ (F0 m 137 ls [.int (-1)])
      have hP : va_P G.1 vwCl (lxF [[(o, .inr (10, [.ref ok, .ref ol, .ref na]))], [(ol, lxq k n rr)], lrB G r fs fa fb n, [(na, lxq k (n + 1) nf)], nxB G nr nl nc (n + 1), mlW G q M]) H := hP
      have hD : va_D A (lxF [[(o, .inr (10, [.ref ok, .ref ol, .ref na]))], [(ol, lxq k n rr)], lrB G r fs fa fb n, [(na, lxq k (n + 1) nf)], nxB G nr nl nc (n + 1), mlW G q M]) := hD
      obtain ⟨hP, hD⟩ := lb_sub (Cs := [mlW G q M, [(o, .inr (10, [.ref ok, .ref ol, .ref na]))], [(ol, lxq k n rr)], lrB G r fs fa fb n, [(na, lxq k (n + 1) nf)], nxB G nr nl nc (n + 1)]) [5, 0, 1, 2, 3, 4] [] hP hD rfl (by show List.Perm _ (List.range 6); decide)
      refine lv_if_ge (tgt := 144) hx hb dL_mend_137 (by decide) (fun c3 => absurd c3 (by decide)) (fun c3 => ?_)
      refine lv_iconst (v := 1) hx hb dL_mend_140 (by decide) ?_
      refine lv_goto (tgt := 145) hx hb dL_mend_141 (by decide) ?_
      exact ly_ri hx hb hr hlk hP hD hS rfl (⟨rfl, M, rr, r, fs, fa, fb, na, nf, nr, nl, nc, rfl, hI, hG, hz, hnf, hF⟩) (by omega) (by omega) dL_mend_145
  refine lv_iconst (v := 0) hx hb dL_mend_0 (by decide) ?_
  refine lv_istore_n (lv' := [(2, .int 0), (0, .ref (q 0)), (1, .ref o)]) hx hb dL_mend_1 rfl hl (by decide) rfl (fun ls hl => ?_)
  have LP2_4 : ∀ (kk4 : Nat) (i : Nat) (M : mlS) (rr : Nat → Option Nat) (r : Nat → Nat) (fs : Nat → Int32) (fa : Nat → Int32) (fb : Nat → Int32), 40 - i < kk4 → (i ≤ 40) → (lsI fk n rr r fs fa fb M rn) → (qz_G n fk fs fa fb) → (lmU fs fa n + i ≤ 40) → ∀ cells slots : Nat, cells ≤ i → slots ≤ 3 * i → ∀ (H : Heap) (locs : List Loc), va_P G.1 vwCl (lxF [mlW G q M, [(o, .inr (10, [.ref ok, .ref ol, .ref on]))], [(ol, lxq k n rr)], lrB G r fs fa fb n]) H → va_D A (lxF [mlW G q M, [(o, .inr (10, [.ref ok, .ref ol, .ref on]))], [(ol, lxq k n rr)], lrB G r fs fa fb n]) → va_S A s.heap H locs → ∀ ls : Array Slot, lv_has ls 6 [(0, .ref (q 0)), (1, .ref o), (2, .int (nI i))] → W p l e ({ frames := 6, cells := 170, slots := 450, locals := 147 } : Room) s m args below meth c H locs cells slots (lyZ 170 450 G args s below A (fun B v => v = some (.int 1) ∧ ∃ (M1 : mlS) (rr1 : Nat → Option Nat) (r1 : Nat → Nat) (fs1 fa1 fb1 : Nat → Int32) (na : Nat) (nf : Nat → Option Nat) (nr nl : Nat → Nat) (nc : Nat → Nat → Int32), B = [mlW G q M1, [(o, .inr (10, [.ref ok, .ref ol, .ref na]))], [(ol, lxq k n rr1)], lrB G r1 fs1 fa1 fb1 n, [(na, lxq k (n + 1) nf)], nxB G nr nl nc (n + 1)] ∧ lsI fk n rr1 r1 fs1 fa1 fb1 M1 rn ∧ qz_G n fk fs1 fa1 fb1 ∧ qk_fc M1.2.1 = 0 ∧ (∀ j, j < n + 1 → nf j = some (nr j)) ∧ jnF fs1 n nl nc n)) (F0 m 2 ls []) := by
    intro kk4
    induction kk4 with
    | zero =>
      intro i M rr r fs fa fb hm
      exact absurd hm (Nat.not_lt_zero _)
    | succ kk4 ih4 =>
      intro i M rr r fs fa fb hm4 hi hI hG hu cells slots hcc4 hss4 H locs hP hD hS ls hl
      refine lv_iload_n hx hb dL_mend_2 rfl (lv_at hl 2 rfl) ?_
      refine lv_bipush (v := 40) hx hb dL_mend_3 (by decide) ?_
      refine lv_icmp_ge (tgt := 125) hx hb dL_mend_5 (by decide) (fun c5 => ?_) (fun c5 => ?_)
      · have nc5 := (nI_leI (a := 40) (b := i) (by omega) (by omega)).mp c5
        exact LP125_1 1 M rr r fs fa fb (by omega) (hI) (hG) (lm_zero hG hI.2.1.2.1 (by omega)) _ _ (by omega) (by omega) _ _ hP hD hS ls (lv_sub hl [0, 1] rfl)
      · have nc5 := (not_congr (nI_leI (a := 40) (b := i) (by omega) (by omega))).mp c5
        obtain ⟨hrr, hM, hP4, hrn⟩ := id hI
        have hn := hP4.2.1
        have hql := hP4.2.2.2
        have hfc := qv_fc hM.2.1 (show n ≤ 33 by omega)
        refine lv_aload_n hx hb dL_mend_8 rfl (lv_at hl 0 rfl) ?_
        refine lv_iconst (v := 2) hx hb dL_mend_9 (by decide) ?_
        refine ly_v (As := [.int 2]) (rest := []) hx hb hml hown hts (m_many2 (l := l) (G := G) (k := k) (q := q) hM hP4) 1 (sxGV (bi14 (w := Cond.methodLink RL 69 yX9_many) 6 rfl) (bi12 (w := Cond.instanceMethod yX9_many) 50 rfl) (bi12 (w := Cond.selects RX9 yX9_many yX9_many) 51 rfl) (bi1 (w := Cond.initialized RX9) 58 rfl) (bi11 (w := Cond.code yX9_many cX9_many 2 (some .int)) 56 rfl)) rfl (by decide +kernel) ⟨Nat.le_of_ble_eq_true rfl, Nat.le_of_ble_eq_true rfl⟩ hK hP hD hS hA hE [0] [1, 2, 3] rfl rfl (by show List.Perm _ (List.range 4); decide) 0 0 rfl rfl rfl rfl hl rfl (Nat.le_of_ble_eq_true rfl) ⟨by show _ ≤ 170; omega, by show _ ≤ 450; omega⟩ dL_mend_10 (fun B1 v1 hp1 H locs hP hD hS => ?_)
        obtain ⟨rfl, rfl⟩ := hp1
        show W p l e _ s m args below meth c H locs _ _ _ (F0 m 13 ls [.int (nI (qk_fc M.2.1))])
        have hP : va_P G.1 vwCl (lxF [mlW G q M, [(o, .inr (10, [.ref ok, .ref ol, .ref on]))], [(ol, lxq k n rr)], lrB G r fs fa fb n]) H := hP
        have hD : va_D A (lxF [mlW G q M, [(o, .inr (10, [.ref ok, .ref ol, .ref on]))], [(ol, lxq k n rr)], lrB G r fs fa fb n]) := hD
        refine lv_if_le (tgt := 125) hx hb dL_mend_13 (by decide) (fun c6 => ?_) (fun c6 => ?_)
        · have nc6 := (nI_leI (a := (qk_fc M.2.1)) (b := 0) (by omega) (by omega)).mp c6
          exact LP125_1 1 M rr r fs fa fb (by omega) (hI) (hG) ((by omega)) _ _ (by omega) (by omega) _ _ hP hD hS ls (lv_sub hl [0, 1] rfl)
        · have nc6 := (not_congr (nI_leI (a := (qk_fc M.2.1)) (b := 0) (by omega) (by omega))).mp c6
          obtain ⟨L, hL1, hL2, exl, exn, hus, hs9, hs10, hs11⟩ := lm_first hG hM.2.1 (by omega)
          refine lv_aload_n hx hb dL_mend_16 rfl (lv_at hl 0 rfl) ?_
          refine lv_iconst (v := 0) hx hb dL_mend_17 (by decide) ?_
          refine lv_iconst (v := 1) hx hb dL_mend_18 (by decide) ?_
          refine ly_v (As := [.int 0, .int 1]) (rest := []) hx hb hml hown hts (m_fault1 (l := l) (G := G) (k := k) (q := q) hM hP4 (by omega)) 2 (sxGV (bi14 (w := Cond.methodLink RL 72 yX9_fault) 7 rfl) (bi12 (w := Cond.instanceMethod yX9_fault) 37 rfl) (bi12 (w := Cond.selects RX9 yX9_fault yX9_fault) 38 rfl) (bi1 (w := Cond.initialized RX9) 58 rfl) (bi11 (w := Cond.code yX9_fault cX9_fault 3 (some .int)) 10 rfl)) rfl (by decide +kernel) ⟨Nat.le_of_ble_eq_true rfl, Nat.le_of_ble_eq_true rfl⟩ hK hP hD hS hA hE [0] [1, 2, 3] rfl rfl (by show List.Perm _ (List.range 4); decide) 0 0 rfl rfl rfl rfl hl rfl (Nat.le_of_ble_eq_true rfl) ⟨by show _ ≤ 170; omega, by show _ ≤ 450; omega⟩ dL_mend_19 (fun B1 v1 hp1 H locs hP hD hS => ?_)
          obtain ⟨rfl, rfl⟩ := hp1
          rw [exl]
          show W p l e _ s m args below meth c H locs _ _ _ (F0 m 22 ls [.int (nI L)])
          have hP : va_P G.1 vwCl (lxF [mlW G q M, [(o, .inr (10, [.ref ok, .ref ol, .ref on]))], [(ol, lxq k n rr)], lrB G r fs fa fb n]) H := hP
          have hD : va_D A (lxF [mlW G q M, [(o, .inr (10, [.ref ok, .ref ol, .ref on]))], [(ol, lxq k n rr)], lrB G r fs fa fb n]) := hD
          refine lv_istore_n (lv' := [(3, .int (nI L)), (0, .ref (q 0)), (1, .ref o), (2, .int (nI i))]) hx hb dL_mend_22 rfl hl (by decide) rfl (fun ls hl => ?_)
          refine lv_aload_n hx hb dL_mend_23 rfl (lv_at hl 2 rfl) ?_
          refine lb_get (ci := 10) (v := .ref ol) (C := RX10) (T := TX10) (N := 3) hx hb hts owX10 hown hK hP 1 0 rfl rfl rfl 1 (by decide) (bw13 (w := Cond.fieldLink RL 9 "DropflagMillLaw$Own" "lines" "[[I") hts 31 rfl) (fun _ h9 => h9) rfl dL_mend_24 ?_
          refine lv_iload_n hx hb dL_mend_27 rfl (lv_at hl 0 rfl) ?_
          refine lb_aald (v := .ref (r L)) hx hb hK hE hP 2 0 rfl rfl (i := nI L) (vp_in_nI (n := L) (by omega) (by omega)) (by rw [nI_clamp (by omega), hrr _ (by omega)]; rfl) dL_mend_28 ?_
          refine lv_iconst (v := 0) hx hb dL_mend_29 (by decide) ?_
          refine lb_iald (v := fs L) hx hb hK hP 3 L rfl (lrB_at (by omega)) (i := 0) (vp_in_nI (n := 0) (by omega) (by omega)) rfl dL_mend_30 ?_
          refine lv_istore (lv' := [(4, .int (fs L)), (3, .int (nI L)), (0, .ref (q 0)), (1, .ref o), (2, .int (nI i))]) hx hb dL_mend_31 hl (by decide) rfl (fun ls hl => ?_)
          refine lv_iload hx hb dL_mend_33 (lv_at hl 0 rfl) ?_
          refine lv_bipush (v := 8) hx hb dL_mend_35 (by decide) ?_
          refine lv_icmp_ne (tgt := 59) hx hb dL_mend_37 (by decide) (fun c7 => ?_) (fun c7 => ?_)
          · refine lv_iconst (v := 3) hx hb dL_mend_59 (by decide) ?_
            refine lb_newi hx hb (bw0 (w := Cond.arrayClass .int) hts 5 rfl) hK hP hD hS hA 3 (by decide) rfl (by show 3 * 4 ≤ _; omega) (by show _ ≤ 170; omega) (by show _ ≤ 450; omega) dL_mend_60 (fun a1_ H hP hD hS => ?_)
            have hP : va_P G.1 vwCl (lxF [mlW G q M, [(o, .inr (10, [.ref ok, .ref ol, .ref on]))], [(ol, lxq k n rr)], lrB G r fs fa fb n, [(a1_, .inl (G.2.1, 3, .inl (fun _ => 0)))]]) H := hP
            have hD : va_D A (lxF [mlW G q M, [(o, .inr (10, [.ref ok, .ref ol, .ref on]))], [(ol, lxq k n rr)], lrB G r fs fa fb n, [(a1_, .inl (G.2.1, 3, .inl (fun _ => 0)))]]) := hD
            refine lv_dup hx hb dL_mend_62 rfl ?_
            refine lv_iconst (v := 0) hx hb dL_mend_63 (by decide) ?_
            refine lv_iconst (v := 0) hx hb dL_mend_64 (by decide) ?_
            refine lb_iast (x := 0) hx hb hK hP hD hS 4 0 rfl rfl (i := 0) (i' := 0) (vp_in_nI (n := 0) (by omega) (by omega)) rfl dL_mend_65 (fun H locs hP hD hS => ?_)
            have hP : va_P G.1 vwCl (lxF [mlW G q M, [(o, .inr (10, [.ref ok, .ref ol, .ref on]))], [(ol, lxq k n rr)], lrB G r fs fa fb n, [(a1_, .inl (G.2.1, 3, .inl (upd (fun _ => 0) 0 0)))]]) H := hP
            have hD : va_D A (lxF [mlW G q M, [(o, .inr (10, [.ref ok, .ref ol, .ref on]))], [(ol, lxq k n rr)], lrB G r fs fa fb n, [(a1_, .inl (G.2.1, 3, .inl (upd (fun _ => 0) 0 0)))]]) := hD
            refine lv_dup hx hb dL_mend_66 rfl ?_
            refine lv_iconst (v := 1) hx hb dL_mend_67 (by decide) ?_
            refine lv_bipush (v := 18) hx hb dL_mend_68 (by decide) ?_
            refine lb_iast (x := 18) hx hb hK hP hD hS 4 0 rfl rfl (i := 1) (i' := 1) (vp_in_nI (n := 1) (by omega) (by omega)) rfl dL_mend_70 (fun H locs hP hD hS => ?_)
            have hP : va_P G.1 vwCl (lxF [mlW G q M, [(o, .inr (10, [.ref ok, .ref ol, .ref on]))], [(ol, lxq k n rr)], lrB G r fs fa fb n, [(a1_, .inl (G.2.1, 3, .inl (upd (upd (fun _ => 0) 0 0) 1 18)))]]) H := hP
            have hD : va_D A (lxF [mlW G q M, [(o, .inr (10, [.ref ok, .ref ol, .ref on]))], [(ol, lxq k n rr)], lrB G r fs fa fb n, [(a1_, .inl (G.2.1, 3, .inl (upd (upd (fun _ => 0) 0 0) 1 18)))]]) := hD
            refine lv_dup hx hb dL_mend_71 rfl ?_
            refine lv_iconst (v := 2) hx hb dL_mend_72 (by decide) ?_
            refine lv_iload_n hx hb dL_mend_73 rfl (lv_at hl 4 rfl) ?_
            refine lb_iast (x := nI i) hx hb hK hP hD hS 4 0 rfl rfl (i := 2) (i' := 2) (vp_in_nI (n := 2) (by omega) (by omega)) rfl dL_mend_74 (fun H locs hP hD hS => ?_)
            have hP : va_P G.1 vwCl (lxF [mlW G q M, [(o, .inr (10, [.ref ok, .ref ol, .ref on]))], [(ol, lxq k n rr)], lrB G r fs fa fb n, [(a1_, .inl (G.2.1, 3, .inl (upd (upd (upd (fun _ => 0) 0 0) 1 18) 2 (nI i))))]]) H := hP
            have hD : va_D A (lxF [mlW G q M, [(o, .inr (10, [.ref ok, .ref ol, .ref on]))], [(ol, lxq k n rr)], lrB G r fs fa fb n, [(a1_, .inl (G.2.1, 3, .inl (upd (upd (upd (fun _ => 0) 0 0) 1 18) 2 (nI i))))]]) := hD
            refine lv_astore (lv' := [(5, .ref a1_), (4, .int (fs L)), (3, .int (nI L)), (0, .ref (q 0)), (1, .ref o), (2, .int (nI i))]) hx hb dL_mend_75 hl (by decide) rfl (fun ls hl => ?_)
            refine lv_aload_n hx hb dL_mend_77 rfl (lv_at hl 3 rfl) ?_
            refine lv_iconst (v := 0) hx hb dL_mend_78 (by decide) ?_
            refine lv_iconst (v := 0) hx hb dL_mend_79 (by decide) ?_
            refine ly_v (As := [.int 0, .int 0]) (rest := []) hx hb hml hown hts (m_fault0 (l := l) (G := G) (k := k) (q := q) hM hP4 (by omega)) 2 (sxGV (bi14 (w := Cond.methodLink RL 72 yX9_fault) 7 rfl) (bi12 (w := Cond.instanceMethod yX9_fault) 37 rfl) (bi12 (w := Cond.selects RX9 yX9_fault yX9_fault) 38 rfl) (bi1 (w := Cond.initialized RX9) 58 rfl) (bi11 (w := Cond.code yX9_fault cX9_fault 3 (some .int)) 10 rfl)) rfl (by decide +kernel) ⟨Nat.le_of_ble_eq_true rfl, Nat.le_of_ble_eq_true rfl⟩ hK hP hD hS hA hE [0] [1, 2, 3, 4] rfl rfl (by show List.Perm _ (List.range 5); decide) 0 0 rfl rfl rfl rfl hl rfl (Nat.le_of_ble_eq_true rfl) ⟨by show _ ≤ 170; omega, by show _ ≤ 450; omega⟩ dL_mend_80 (fun B1 v1 hp1 H locs hP hD hS => ?_)
            obtain ⟨rfl, rfl⟩ := hp1
            show W p l e _ s m args below meth c H locs _ _ _ (F0 m 83 ls [.int (qk_xn M.2.1 0)])
            have hP : va_P G.1 vwCl (lxF [mlW G q M, [(o, .inr (10, [.ref ok, .ref ol, .ref on]))], [(ol, lxq k n rr)], lrB G r fs fa fb n, [(a1_, .inl (G.2.1, 3, .inl (upd (upd (upd (fun _ => 0) 0 0) 1 18) 2 (nI i))))]]) H := hP
            have hD : va_D A (lxF [mlW G q M, [(o, .inr (10, [.ref ok, .ref ol, .ref on]))], [(ol, lxq k n rr)], lrB G r fs fa fb n, [(a1_, .inl (G.2.1, 3, .inl (upd (upd (upd (fun _ => 0) 0 0) 1 18) 2 (nI i))))]]) := hD
            refine lv_iconst (v := 5) hx hb dL_mend_83 (by decide) ?_
            refine lv_icmp_eq (tgt := 109) hx hb dL_mend_84 (by decide) (fun c8 => False.elim (by exact exn c8)) (fun c8 => ?_)
            refine lv_aload_n hx hb dL_mend_87 rfl (lv_at hl 3 rfl) ?_
            refine lv_iload_n hx hb dL_mend_88 rfl (lv_at hl 2 rfl) ?_
            refine lv_aload hx hb dL_mend_89 (lv_at hl 0 rfl) ?_
            refine lv_iconst (v := 0) hx hb dL_mend_91 (by decide) ?_
            refine lb_iald (v := 0) hx hb hK hP 4 0 rfl rfl (i := 0) (vp_in_nI (n := 0) (by omega) (by omega)) rfl dL_mend_92 ?_
            refine lv_aload hx hb dL_mend_93 (lv_at hl 0 rfl) ?_
            refine lv_iconst (v := 1) hx hb dL_mend_95 (by decide) ?_
            refine lb_iald (v := 18) hx hb hK hP 4 0 rfl rfl (i := 1) (vp_in_nI (n := 1) (by omega) (by omega)) rfl dL_mend_96 ?_
            refine lv_aload hx hb dL_mend_97 (lv_at hl 0 rfl) ?_
            refine lv_iconst (v := 2) hx hb dL_mend_99 (by decide) ?_
            refine lb_iald (v := nI i) hx hb hK hP 4 0 rfl rfl (i := 2) (vp_in_nI (n := 2) (by omega) (by omega)) rfl dL_mend_100 ?_
            have hF5 : qp_F 8 fk 0 18 (nI i) := (lf0 (kA := 5) ((lf_kd (p := 18) (by omega)).trans (lk_all hG.1).2.2.2.2.2.2) (by decide) (lf_small0 (by omega)))
            have hl5 : ql_n (upd fs L 0) n ≤ 16 := lm_ql hql hL2 (by decide)
            refine ly_v (As := [.int (nI L), .int 0, .int 18, .int (nI i)]) (rest := []) hx hb hml hown hts (m_put (l := l) (G := G) (k := k) (q := q) hM hP4 hL2 hF5 hl5) 4 (sxGV (bi14 (w := Cond.methodLink RL 75 yX9_put) 8 rfl) (bi14 (w := Cond.instanceMethod yX9_put) 9 rfl) (bi14 (w := Cond.selects RX9 yX9_put yX9_put) 10 rfl) (bi1 (w := Cond.initialized RX9) 58 rfl) (bi10 (w := Cond.code yX9_put cX9_put 6 (some .int)) 32 rfl)) rfl (by decide +kernel) ⟨Nat.le_of_ble_eq_true rfl, Nat.le_of_ble_eq_true rfl⟩ hK hP hD hS hA hE [0] [1, 2, 3, 4] rfl rfl (by show List.Perm _ (List.range 5); decide) 0 0 rfl rfl rfl rfl hl rfl (Nat.le_of_ble_eq_true rfl) ⟨by show _ ≤ 170; omega, by show _ ≤ 450; omega⟩ dL_mend_101 (fun B1 v1 hp1 H locs hP hD hS => ?_)
            obtain ⟨M1, rfl, rfl, hM1, hr1⟩ := hp1
            show W p l e _ s m args below meth c H locs _ _ _ (F0 m 104 ls [.int (fs L)])
            have hP : va_P G.1 vwCl (lxF [mlW G q M1, [(o, .inr (10, [.ref ok, .ref ol, .ref on]))], [(ol, lxq k n rr)], lrB G r fs fa fb n, [(a1_, .inl (G.2.1, 3, .inl (upd (upd (upd (fun _ => 0) 0 0) 1 18) 2 (nI i))))]]) H := hP
            have hD : va_D A (lxF [mlW G q M1, [(o, .inr (10, [.ref ok, .ref ol, .ref on]))], [(ol, lxq k n rr)], lrB G r fs fa fb n, [(a1_, .inl (G.2.1, 3, .inl (upd (upd (upd (fun _ => 0) 0 0) 1 18) 2 (nI i))))]]) := hD
            refine lv_iload hx hb dL_mend_104 (lv_at hl 1 rfl) ?_
            refine lv_icmp_eq (tgt := 111) hx hb dL_mend_106 (by decide) (fun c9 => ?_) (fun c9 => False.elim (by exact c9 rfl))
            refine lv_aload_n hx hb dL_mend_111 rfl (lv_at hl 4 rfl) ?_
            refine lb_get (ci := 10) (v := .ref ol) (C := RX10) (T := TX10) (N := 3) hx hb hts owX10 hown hK hP 1 0 rfl rfl rfl 1 (by decide) (bw13 (w := Cond.fieldLink RL 9 "DropflagMillLaw$Own" "lines" "[[I") hts 31 rfl) (fun _ h9 => h9) rfl dL_mend_112 ?_
            refine lv_iload_n hx hb dL_mend_115 rfl (lv_at hl 2 rfl) ?_
            refine lv_aload hx hb dL_mend_116 (lv_at hl 0 rfl) ?_
            refine lb_aast (r := a1_) hx hb hK hE hP hD hS 2 0 4 0 rfl rfl rfl rfl (i := nI L) (i' := L) (vp_in_nI (n := L) (by omega) (by omega)) (nI_clamp (by omega)) dL_mend_118 (fun H locs hP hD hS => ?_)
            have hP : va_P G.1 vwCl (lxF [mlW G q M1, [(o, .inr (10, [.ref ok, .ref ol, .ref on]))], [(ol, lxq k n (va_up rr L (some a1_)))], lrB G r fs fa fb n, [(a1_, .inl (G.2.1, 3, .inl (upd (upd (upd (fun _ => 0) 0 0) 1 18) 2 (nI i))))]]) H := hP
            have hD : va_D A (lxF [mlW G q M1, [(o, .inr (10, [.ref ok, .ref ol, .ref on]))], [(ol, lxq k n (va_up rr L (some a1_)))], lrB G r fs fa fb n, [(a1_, .inl (G.2.1, 3, .inl (upd (upd (upd (fun _ => 0) 0 0) 1 18) 2 (nI i))))]]) := hD
            obtain ⟨hP, hD⟩ := lx_swapP (Xs := [mlW G q M1, [(o, .inr (10, [.ref ok, .ref ol, .ref on]))], [(ol, lxq k n (va_up rr L (some a1_)))]]) hP hD (lrB_at (i := L) (by omega))
            rw [lrB_put hL2] at hP hD
            have hP : va_P G.1 vwCl (lxF [mlW G q M1, [(o, .inr (10, [.ref ok, .ref ol, .ref on]))], [(ol, lxq k n (va_up rr L (some a1_)))], lrB G (fun j => if j = L then a1_ else r j) (upd fs L 0) (upd fa L 18) (upd fb L (nI i)) n]) H := hP
            have hD : va_D A (lxF [mlW G q M1, [(o, .inr (10, [.ref ok, .ref ol, .ref on]))], [(ol, lxq k n (va_up rr L (some a1_)))], lrB G (fun j => if j = L then a1_ else r j) (upd fs L 0) (upd fa L 18) (upd fb L (nI i)) n]) := hD
            refine lv_iinc (v := nI (i + 1)) (lv' := [(2, .int (nI (i + 1))), (5, .ref a1_), (4, .int (fs L)), (3, .int (nI L)), (0, .ref (q 0)), (1, .ref o)]) hx hb dL_mend_119 hl (k := 5) rfl (nI_1 i) (by decide) rfl (fun ls hl => ?_)
            refine lv_goto (tgt := 2) hx hb dL_mend_122 (by decide) ?_
            exact ih4 (i + 1) M1 (va_up rr L (some a1_)) (fun j => if j = L then a1_ else r j) (upd fs L 0) (upd fa L 18) (upd fb L (nI i)) (by omega) (by omega) (⟨jn_nf hrr, hM1, lg_put hP4 hL2 hF5 hl5, hr1.trans hrn⟩) (lm_put hG hL1 hL2 hF5 hl5 (by decide) (Or.inr ⟨⟨c7, hs9, hs10, hs11⟩, by decide⟩)) (by have := lmU_put (fs := fs) (fa := fa) (L := L) (s := 0) (x := 18) (by decide) hus n hL2; omega) _ _ (by omega) (by omega) _ _ hP hD hS ls (lv_sub hl [4, 5, 0] rfl)
          · refine lv_iconst (v := 3) hx hb dL_mend_40 (by decide) ?_
            refine lb_newi hx hb (bw0 (w := Cond.arrayClass .int) hts 5 rfl) hK hP hD hS hA 3 (by decide) rfl (by show 3 * 4 ≤ _; omega) (by show _ ≤ 170; omega) (by show _ ≤ 450; omega) dL_mend_41 (fun a2_ H hP hD hS => ?_)
            have hP : va_P G.1 vwCl (lxF [mlW G q M, [(o, .inr (10, [.ref ok, .ref ol, .ref on]))], [(ol, lxq k n rr)], lrB G r fs fa fb n, [(a2_, .inl (G.2.1, 3, .inl (fun _ => 0)))]]) H := hP
            have hD : va_D A (lxF [mlW G q M, [(o, .inr (10, [.ref ok, .ref ol, .ref on]))], [(ol, lxq k n rr)], lrB G r fs fa fb n, [(a2_, .inl (G.2.1, 3, .inl (fun _ => 0)))]]) := hD
            refine lv_dup hx hb dL_mend_43 rfl ?_
            refine lv_iconst (v := 0) hx hb dL_mend_44 (by decide) ?_
            refine lv_bipush (v := 8) hx hb dL_mend_45 (by decide) ?_
            refine lb_iast (x := 8) hx hb hK hP hD hS 4 0 rfl rfl (i := 0) (i' := 0) (vp_in_nI (n := 0) (by omega) (by omega)) rfl dL_mend_47 (fun H locs hP hD hS => ?_)
            have hP : va_P G.1 vwCl (lxF [mlW G q M, [(o, .inr (10, [.ref ok, .ref ol, .ref on]))], [(ol, lxq k n rr)], lrB G r fs fa fb n, [(a2_, .inl (G.2.1, 3, .inl (upd (fun _ => 0) 0 8)))]]) H := hP
            have hD : va_D A (lxF [mlW G q M, [(o, .inr (10, [.ref ok, .ref ol, .ref on]))], [(ol, lxq k n rr)], lrB G r fs fa fb n, [(a2_, .inl (G.2.1, 3, .inl (upd (fun _ => 0) 0 8)))]]) := hD
            refine lv_dup hx hb dL_mend_48 rfl ?_
            refine lv_iconst (v := 1) hx hb dL_mend_49 (by decide) ?_
            refine lv_iconst (v := 0) hx hb dL_mend_50 (by decide) ?_
            refine lb_iast (x := 0) hx hb hK hP hD hS 4 0 rfl rfl (i := 1) (i' := 1) (vp_in_nI (n := 1) (by omega) (by omega)) rfl dL_mend_51 (fun H locs hP hD hS => ?_)
            have hP : va_P G.1 vwCl (lxF [mlW G q M, [(o, .inr (10, [.ref ok, .ref ol, .ref on]))], [(ol, lxq k n rr)], lrB G r fs fa fb n, [(a2_, .inl (G.2.1, 3, .inl (upd (upd (fun _ => 0) 0 8) 1 0)))]]) H := hP
            have hD : va_D A (lxF [mlW G q M, [(o, .inr (10, [.ref ok, .ref ol, .ref on]))], [(ol, lxq k n rr)], lrB G r fs fa fb n, [(a2_, .inl (G.2.1, 3, .inl (upd (upd (fun _ => 0) 0 8) 1 0)))]]) := hD
            refine lv_dup hx hb dL_mend_52 rfl ?_
            refine lv_iconst (v := 2) hx hb dL_mend_53 (by decide) ?_
            refine lv_iconst (v := 0) hx hb dL_mend_54 (by decide) ?_
            refine lb_iast (x := 0) hx hb hK hP hD hS 4 0 rfl rfl (i := 2) (i' := 2) (vp_in_nI (n := 2) (by omega) (by omega)) rfl dL_mend_55 (fun H locs hP hD hS => ?_)
            have hP : va_P G.1 vwCl (lxF [mlW G q M, [(o, .inr (10, [.ref ok, .ref ol, .ref on]))], [(ol, lxq k n rr)], lrB G r fs fa fb n, [(a2_, .inl (G.2.1, 3, .inl (upd (upd (upd (fun _ => 0) 0 8) 1 0) 2 0)))]]) H := hP
            have hD : va_D A (lxF [mlW G q M, [(o, .inr (10, [.ref ok, .ref ol, .ref on]))], [(ol, lxq k n rr)], lrB G r fs fa fb n, [(a2_, .inl (G.2.1, 3, .inl (upd (upd (upd (fun _ => 0) 0 8) 1 0) 2 0)))]]) := hD
            refine lv_goto (tgt := 75) hx hb dL_mend_56 (by decide) ?_
            refine lv_astore (lv' := [(5, .ref a2_), (4, .int (fs L)), (3, .int (nI L)), (0, .ref (q 0)), (1, .ref o), (2, .int (nI i))]) hx hb dL_mend_75 hl (by decide) rfl (fun ls hl => ?_)
            refine lv_aload_n hx hb dL_mend_77 rfl (lv_at hl 3 rfl) ?_
            refine lv_iconst (v := 0) hx hb dL_mend_78 (by decide) ?_
            refine lv_iconst (v := 0) hx hb dL_mend_79 (by decide) ?_
            refine ly_v (As := [.int 0, .int 0]) (rest := []) hx hb hml hown hts (m_fault0 (l := l) (G := G) (k := k) (q := q) hM hP4 (by omega)) 2 (sxGV (bi14 (w := Cond.methodLink RL 72 yX9_fault) 7 rfl) (bi12 (w := Cond.instanceMethod yX9_fault) 37 rfl) (bi12 (w := Cond.selects RX9 yX9_fault yX9_fault) 38 rfl) (bi1 (w := Cond.initialized RX9) 58 rfl) (bi11 (w := Cond.code yX9_fault cX9_fault 3 (some .int)) 10 rfl)) rfl (by decide +kernel) ⟨Nat.le_of_ble_eq_true rfl, Nat.le_of_ble_eq_true rfl⟩ hK hP hD hS hA hE [0] [1, 2, 3, 4] rfl rfl (by show List.Perm _ (List.range 5); decide) 0 0 rfl rfl rfl rfl hl rfl (Nat.le_of_ble_eq_true rfl) ⟨by show _ ≤ 170; omega, by show _ ≤ 450; omega⟩ dL_mend_80 (fun B1 v1 hp1 H locs hP hD hS => ?_)
            obtain ⟨rfl, rfl⟩ := hp1
            show W p l e _ s m args below meth c H locs _ _ _ (F0 m 83 ls [.int (qk_xn M.2.1 0)])
            have hP : va_P G.1 vwCl (lxF [mlW G q M, [(o, .inr (10, [.ref ok, .ref ol, .ref on]))], [(ol, lxq k n rr)], lrB G r fs fa fb n, [(a2_, .inl (G.2.1, 3, .inl (upd (upd (upd (fun _ => 0) 0 8) 1 0) 2 0)))]]) H := hP
            have hD : va_D A (lxF [mlW G q M, [(o, .inr (10, [.ref ok, .ref ol, .ref on]))], [(ol, lxq k n rr)], lrB G r fs fa fb n, [(a2_, .inl (G.2.1, 3, .inl (upd (upd (upd (fun _ => 0) 0 8) 1 0) 2 0)))]]) := hD
            refine lv_iconst (v := 5) hx hb dL_mend_83 (by decide) ?_
            refine lv_icmp_eq (tgt := 109) hx hb dL_mend_84 (by decide) (fun c10 => False.elim (by exact exn c10)) (fun c10 => ?_)
            refine lv_aload_n hx hb dL_mend_87 rfl (lv_at hl 3 rfl) ?_
            refine lv_iload_n hx hb dL_mend_88 rfl (lv_at hl 2 rfl) ?_
            refine lv_aload hx hb dL_mend_89 (lv_at hl 0 rfl) ?_
            refine lv_iconst (v := 0) hx hb dL_mend_91 (by decide) ?_
            refine lb_iald (v := 8) hx hb hK hP 4 0 rfl rfl (i := 0) (vp_in_nI (n := 0) (by omega) (by omega)) rfl dL_mend_92 ?_
            refine lv_aload hx hb dL_mend_93 (lv_at hl 0 rfl) ?_
            refine lv_iconst (v := 1) hx hb dL_mend_95 (by decide) ?_
            refine lb_iald (v := 0) hx hb hK hP 4 0 rfl rfl (i := 1) (vp_in_nI (n := 1) (by omega) (by omega)) rfl dL_mend_96 ?_
            refine lv_aload hx hb dL_mend_97 (lv_at hl 0 rfl) ?_
            refine lv_iconst (v := 2) hx hb dL_mend_99 (by decide) ?_
            refine lb_iald (v := 0) hx hb hK hP 4 0 rfl rfl (i := 2) (vp_in_nI (n := 2) (by omega) (by omega)) rfl dL_mend_100 ?_
            have hF5 : qp_F 8 fk 8 0 0 := (lf8 ((lf_kd (p := 0) (by omega)).trans (lk_all hG.1).1))
            have hl5 : ql_n (upd fs L 8) n ≤ 16 := lm_ql hql hL2 (by decide)
            refine ly_v (As := [.int (nI L), .int 8, .int 0, .int 0]) (rest := []) hx hb hml hown hts (m_put (l := l) (G := G) (k := k) (q := q) hM hP4 hL2 hF5 hl5) 4 (sxGV (bi14 (w := Cond.methodLink RL 75 yX9_put) 8 rfl) (bi14 (w := Cond.instanceMethod yX9_put) 9 rfl) (bi14 (w := Cond.selects RX9 yX9_put yX9_put) 10 rfl) (bi1 (w := Cond.initialized RX9) 58 rfl) (bi10 (w := Cond.code yX9_put cX9_put 6 (some .int)) 32 rfl)) rfl (by decide +kernel) ⟨Nat.le_of_ble_eq_true rfl, Nat.le_of_ble_eq_true rfl⟩ hK hP hD hS hA hE [0] [1, 2, 3, 4] rfl rfl (by show List.Perm _ (List.range 5); decide) 0 0 rfl rfl rfl rfl hl rfl (Nat.le_of_ble_eq_true rfl) ⟨by show _ ≤ 170; omega, by show _ ≤ 450; omega⟩ dL_mend_101 (fun B1 v1 hp1 H locs hP hD hS => ?_)
            obtain ⟨M1, rfl, rfl, hM1, hr1⟩ := hp1
            show W p l e _ s m args below meth c H locs _ _ _ (F0 m 104 ls [.int (fs L)])
            have hP : va_P G.1 vwCl (lxF [mlW G q M1, [(o, .inr (10, [.ref ok, .ref ol, .ref on]))], [(ol, lxq k n rr)], lrB G r fs fa fb n, [(a2_, .inl (G.2.1, 3, .inl (upd (upd (upd (fun _ => 0) 0 8) 1 0) 2 0)))]]) H := hP
            have hD : va_D A (lxF [mlW G q M1, [(o, .inr (10, [.ref ok, .ref ol, .ref on]))], [(ol, lxq k n rr)], lrB G r fs fa fb n, [(a2_, .inl (G.2.1, 3, .inl (upd (upd (upd (fun _ => 0) 0 8) 1 0) 2 0)))]]) := hD
            refine lv_iload hx hb dL_mend_104 (lv_at hl 1 rfl) ?_
            refine lv_icmp_eq (tgt := 111) hx hb dL_mend_106 (by decide) (fun c11 => ?_) (fun c11 => False.elim (by exact c11 rfl))
            refine lv_aload_n hx hb dL_mend_111 rfl (lv_at hl 4 rfl) ?_
            refine lb_get (ci := 10) (v := .ref ol) (C := RX10) (T := TX10) (N := 3) hx hb hts owX10 hown hK hP 1 0 rfl rfl rfl 1 (by decide) (bw13 (w := Cond.fieldLink RL 9 "DropflagMillLaw$Own" "lines" "[[I") hts 31 rfl) (fun _ h9 => h9) rfl dL_mend_112 ?_
            refine lv_iload_n hx hb dL_mend_115 rfl (lv_at hl 2 rfl) ?_
            refine lv_aload hx hb dL_mend_116 (lv_at hl 0 rfl) ?_
            refine lb_aast (r := a2_) hx hb hK hE hP hD hS 2 0 4 0 rfl rfl rfl rfl (i := nI L) (i' := L) (vp_in_nI (n := L) (by omega) (by omega)) (nI_clamp (by omega)) dL_mend_118 (fun H locs hP hD hS => ?_)
            have hP : va_P G.1 vwCl (lxF [mlW G q M1, [(o, .inr (10, [.ref ok, .ref ol, .ref on]))], [(ol, lxq k n (va_up rr L (some a2_)))], lrB G r fs fa fb n, [(a2_, .inl (G.2.1, 3, .inl (upd (upd (upd (fun _ => 0) 0 8) 1 0) 2 0)))]]) H := hP
            have hD : va_D A (lxF [mlW G q M1, [(o, .inr (10, [.ref ok, .ref ol, .ref on]))], [(ol, lxq k n (va_up rr L (some a2_)))], lrB G r fs fa fb n, [(a2_, .inl (G.2.1, 3, .inl (upd (upd (upd (fun _ => 0) 0 8) 1 0) 2 0)))]]) := hD
            obtain ⟨hP, hD⟩ := lx_swapP (Xs := [mlW G q M1, [(o, .inr (10, [.ref ok, .ref ol, .ref on]))], [(ol, lxq k n (va_up rr L (some a2_)))]]) hP hD (lrB_at (i := L) (by omega))
            rw [lrB_put hL2] at hP hD
            have hP : va_P G.1 vwCl (lxF [mlW G q M1, [(o, .inr (10, [.ref ok, .ref ol, .ref on]))], [(ol, lxq k n (va_up rr L (some a2_)))], lrB G (fun j => if j = L then a2_ else r j) (upd fs L 8) (upd fa L 0) (upd fb L 0) n]) H := hP
            have hD : va_D A (lxF [mlW G q M1, [(o, .inr (10, [.ref ok, .ref ol, .ref on]))], [(ol, lxq k n (va_up rr L (some a2_)))], lrB G (fun j => if j = L then a2_ else r j) (upd fs L 8) (upd fa L 0) (upd fb L 0) n]) := hD
            refine lv_iinc (v := nI (i + 1)) (lv' := [(2, .int (nI (i + 1))), (5, .ref a2_), (4, .int (fs L)), (3, .int (nI L)), (0, .ref (q 0)), (1, .ref o)]) hx hb dL_mend_119 hl (k := 5) rfl (nI_1 i) (by decide) rfl (fun ls hl => ?_)
            refine lv_goto (tgt := 2) hx hb dL_mend_122 (by decide) ?_
            exact ih4 (i + 1) M1 (va_up rr L (some a2_)) (fun j => if j = L then a2_ else r j) (upd fs L 8) (upd fa L 0) (upd fb L 0) (by omega) (by omega) (⟨jn_nf hrr, hM1, lg_put hP4 hL2 hF5 hl5, hr1.trans hrn⟩) (lm_put hG hL1 hL2 hF5 hl5 (by decide) (Or.inl ⟨c7, rfl⟩)) (by have := lmU_put (fs := fs) (fa := fa) (L := L) (s := 8) (x := 0) (by decide) hus n hL2; omega) _ _ (by omega) (by omega) _ _ hP hD hS ls (lv_sub hl [4, 5, 0] rfl)
  exact LP2_4 41 0 M rr r fs fa fb (by omega) (Nat.zero_le _) (hI) (hG) (by have := lmU_le fs fa n; have := hI.2.2.1.2.1; omega) _ _ (by omega) (by omega) _ _ hP hD hS ls (lv_sub hl [1, 2, 0] rfl)

abbrev wdL_isInLoop : List Cond := Cond.code yL_isInLoop cL_isInLoop 3 (some .boolean) :: bwC
set_option maxHeartbeats 4000000 in
set_option maxRecDepth 100000 in
theorem t_L_isInLoop (l : Launch) (G : sxG) (k : lxC) (o ok ol na n : Nat) (rr : Nat → Option Nat) (r : Nat → Nat) (fs fa fb : Nat → Int32) (nf : Nat → Option Nat) (nr nl : Nat → Nat) (nc : Nat → Nat → Int32) (L : Nat) (hn : n ≤ 32) (hrr : ∀ i, i < n → rr i = some (r i)) (hnf : ∀ j, j < n + 1 → nf j = some (nr j)) (hF : jnF fs n nl nc n) (hLn : L ≤ n) : lyM l yL_isInLoop wdL_isInLoop 0 0 0 0 G k [[(o, .inr (10, [.ref ok, .ref ol, .ref na]))], [(ol, lxq k n rr)], lrB G r fs fa fb n, [(na, lxq k (n + 1) nf)], nxB G nr nl nc (n + 1)] [.ref o, .int (nI L)] (fun B v => B = [[(o, .inr (10, [.ref ok, .ref ol, .ref na]))], [(ol, lxq k n rr)], lrB G r fs fa fb n, [(na, lxq k (n + 1) nf)], nxB G nr nl nc (n + 1)] ∧ ∃ x : Int32, v = some (.int x) ∧ (x = 1 ∨ (x = 0 ∧ ∀ j, L ≤ j → j < n → fs j = 11 → ¬ (1 < nl j ∧ nc j 0 ≤ nI L)))) := by
  refine lyM.of (cc := cL_isInLoop) (maxL := 3) (rt := (some .boolean)) (by decide) rfl (Nat.le_of_ble_eq_true rfl) ?_
  intro p e s m args below meth c ⟨hx, hb, hr, hml, hown, hlk, hts, hK⟩ hnm A hA hP hD hS hE ls hl
  have hl : lv_has ls 3 [(0, .ref o), (1, .int (nI L))] := hl
  refine lv_iload_n hx hb dL_isInLoop_0 rfl (lv_at hl 1 rfl) ?_
  refine lv_istore_n (lv' := [(2, .int (nI L)), (0, .ref o), (1, .int (nI L))]) hx hb dL_isInLoop_1 rfl hl (by decide) rfl (fun ls hl => ?_)
  have LP2_1 : ∀ (kk1 : Nat) (i : Nat), n - i < kk1 → (i ≤ n) → (L ≤ i) → (∀ j, L ≤ j → j < i → fs j = 11 → ¬ (1 < nl j ∧ nc j 0 ≤ nI L)) → ∀ cells slots : Nat, cells ≤ 0 → slots ≤ 0 → ∀ (H : Heap) (locs : List Loc), va_P G.1 vwCl (lxF [[(o, .inr (10, [.ref ok, .ref ol, .ref na]))], [(ol, lxq k n rr)], lrB G r fs fa fb n, [(na, lxq k (n + 1) nf)], nxB G nr nl nc (n + 1)]) H → va_D A (lxF [[(o, .inr (10, [.ref ok, .ref ol, .ref na]))], [(ol, lxq k n rr)], lrB G r fs fa fb n, [(na, lxq k (n + 1) nf)], nxB G nr nl nc (n + 1)]) → va_S A s.heap H locs → ∀ ls : Array Slot, lv_has ls 3 [(0, .ref o), (1, .int (nI L)), (2, .int (nI i))] → W p l e ({ frames := 0, cells := 0, slots := 0, locals := 0 } : Room) s m args below meth c H locs cells slots (lyZ 0 0 G args s below A (fun B v => B = [[(o, .inr (10, [.ref ok, .ref ol, .ref na]))], [(ol, lxq k n rr)], lrB G r fs fa fb n, [(na, lxq k (n + 1) nf)], nxB G nr nl nc (n + 1)] ∧ ∃ x : Int32, v = some (.int x) ∧ (x = 1 ∨ (x = 0 ∧ ∀ j, L ≤ j → j < n → fs j = 11 → ¬ (1 < nl j ∧ nc j 0 ≤ nI L))))) (F0 m 2 ls []) := by
    intro kk1
    induction kk1 with
    | zero =>
      intro i hm
      exact absurd hm (Nat.not_lt_zero _)
    | succ kk1 ih1 =>
      intro i hm1 hi hLi hno cells slots hcc1 hss1 H locs hP hD hS ls hl
      refine lv_iload_n hx hb dL_isInLoop_2 rfl (lv_at hl 2 rfl) ?_
      refine lv_aload_n hx hb dL_isInLoop_3 rfl (lv_at hl 0 rfl) ?_
      refine lb_get (ci := 10) (v := .ref ol) (C := RX10) (T := TX10) (N := 3) hx hb hts owX10 hown hK hP 0 0 rfl rfl rfl 1 (by decide) (bw13 (w := Cond.fieldLink RL 9 "DropflagMillLaw$Own" "lines" "[[I") hts 31 rfl) (fun _ h9 => h9) rfl dL_isInLoop_4 ?_
      refine lb_alenq (v := nI n) hx hb hK hE hP 1 0 rfl rfl rfl dL_isInLoop_7 ?_
      refine lv_icmp_ge (tgt := 55) hx hb dL_isInLoop_8 (by decide) (fun c2 => ?_) (fun c2 => ?_)
      · have nc2 := (nI_leI (a := n) (b := i) (by omega) (by omega)).mp c2
        refine lv_iconst (v := 0) hx hb dL_isInLoop_55 (by decide) ?_
        exact ly_ri hx hb hr hlk hP hD hS rfl (⟨rfl, 0, rfl, Or.inr ⟨rfl, fun j h1 h2 h3 => hno j h1 (by omega) h3⟩⟩) (by omega) (by omega) dL_isInLoop_56
      · have nc2 := (not_congr (nI_leI (a := n) (b := i) (by omega) (by omega))).mp c2
        refine lv_aload_n hx hb dL_isInLoop_11 rfl (lv_at hl 0 rfl) ?_
        refine lb_get (ci := 10) (v := .ref ol) (C := RX10) (T := TX10) (N := 3) hx hb hts owX10 hown hK hP 0 0 rfl rfl rfl 1 (by decide) (bw13 (w := Cond.fieldLink RL 9 "DropflagMillLaw$Own" "lines" "[[I") hts 31 rfl) (fun _ h9 => h9) rfl dL_isInLoop_12 ?_
        refine lv_iload_n hx hb dL_isInLoop_15 rfl (lv_at hl 2 rfl) ?_
        refine lb_aald (v := .ref (r i)) hx hb hK hE hP 1 0 rfl rfl (i := nI i) (vp_in_nI (n := i) (by omega) (by omega)) (by rw [nI_clamp (by omega), hrr _ (by omega)]; rfl) dL_isInLoop_16 ?_
        refine lv_iconst (v := 0) hx hb dL_isInLoop_17 (by decide) ?_
        refine lb_iald (v := fs i) hx hb hK hP 2 i rfl (lrB_at (by omega)) (i := 0) (vp_in_nI (n := 0) (by omega) (by omega)) rfl dL_isInLoop_18 ?_
        refine lv_bipush (v := 11) hx hb dL_isInLoop_19 (by decide) ?_
        refine lv_icmp_ne (tgt := 49) hx hb dL_isInLoop_21 (by decide) (fun c3 => ?_) (fun c3 => ?_)
        · refine lv_iinc (v := nI (i + 1)) (lv' := [(2, .int (nI (i + 1))), (0, .ref o), (1, .int (nI L))]) hx hb dL_isInLoop_49 hl (k := 2) rfl (nI_1 i) (by decide) rfl (fun ls hl => ?_)
          refine lv_goto (tgt := 2) hx hb dL_isInLoop_52 (by decide) ?_
          exact ih1 (i + 1) (by omega) (by omega) (by omega) (fun j h1 h2 h3 => (Decidable.em (j = i)).elim (fun e => absurd (e ▸ h3) c3) (fun e => hno j h1 (by omega) h3)) _ _ (by omega) (by omega) _ _ hP hD hS ls (lv_sub hl [1, 2, 0] rfl)
        · have hnl := jn_small hF (by omega) c3
          refine lv_aload_n hx hb dL_isInLoop_24 rfl (lv_at hl 0 rfl) ?_
          refine lb_get (ci := 10) (v := .ref na) (C := RX10) (T := TX10) (N := 3) hx hb hts owX10 hown hK hP 0 0 rfl rfl rfl 2 (by decide) (bw14 (w := Cond.fieldLink RL 129 "DropflagMillLaw$Own" "next" "[[I") hts 20 rfl) (fun _ h9 => h9) rfl dL_isInLoop_25 ?_
          refine lv_iload_n hx hb dL_isInLoop_28 rfl (lv_at hl 2 rfl) ?_
          refine lb_aald (v := .ref (nr i)) hx hb hK hE hP 3 0 rfl rfl (i := nI i) (vp_in_nI (n := i) (by omega) (by omega)) (by rw [nI_clamp (by omega), hnf _ (by omega)]; rfl) dL_isInLoop_29 ?_
          refine lb_alen (v := nI (nl i)) hx hb hK hP 4 i rfl (nxB_at (by omega)) rfl dL_isInLoop_30 ?_
          refine lv_iconst (v := 1) hx hb dL_isInLoop_31 (by decide) ?_
          refine lv_icmp_le (tgt := 49) hx hb dL_isInLoop_32 (by decide) (fun c4 => ?_) (fun c4 => ?_)
          · have nc4 := (nI_leI (a := (nl i)) (b := 1) (by omega) (by omega)).mp c4
            refine lv_iinc (v := nI (i + 1)) (lv' := [(2, .int (nI (i + 1))), (0, .ref o), (1, .int (nI L))]) hx hb dL_isInLoop_49 hl (k := 2) rfl (nI_1 i) (by decide) rfl (fun ls hl => ?_)
            refine lv_goto (tgt := 2) hx hb dL_isInLoop_52 (by decide) ?_
            exact ih1 (i + 1) (by omega) (by omega) (by omega) (fun j h1 h2 h3 => (Decidable.em (j = i)).elim (fun e => by rw [e]; exact (fun z => by omega)) (fun e => hno j h1 (by omega) h3)) _ _ (by omega) (by omega) _ _ hP hD hS ls (lv_sub hl [1, 2, 0] rfl)
          · have nc4 := (not_congr (nI_leI (a := (nl i)) (b := 1) (by omega) (by omega))).mp c4
            refine lv_aload_n hx hb dL_isInLoop_35 rfl (lv_at hl 0 rfl) ?_
            refine lb_get (ci := 10) (v := .ref na) (C := RX10) (T := TX10) (N := 3) hx hb hts owX10 hown hK hP 0 0 rfl rfl rfl 2 (by decide) (bw14 (w := Cond.fieldLink RL 129 "DropflagMillLaw$Own" "next" "[[I") hts 20 rfl) (fun _ h9 => h9) rfl dL_isInLoop_36 ?_
            refine lv_iload_n hx hb dL_isInLoop_39 rfl (lv_at hl 2 rfl) ?_
            refine lb_aald (v := .ref (nr i)) hx hb hK hE hP 3 0 rfl rfl (i := nI i) (vp_in_nI (n := i) (by omega) (by omega)) (by rw [nI_clamp (by omega), hnf _ (by omega)]; rfl) dL_isInLoop_40 ?_
            refine lv_iconst (v := 0) hx hb dL_isInLoop_41 (by decide) ?_
            refine lb_iald (v := (nc i) 0) hx hb hK hP 4 i rfl (nxB_at (by omega)) (i := 0) (vp_in_nI (n := 0) (by omega) (by omega)) rfl dL_isInLoop_42 ?_
            refine lv_iload_n hx hb dL_isInLoop_43 rfl (lv_at hl 1 rfl) ?_
            refine lv_icmp_gt (tgt := 49) hx hb dL_isInLoop_44 (by decide) (fun c5 => ?_) (fun c5 => ?_)
            · refine lv_iinc (v := nI (i + 1)) (lv' := [(2, .int (nI (i + 1))), (0, .ref o), (1, .int (nI L))]) hx hb dL_isInLoop_49 hl (k := 2) rfl (nI_1 i) (by decide) rfl (fun ls hl => ?_)
              refine lv_goto (tgt := 2) hx hb dL_isInLoop_52 (by decide) ?_
              exact ih1 (i + 1) (by omega) (by omega) (by omega) (fun j h1 h2 h3 => (Decidable.em (j = i)).elim (fun e => by rw [e]; exact (fun z => absurd c5 (Int32.not_lt.mpr z.2))) (fun e => hno j h1 (by omega) h3)) _ _ (by omega) (by omega) _ _ hP hD hS ls (lv_sub hl [1, 2, 0] rfl)
            · refine lv_iconst (v := 1) hx hb dL_isInLoop_47 (by decide) ?_
              exact ly_ri hx hb hr hlk hP hD hS rfl (⟨rfl, 1, rfl, Or.inl rfl⟩) (by omega) (by omega) dL_isInLoop_48
  exact LP2_1 (n + 1) L (by omega) (hLn) (Nat.le_refl _) (fun j h1 h2 => by omega) _ _ (by omega) (by omega) _ _ hP hD hS ls (lv_sub hl [1, 2, 0] rfl)
