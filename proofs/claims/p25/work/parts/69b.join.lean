abbrev wdX10_join : List Cond := Cond.code yX10_join cX10_join 7 (some .int) :: bwC
set_option maxHeartbeats 4000000 in
set_option maxRecDepth 100000 in
theorem t_X10_join (l : Launch) (G : sxG) (k : lxC) (o ok ol on : Nat) (n : Nat) (rr : Nat → Option Nat) (r : Nat → Nat) (fs fa fb : Nat → Int32) (hn : n ≤ 32) (hrr : ∀ i, i < n → rr i = some (r i)) (hw : qw_stk fs n = some []) : lyM l yX10_join wdX10_join 0 0 120 300 G k [[(o, .inr (10, [.ref ok, .ref ol, .ref on]))], [(ol, lxq k n rr)], lrB G r fs fa fb n] [.ref o] (fun B v => v = some (.int (-1)) ∧ ∃ (na : Nat) (nf : Nat → Option Nat) (nr nl : Nat → Nat) (nc : Nat → Nat → Int32), B = [[(o, .inr (10, [.ref ok, .ref ol, .ref na]))], [(ol, lxq k n rr)], lrB G r fs fa fb n, [(na, lxq k (n + 1) nf)], nxB G nr nl nc (n + 1)] ∧ (∀ j, j < n + 1 → nf j = some (nr j)) ∧ jnF fs n nl nc n) := by
  refine lyM.of (cc := cX10_join) (maxL := 7) (rt := (some .int)) (by decide) rfl (Nat.le_of_ble_eq_true rfl) ?_
  intro p e s m args below meth c ⟨hx, hb, hr, hml, hown, hlk, hts, hK⟩ hnm A hA hP hD hS hE ls hl
  have hl : lv_has ls 7 [(0, .ref o)] := hl
  refine lv_aload_n hx hb dX10_join_0 rfl (lv_at hl 0 rfl) ?_
  refine lv_aload_n hx hb dX10_join_1 rfl (lv_at hl 0 rfl) ?_
  refine lb_get (ci := 10) (v := .ref ol) (C := RX10) (T := TX10) (N := 3) hx hb hts owX10 hown hK hP 0 0 rfl rfl rfl 1 (by decide) (bw13 (w := Cond.fieldLink RX10 14 "DropflagMillLaw$Own" "lines" "[[I") hts 12 rfl) (fun _ h9 => h9) rfl dX10_join_2 ?_
  refine lb_alenq (v := nI n) hx hb hK hE hP 1 0 rfl rfl rfl dX10_join_5 ?_
  refine lv_iconst (v := 1) hx hb dX10_join_6 (by decide) ?_
  refine lv_iadd hx hb dX10_join_7 ?_
  rw [show ((nI n) + 1 : Int32) = nI (n + 1) from nI_add n 1]
  refine lb_anew hx hb hown (bw13 (w := Cond.classLink RX10 13 "[I") hts 11 rfl) hK hE hP hD hS hA (nI_pos (by omega)) (n + 1) (nI_clamp (by omega)) (by omega) (by show _ ≤ 120; omega) (by show _ ≤ 300; omega) dX10_join_8 (fun a1_ H hP hD hS => ?_)
  have hP : va_P G.1 vwCl (lxF [[(o, .inr (10, [.ref ok, .ref ol, .ref on]))], [(ol, lxq k n rr)], lrB G r fs fa fb n, [(a1_, lxq k (n + 1) (fun _ => none))]]) H := hP
  have hD : va_D A (lxF [[(o, .inr (10, [.ref ok, .ref ol, .ref on]))], [(ol, lxq k n rr)], lrB G r fs fa fb n, [(a1_, lxq k (n + 1) (fun _ => none))]]) := hD
  refine lb_put (ci := 10) (v := .ref a1_) (ty := (.array (.array .int))) (C := RX10) (T := TX10) (N := 3) hx hb hts owX10 tyX10 tyX10_ok nmX10 hown hK hP hD hS 0 0 rfl rfl rfl 2 (by decide) (bw13 (w := Cond.fieldLink RX10 18 "DropflagMillLaw$Own" "next" "[[I") hts 13 rfl) (fun _ h9 => h9) rfl (by decide +kernel) rfl rfl (Nat.le_of_ble_eq_true rfl) dX10_join_11 (fun H locs hP hD hS => ?_)
  have hP : va_P G.1 vwCl (lxF [[(o, .inr (10, [.ref ok, .ref ol, .ref a1_]))], [(ol, lxq k n rr)], lrB G r fs fa fb n, [(a1_, lxq k (n + 1) (fun _ => none))]]) H := hP
  have hD : va_D A (lxF [[(o, .inr (10, [.ref ok, .ref ol, .ref a1_]))], [(ol, lxq k n rr)], lrB G r fs fa fb n, [(a1_, lxq k (n + 1) (fun _ => none))]]) := hD
  refine lv_aload_n hx hb dX10_join_14 rfl (lv_at hl 0 rfl) ?_
  refine lb_get (ci := 10) (v := .ref ol) (C := RX10) (T := TX10) (N := 3) hx hb hts owX10 hown hK hP 0 0 rfl rfl rfl 1 (by decide) (bw13 (w := Cond.fieldLink RX10 14 "DropflagMillLaw$Own" "lines" "[[I") hts 12 rfl) (fun _ h9 => h9) rfl dX10_join_15 ?_
  refine lb_alenq (v := nI n) hx hb hK hE hP 1 0 rfl rfl rfl dX10_join_18 ?_
  refine lv_iconst (v := 1) hx hb dX10_join_19 (by decide) ?_
  refine lv_iadd hx hb dX10_join_20 ?_
  rw [show ((nI n) + 1 : Int32) = nI (n + 1) from nI_add n 1]
  refine lb_newi hx hb (bw0 (w := Cond.arrayClass .int) hts 5 rfl) hK hP hD hS hA (n + 1) (nI_pos (by omega)) (nI_clamp (by omega)) (by show (n + 1) * 4 ≤ _; omega) (by show _ ≤ 120; omega) (by show _ ≤ 300; omega) dX10_join_21 (fun a2_ H hP hD hS => ?_)
  have hP : va_P G.1 vwCl (lxF [[(o, .inr (10, [.ref ok, .ref ol, .ref a1_]))], [(ol, lxq k n rr)], lrB G r fs fa fb n, [(a1_, lxq k (n + 1) (fun _ => none))], [(a2_, .inl (G.2.1, (n + 1), .inl (fun _ => 0)))]]) H := hP
  have hD : va_D A (lxF [[(o, .inr (10, [.ref ok, .ref ol, .ref a1_]))], [(ol, lxq k n rr)], lrB G r fs fa fb n, [(a1_, lxq k (n + 1) (fun _ => none))], [(a2_, .inl (G.2.1, (n + 1), .inl (fun _ => 0)))]]) := hD
  refine lv_astore_n (lv' := [(1, .ref a2_), (0, .ref o)]) hx hb dX10_join_23 rfl hl (by decide) rfl (fun ls hl => ?_)
  refine lv_aload_n hx hb dX10_join_24 rfl (lv_at hl 1 rfl) ?_
  refine lb_get (ci := 10) (v := .ref ol) (C := RX10) (T := TX10) (N := 3) hx hb hts owX10 hown hK hP 0 0 rfl rfl rfl 1 (by decide) (bw13 (w := Cond.fieldLink RX10 14 "DropflagMillLaw$Own" "lines" "[[I") hts 12 rfl) (fun _ h9 => h9) rfl dX10_join_25 ?_
  refine lb_alenq (v := nI n) hx hb hK hE hP 1 0 rfl rfl rfl dX10_join_28 ?_
  refine lv_iconst (v := 1) hx hb dX10_join_29 (by decide) ?_
  refine lv_iadd hx hb dX10_join_30 ?_
  rw [show ((nI n) + 1 : Int32) = nI (n + 1) from nI_add n 1]
  refine lb_newi hx hb (bw0 (w := Cond.arrayClass .int) hts 5 rfl) hK hP hD hS hA (n + 1) (nI_pos (by omega)) (nI_clamp (by omega)) (by show (n + 1) * 4 ≤ _; omega) (by show _ ≤ 120; omega) (by show _ ≤ 300; omega) dX10_join_31 (fun a3_ H hP hD hS => ?_)
  have hP : va_P G.1 vwCl (lxF [[(o, .inr (10, [.ref ok, .ref ol, .ref a1_]))], [(ol, lxq k n rr)], lrB G r fs fa fb n, [(a1_, lxq k (n + 1) (fun _ => none))], [(a2_, .inl (G.2.1, (n + 1), .inl (fun _ => 0)))], [(a3_, .inl (G.2.1, (n + 1), .inl (fun _ => 0)))]]) H := hP
  have hD : va_D A (lxF [[(o, .inr (10, [.ref ok, .ref ol, .ref a1_]))], [(ol, lxq k n rr)], lrB G r fs fa fb n, [(a1_, lxq k (n + 1) (fun _ => none))], [(a2_, .inl (G.2.1, (n + 1), .inl (fun _ => 0)))], [(a3_, .inl (G.2.1, (n + 1), .inl (fun _ => 0)))]]) := hD
  refine lv_astore_n (lv' := [(2, .ref a3_), (1, .ref a2_), (0, .ref o)]) hx hb dX10_join_33 rfl hl (by decide) rfl (fun ls hl => ?_)
  refine lv_iconst (v := 0) hx hb dX10_join_34 (by decide) ?_
  refine lv_istore_n (lv' := [(3, .int 0), (2, .ref a3_), (1, .ref a2_), (0, .ref o)]) hx hb dX10_join_35 rfl hl (by decide) rfl (fun ls hl => ?_)
  have hP : va_P G.1 vwCl (lxF [[(o, .inr (10, [.ref ok, .ref ol, .ref a1_]))], [(ol, lxq k n rr)], lrB G r fs fa fb n, [(a1_, lxq k (n + 1) (fun _ => none))], [(a2_, .inl (G.2.1, (n + 1), .inl (fun _ => 0)))], [(a3_, .inl (G.2.1, (n + 1), .inl (fun _ => 0)))], nxB G (fun _ => 0) (fun _ => 0) (fun _ _ => 0) 0]) H := hP
  have hD : va_D A (lxF [[(o, .inr (10, [.ref ok, .ref ol, .ref a1_]))], [(ol, lxq k n rr)], lrB G r fs fa fb n, [(a1_, lxq k (n + 1) (fun _ => none))], [(a2_, .inl (G.2.1, (n + 1), .inl (fun _ => 0)))], [(a3_, .inl (G.2.1, (n + 1), .inl (fun _ => 0)))], nxB G (fun _ => 0) (fun _ => 0) (fun _ _ => 0) 0]) := hD
  refine lv_iconst (v := 0) hx hb dX10_join_36 (by decide) ?_
  refine lv_istore (lv' := [(4, .int 0), (3, .int 0), (2, .ref a3_), (1, .ref a2_), (0, .ref o)]) hx hb dX10_join_37 hl (by decide) rfl (fun ls hl => ?_)
  have LP39_1 : ∀ (kk1 : Nat) (i : Nat) (nf : Nat → Option Nat) (nr : Nat → Nat) (nl : Nat → Nat) (nc : Nat → Nat → Int32), n + 1 - i < kk1 → (i ≤ n + 1) → (∀ j, j < i → nf j = some (nr j)) → (∀ j, j < i → j < n → fs j = 11 → nl j = 1) → ∀ cells slots : Nat, cells ≤ 3 + i → slots ≤ 99 + i → ∀ (H : Heap) (locs : List Loc), va_P G.1 vwCl (lxF [[(o, .inr (10, [.ref ok, .ref ol, .ref a1_]))], [(ol, lxq k n rr)], lrB G r fs fa fb n, [(a1_, lxq k (n + 1) nf)], [(a2_, .inl (G.2.1, (n + 1), .inl (fun _ => 0)))], [(a3_, .inl (G.2.1, (n + 1), .inl (fun _ => 0)))], nxB G nr nl nc i]) H → va_D A (lxF [[(o, .inr (10, [.ref ok, .ref ol, .ref a1_]))], [(ol, lxq k n rr)], lrB G r fs fa fb n, [(a1_, lxq k (n + 1) nf)], [(a2_, .inl (G.2.1, (n + 1), .inl (fun _ => 0)))], [(a3_, .inl (G.2.1, (n + 1), .inl (fun _ => 0)))], nxB G nr nl nc i]) → va_S A s.heap H locs → ∀ ls : Array Slot, lv_has ls 7 [(0, .ref o), (1, .ref a2_), (2, .ref a3_), (3, .int 0), (4, .int (nI i))] → W p l e ({ frames := 0, cells := 120, slots := 300, locals := 0 } : Room) s m args below meth c H locs cells slots (lyZ 120 300 G args s below A (fun B v => v = some (.int (-1)) ∧ ∃ (na : Nat) (nf : Nat → Option Nat) (nr nl : Nat → Nat) (nc : Nat → Nat → Int32), B = [[(o, .inr (10, [.ref ok, .ref ol, .ref na]))], [(ol, lxq k n rr)], lrB G r fs fa fb n, [(na, lxq k (n + 1) nf)], nxB G nr nl nc (n + 1)] ∧ (∀ j, j < n + 1 → nf j = some (nr j)) ∧ jnF fs n nl nc n)) (F0 m 39 ls []) := by
    intro kk1
    induction kk1 with
    | zero =>
      intro i nf nr nl nc hm
      exact absurd hm (Nat.not_lt_zero _)
    | succ kk1 ih1 =>
      intro i nf nr nl nc hm1 hi hnf h1 cells slots hcc1 hss1 H locs hP hD hS ls hl
      refine lv_iload hx hb dX10_join_39 (lv_at hl 4 rfl) ?_
      refine lv_aload_n hx hb dX10_join_41 rfl (lv_at hl 0 rfl) ?_
      refine lb_get (ci := 10) (v := .ref ol) (C := RX10) (T := TX10) (N := 3) hx hb hts owX10 hown hK hP 0 0 rfl rfl rfl 1 (by decide) (bw13 (w := Cond.fieldLink RX10 14 "DropflagMillLaw$Own" "lines" "[[I") hts 12 rfl) (fun _ h9 => h9) rfl dX10_join_42 ?_
      refine lb_alenq (v := nI n) hx hb hK hE hP 1 0 rfl rfl rfl dX10_join_45 ?_
      refine lv_icmp_gt (tgt := 102) hx hb dX10_join_46 (by decide) (fun c2 => ?_) (fun c2 => ?_)
      · have nc2 := (nI_ltI (a := n) (b := i) (by omega) (by omega)).mp c2
        have ei : i = n + 1 := by omega
        subst ei
        have hP : va_P G.1 vwCl (lxF [[(o, .inr (10, [.ref ok, .ref ol, .ref a1_]))], [(ol, lxq k n rr)], lrB G r fs fa fb n, [(a1_, lxq k (n + 1) nf)], [(a2_, .inl (G.2.1, (n + 1), .inl (fun _ => 0)))], [(a3_, .inl (G.2.1, (n + 1), .inl (fun _ => 0)))], nxB G nr nl nc (n + 1)]) H := hP
        have hD : va_D A (lxF [[(o, .inr (10, [.ref ok, .ref ol, .ref a1_]))], [(ol, lxq k n rr)], lrB G r fs fa fb n, [(a1_, lxq k (n + 1) nf)], [(a2_, .inl (G.2.1, (n + 1), .inl (fun _ => 0)))], [(a3_, .inl (G.2.1, (n + 1), .inl (fun _ => 0)))], nxB G nr nl nc (n + 1)]) := hD
        refine lv_iconst (v := 0) hx hb dX10_join_102 (by decide) ?_
        refine lv_istore (lv' := [(4, .int 0), (0, .ref o), (1, .ref a2_), (2, .ref a3_), (3, .int 0)]) hx hb dX10_join_103 hl (by decide) rfl (fun ls hl => ?_)
        have LP105_3 : ∀ (kk3 : Nat) (i : Nat) (d : Nat) (op : Nat → Int32) (mi : Nat → Int32) (nf : Nat → Option Nat) (nr : Nat → Nat) (nl : Nat → Nat) (nc : Nat → Nat → Int32), n - i < kk3 → (i ≤ n) → (jnI fs n i d op mi) → (jnF fs n nl nc i) → (∀ j, j < n + 1 → nf j = some (nr j)) → ∀ cells slots : Nat, cells ≤ 36 + 2 * i → slots ≤ 132 + 3 * i → ∀ (H : Heap) (locs : List Loc), va_P G.1 vwCl (lxF [[(o, .inr (10, [.ref ok, .ref ol, .ref a1_]))], [(ol, lxq k n rr)], lrB G r fs fa fb n, [(a1_, lxq k (n + 1) nf)], [(a2_, .inl (G.2.1, (n + 1), .inl op))], [(a3_, .inl (G.2.1, (n + 1), .inl mi))], nxB G nr nl nc (n + 1)]) H → va_D A (lxF [[(o, .inr (10, [.ref ok, .ref ol, .ref a1_]))], [(ol, lxq k n rr)], lrB G r fs fa fb n, [(a1_, lxq k (n + 1) nf)], [(a2_, .inl (G.2.1, (n + 1), .inl op))], [(a3_, .inl (G.2.1, (n + 1), .inl mi))], nxB G nr nl nc (n + 1)]) → va_S A s.heap H locs → ∀ ls : Array Slot, lv_has ls 7 [(0, .ref o), (1, .ref a2_), (2, .ref a3_), (3, .int (nI d)), (4, .int (nI i))] → W p l e ({ frames := 0, cells := 120, slots := 300, locals := 0 } : Room) s m args below meth c H locs cells slots (lyZ 120 300 G args s below A (fun B v => v = some (.int (-1)) ∧ ∃ (na : Nat) (nf : Nat → Option Nat) (nr nl : Nat → Nat) (nc : Nat → Nat → Int32), B = [[(o, .inr (10, [.ref ok, .ref ol, .ref na]))], [(ol, lxq k n rr)], lrB G r fs fa fb n, [(na, lxq k (n + 1) nf)], nxB G nr nl nc (n + 1)] ∧ (∀ j, j < n + 1 → nf j = some (nr j)) ∧ jnF fs n nl nc n)) (F0 m 105 ls []) := by
          intro kk3
          induction kk3 with
          | zero =>
            intro i d op mi nf nr nl nc hm
            exact absurd hm (Nat.not_lt_zero _)
          | succ kk3 ih3 =>
            intro i d op mi nf nr nl nc hm3 hi hJ hF hnf cells slots hcc3 hss3 H locs hP hD hS ls hl
            refine lv_iload hx hb dX10_join_105 (lv_at hl 4 rfl) ?_
            refine lv_aload_n hx hb dX10_join_107 rfl (lv_at hl 0 rfl) ?_
            have hdl := jn_len hJ
            refine lb_get (ci := 10) (v := .ref ol) (C := RX10) (T := TX10) (N := 3) hx hb hts owX10 hown hK hP 0 0 rfl rfl rfl 1 (by decide) (bw13 (w := Cond.fieldLink RX10 14 "DropflagMillLaw$Own" "lines" "[[I") hts 12 rfl) (fun _ h9 => h9) rfl dX10_join_108 ?_
            refine lb_alenq (v := nI n) hx hb hK hE hP 1 0 rfl rfl rfl dX10_join_111 ?_
            refine lv_icmp_ge (tgt := 352) hx hb dX10_join_112 (by decide) (fun c4 => ?_) (fun c4 => ?_)
            · have nc4 := (nI_leI (a := n) (b := i) (by omega) (by omega)).mp c4
              have ei : i = n := by omega
              rw [ei] at hJ hF
              have ed := jn_done hw hJ
              refine lv_iload_n hx hb dX10_join_352 rfl (lv_at hl 3 rfl) ?_
              refine lv_if_le (tgt := 364) hx hb dX10_join_353 (by decide) (fun c5 => ?_) (fun c5 => False.elim (by have nc5 := (not_congr (nI_leI (a := d) (b := 0) (by omega) (by omega))).mp c5; omega))
              have nc5 := (nI_leI (a := d) (b := 0) (by omega) (by omega)).mp c5
              obtain ⟨hP, hD⟩ := lb_sub (Cs := [[(o, .inr (10, [.ref ok, .ref ol, .ref a1_]))], [(ol, lxq k n rr)], lrB G r fs fa fb n, [(a1_, lxq k (n + 1) nf)], nxB G nr nl nc (n + 1)]) [0, 1, 2, 3, 6] [4, 5] hP hD rfl (by show List.Perm _ (List.range 7); decide)
              have hP : va_P G.1 vwCl (lxF [[(o, .inr (10, [.ref ok, .ref ol, .ref a1_]))], [(ol, lxq k n rr)], lrB G r fs fa fb n, [(a1_, lxq k (n + 1) nf)], nxB G nr nl nc (n + 1)]) H := hP
              have hD : va_D A (lxF [[(o, .inr (10, [.ref ok, .ref ol, .ref a1_]))], [(ol, lxq k n rr)], lrB G r fs fa fb n, [(a1_, lxq k (n + 1) nf)], nxB G nr nl nc (n + 1)]) := hD
              refine lv_iconst (v := (-1)) hx hb dX10_join_364 (by decide) ?_
              exact ly_ri hx hb hr hlk hP hD hS rfl (⟨rfl, a1_, nf, nr, nl, nc, rfl, hnf, hF⟩) (by omega) (by omega) dX10_join_365
            · have nc4 := (not_congr (nI_leI (a := n) (b := i) (by omega) (by omega))).mp c4
              refine lv_aload_n hx hb dX10_join_115 rfl (lv_at hl 0 rfl) ?_
              refine lb_get (ci := 10) (v := .ref ol) (C := RX10) (T := TX10) (N := 3) hx hb hts owX10 hown hK hP 0 0 rfl rfl rfl 1 (by decide) (bw13 (w := Cond.fieldLink RX10 14 "DropflagMillLaw$Own" "lines" "[[I") hts 12 rfl) (fun _ h9 => h9) rfl dX10_join_116 ?_
              refine lv_iload hx hb dX10_join_119 (lv_at hl 4 rfl) ?_
              refine lb_aald (v := .ref (r i)) hx hb hK hE hP 1 0 rfl rfl (i := nI i) (vp_in_nI (n := i) (by omega) (by omega)) (by rw [nI_clamp (by omega), hrr _ (by omega)]; rfl) dX10_join_121 ?_
              refine lv_iconst (v := 0) hx hb dX10_join_122 (by decide) ?_
              refine lb_iald (v := fs i) hx hb hK hP 2 i rfl (lrB_at (by omega)) (i := 0) (vp_in_nI (n := 0) (by omega) (by omega)) rfl dX10_join_123 ?_
              refine lv_istore (lv' := [(5, .int (fs i)), (0, .ref o), (1, .ref a2_), (2, .ref a3_), (3, .int (nI d)), (4, .int (nI i))]) hx hb dX10_join_124 hl (by decide) rfl (fun ls hl => ?_)
              refine lv_iload hx hb dX10_join_126 (lv_at hl 0 rfl) ?_
              refine lv_bipush (v := 8) hx hb dX10_join_128 (by decide) ?_
              refine lv_icmp_eq (tgt := 140) hx hb dX10_join_130 (by decide) (fun c6 => ?_) (fun c6 => ?_)
              · refine lv_aload_n hx hb dX10_join_140 rfl (lv_at hl 3 rfl) ?_
                refine lv_iload_n hx hb dX10_join_141 rfl (lv_at hl 4 rfl) ?_
                refine lv_iconst (v := (-1)) hx hb dX10_join_142 (by decide) ?_
                refine lb_iast (x := (-1)) hx hb hK hP hD hS 5 0 rfl rfl (i := nI d) (i' := d) (vp_in_nI (n := d) (by omega) (by omega)) (nI_clamp (by omega)) dX10_join_143 (fun H locs hP hD hS => ?_)
                have hP : va_P G.1 vwCl (lxF [[(o, .inr (10, [.ref ok, .ref ol, .ref a1_]))], [(ol, lxq k n rr)], lrB G r fs fa fb n, [(a1_, lxq k (n + 1) nf)], [(a2_, .inl (G.2.1, (n + 1), .inl op))], [(a3_, .inl (G.2.1, (n + 1), .inl (upd mi d (-1))))], nxB G nr nl nc (n + 1)]) H := hP
                have hD : va_D A (lxF [[(o, .inr (10, [.ref ok, .ref ol, .ref a1_]))], [(ol, lxq k n rr)], lrB G r fs fa fb n, [(a1_, lxq k (n + 1) nf)], [(a2_, .inl (G.2.1, (n + 1), .inl op))], [(a3_, .inl (G.2.1, (n + 1), .inl (upd mi d (-1))))], nxB G nr nl nc (n + 1)]) := hD
                refine lv_aload_n hx hb dX10_join_144 rfl (lv_at hl 2 rfl) ?_
                refine lv_iload_n hx hb dX10_join_145 rfl (lv_at hl 4 rfl) ?_
                refine lv_iinc (v := nI (d + 1)) (lv' := [(3, .int (nI (d + 1))), (5, .int (fs i)), (0, .ref o), (1, .ref a2_), (2, .ref a3_), (4, .int (nI i))]) hx hb dX10_join_146 hl (k := 4) rfl (nI_1 d) (by decide) rfl (fun ls hl => ?_)
                refine lv_iload hx hb dX10_join_149 (lv_at hl 5 rfl) ?_
                refine lb_iast (x := nI i) hx hb hK hP hD hS 4 0 rfl rfl (i := nI d) (i' := d) (vp_in_nI (n := d) (by omega) (by omega)) (nI_clamp (by omega)) dX10_join_151 (fun H locs hP hD hS => ?_)
                have hP : va_P G.1 vwCl (lxF [[(o, .inr (10, [.ref ok, .ref ol, .ref a1_]))], [(ol, lxq k n rr)], lrB G r fs fa fb n, [(a1_, lxq k (n + 1) nf)], [(a2_, .inl (G.2.1, (n + 1), .inl (upd op d (nI i))))], [(a3_, .inl (G.2.1, (n + 1), .inl (upd mi d (-1))))], nxB G nr nl nc (n + 1)]) H := hP
                have hD : va_D A (lxF [[(o, .inr (10, [.ref ok, .ref ol, .ref a1_]))], [(ol, lxq k n rr)], lrB G r fs fa fb n, [(a1_, lxq k (n + 1) nf)], [(a2_, .inl (G.2.1, (n + 1), .inl (upd op d (nI i))))], [(a3_, .inl (G.2.1, (n + 1), .inl (upd mi d (-1))))], nxB G nr nl nc (n + 1)]) := hD
                refine lv_iload hx hb dX10_join_152 (lv_at hl 1 rfl) ?_
                refine lv_bipush (v := 9) hx hb dX10_join_154 (by decide) ?_
                refine lv_icmp_eq (tgt := 169) hx hb dX10_join_156 (by decide) (fun c7 => False.elim (by rw [c6] at c7; exact absurd c7 (by decide))) (fun c7 => ?_)
                refine lv_iload hx hb dX10_join_159 (lv_at hl 1 rfl) ?_
                refine lv_bipush (v := 11) hx hb dX10_join_161 (by decide) ?_
                refine lv_icmp_eq (tgt := 169) hx hb dX10_join_163 (by decide) (fun c8 => False.elim (by rw [c6] at c8; exact absurd c8 (by decide))) (fun c8 => ?_)
                refine lv_goto (tgt := 346) hx hb dX10_join_166 (by decide) ?_
                refine lv_iinc (v := nI (i + 1)) (lv' := [(4, .int (nI (i + 1))), (3, .int (nI (d + 1))), (5, .int (fs i)), (0, .ref o), (1, .ref a2_), (2, .ref a3_)]) hx hb dX10_join_346 hl (k := 5) rfl (nI_1 i) (by decide) rfl (fun ls hl => ?_)
                refine lv_goto (tgt := 105) hx hb dX10_join_349 (by decide) ?_
                exact ih3 (i + 1) (d + 1) (upd op d (nI i)) (upd mi d (-1)) nf nr nl nc (by omega) (by omega) (jn_open hJ (Or.inl c6)) (jnF_next hF (by rw [c6]; decide)) (hnf) _ _ (by omega) (by omega) _ _ hP hD hS ls (lv_sub hl [3, 4, 5, 1, 0] rfl)
              · refine lv_iload hx hb dX10_join_133 (lv_at hl 0 rfl) ?_
                refine lv_bipush (v := 10) hx hb dX10_join_135 (by decide) ?_
                refine lv_icmp_ne (tgt := 152) hx hb dX10_join_137 (by decide) (fun c9 => ?_) (fun c9 => ?_)
                · refine lv_iload hx hb dX10_join_152 (lv_at hl 0 rfl) ?_
                  refine lv_bipush (v := 9) hx hb dX10_join_154 (by decide) ?_
                  refine lv_icmp_eq (tgt := 169) hx hb dX10_join_156 (by decide) (fun c10 => ?_) (fun c10 => ?_)
                  · obtain ⟨hd1, f0, hf0, eo, e8, em, hJ1⟩ := jn_else hw (by omega) hJ c10
                    refine lv_iload_n hx hb dX10_join_169 rfl (lv_at hl 4 rfl) ?_
                    refine lv_if_eq (tgt := 205) hx hb dX10_join_170 (by decide) (fun c11 => False.elim (by have nc11 := (nI_eq (a := d) (b := 0) (by omega) (by omega)).mp c11; omega)) (fun c11 => ?_)
                    have nc11 := (not_congr (nI_eq (a := d) (b := 0) (by omega) (by omega))).mp c11
                    refine lv_iload hx hb dX10_join_173 (lv_at hl 0 rfl) ?_
                    refine lv_bipush (v := 9) hx hb dX10_join_175 (by decide) ?_
                    refine lv_icmp_ne (tgt := 208) hx hb dX10_join_177 (by decide) (fun c12 => absurd c10 c12) (fun c12 => ?_)
                    refine lv_aload_n hx hb dX10_join_180 rfl (lv_at hl 1 rfl) ?_
                    refine lb_get (ci := 10) (v := .ref ol) (C := RX10) (T := TX10) (N := 3) hx hb hts owX10 hown hK hP 0 0 rfl rfl rfl 1 (by decide) (bw13 (w := Cond.fieldLink RX10 14 "DropflagMillLaw$Own" "lines" "[[I") hts 12 rfl) (fun _ h9 => h9) rfl dX10_join_181 ?_
                    refine lv_aload_n hx hb dX10_join_184 rfl (lv_at hl 2 rfl) ?_
                    refine lv_iload_n hx hb dX10_join_185 rfl (lv_at hl 4 rfl) ?_
                    refine lv_iconst (v := 1) hx hb dX10_join_186 (by decide) ?_
                    refine lv_isub hx hb dX10_join_187 ?_
                    rw [show ((nI d) - 1 : Int32) = nI (d - 1) from pk_sub (b := 1) (by omega)]
                    refine lb_iald (v := nI f0) hx hb hK hP 4 0 rfl rfl (i := nI (d - 1)) (vp_in_nI (n := (d - 1)) (by omega) (by omega)) (by rw [nI_clamp (by omega)]; exact eo) dX10_join_188 ?_
                    refine lb_aald (v := .ref (r f0)) hx hb hK hE hP 1 0 rfl rfl (i := nI f0) (vp_in_nI (n := f0) (by omega) (by omega)) (by rw [nI_clamp (by omega), hrr _ (by omega)]; rfl) dX10_join_189 ?_
                    refine lv_iconst (v := 0) hx hb dX10_join_190 (by decide) ?_
                    refine lb_iald (v := fs f0) hx hb hK hP 2 f0 rfl (lrB_at (by omega)) (i := 0) (vp_in_nI (n := 0) (by omega) (by omega)) rfl dX10_join_191 ?_
                    refine lv_bipush (v := 10) hx hb dX10_join_192 (by decide) ?_
                    refine lv_icmp_eq (tgt := 205) hx hb dX10_join_194 (by decide) (fun c13 => False.elim (by rw [e8] at c13; exact absurd c13 (by decide))) (fun c13 => ?_)
                    refine lv_aload_n hx hb dX10_join_197 rfl (lv_at hl 3 rfl) ?_
                    refine lv_iload_n hx hb dX10_join_198 rfl (lv_at hl 4 rfl) ?_
                    refine lv_iconst (v := 1) hx hb dX10_join_199 (by decide) ?_
                    refine lv_isub hx hb dX10_join_200 ?_
                    rw [show ((nI d) - 1 : Int32) = nI (d - 1) from pk_sub (b := 1) (by omega)]
                    refine lb_iald (v := (-1)) hx hb hK hP 5 0 rfl rfl (i := nI (d - 1)) (vp_in_nI (n := (d - 1)) (by omega) (by omega)) (by rw [nI_clamp (by omega)]; exact em) dX10_join_201 ?_
                    refine lv_if_lt (tgt := 208) hx hb dX10_join_202 (by decide) (fun c14 => ?_) (fun c14 => absurd c14 (by decide))
                    refine lv_iload hx hb dX10_join_208 (lv_at hl 0 rfl) ?_
                    refine lv_bipush (v := 9) hx hb dX10_join_210 (by decide) ?_
                    refine lv_icmp_ne (tgt := 225) hx hb dX10_join_212 (by decide) (fun c15 => absurd c10 c15) (fun c15 => ?_)
                    refine lv_aload_n hx hb dX10_join_215 rfl (lv_at hl 3 rfl) ?_
                    refine lv_iload_n hx hb dX10_join_216 rfl (lv_at hl 4 rfl) ?_
                    refine lv_iconst (v := 1) hx hb dX10_join_217 (by decide) ?_
                    refine lv_isub hx hb dX10_join_218 ?_
                    rw [show ((nI d) - 1 : Int32) = nI (d - 1) from pk_sub (b := 1) (by omega)]
                    refine lv_iload hx hb dX10_join_219 (lv_at hl 5 rfl) ?_
                    refine lb_iast (x := nI i) hx hb hK hP hD hS 5 0 rfl rfl (i := nI (d - 1)) (i' := (d - 1)) (vp_in_nI (n := (d - 1)) (by omega) (by omega)) (nI_clamp (by omega)) dX10_join_221 (fun H locs hP hD hS => ?_)
                    have hP : va_P G.1 vwCl (lxF [[(o, .inr (10, [.ref ok, .ref ol, .ref a1_]))], [(ol, lxq k n rr)], lrB G r fs fa fb n, [(a1_, lxq k (n + 1) nf)], [(a2_, .inl (G.2.1, (n + 1), .inl op))], [(a3_, .inl (G.2.1, (n + 1), .inl (upd mi (d - 1) (nI i))))], nxB G nr nl nc (n + 1)]) H := hP
                    have hD : va_D A (lxF [[(o, .inr (10, [.ref ok, .ref ol, .ref a1_]))], [(ol, lxq k n rr)], lrB G r fs fa fb n, [(a1_, lxq k (n + 1) nf)], [(a2_, .inl (G.2.1, (n + 1), .inl op))], [(a3_, .inl (G.2.1, (n + 1), .inl (upd mi (d - 1) (nI i))))], nxB G nr nl nc (n + 1)]) := hD
                    refine lv_goto (tgt := 346) hx hb dX10_join_222 (by decide) ?_
                    refine lv_iinc (v := nI (i + 1)) (lv' := [(4, .int (nI (i + 1))), (5, .int (fs i)), (0, .ref o), (1, .ref a2_), (2, .ref a3_), (3, .int (nI d))]) hx hb dX10_join_346 hl (k := 5) rfl (nI_1 i) (by decide) rfl (fun ls hl => ?_)
                    refine lv_goto (tgt := 105) hx hb dX10_join_349 (by decide) ?_
                    exact ih3 (i + 1) d op (upd mi (d - 1) (nI i)) nf nr nl nc (by omega) (by omega) (hJ1) (jnF_next hF (by rw [c10]; decide)) (hnf) _ _ (by omega) (by omega) _ _ hP hD hS ls (lv_sub hl [2, 3, 4, 5, 0] rfl)
                  · refine lv_iload hx hb dX10_join_159 (lv_at hl 0 rfl) ?_
                    refine lv_bipush (v := 11) hx hb dX10_join_161 (by decide) ?_
                    refine lv_icmp_eq (tgt := 169) hx hb dX10_join_163 (by decide) (fun c16 => ?_) (fun c16 => ?_)
                    · obtain ⟨hd1, qe, r5, eq5, hq5, eo, em, e8, em2, hJ1⟩ := jn_end hw (by omega) hJ c16
                      refine lv_iload_n hx hb dX10_join_169 rfl (lv_at hl 4 rfl) ?_
                      refine lv_if_eq (tgt := 205) hx hb dX10_join_170 (by decide) (fun c17 => False.elim (by have nc17 := (nI_eq (a := d) (b := 0) (by omega) (by omega)).mp c17; omega)) (fun c17 => ?_)
                      have nc17 := (not_congr (nI_eq (a := d) (b := 0) (by omega) (by omega))).mp c17
                      refine lv_iload hx hb dX10_join_173 (lv_at hl 0 rfl) ?_
                      refine lv_bipush (v := 9) hx hb dX10_join_175 (by decide) ?_
                      refine lv_icmp_ne (tgt := 208) hx hb dX10_join_177 (by decide) (fun c18 => ?_) (fun c18 => absurd c18 c10)
                      refine lv_iload hx hb dX10_join_208 (lv_at hl 0 rfl) ?_
                      refine lv_bipush (v := 9) hx hb dX10_join_210 (by decide) ?_
                      refine lv_icmp_ne (tgt := 225) hx hb dX10_join_212 (by decide) (fun c19 => ?_) (fun c19 => absurd c19 c10)
                      refine lv_aload_n hx hb dX10_join_225 rfl (lv_at hl 2 rfl) ?_
                      refine lv_iinc (v := nI (d - 1)) (lv' := [(3, .int (nI (d - 1))), (5, .int (fs i)), (0, .ref o), (1, .ref a2_), (2, .ref a3_), (4, .int (nI i))]) hx hb dX10_join_226 hl (k := 4) rfl (sx_m1 (by omega)) (by decide) rfl (fun ls hl => ?_)
                      refine lv_iload_n hx hb dX10_join_229 rfl (lv_at hl 0 rfl) ?_
                      refine lb_iald (v := nI qe.1) hx hb hK hP 4 0 rfl rfl (i := nI (d - 1)) (vp_in_nI (n := (d - 1)) (by omega) (by omega)) (by rw [nI_clamp (by omega)]; exact eo) dX10_join_230 ?_
                      refine lv_istore (lv' := [(6, .int (nI qe.1)), (3, .int (nI (d - 1))), (5, .int (fs i)), (0, .ref o), (1, .ref a2_), (2, .ref a3_), (4, .int (nI i))]) hx hb dX10_join_231 hl (by decide) rfl (fun ls hl => ?_)
                      refine lv_aload_n hx hb dX10_join_233 rfl (lv_at hl 3 rfl) ?_
                      refine lb_get (ci := 10) (v := .ref ol) (C := RX10) (T := TX10) (N := 3) hx hb hts owX10 hown hK hP 0 0 rfl rfl rfl 1 (by decide) (bw13 (w := Cond.fieldLink RX10 14 "DropflagMillLaw$Own" "lines" "[[I") hts 12 rfl) (fun _ h9 => h9) rfl dX10_join_234 ?_
                      refine lv_iload hx hb dX10_join_237 (lv_at hl 0 rfl) ?_
                      refine lb_aald (v := .ref (r qe.1)) hx hb hK hE hP 1 0 rfl rfl (i := nI qe.1) (vp_in_nI (n := qe.1) (by omega) (by omega)) (by rw [nI_clamp (by omega), hrr _ (by omega)]; rfl) dX10_join_239 ?_
                      refine lv_iconst (v := 0) hx hb dX10_join_240 (by decide) ?_
                      refine lb_iald (v := fs qe.1) hx hb hK hP 2 qe.1 rfl (lrB_at (by omega)) (i := 0) (vp_in_nI (n := 0) (by omega) (by omega)) rfl dX10_join_241 ?_
                      refine lv_bipush (v := 10) hx hb dX10_join_242 (by decide) ?_
                      refine lv_icmp_ne (tgt := 274) hx hb dX10_join_244 (by decide) (fun c20 => ?_) (fun c20 => ?_)
                      · refine lv_aload_n hx hb dX10_join_274 rfl (lv_at hl 3 rfl) ?_
                        refine lb_get (ci := 10) (v := .ref a1_) (C := RX10) (T := TX10) (N := 3) hx hb hts owX10 hown hK hP 0 0 rfl rfl rfl 2 (by decide) (bw13 (w := Cond.fieldLink RX10 18 "DropflagMillLaw$Own" "next" "[[I") hts 13 rfl) (fun _ h9 => h9) rfl dX10_join_275 ?_
                        refine lv_iload hx hb dX10_join_278 (lv_at hl 0 rfl) ?_
                        refine lv_iconst (v := 2) hx hb dX10_join_280 (by decide) ?_
                        refine lb_newi hx hb (bw0 (w := Cond.arrayClass .int) hts 5 rfl) hK hP hD hS hA 2 (by decide) rfl (by show 2 * 4 ≤ _; omega) (by show _ ≤ 120; omega) (by show _ ≤ 300; omega) dX10_join_281 (fun a4_ H hP hD hS => ?_)
                        have hP : va_P G.1 vwCl (lxF [[(o, .inr (10, [.ref ok, .ref ol, .ref a1_]))], [(ol, lxq k n rr)], lrB G r fs fa fb n, [(a1_, lxq k (n + 1) nf)], [(a2_, .inl (G.2.1, (n + 1), .inl op))], [(a3_, .inl (G.2.1, (n + 1), .inl mi))], nxB G nr nl nc (n + 1), [(a4_, .inl (G.2.1, 2, .inl (fun _ => 0)))]]) H := hP
                        have hD : va_D A (lxF [[(o, .inr (10, [.ref ok, .ref ol, .ref a1_]))], [(ol, lxq k n rr)], lrB G r fs fa fb n, [(a1_, lxq k (n + 1) nf)], [(a2_, .inl (G.2.1, (n + 1), .inl op))], [(a3_, .inl (G.2.1, (n + 1), .inl mi))], nxB G nr nl nc (n + 1), [(a4_, .inl (G.2.1, 2, .inl (fun _ => 0)))]]) := hD
                        refine lv_dup hx hb dX10_join_283 rfl ?_
                        refine lv_iconst (v := 0) hx hb dX10_join_284 (by decide) ?_
                        refine lv_iload hx hb dX10_join_285 (lv_at hl 0 rfl) ?_
                        refine lv_iconst (v := 1) hx hb dX10_join_287 (by decide) ?_
                        refine lv_iadd hx hb dX10_join_288 ?_
                        rw [show ((nI qe.1) + 1 : Int32) = nI (qe.1 + 1) from nI_add qe.1 1]
                        refine lb_iast (x := nI (qe.1 + 1)) hx hb hK hP hD hS 7 0 rfl rfl (i := 0) (i' := 0) (vp_in_nI (n := 0) (by omega) (by omega)) rfl dX10_join_289 (fun H locs hP hD hS => ?_)
                        have hP : va_P G.1 vwCl (lxF [[(o, .inr (10, [.ref ok, .ref ol, .ref a1_]))], [(ol, lxq k n rr)], lrB G r fs fa fb n, [(a1_, lxq k (n + 1) nf)], [(a2_, .inl (G.2.1, (n + 1), .inl op))], [(a3_, .inl (G.2.1, (n + 1), .inl mi))], nxB G nr nl nc (n + 1), [(a4_, .inl (G.2.1, 2, .inl (upd (fun _ => 0) 0 (nI (qe.1 + 1)))))]]) H := hP
                        have hD : va_D A (lxF [[(o, .inr (10, [.ref ok, .ref ol, .ref a1_]))], [(ol, lxq k n rr)], lrB G r fs fa fb n, [(a1_, lxq k (n + 1) nf)], [(a2_, .inl (G.2.1, (n + 1), .inl op))], [(a3_, .inl (G.2.1, (n + 1), .inl mi))], nxB G nr nl nc (n + 1), [(a4_, .inl (G.2.1, 2, .inl (upd (fun _ => 0) 0 (nI (qe.1 + 1)))))]]) := hD
                        refine lv_dup hx hb dX10_join_290 rfl ?_
                        refine lv_iconst (v := 1) hx hb dX10_join_291 (by decide) ?_
                        refine lv_aload_n hx hb dX10_join_292 rfl (lv_at hl 5 rfl) ?_
                        refine lv_iload_n hx hb dX10_join_293 rfl (lv_at hl 1 rfl) ?_
                        refine lb_iald (v := qe.2) hx hb hK hP 5 0 rfl rfl (i := nI (d - 1)) (vp_in_nI (n := (d - 1)) (by omega) (by omega)) (by rw [nI_clamp (by omega)]; exact em) dX10_join_294 ?_
                        refine lv_if_ge (tgt := 303) hx hb dX10_join_295 (by decide) (fun c21 => ?_) (fun c21 => ?_)
                        · refine lv_aload_n hx hb dX10_join_303 rfl (lv_at hl 5 rfl) ?_
                          refine lv_iload_n hx hb dX10_join_304 rfl (lv_at hl 1 rfl) ?_
                          refine lb_iald (v := qe.2) hx hb hK hP 5 0 rfl rfl (i := nI (d - 1)) (vp_in_nI (n := (d - 1)) (by omega) (by omega)) (by rw [nI_clamp (by omega)]; exact em) dX10_join_305 ?_
                          refine lv_iconst (v := 1) hx hb dX10_join_306 (by decide) ?_
                          refine lv_iadd hx hb dX10_join_307 ?_
                          refine lb_iast (x := qe.2 + 1) hx hb hK hP hD hS 7 0 rfl rfl (i := 1) (i' := 1) (vp_in_nI (n := 1) (by omega) (by omega)) rfl dX10_join_308 (fun H locs hP hD hS => ?_)
                          have hP : va_P G.1 vwCl (lxF [[(o, .inr (10, [.ref ok, .ref ol, .ref a1_]))], [(ol, lxq k n rr)], lrB G r fs fa fb n, [(a1_, lxq k (n + 1) nf)], [(a2_, .inl (G.2.1, (n + 1), .inl op))], [(a3_, .inl (G.2.1, (n + 1), .inl mi))], nxB G nr nl nc (n + 1), [(a4_, .inl (G.2.1, 2, .inl (upd (upd (fun _ => 0) 0 (nI (qe.1 + 1))) 1 (qe.2 + 1))))]]) H := hP
                          have hD : va_D A (lxF [[(o, .inr (10, [.ref ok, .ref ol, .ref a1_]))], [(ol, lxq k n rr)], lrB G r fs fa fb n, [(a1_, lxq k (n + 1) nf)], [(a2_, .inl (G.2.1, (n + 1), .inl op))], [(a3_, .inl (G.2.1, (n + 1), .inl mi))], nxB G nr nl nc (n + 1), [(a4_, .inl (G.2.1, 2, .inl (upd (upd (fun _ => 0) 0 (nI (qe.1 + 1))) 1 (qe.2 + 1))))]]) := hD
                          refine lb_aast (r := a4_) hx hb hK hE hP hD hS 3 0 7 0 rfl rfl rfl rfl (i := nI qe.1) (i' := qe.1) (vp_in_nI (n := qe.1) (by omega) (by omega)) (nI_clamp (by omega)) dX10_join_309 (fun H locs hP hD hS => ?_)
                          have hP : va_P G.1 vwCl (lxF [[(o, .inr (10, [.ref ok, .ref ol, .ref a1_]))], [(ol, lxq k n rr)], lrB G r fs fa fb n, [(a1_, lxq k (n + 1) (va_up nf qe.1 (some a4_)))], [(a2_, .inl (G.2.1, (n + 1), .inl op))], [(a3_, .inl (G.2.1, (n + 1), .inl mi))], nxB G nr nl nc (n + 1), [(a4_, .inl (G.2.1, 2, .inl (upd (upd (fun _ => 0) 0 (nI (qe.1 + 1))) 1 (qe.2 + 1))))]]) H := hP
                          have hD : va_D A (lxF [[(o, .inr (10, [.ref ok, .ref ol, .ref a1_]))], [(ol, lxq k n rr)], lrB G r fs fa fb n, [(a1_, lxq k (n + 1) (va_up nf qe.1 (some a4_)))], [(a2_, .inl (G.2.1, (n + 1), .inl op))], [(a3_, .inl (G.2.1, (n + 1), .inl mi))], nxB G nr nl nc (n + 1), [(a4_, .inl (G.2.1, 2, .inl (upd (upd (fun _ => 0) 0 (nI (qe.1 + 1))) 1 (qe.2 + 1))))]]) := hD
                          obtain ⟨hP, hD⟩ := lx_swapP (Xs := [[(o, .inr (10, [.ref ok, .ref ol, .ref a1_]))], [(ol, lxq k n rr)], lrB G r fs fa fb n, [(a1_, lxq k (n + 1) (va_up nf qe.1 (some a4_)))], [(a2_, .inl (G.2.1, (n + 1), .inl op))], [(a3_, .inl (G.2.1, (n + 1), .inl mi))]]) hP hD (nxB_at (i := qe.1) (by omega))
                          rw [nxB_set (by omega)] at hP hD
                          have hP : va_P G.1 vwCl (lxF [[(o, .inr (10, [.ref ok, .ref ol, .ref a1_]))], [(ol, lxq k n rr)], lrB G r fs fa fb n, [(a1_, lxq k (n + 1) (va_up nf qe.1 (some a4_)))], [(a2_, .inl (G.2.1, (n + 1), .inl op))], [(a3_, .inl (G.2.1, (n + 1), .inl mi))], nxB G (fun j => if j = qe.1 then a4_ else nr j) (fun j => if j = qe.1 then 2 else nl j) (fun j => if j = qe.1 then upd (upd (fun _ => 0) 0 (nI (qe.1 + 1))) 1 (qe.2 + 1) else nc j) (n + 1)]) H := hP
                          have hD : va_D A (lxF [[(o, .inr (10, [.ref ok, .ref ol, .ref a1_]))], [(ol, lxq k n rr)], lrB G r fs fa fb n, [(a1_, lxq k (n + 1) (va_up nf qe.1 (some a4_)))], [(a2_, .inl (G.2.1, (n + 1), .inl op))], [(a3_, .inl (G.2.1, (n + 1), .inl mi))], nxB G (fun j => if j = qe.1 then a4_ else nr j) (fun j => if j = qe.1 then 2 else nl j) (fun j => if j = qe.1 then upd (upd (fun _ => 0) 0 (nI (qe.1 + 1))) 1 (qe.2 + 1) else nc j) (n + 1)]) := hD
                          refine lv_aload_n hx hb dX10_join_310 rfl (lv_at hl 3 rfl) ?_
                          refine lb_get (ci := 10) (v := .ref ol) (C := RX10) (T := TX10) (N := 3) hx hb hts owX10 hown hK hP 0 0 rfl rfl rfl 1 (by decide) (bw13 (w := Cond.fieldLink RX10 14 "DropflagMillLaw$Own" "lines" "[[I") hts 12 rfl) (fun _ h9 => h9) rfl dX10_join_311 ?_
                          refine lv_iload hx hb dX10_join_314 (lv_at hl 0 rfl) ?_
                          refine lb_aald (v := .ref (r qe.1)) hx hb hK hE hP 1 0 rfl rfl (i := nI qe.1) (vp_in_nI (n := qe.1) (by omega) (by omega)) (by rw [nI_clamp (by omega), hrr _ (by omega)]; rfl) dX10_join_316 ?_
                          refine lv_iconst (v := 0) hx hb dX10_join_317 (by decide) ?_
                          refine lb_iald (v := fs qe.1) hx hb hK hP 2 qe.1 rfl (lrB_at (by omega)) (i := 0) (vp_in_nI (n := 0) (by omega) (by omega)) rfl dX10_join_318 ?_
                          refine lv_bipush (v := 8) hx hb dX10_join_319 (by decide) ?_
                          refine lv_icmp_ne (tgt := 346) hx hb dX10_join_321 (by decide) (fun c22 => False.elim (by exact e8.elim c22 c20)) (fun c22 => ?_)
                          refine lv_aload_n hx hb dX10_join_324 rfl (lv_at hl 5 rfl) ?_
                          refine lv_iload_n hx hb dX10_join_325 rfl (lv_at hl 1 rfl) ?_
                          refine lb_iald (v := qe.2) hx hb hK hP 5 0 rfl rfl (i := nI (d - 1)) (vp_in_nI (n := (d - 1)) (by omega) (by omega)) (by rw [nI_clamp (by omega)]; exact em) dX10_join_326 ?_
                          refine lv_if_lt (tgt := 346) hx hb dX10_join_327 (by decide) (fun c23 => False.elim (by exact absurd c21 (Int32.not_le.mpr c23))) (fun c23 => ?_)
                          obtain ⟨e5, he1, he2, he3, he4⟩ := em2.resolve_left (fun z => by rw [z] at c21; exact absurd c21 (by decide))
                          refine lv_aload_n hx hb dX10_join_330 rfl (lv_at hl 3 rfl) ?_
                          refine lb_get (ci := 10) (v := .ref a1_) (C := RX10) (T := TX10) (N := 3) hx hb hts owX10 hown hK hP 0 0 rfl rfl rfl 2 (by decide) (bw13 (w := Cond.fieldLink RX10 18 "DropflagMillLaw$Own" "next" "[[I") hts 13 rfl) (fun _ h9 => h9) rfl dX10_join_331 ?_
                          refine lv_aload_n hx hb dX10_join_334 rfl (lv_at hl 5 rfl) ?_
                          refine lv_iload_n hx hb dX10_join_335 rfl (lv_at hl 1 rfl) ?_
                          refine lb_iald (v := nI e5) hx hb hK hP 5 0 rfl rfl (i := nI (d - 1)) (vp_in_nI (n := (d - 1)) (by omega) (by omega)) (by rw [nI_clamp (by omega)]; exact (em.trans he3)) dX10_join_336 ?_
                          refine lv_iconst (v := 1) hx hb dX10_join_337 (by decide) ?_
                          refine lb_newi hx hb (bw0 (w := Cond.arrayClass .int) hts 5 rfl) hK hP hD hS hA 1 (by decide) rfl (by show 1 * 4 ≤ _; omega) (by show _ ≤ 120; omega) (by show _ ≤ 300; omega) dX10_join_338 (fun a5_ H hP hD hS => ?_)
                          have hP : va_P G.1 vwCl (lxF [[(o, .inr (10, [.ref ok, .ref ol, .ref a1_]))], [(ol, lxq k n rr)], lrB G r fs fa fb n, [(a1_, lxq k (n + 1) (va_up nf qe.1 (some a4_)))], [(a2_, .inl (G.2.1, (n + 1), .inl op))], [(a3_, .inl (G.2.1, (n + 1), .inl mi))], nxB G (fun j => if j = qe.1 then a4_ else nr j) (fun j => if j = qe.1 then 2 else nl j) (fun j => if j = qe.1 then upd (upd (fun _ => 0) 0 (nI (qe.1 + 1))) 1 (qe.2 + 1) else nc j) (n + 1), [(a5_, .inl (G.2.1, 1, .inl (fun _ => 0)))]]) H := hP
                          have hD : va_D A (lxF [[(o, .inr (10, [.ref ok, .ref ol, .ref a1_]))], [(ol, lxq k n rr)], lrB G r fs fa fb n, [(a1_, lxq k (n + 1) (va_up nf qe.1 (some a4_)))], [(a2_, .inl (G.2.1, (n + 1), .inl op))], [(a3_, .inl (G.2.1, (n + 1), .inl mi))], nxB G (fun j => if j = qe.1 then a4_ else nr j) (fun j => if j = qe.1 then 2 else nl j) (fun j => if j = qe.1 then upd (upd (fun _ => 0) 0 (nI (qe.1 + 1))) 1 (qe.2 + 1) else nc j) (n + 1), [(a5_, .inl (G.2.1, 1, .inl (fun _ => 0)))]]) := hD
                          refine lv_dup hx hb dX10_join_340 rfl ?_
                          refine lv_iconst (v := 0) hx hb dX10_join_341 (by decide) ?_
                          refine lv_iload hx hb dX10_join_342 (lv_at hl 6 rfl) ?_
                          refine lb_iast (x := nI i) hx hb hK hP hD hS 7 0 rfl rfl (i := 0) (i' := 0) (vp_in_nI (n := 0) (by omega) (by omega)) rfl dX10_join_344 (fun H locs hP hD hS => ?_)
                          have hP : va_P G.1 vwCl (lxF [[(o, .inr (10, [.ref ok, .ref ol, .ref a1_]))], [(ol, lxq k n rr)], lrB G r fs fa fb n, [(a1_, lxq k (n + 1) (va_up nf qe.1 (some a4_)))], [(a2_, .inl (G.2.1, (n + 1), .inl op))], [(a3_, .inl (G.2.1, (n + 1), .inl mi))], nxB G (fun j => if j = qe.1 then a4_ else nr j) (fun j => if j = qe.1 then 2 else nl j) (fun j => if j = qe.1 then upd (upd (fun _ => 0) 0 (nI (qe.1 + 1))) 1 (qe.2 + 1) else nc j) (n + 1), [(a5_, .inl (G.2.1, 1, .inl (upd (fun _ => 0) 0 (nI i))))]]) H := hP
                          have hD : va_D A (lxF [[(o, .inr (10, [.ref ok, .ref ol, .ref a1_]))], [(ol, lxq k n rr)], lrB G r fs fa fb n, [(a1_, lxq k (n + 1) (va_up nf qe.1 (some a4_)))], [(a2_, .inl (G.2.1, (n + 1), .inl op))], [(a3_, .inl (G.2.1, (n + 1), .inl mi))], nxB G (fun j => if j = qe.1 then a4_ else nr j) (fun j => if j = qe.1 then 2 else nl j) (fun j => if j = qe.1 then upd (upd (fun _ => 0) 0 (nI (qe.1 + 1))) 1 (qe.2 + 1) else nc j) (n + 1), [(a5_, .inl (G.2.1, 1, .inl (upd (fun _ => 0) 0 (nI i))))]]) := hD
                          refine lb_aast (r := a5_) hx hb hK hE hP hD hS 3 0 7 0 rfl rfl rfl rfl (i := nI e5) (i' := e5) (vp_in_nI (n := e5) (by omega) (by omega)) (nI_clamp (by omega)) dX10_join_345 (fun H locs hP hD hS => ?_)
                          have hP : va_P G.1 vwCl (lxF [[(o, .inr (10, [.ref ok, .ref ol, .ref a1_]))], [(ol, lxq k n rr)], lrB G r fs fa fb n, [(a1_, lxq k (n + 1) (va_up (va_up nf qe.1 (some a4_)) e5 (some a5_)))], [(a2_, .inl (G.2.1, (n + 1), .inl op))], [(a3_, .inl (G.2.1, (n + 1), .inl mi))], nxB G (fun j => if j = qe.1 then a4_ else nr j) (fun j => if j = qe.1 then 2 else nl j) (fun j => if j = qe.1 then upd (upd (fun _ => 0) 0 (nI (qe.1 + 1))) 1 (qe.2 + 1) else nc j) (n + 1), [(a5_, .inl (G.2.1, 1, .inl (upd (fun _ => 0) 0 (nI i))))]]) H := hP
                          have hD : va_D A (lxF [[(o, .inr (10, [.ref ok, .ref ol, .ref a1_]))], [(ol, lxq k n rr)], lrB G r fs fa fb n, [(a1_, lxq k (n + 1) (va_up (va_up nf qe.1 (some a4_)) e5 (some a5_)))], [(a2_, .inl (G.2.1, (n + 1), .inl op))], [(a3_, .inl (G.2.1, (n + 1), .inl mi))], nxB G (fun j => if j = qe.1 then a4_ else nr j) (fun j => if j = qe.1 then 2 else nl j) (fun j => if j = qe.1 then upd (upd (fun _ => 0) 0 (nI (qe.1 + 1))) 1 (qe.2 + 1) else nc j) (n + 1), [(a5_, .inl (G.2.1, 1, .inl (upd (fun _ => 0) 0 (nI i))))]]) := hD
                          obtain ⟨hP, hD⟩ := lx_swapP (Xs := [[(o, .inr (10, [.ref ok, .ref ol, .ref a1_]))], [(ol, lxq k n rr)], lrB G r fs fa fb n, [(a1_, lxq k (n + 1) (va_up (va_up nf qe.1 (some a4_)) e5 (some a5_)))], [(a2_, .inl (G.2.1, (n + 1), .inl op))], [(a3_, .inl (G.2.1, (n + 1), .inl mi))]]) hP hD (nxB_at (i := e5) (by omega))
                          rw [nxB_set (by omega)] at hP hD
                          have hP : va_P G.1 vwCl (lxF [[(o, .inr (10, [.ref ok, .ref ol, .ref a1_]))], [(ol, lxq k n rr)], lrB G r fs fa fb n, [(a1_, lxq k (n + 1) (va_up (va_up nf qe.1 (some a4_)) e5 (some a5_)))], [(a2_, .inl (G.2.1, (n + 1), .inl op))], [(a3_, .inl (G.2.1, (n + 1), .inl mi))], nxB G (fun j => if j = e5 then a5_ else (fun j => if j = qe.1 then a4_ else nr j) j) (fun j => if j = e5 then 1 else (fun j => if j = qe.1 then 2 else nl j) j) (fun j => if j = e5 then upd (fun _ => 0) 0 (nI i) else (fun j => if j = qe.1 then upd (upd (fun _ => 0) 0 (nI (qe.1 + 1))) 1 (qe.2 + 1) else nc j) j) (n + 1)]) H := hP
                          have hD : va_D A (lxF [[(o, .inr (10, [.ref ok, .ref ol, .ref a1_]))], [(ol, lxq k n rr)], lrB G r fs fa fb n, [(a1_, lxq k (n + 1) (va_up (va_up nf qe.1 (some a4_)) e5 (some a5_)))], [(a2_, .inl (G.2.1, (n + 1), .inl op))], [(a3_, .inl (G.2.1, (n + 1), .inl mi))], nxB G (fun j => if j = e5 then a5_ else (fun j => if j = qe.1 then a4_ else nr j) j) (fun j => if j = e5 then 1 else (fun j => if j = qe.1 then 2 else nl j) j) (fun j => if j = e5 then upd (fun _ => 0) 0 (nI i) else (fun j => if j = qe.1 then upd (upd (fun _ => 0) 0 (nI (qe.1 + 1))) 1 (qe.2 + 1) else nc j) j) (n + 1)]) := hD
                          refine lv_iinc (v := nI (i + 1)) (lv' := [(4, .int (nI (i + 1))), (6, .int (nI qe.1)), (3, .int (nI (d - 1))), (5, .int (fs i)), (0, .ref o), (1, .ref a2_), (2, .ref a3_)]) hx hb dX10_join_346 hl (k := 6) rfl (nI_1 i) (by decide) rfl (fun ls hl => ?_)
                          refine lv_goto (tgt := 105) hx hb dX10_join_349 (by decide) ?_
                          exact ih3 (i + 1) (d - 1) op mi (va_up (va_up nf qe.1 (some a4_)) e5 (some a5_)) (fun j => if j = e5 then a5_ else (fun j => if j = qe.1 then a4_ else nr j) j) (fun j => if j = e5 then 1 else (fun j => if j = qe.1 then 2 else nl j) j) (fun j => if j = e5 then upd (fun _ => 0) 0 (nI i) else (fun j => if j = qe.1 then upd (upd (fun _ => 0) 0 (nI (qe.1 + 1))) 1 (qe.2 + 1) else nc j) j) (by omega) (by omega) (hJ1) (jnF_if (jnF_keep (t := e5) (jnF_keep (t := qe.1) hF (by rw [e8.resolve_right c20]; decide)) (by rw [he4]; decide)) eq5 c20) ((jn_nf (jn_nf hnf))) _ _ (by omega) (by omega) _ _ hP hD hS ls (lv_sub hl [4, 5, 6, 2, 0] rfl)
                        · refine lv_iload hx hb dX10_join_298 (lv_at hl 6 rfl) ?_
                          refine lv_goto (tgt := 308) hx hb dX10_join_300 (by decide) ?_
                          refine lb_iast (x := nI i) hx hb hK hP hD hS 7 0 rfl rfl (i := 1) (i' := 1) (vp_in_nI (n := 1) (by omega) (by omega)) rfl dX10_join_308 (fun H locs hP hD hS => ?_)
                          have hP : va_P G.1 vwCl (lxF [[(o, .inr (10, [.ref ok, .ref ol, .ref a1_]))], [(ol, lxq k n rr)], lrB G r fs fa fb n, [(a1_, lxq k (n + 1) nf)], [(a2_, .inl (G.2.1, (n + 1), .inl op))], [(a3_, .inl (G.2.1, (n + 1), .inl mi))], nxB G nr nl nc (n + 1), [(a4_, .inl (G.2.1, 2, .inl (upd (upd (fun _ => 0) 0 (nI (qe.1 + 1))) 1 (nI i))))]]) H := hP
                          have hD : va_D A (lxF [[(o, .inr (10, [.ref ok, .ref ol, .ref a1_]))], [(ol, lxq k n rr)], lrB G r fs fa fb n, [(a1_, lxq k (n + 1) nf)], [(a2_, .inl (G.2.1, (n + 1), .inl op))], [(a3_, .inl (G.2.1, (n + 1), .inl mi))], nxB G nr nl nc (n + 1), [(a4_, .inl (G.2.1, 2, .inl (upd (upd (fun _ => 0) 0 (nI (qe.1 + 1))) 1 (nI i))))]]) := hD
                          refine lb_aast (r := a4_) hx hb hK hE hP hD hS 3 0 7 0 rfl rfl rfl rfl (i := nI qe.1) (i' := qe.1) (vp_in_nI (n := qe.1) (by omega) (by omega)) (nI_clamp (by omega)) dX10_join_309 (fun H locs hP hD hS => ?_)
                          have hP : va_P G.1 vwCl (lxF [[(o, .inr (10, [.ref ok, .ref ol, .ref a1_]))], [(ol, lxq k n rr)], lrB G r fs fa fb n, [(a1_, lxq k (n + 1) (va_up nf qe.1 (some a4_)))], [(a2_, .inl (G.2.1, (n + 1), .inl op))], [(a3_, .inl (G.2.1, (n + 1), .inl mi))], nxB G nr nl nc (n + 1), [(a4_, .inl (G.2.1, 2, .inl (upd (upd (fun _ => 0) 0 (nI (qe.1 + 1))) 1 (nI i))))]]) H := hP
                          have hD : va_D A (lxF [[(o, .inr (10, [.ref ok, .ref ol, .ref a1_]))], [(ol, lxq k n rr)], lrB G r fs fa fb n, [(a1_, lxq k (n + 1) (va_up nf qe.1 (some a4_)))], [(a2_, .inl (G.2.1, (n + 1), .inl op))], [(a3_, .inl (G.2.1, (n + 1), .inl mi))], nxB G nr nl nc (n + 1), [(a4_, .inl (G.2.1, 2, .inl (upd (upd (fun _ => 0) 0 (nI (qe.1 + 1))) 1 (nI i))))]]) := hD
                          obtain ⟨hP, hD⟩ := lx_swapP (Xs := [[(o, .inr (10, [.ref ok, .ref ol, .ref a1_]))], [(ol, lxq k n rr)], lrB G r fs fa fb n, [(a1_, lxq k (n + 1) (va_up nf qe.1 (some a4_)))], [(a2_, .inl (G.2.1, (n + 1), .inl op))], [(a3_, .inl (G.2.1, (n + 1), .inl mi))]]) hP hD (nxB_at (i := qe.1) (by omega))
                          rw [nxB_set (by omega)] at hP hD
                          have hP : va_P G.1 vwCl (lxF [[(o, .inr (10, [.ref ok, .ref ol, .ref a1_]))], [(ol, lxq k n rr)], lrB G r fs fa fb n, [(a1_, lxq k (n + 1) (va_up nf qe.1 (some a4_)))], [(a2_, .inl (G.2.1, (n + 1), .inl op))], [(a3_, .inl (G.2.1, (n + 1), .inl mi))], nxB G (fun j => if j = qe.1 then a4_ else nr j) (fun j => if j = qe.1 then 2 else nl j) (fun j => if j = qe.1 then upd (upd (fun _ => 0) 0 (nI (qe.1 + 1))) 1 (nI i) else nc j) (n + 1)]) H := hP
                          have hD : va_D A (lxF [[(o, .inr (10, [.ref ok, .ref ol, .ref a1_]))], [(ol, lxq k n rr)], lrB G r fs fa fb n, [(a1_, lxq k (n + 1) (va_up nf qe.1 (some a4_)))], [(a2_, .inl (G.2.1, (n + 1), .inl op))], [(a3_, .inl (G.2.1, (n + 1), .inl mi))], nxB G (fun j => if j = qe.1 then a4_ else nr j) (fun j => if j = qe.1 then 2 else nl j) (fun j => if j = qe.1 then upd (upd (fun _ => 0) 0 (nI (qe.1 + 1))) 1 (nI i) else nc j) (n + 1)]) := hD
                          refine lv_aload_n hx hb dX10_join_310 rfl (lv_at hl 3 rfl) ?_
                          refine lb_get (ci := 10) (v := .ref ol) (C := RX10) (T := TX10) (N := 3) hx hb hts owX10 hown hK hP 0 0 rfl rfl rfl 1 (by decide) (bw13 (w := Cond.fieldLink RX10 14 "DropflagMillLaw$Own" "lines" "[[I") hts 12 rfl) (fun _ h9 => h9) rfl dX10_join_311 ?_
                          refine lv_iload hx hb dX10_join_314 (lv_at hl 0 rfl) ?_
                          refine lb_aald (v := .ref (r qe.1)) hx hb hK hE hP 1 0 rfl rfl (i := nI qe.1) (vp_in_nI (n := qe.1) (by omega) (by omega)) (by rw [nI_clamp (by omega), hrr _ (by omega)]; rfl) dX10_join_316 ?_
                          refine lv_iconst (v := 0) hx hb dX10_join_317 (by decide) ?_
                          refine lb_iald (v := fs qe.1) hx hb hK hP 2 qe.1 rfl (lrB_at (by omega)) (i := 0) (vp_in_nI (n := 0) (by omega) (by omega)) rfl dX10_join_318 ?_
                          refine lv_bipush (v := 8) hx hb dX10_join_319 (by decide) ?_
                          refine lv_icmp_ne (tgt := 346) hx hb dX10_join_321 (by decide) (fun c24 => False.elim (by exact e8.elim c24 c20)) (fun c24 => ?_)
                          refine lv_aload_n hx hb dX10_join_324 rfl (lv_at hl 5 rfl) ?_
                          refine lv_iload_n hx hb dX10_join_325 rfl (lv_at hl 1 rfl) ?_
                          refine lb_iald (v := qe.2) hx hb hK hP 5 0 rfl rfl (i := nI (d - 1)) (vp_in_nI (n := (d - 1)) (by omega) (by omega)) (by rw [nI_clamp (by omega)]; exact em) dX10_join_326 ?_
                          refine lv_if_lt (tgt := 346) hx hb dX10_join_327 (by decide) (fun c25 => ?_) (fun c25 => False.elim (by exact c25 (Int32.not_le.mp c21)))
                          refine lv_iinc (v := nI (i + 1)) (lv' := [(4, .int (nI (i + 1))), (6, .int (nI qe.1)), (3, .int (nI (d - 1))), (5, .int (fs i)), (0, .ref o), (1, .ref a2_), (2, .ref a3_)]) hx hb dX10_join_346 hl (k := 6) rfl (nI_1 i) (by decide) rfl (fun ls hl => ?_)
                          refine lv_goto (tgt := 105) hx hb dX10_join_349 (by decide) ?_
                          exact ih3 (i + 1) (d - 1) op mi (va_up nf qe.1 (some a4_)) (fun j => if j = qe.1 then a4_ else nr j) (fun j => if j = qe.1 then 2 else nl j) (fun j => if j = qe.1 then upd (upd (fun _ => 0) 0 (nI (qe.1 + 1))) 1 (nI i) else nc j) (by omega) (by omega) (hJ1) (jnF_if (jnF_keep (t := qe.1) hF (by rw [e8.resolve_right c20]; decide)) eq5 c20) ((jn_nf hnf)) _ _ (by omega) (by omega) _ _ hP hD hS ls (lv_sub hl [4, 5, 6, 2, 0] rfl)
                      · refine lv_aload_n hx hb dX10_join_247 rfl (lv_at hl 3 rfl) ?_
                        refine lb_get (ci := 10) (v := .ref a1_) (C := RX10) (T := TX10) (N := 3) hx hb hts owX10 hown hK hP 0 0 rfl rfl rfl 2 (by decide) (bw13 (w := Cond.fieldLink RX10 18 "DropflagMillLaw$Own" "next" "[[I") hts 13 rfl) (fun _ h9 => h9) rfl dX10_join_248 ?_
                        refine lv_iload hx hb dX10_join_251 (lv_at hl 6 rfl) ?_
                        refine lv_iconst (v := 2) hx hb dX10_join_253 (by decide) ?_
                        refine lb_newi hx hb (bw0 (w := Cond.arrayClass .int) hts 5 rfl) hK hP hD hS hA 2 (by decide) rfl (by show 2 * 4 ≤ _; omega) (by show _ ≤ 120; omega) (by show _ ≤ 300; omega) dX10_join_254 (fun a6_ H hP hD hS => ?_)
                        have hP : va_P G.1 vwCl (lxF [[(o, .inr (10, [.ref ok, .ref ol, .ref a1_]))], [(ol, lxq k n rr)], lrB G r fs fa fb n, [(a1_, lxq k (n + 1) nf)], [(a2_, .inl (G.2.1, (n + 1), .inl op))], [(a3_, .inl (G.2.1, (n + 1), .inl mi))], nxB G nr nl nc (n + 1), [(a6_, .inl (G.2.1, 2, .inl (fun _ => 0)))]]) H := hP
                        have hD : va_D A (lxF [[(o, .inr (10, [.ref ok, .ref ol, .ref a1_]))], [(ol, lxq k n rr)], lrB G r fs fa fb n, [(a1_, lxq k (n + 1) nf)], [(a2_, .inl (G.2.1, (n + 1), .inl op))], [(a3_, .inl (G.2.1, (n + 1), .inl mi))], nxB G nr nl nc (n + 1), [(a6_, .inl (G.2.1, 2, .inl (fun _ => 0)))]]) := hD
                        refine lv_dup hx hb dX10_join_256 rfl ?_
                        refine lv_iconst (v := 0) hx hb dX10_join_257 (by decide) ?_
                        refine lv_iload hx hb dX10_join_258 (lv_at hl 0 rfl) ?_
                        refine lv_iconst (v := 1) hx hb dX10_join_260 (by decide) ?_
                        refine lv_iadd hx hb dX10_join_261 ?_
                        rw [show ((nI qe.1) + 1 : Int32) = nI (qe.1 + 1) from nI_add qe.1 1]
                        refine lb_iast (x := nI (qe.1 + 1)) hx hb hK hP hD hS 7 0 rfl rfl (i := 0) (i' := 0) (vp_in_nI (n := 0) (by omega) (by omega)) rfl dX10_join_262 (fun H locs hP hD hS => ?_)
                        have hP : va_P G.1 vwCl (lxF [[(o, .inr (10, [.ref ok, .ref ol, .ref a1_]))], [(ol, lxq k n rr)], lrB G r fs fa fb n, [(a1_, lxq k (n + 1) nf)], [(a2_, .inl (G.2.1, (n + 1), .inl op))], [(a3_, .inl (G.2.1, (n + 1), .inl mi))], nxB G nr nl nc (n + 1), [(a6_, .inl (G.2.1, 2, .inl (upd (fun _ => 0) 0 (nI (qe.1 + 1)))))]]) H := hP
                        have hD : va_D A (lxF [[(o, .inr (10, [.ref ok, .ref ol, .ref a1_]))], [(ol, lxq k n rr)], lrB G r fs fa fb n, [(a1_, lxq k (n + 1) nf)], [(a2_, .inl (G.2.1, (n + 1), .inl op))], [(a3_, .inl (G.2.1, (n + 1), .inl mi))], nxB G nr nl nc (n + 1), [(a6_, .inl (G.2.1, 2, .inl (upd (fun _ => 0) 0 (nI (qe.1 + 1)))))]]) := hD
                        refine lv_dup hx hb dX10_join_263 rfl ?_
                        refine lv_iconst (v := 1) hx hb dX10_join_264 (by decide) ?_
                        refine lv_iload hx hb dX10_join_265 (lv_at hl 6 rfl) ?_
                        refine lv_iconst (v := 1) hx hb dX10_join_267 (by decide) ?_
                        refine lv_iadd hx hb dX10_join_268 ?_
                        rw [show ((nI i) + 1 : Int32) = nI (i + 1) from nI_add i 1]
                        refine lb_iast (x := nI (i + 1)) hx hb hK hP hD hS 7 0 rfl rfl (i := 1) (i' := 1) (vp_in_nI (n := 1) (by omega) (by omega)) rfl dX10_join_269 (fun H locs hP hD hS => ?_)
                        have hP : va_P G.1 vwCl (lxF [[(o, .inr (10, [.ref ok, .ref ol, .ref a1_]))], [(ol, lxq k n rr)], lrB G r fs fa fb n, [(a1_, lxq k (n + 1) nf)], [(a2_, .inl (G.2.1, (n + 1), .inl op))], [(a3_, .inl (G.2.1, (n + 1), .inl mi))], nxB G nr nl nc (n + 1), [(a6_, .inl (G.2.1, 2, .inl (upd (upd (fun _ => 0) 0 (nI (qe.1 + 1))) 1 (nI (i + 1)))))]]) H := hP
                        have hD : va_D A (lxF [[(o, .inr (10, [.ref ok, .ref ol, .ref a1_]))], [(ol, lxq k n rr)], lrB G r fs fa fb n, [(a1_, lxq k (n + 1) nf)], [(a2_, .inl (G.2.1, (n + 1), .inl op))], [(a3_, .inl (G.2.1, (n + 1), .inl mi))], nxB G nr nl nc (n + 1), [(a6_, .inl (G.2.1, 2, .inl (upd (upd (fun _ => 0) 0 (nI (qe.1 + 1))) 1 (nI (i + 1)))))]]) := hD
                        refine lb_aast (r := a6_) hx hb hK hE hP hD hS 3 0 7 0 rfl rfl rfl rfl (i := nI i) (i' := i) (vp_in_nI (n := i) (by omega) (by omega)) (nI_clamp (by omega)) dX10_join_270 (fun H locs hP hD hS => ?_)
                        have hP : va_P G.1 vwCl (lxF [[(o, .inr (10, [.ref ok, .ref ol, .ref a1_]))], [(ol, lxq k n rr)], lrB G r fs fa fb n, [(a1_, lxq k (n + 1) (va_up nf i (some a6_)))], [(a2_, .inl (G.2.1, (n + 1), .inl op))], [(a3_, .inl (G.2.1, (n + 1), .inl mi))], nxB G nr nl nc (n + 1), [(a6_, .inl (G.2.1, 2, .inl (upd (upd (fun _ => 0) 0 (nI (qe.1 + 1))) 1 (nI (i + 1)))))]]) H := hP
                        have hD : va_D A (lxF [[(o, .inr (10, [.ref ok, .ref ol, .ref a1_]))], [(ol, lxq k n rr)], lrB G r fs fa fb n, [(a1_, lxq k (n + 1) (va_up nf i (some a6_)))], [(a2_, .inl (G.2.1, (n + 1), .inl op))], [(a3_, .inl (G.2.1, (n + 1), .inl mi))], nxB G nr nl nc (n + 1), [(a6_, .inl (G.2.1, 2, .inl (upd (upd (fun _ => 0) 0 (nI (qe.1 + 1))) 1 (nI (i + 1)))))]]) := hD
                        obtain ⟨hP, hD⟩ := lx_swapP (Xs := [[(o, .inr (10, [.ref ok, .ref ol, .ref a1_]))], [(ol, lxq k n rr)], lrB G r fs fa fb n, [(a1_, lxq k (n + 1) (va_up nf i (some a6_)))], [(a2_, .inl (G.2.1, (n + 1), .inl op))], [(a3_, .inl (G.2.1, (n + 1), .inl mi))]]) hP hD (nxB_at (i := i) (by omega))
                        rw [nxB_set (by omega)] at hP hD
                        have hP : va_P G.1 vwCl (lxF [[(o, .inr (10, [.ref ok, .ref ol, .ref a1_]))], [(ol, lxq k n rr)], lrB G r fs fa fb n, [(a1_, lxq k (n + 1) (va_up nf i (some a6_)))], [(a2_, .inl (G.2.1, (n + 1), .inl op))], [(a3_, .inl (G.2.1, (n + 1), .inl mi))], nxB G (fun j => if j = i then a6_ else nr j) (fun j => if j = i then 2 else nl j) (fun j => if j = i then upd (upd (fun _ => 0) 0 (nI (qe.1 + 1))) 1 (nI (i + 1)) else nc j) (n + 1)]) H := hP
                        have hD : va_D A (lxF [[(o, .inr (10, [.ref ok, .ref ol, .ref a1_]))], [(ol, lxq k n rr)], lrB G r fs fa fb n, [(a1_, lxq k (n + 1) (va_up nf i (some a6_)))], [(a2_, .inl (G.2.1, (n + 1), .inl op))], [(a3_, .inl (G.2.1, (n + 1), .inl mi))], nxB G (fun j => if j = i then a6_ else nr j) (fun j => if j = i then 2 else nl j) (fun j => if j = i then upd (upd (fun _ => 0) 0 (nI (qe.1 + 1))) 1 (nI (i + 1)) else nc j) (n + 1)]) := hD
                        refine lv_goto (tgt := 310) hx hb dX10_join_271 (by decide) ?_
                        refine lv_aload_n hx hb dX10_join_310 rfl (lv_at hl 3 rfl) ?_
                        refine lb_get (ci := 10) (v := .ref ol) (C := RX10) (T := TX10) (N := 3) hx hb hts owX10 hown hK hP 0 0 rfl rfl rfl 1 (by decide) (bw13 (w := Cond.fieldLink RX10 14 "DropflagMillLaw$Own" "lines" "[[I") hts 12 rfl) (fun _ h9 => h9) rfl dX10_join_311 ?_
                        refine lv_iload hx hb dX10_join_314 (lv_at hl 0 rfl) ?_
                        refine lb_aald (v := .ref (r qe.1)) hx hb hK hE hP 1 0 rfl rfl (i := nI qe.1) (vp_in_nI (n := qe.1) (by omega) (by omega)) (by rw [nI_clamp (by omega), hrr _ (by omega)]; rfl) dX10_join_316 ?_
                        refine lv_iconst (v := 0) hx hb dX10_join_317 (by decide) ?_
                        refine lb_iald (v := fs qe.1) hx hb hK hP 2 qe.1 rfl (lrB_at (by omega)) (i := 0) (vp_in_nI (n := 0) (by omega) (by omega)) rfl dX10_join_318 ?_
                        refine lv_bipush (v := 8) hx hb dX10_join_319 (by decide) ?_
                        refine lv_icmp_ne (tgt := 346) hx hb dX10_join_321 (by decide) (fun c26 => ?_) (fun c26 => False.elim (by rw [c20] at c26; exact absurd c26 (by decide)))
                        refine lv_iinc (v := nI (i + 1)) (lv' := [(4, .int (nI (i + 1))), (6, .int (nI qe.1)), (3, .int (nI (d - 1))), (5, .int (fs i)), (0, .ref o), (1, .ref a2_), (2, .ref a3_)]) hx hb dX10_join_346 hl (k := 6) rfl (nI_1 i) (by decide) rfl (fun ls hl => ?_)
                        refine lv_goto (tgt := 105) hx hb dX10_join_349 (by decide) ?_
                        exact ih3 (i + 1) (d - 1) op mi (va_up nf i (some a6_)) (fun j => if j = i then a6_ else nr j) (fun j => if j = i then 2 else nl j) (fun j => if j = i then upd (upd (fun _ => 0) 0 (nI (qe.1 + 1))) 1 (nI (i + 1)) else nc j) (by omega) (by omega) (hJ1) (jnF_loop hF eq5 c20 rfl) (jn_nf hnf) _ _ (by omega) (by omega) _ _ hP hD hS ls (lv_sub hl [4, 5, 6, 2, 0] rfl)
                    · refine lv_goto (tgt := 346) hx hb dX10_join_166 (by decide) ?_
                      refine lv_iinc (v := nI (i + 1)) (lv' := [(4, .int (nI (i + 1))), (5, .int (fs i)), (0, .ref o), (1, .ref a2_), (2, .ref a3_), (3, .int (nI d))]) hx hb dX10_join_346 hl (k := 5) rfl (nI_1 i) (by decide) rfl (fun ls hl => ?_)
                      refine lv_goto (tgt := 105) hx hb dX10_join_349 (by decide) ?_
                      exact ih3 (i + 1) d op mi nf nr nl nc (by omega) (by omega) (jn_plain hJ c6 c10 c9 c16) (jnF_next hF c16) (hnf) _ _ (by omega) (by omega) _ _ hP hD hS ls (lv_sub hl [2, 3, 4, 5, 0] rfl)
                · refine lv_aload_n hx hb dX10_join_140 rfl (lv_at hl 3 rfl) ?_
                  refine lv_iload_n hx hb dX10_join_141 rfl (lv_at hl 4 rfl) ?_
                  refine lv_iconst (v := (-1)) hx hb dX10_join_142 (by decide) ?_
                  refine lb_iast (x := (-1)) hx hb hK hP hD hS 5 0 rfl rfl (i := nI d) (i' := d) (vp_in_nI (n := d) (by omega) (by omega)) (nI_clamp (by omega)) dX10_join_143 (fun H locs hP hD hS => ?_)
                  have hP : va_P G.1 vwCl (lxF [[(o, .inr (10, [.ref ok, .ref ol, .ref a1_]))], [(ol, lxq k n rr)], lrB G r fs fa fb n, [(a1_, lxq k (n + 1) nf)], [(a2_, .inl (G.2.1, (n + 1), .inl op))], [(a3_, .inl (G.2.1, (n + 1), .inl (upd mi d (-1))))], nxB G nr nl nc (n + 1)]) H := hP
                  have hD : va_D A (lxF [[(o, .inr (10, [.ref ok, .ref ol, .ref a1_]))], [(ol, lxq k n rr)], lrB G r fs fa fb n, [(a1_, lxq k (n + 1) nf)], [(a2_, .inl (G.2.1, (n + 1), .inl op))], [(a3_, .inl (G.2.1, (n + 1), .inl (upd mi d (-1))))], nxB G nr nl nc (n + 1)]) := hD
                  refine lv_aload_n hx hb dX10_join_144 rfl (lv_at hl 2 rfl) ?_
                  refine lv_iload_n hx hb dX10_join_145 rfl (lv_at hl 4 rfl) ?_
                  refine lv_iinc (v := nI (d + 1)) (lv' := [(3, .int (nI (d + 1))), (5, .int (fs i)), (0, .ref o), (1, .ref a2_), (2, .ref a3_), (4, .int (nI i))]) hx hb dX10_join_146 hl (k := 4) rfl (nI_1 d) (by decide) rfl (fun ls hl => ?_)
                  refine lv_iload hx hb dX10_join_149 (lv_at hl 5 rfl) ?_
                  refine lb_iast (x := nI i) hx hb hK hP hD hS 4 0 rfl rfl (i := nI d) (i' := d) (vp_in_nI (n := d) (by omega) (by omega)) (nI_clamp (by omega)) dX10_join_151 (fun H locs hP hD hS => ?_)
                  have hP : va_P G.1 vwCl (lxF [[(o, .inr (10, [.ref ok, .ref ol, .ref a1_]))], [(ol, lxq k n rr)], lrB G r fs fa fb n, [(a1_, lxq k (n + 1) nf)], [(a2_, .inl (G.2.1, (n + 1), .inl (upd op d (nI i))))], [(a3_, .inl (G.2.1, (n + 1), .inl (upd mi d (-1))))], nxB G nr nl nc (n + 1)]) H := hP
                  have hD : va_D A (lxF [[(o, .inr (10, [.ref ok, .ref ol, .ref a1_]))], [(ol, lxq k n rr)], lrB G r fs fa fb n, [(a1_, lxq k (n + 1) nf)], [(a2_, .inl (G.2.1, (n + 1), .inl (upd op d (nI i))))], [(a3_, .inl (G.2.1, (n + 1), .inl (upd mi d (-1))))], nxB G nr nl nc (n + 1)]) := hD
                  refine lv_iload hx hb dX10_join_152 (lv_at hl 1 rfl) ?_
                  refine lv_bipush (v := 9) hx hb dX10_join_154 (by decide) ?_
                  refine lv_icmp_eq (tgt := 169) hx hb dX10_join_156 (by decide) (fun c27 => False.elim (by rw [c9] at c27; exact absurd c27 (by decide))) (fun c27 => ?_)
                  refine lv_iload hx hb dX10_join_159 (lv_at hl 1 rfl) ?_
                  refine lv_bipush (v := 11) hx hb dX10_join_161 (by decide) ?_
                  refine lv_icmp_eq (tgt := 169) hx hb dX10_join_163 (by decide) (fun c28 => False.elim (by rw [c9] at c28; exact absurd c28 (by decide))) (fun c28 => ?_)
                  refine lv_goto (tgt := 346) hx hb dX10_join_166 (by decide) ?_
                  refine lv_iinc (v := nI (i + 1)) (lv' := [(4, .int (nI (i + 1))), (3, .int (nI (d + 1))), (5, .int (fs i)), (0, .ref o), (1, .ref a2_), (2, .ref a3_)]) hx hb dX10_join_346 hl (k := 5) rfl (nI_1 i) (by decide) rfl (fun ls hl => ?_)
                  refine lv_goto (tgt := 105) hx hb dX10_join_349 (by decide) ?_
                  exact ih3 (i + 1) (d + 1) (upd op d (nI i)) (upd mi d (-1)) nf nr nl nc (by omega) (by omega) (jn_open hJ (Or.inr c9)) (jnF_next hF (by rw [c9]; decide)) (hnf) _ _ (by omega) (by omega) _ _ hP hD hS ls (lv_sub hl [3, 4, 5, 1, 0] rfl)
        exact LP105_3 (n + 1) 0 0 (fun _ => 0) (fun _ => 0) nf nr nl nc (by omega) (Nat.zero_le _) (⟨[], rfl, rfl, trivial⟩) (fun j hj h11 => ⟨fun z => absurd z (Nat.not_lt_zero _), fun _ => h1 j (by omega) hj h11⟩) (hnf) _ _ (by omega) (by omega) _ _ hP hD hS ls (lv_sub hl [1, 2, 3, 4, 0] rfl)
      · have nc2 := (not_congr (nI_ltI (a := n) (b := i) (by omega) (by omega))).mp c2
        refine lv_aload_n hx hb dX10_join_49 rfl (lv_at hl 0 rfl) ?_
        refine lb_get (ci := 10) (v := .ref a1_) (C := RX10) (T := TX10) (N := 3) hx hb hts owX10 hown hK hP 0 0 rfl rfl rfl 2 (by decide) (bw13 (w := Cond.fieldLink RX10 18 "DropflagMillLaw$Own" "next" "[[I") hts 13 rfl) (fun _ h9 => h9) rfl dX10_join_50 ?_
        refine lv_iload hx hb dX10_join_53 (lv_at hl 4 rfl) ?_
        refine lv_iload hx hb dX10_join_55 (lv_at hl 4 rfl) ?_
        refine lv_aload_n hx hb dX10_join_57 rfl (lv_at hl 0 rfl) ?_
        refine lb_get (ci := 10) (v := .ref ol) (C := RX10) (T := TX10) (N := 3) hx hb hts owX10 hown hK hP 0 0 rfl rfl rfl 1 (by decide) (bw13 (w := Cond.fieldLink RX10 14 "DropflagMillLaw$Own" "lines" "[[I") hts 12 rfl) (fun _ h9 => h9) rfl dX10_join_58 ?_
        refine lb_alenq (v := nI n) hx hb hK hE hP 1 0 rfl rfl rfl dX10_join_61 ?_
        refine lv_icmp_ge (tgt := 92) hx hb dX10_join_62 (by decide) (fun c29 => ?_) (fun c29 => ?_)
        · have nc29 := (nI_leI (a := n) (b := i) (by omega) (by omega)).mp c29
          refine lv_iconst (v := 0) hx hb dX10_join_92 (by decide) ?_
          refine lb_newi hx hb (bw0 (w := Cond.arrayClass .int) hts 5 rfl) hK hP hD hS hA 0 (by decide) rfl (by show 0 * 4 ≤ _; omega) (by show _ ≤ 120; omega) (by show _ ≤ 300; omega) dX10_join_93 (fun a7_ H hP hD hS => ?_)
          have hP : va_P G.1 vwCl (lxF [[(o, .inr (10, [.ref ok, .ref ol, .ref a1_]))], [(ol, lxq k n rr)], lrB G r fs fa fb n, [(a1_, lxq k (n + 1) nf)], [(a2_, .inl (G.2.1, (n + 1), .inl (fun _ => 0)))], [(a3_, .inl (G.2.1, (n + 1), .inl (fun _ => 0)))], nxB G nr nl nc i, [(a7_, .inl (G.2.1, 0, .inl (fun _ => 0)))]]) H := hP
          have hD : va_D A (lxF [[(o, .inr (10, [.ref ok, .ref ol, .ref a1_]))], [(ol, lxq k n rr)], lrB G r fs fa fb n, [(a1_, lxq k (n + 1) nf)], [(a2_, .inl (G.2.1, (n + 1), .inl (fun _ => 0)))], [(a3_, .inl (G.2.1, (n + 1), .inl (fun _ => 0)))], nxB G nr nl nc i, [(a7_, .inl (G.2.1, 0, .inl (fun _ => 0)))]]) := hD
          refine lb_aast (r := a7_) hx hb hK hE hP hD hS 3 0 7 0 rfl rfl rfl rfl (i := nI i) (i' := i) (vp_in_nI (n := i) (by omega) (by omega)) (nI_clamp (by omega)) dX10_join_95 (fun H locs hP hD hS => ?_)
          have hP : va_P G.1 vwCl (lxF [[(o, .inr (10, [.ref ok, .ref ol, .ref a1_]))], [(ol, lxq k n rr)], lrB G r fs fa fb n, [(a1_, lxq k (n + 1) (va_up nf i (some a7_)))], [(a2_, .inl (G.2.1, (n + 1), .inl (fun _ => 0)))], [(a3_, .inl (G.2.1, (n + 1), .inl (fun _ => 0)))], nxB G nr nl nc i, [(a7_, .inl (G.2.1, 0, .inl (fun _ => 0)))]]) H := hP
          have hD : va_D A (lxF [[(o, .inr (10, [.ref ok, .ref ol, .ref a1_]))], [(ol, lxq k n rr)], lrB G r fs fa fb n, [(a1_, lxq k (n + 1) (va_up nf i (some a7_)))], [(a2_, .inl (G.2.1, (n + 1), .inl (fun _ => 0)))], [(a3_, .inl (G.2.1, (n + 1), .inl (fun _ => 0)))], nxB G nr nl nc i, [(a7_, .inl (G.2.1, 0, .inl (fun _ => 0)))]]) := hD
          rw [lx_glue7 nxB_new] at hP hD
          have hP : va_P G.1 vwCl (lxF [[(o, .inr (10, [.ref ok, .ref ol, .ref a1_]))], [(ol, lxq k n rr)], lrB G r fs fa fb n, [(a1_, lxq k (n + 1) (va_up nf i (some a7_)))], [(a2_, .inl (G.2.1, (n + 1), .inl (fun _ => 0)))], [(a3_, .inl (G.2.1, (n + 1), .inl (fun _ => 0)))], nxB G (fun j => if j = i then a7_ else nr j) (fun j => if j = i then 0 else nl j) (fun j => if j = i then fun _ => 0 else nc j) (i + 1)]) H := hP
          have hD : va_D A (lxF [[(o, .inr (10, [.ref ok, .ref ol, .ref a1_]))], [(ol, lxq k n rr)], lrB G r fs fa fb n, [(a1_, lxq k (n + 1) (va_up nf i (some a7_)))], [(a2_, .inl (G.2.1, (n + 1), .inl (fun _ => 0)))], [(a3_, .inl (G.2.1, (n + 1), .inl (fun _ => 0)))], nxB G (fun j => if j = i then a7_ else nr j) (fun j => if j = i then 0 else nl j) (fun j => if j = i then fun _ => 0 else nc j) (i + 1)]) := hD
          refine lv_iinc (v := nI (i + 1)) (lv' := [(4, .int (nI (i + 1))), (0, .ref o), (1, .ref a2_), (2, .ref a3_), (3, .int 0)]) hx hb dX10_join_96 hl (k := 4) rfl (nI_1 i) (by decide) rfl (fun ls hl => ?_)
          refine lv_goto (tgt := 39) hx hb dX10_join_99 (by decide) ?_
          exact ih1 (i + 1) (va_up nf i (some a7_)) (fun j => if j = i then a7_ else nr j) (fun j => if j = i then 0 else nl j) (fun j => if j = i then fun _ => 0 else nc j) (by omega) (by omega) (jn_nf1 hnf) (jn_short h1 (fun z _ => absurd z (by omega))) _ _ (by omega) (by omega) _ _ hP hD hS ls (lv_sub hl [1, 2, 3, 4, 0] rfl)
        · have nc29 := (not_congr (nI_leI (a := n) (b := i) (by omega) (by omega))).mp c29
          refine lv_aload_n hx hb dX10_join_65 rfl (lv_at hl 0 rfl) ?_
          refine lb_get (ci := 10) (v := .ref ol) (C := RX10) (T := TX10) (N := 3) hx hb hts owX10 hown hK hP 0 0 rfl rfl rfl 1 (by decide) (bw13 (w := Cond.fieldLink RX10 14 "DropflagMillLaw$Own" "lines" "[[I") hts 12 rfl) (fun _ h9 => h9) rfl dX10_join_66 ?_
          refine lv_iload hx hb dX10_join_69 (lv_at hl 4 rfl) ?_
          refine lb_aald (v := .ref (r i)) hx hb hK hE hP 1 0 rfl rfl (i := nI i) (vp_in_nI (n := i) (by omega) (by omega)) (by rw [nI_clamp (by omega), hrr _ (by omega)]; rfl) dX10_join_71 ?_
          refine lv_iconst (v := 0) hx hb dX10_join_72 (by decide) ?_
          refine lb_iald (v := fs i) hx hb hK hP 2 i rfl (lrB_at (by omega)) (i := 0) (vp_in_nI (n := 0) (by omega) (by omega)) rfl dX10_join_73 ?_
          refine lv_bipush (v := 15) hx hb dX10_join_74 (by decide) ?_
          refine lv_icmp_eq (tgt := 92) hx hb dX10_join_76 (by decide) (fun c30 => ?_) (fun c30 => ?_)
          · refine lv_iconst (v := 0) hx hb dX10_join_92 (by decide) ?_
            refine lb_newi hx hb (bw0 (w := Cond.arrayClass .int) hts 5 rfl) hK hP hD hS hA 0 (by decide) rfl (by show 0 * 4 ≤ _; omega) (by show _ ≤ 120; omega) (by show _ ≤ 300; omega) dX10_join_93 (fun a8_ H hP hD hS => ?_)
            have hP : va_P G.1 vwCl (lxF [[(o, .inr (10, [.ref ok, .ref ol, .ref a1_]))], [(ol, lxq k n rr)], lrB G r fs fa fb n, [(a1_, lxq k (n + 1) nf)], [(a2_, .inl (G.2.1, (n + 1), .inl (fun _ => 0)))], [(a3_, .inl (G.2.1, (n + 1), .inl (fun _ => 0)))], nxB G nr nl nc i, [(a8_, .inl (G.2.1, 0, .inl (fun _ => 0)))]]) H := hP
            have hD : va_D A (lxF [[(o, .inr (10, [.ref ok, .ref ol, .ref a1_]))], [(ol, lxq k n rr)], lrB G r fs fa fb n, [(a1_, lxq k (n + 1) nf)], [(a2_, .inl (G.2.1, (n + 1), .inl (fun _ => 0)))], [(a3_, .inl (G.2.1, (n + 1), .inl (fun _ => 0)))], nxB G nr nl nc i, [(a8_, .inl (G.2.1, 0, .inl (fun _ => 0)))]]) := hD
            refine lb_aast (r := a8_) hx hb hK hE hP hD hS 3 0 7 0 rfl rfl rfl rfl (i := nI i) (i' := i) (vp_in_nI (n := i) (by omega) (by omega)) (nI_clamp (by omega)) dX10_join_95 (fun H locs hP hD hS => ?_)
            have hP : va_P G.1 vwCl (lxF [[(o, .inr (10, [.ref ok, .ref ol, .ref a1_]))], [(ol, lxq k n rr)], lrB G r fs fa fb n, [(a1_, lxq k (n + 1) (va_up nf i (some a8_)))], [(a2_, .inl (G.2.1, (n + 1), .inl (fun _ => 0)))], [(a3_, .inl (G.2.1, (n + 1), .inl (fun _ => 0)))], nxB G nr nl nc i, [(a8_, .inl (G.2.1, 0, .inl (fun _ => 0)))]]) H := hP
            have hD : va_D A (lxF [[(o, .inr (10, [.ref ok, .ref ol, .ref a1_]))], [(ol, lxq k n rr)], lrB G r fs fa fb n, [(a1_, lxq k (n + 1) (va_up nf i (some a8_)))], [(a2_, .inl (G.2.1, (n + 1), .inl (fun _ => 0)))], [(a3_, .inl (G.2.1, (n + 1), .inl (fun _ => 0)))], nxB G nr nl nc i, [(a8_, .inl (G.2.1, 0, .inl (fun _ => 0)))]]) := hD
            rw [lx_glue7 nxB_new] at hP hD
            have hP : va_P G.1 vwCl (lxF [[(o, .inr (10, [.ref ok, .ref ol, .ref a1_]))], [(ol, lxq k n rr)], lrB G r fs fa fb n, [(a1_, lxq k (n + 1) (va_up nf i (some a8_)))], [(a2_, .inl (G.2.1, (n + 1), .inl (fun _ => 0)))], [(a3_, .inl (G.2.1, (n + 1), .inl (fun _ => 0)))], nxB G (fun j => if j = i then a8_ else nr j) (fun j => if j = i then 0 else nl j) (fun j => if j = i then fun _ => 0 else nc j) (i + 1)]) H := hP
            have hD : va_D A (lxF [[(o, .inr (10, [.ref ok, .ref ol, .ref a1_]))], [(ol, lxq k n rr)], lrB G r fs fa fb n, [(a1_, lxq k (n + 1) (va_up nf i (some a8_)))], [(a2_, .inl (G.2.1, (n + 1), .inl (fun _ => 0)))], [(a3_, .inl (G.2.1, (n + 1), .inl (fun _ => 0)))], nxB G (fun j => if j = i then a8_ else nr j) (fun j => if j = i then 0 else nl j) (fun j => if j = i then fun _ => 0 else nc j) (i + 1)]) := hD
            refine lv_iinc (v := nI (i + 1)) (lv' := [(4, .int (nI (i + 1))), (0, .ref o), (1, .ref a2_), (2, .ref a3_), (3, .int 0)]) hx hb dX10_join_96 hl (k := 4) rfl (nI_1 i) (by decide) rfl (fun ls hl => ?_)
            refine lv_goto (tgt := 39) hx hb dX10_join_99 (by decide) ?_
            exact ih1 (i + 1) (va_up nf i (some a8_)) (fun j => if j = i then a8_ else nr j) (fun j => if j = i then 0 else nl j) (fun j => if j = i then fun _ => 0 else nc j) (by omega) (by omega) (jn_nf1 hnf) (jn_short h1 (fun _ z => absurd (c30.symm.trans z) (by decide))) _ _ (by omega) (by omega) _ _ hP hD hS ls (lv_sub hl [1, 2, 3, 4, 0] rfl)
          · refine lv_iconst (v := 1) hx hb dX10_join_79 (by decide) ?_
            refine lb_newi hx hb (bw0 (w := Cond.arrayClass .int) hts 5 rfl) hK hP hD hS hA 1 (by decide) rfl (by show 1 * 4 ≤ _; omega) (by show _ ≤ 120; omega) (by show _ ≤ 300; omega) dX10_join_80 (fun a9_ H hP hD hS => ?_)
            have hP : va_P G.1 vwCl (lxF [[(o, .inr (10, [.ref ok, .ref ol, .ref a1_]))], [(ol, lxq k n rr)], lrB G r fs fa fb n, [(a1_, lxq k (n + 1) nf)], [(a2_, .inl (G.2.1, (n + 1), .inl (fun _ => 0)))], [(a3_, .inl (G.2.1, (n + 1), .inl (fun _ => 0)))], nxB G nr nl nc i, [(a9_, .inl (G.2.1, 1, .inl (fun _ => 0)))]]) H := hP
            have hD : va_D A (lxF [[(o, .inr (10, [.ref ok, .ref ol, .ref a1_]))], [(ol, lxq k n rr)], lrB G r fs fa fb n, [(a1_, lxq k (n + 1) nf)], [(a2_, .inl (G.2.1, (n + 1), .inl (fun _ => 0)))], [(a3_, .inl (G.2.1, (n + 1), .inl (fun _ => 0)))], nxB G nr nl nc i, [(a9_, .inl (G.2.1, 1, .inl (fun _ => 0)))]]) := hD
            refine lv_dup hx hb dX10_join_82 rfl ?_
            refine lv_iconst (v := 0) hx hb dX10_join_83 (by decide) ?_
            refine lv_iload hx hb dX10_join_84 (lv_at hl 4 rfl) ?_
            refine lv_iconst (v := 1) hx hb dX10_join_86 (by decide) ?_
            refine lv_iadd hx hb dX10_join_87 ?_
            rw [show ((nI i) + 1 : Int32) = nI (i + 1) from nI_add i 1]
            refine lb_iast (x := nI (i + 1)) hx hb hK hP hD hS 7 0 rfl rfl (i := 0) (i' := 0) (vp_in_nI (n := 0) (by omega) (by omega)) rfl dX10_join_88 (fun H locs hP hD hS => ?_)
            have hP : va_P G.1 vwCl (lxF [[(o, .inr (10, [.ref ok, .ref ol, .ref a1_]))], [(ol, lxq k n rr)], lrB G r fs fa fb n, [(a1_, lxq k (n + 1) nf)], [(a2_, .inl (G.2.1, (n + 1), .inl (fun _ => 0)))], [(a3_, .inl (G.2.1, (n + 1), .inl (fun _ => 0)))], nxB G nr nl nc i, [(a9_, .inl (G.2.1, 1, .inl (upd (fun _ => 0) 0 (nI (i + 1)))))]]) H := hP
            have hD : va_D A (lxF [[(o, .inr (10, [.ref ok, .ref ol, .ref a1_]))], [(ol, lxq k n rr)], lrB G r fs fa fb n, [(a1_, lxq k (n + 1) nf)], [(a2_, .inl (G.2.1, (n + 1), .inl (fun _ => 0)))], [(a3_, .inl (G.2.1, (n + 1), .inl (fun _ => 0)))], nxB G nr nl nc i, [(a9_, .inl (G.2.1, 1, .inl (upd (fun _ => 0) 0 (nI (i + 1)))))]]) := hD
            refine lv_goto (tgt := 95) hx hb dX10_join_89 (by decide) ?_
            refine lb_aast (r := a9_) hx hb hK hE hP hD hS 3 0 7 0 rfl rfl rfl rfl (i := nI i) (i' := i) (vp_in_nI (n := i) (by omega) (by omega)) (nI_clamp (by omega)) dX10_join_95 (fun H locs hP hD hS => ?_)
            have hP : va_P G.1 vwCl (lxF [[(o, .inr (10, [.ref ok, .ref ol, .ref a1_]))], [(ol, lxq k n rr)], lrB G r fs fa fb n, [(a1_, lxq k (n + 1) (va_up nf i (some a9_)))], [(a2_, .inl (G.2.1, (n + 1), .inl (fun _ => 0)))], [(a3_, .inl (G.2.1, (n + 1), .inl (fun _ => 0)))], nxB G nr nl nc i, [(a9_, .inl (G.2.1, 1, .inl (upd (fun _ => 0) 0 (nI (i + 1)))))]]) H := hP
            have hD : va_D A (lxF [[(o, .inr (10, [.ref ok, .ref ol, .ref a1_]))], [(ol, lxq k n rr)], lrB G r fs fa fb n, [(a1_, lxq k (n + 1) (va_up nf i (some a9_)))], [(a2_, .inl (G.2.1, (n + 1), .inl (fun _ => 0)))], [(a3_, .inl (G.2.1, (n + 1), .inl (fun _ => 0)))], nxB G nr nl nc i, [(a9_, .inl (G.2.1, 1, .inl (upd (fun _ => 0) 0 (nI (i + 1)))))]]) := hD
            rw [lx_glue7 nxB_new] at hP hD
            have hP : va_P G.1 vwCl (lxF [[(o, .inr (10, [.ref ok, .ref ol, .ref a1_]))], [(ol, lxq k n rr)], lrB G r fs fa fb n, [(a1_, lxq k (n + 1) (va_up nf i (some a9_)))], [(a2_, .inl (G.2.1, (n + 1), .inl (fun _ => 0)))], [(a3_, .inl (G.2.1, (n + 1), .inl (fun _ => 0)))], nxB G (fun j => if j = i then a9_ else nr j) (fun j => if j = i then 1 else nl j) (fun j => if j = i then upd (fun _ => 0) 0 (nI (i + 1)) else nc j) (i + 1)]) H := hP
            have hD : va_D A (lxF [[(o, .inr (10, [.ref ok, .ref ol, .ref a1_]))], [(ol, lxq k n rr)], lrB G r fs fa fb n, [(a1_, lxq k (n + 1) (va_up nf i (some a9_)))], [(a2_, .inl (G.2.1, (n + 1), .inl (fun _ => 0)))], [(a3_, .inl (G.2.1, (n + 1), .inl (fun _ => 0)))], nxB G (fun j => if j = i then a9_ else nr j) (fun j => if j = i then 1 else nl j) (fun j => if j = i then upd (fun _ => 0) 0 (nI (i + 1)) else nc j) (i + 1)]) := hD
            refine lv_iinc (v := nI (i + 1)) (lv' := [(4, .int (nI (i + 1))), (0, .ref o), (1, .ref a2_), (2, .ref a3_), (3, .int 0)]) hx hb dX10_join_96 hl (k := 4) rfl (nI_1 i) (by decide) rfl (fun ls hl => ?_)
            refine lv_goto (tgt := 39) hx hb dX10_join_99 (by decide) ?_
            exact ih1 (i + 1) (va_up nf i (some a9_)) (fun j => if j = i then a9_ else nr j) (fun j => if j = i then 1 else nl j) (fun j => if j = i then upd (fun _ => 0) 0 (nI (i + 1)) else nc j) (by omega) (by omega) (jn_nf1 hnf) (jn_short h1 (fun _ _ => rfl)) _ _ (by omega) (by omega) _ _ hP hD hS ls (lv_sub hl [1, 2, 3, 4, 0] rfl)
  exact LP39_1 (n + 2) 0 (fun _ => none) (fun _ => 0) (fun _ => 0) (fun _ _ => 0) (by omega) (Nat.zero_le _) (fun j hj => absurd hj (Nat.not_lt_zero _)) (fun j hj => absurd hj (Nat.not_lt_zero _)) _ _ (by omega) (by omega) _ _ hP hD hS ls (lv_sub hl [4, 3, 2, 1, 0] rfl)
