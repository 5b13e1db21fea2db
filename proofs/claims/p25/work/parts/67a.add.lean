abbrev wdL_add : List Cond := Cond.code yL_add cL_add 5 (some .boolean) :: bwC
set_option maxHeartbeats 4000000 in
set_option maxRecDepth 100000 in
theorem t_L_add (l : Launch) (G : sxG) (k : lxC) (q : Nat → Nat) (o ok ol on n : Nat) (rr : Nat → Option Nat) (r : Nat → Nat) (fk fs fa fb : Nat → Int32) (M : mlS) (rn : Int32) (a0 b0 c0 : Int32) (hI : lsI fk n rr r fs fa fb M rn) (hF : qp_F 8 fk a0 b0 c0) : lyM l yL_add wdL_add 6 145 2 36 G k [mlW G q M, [(o, .inr (10, [.ref ok, .ref ol, .ref on]))], [(ol, lxq k n rr)], lrB G r fs fa fb n] [.ref (q 0), .ref o, .int a0, .int b0, .int c0] (fun B v => v = some (.int 1) ∧ ∃ (M1 : mlS) (ol1 n1 : Nat) (rr1 : Nat → Option Nat) (r1 : Nat → Nat) (fs1 fa1 fb1 : Nat → Int32), B = [mlW G q M1, [(o, .inr (10, [.ref ok, .ref ol1, .ref on]))], [(ol1, lxq k n1 rr1)], lrB G r1 fs1 fa1 fb1 n1] ∧ lsI fk n1 rr1 r1 fs1 fa1 fb1 M1 rn ∧ lgA n fs fa fb a0 b0 c0 n1 fs1 fa1 fb1) := by
  refine lyM.of (cc := cL_add) (maxL := 5) (rt := (some .boolean)) (by decide) rfl (Nat.le_of_ble_eq_true rfl) ?_
  intro p e s m args below meth c ⟨hx, hb, hr, hml, hown, hlk, hts, hK⟩ hnm A hA hP hD hS hE ls hl
  have hl : lv_has ls 5 [(0, .ref (q 0)), (1, .ref o), (2, .int a0), (3, .int b0), (4, .int c0)] := hl
  obtain ⟨hrr, hM, hP4, hrn⟩ := id hI
  have hn := hP4.2.1
  have hql := hP4.2.2.2
  refine lv_aload_n hx hb dL_add_0 rfl (lv_at hl 1 rfl) ?_
  refine lb_get (ci := 10) (v := .ref ol) (C := RX10) (T := TX10) (N := 3) hx hb hts owX10 hown hK hP 1 0 rfl rfl rfl 1 (by decide) (bw13 (w := Cond.fieldLink RL 9 "DropflagMillLaw$Own" "lines" "[[I") hts 31 rfl) (fun _ h9 => h9) rfl dL_add_1 ?_
  refine lb_alenq (v := nI n) hx hb hK hE hP 2 0 rfl rfl rfl dL_add_4 ?_
  refine lv_bipush (v := 32) hx hb dL_add_5 (by decide) ?_
  refine lv_icmp_eq (tgt := 29) hx hb dL_add_7 (by decide) (fun c1 => ?_) (fun c1 => ?_)
  · have nc1 := (nI_eq (a := n) (b := 32) (by omega) (by omega)).mp c1
    refine lv_iconst (v := 1) hx hb dL_add_29 (by decide) ?_
    exact ly_ri hx hb hr hlk hP hD hS rfl (⟨rfl, M, ol, n, rr, r, fs, fa, fb, rfl, hI, Or.inl ⟨rfl, rfl, rfl, rfl, Or.inl (by omega)⟩⟩) (by omega) (by omega) dL_add_30
  · have nc1 := (not_congr (nI_eq (a := n) (b := 32) (by omega) (by omega))).mp c1
    refine lv_iload_n hx hb dL_add_10 rfl (lv_at hl 2 rfl) ?_
    refine lv_iconst (v := 3) hx hb dL_add_11 (by decide) ?_
    refine lv_icmp_eq (tgt := 20) hx hb dL_add_12 (by decide) (fun c2 => ?_) (fun c2 => ?_)
    · refine lv_aload_n hx hb dL_add_20 rfl (lv_at hl 1 rfl) ?_
      refine ly_v (As := []) (rest := []) hx hb hml hown hts (t_X10_loans l G k o ok ol on n rr r fs fa fb hn hrr) 0 (sxGV (bi13 (w := Cond.methodLink RL 15 yX10_loans) 32 rfl) (bi13 (w := Cond.instanceMethod yX10_loans) 33 rfl) (bi13 (w := Cond.selects RX10 yX10_loans yX10_loans) 34 rfl) (bi13 (w := Cond.initialized RX10) 21 rfl) (bi13 (w := Cond.code yX10_loans cX10_loans 6 (some .int)) 24 rfl)) rfl (by decide +kernel) ⟨Nat.le_of_ble_eq_true rfl, Nat.le_of_ble_eq_true rfl⟩ hK hP hD hS hA hE [1, 2, 3] [0] rfl rfl (by show List.Perm _ (List.range 4); decide) 0 0 rfl rfl rfl rfl hl rfl (Nat.le_of_ble_eq_true rfl) ⟨by show _ ≤ 2; omega, by show _ ≤ 36; omega⟩ dL_add_21 (fun B1 v1 hp1 H locs hP hD hS => ?_)
      obtain ⟨rfl, rfl⟩ := hp1
      show W p l e _ s m args below meth c H locs _ _ _ (F0 m 24 ls [.int (nI (ql_n fs n))])
      have hP : va_P G.1 vwCl (lxF [[(o, .inr (10, [.ref ok, .ref ol, .ref on]))], [(ol, lxq k n rr)], lrB G r fs fa fb n, mlW G q M]) H := hP
      have hD : va_D A (lxF [[(o, .inr (10, [.ref ok, .ref ol, .ref on]))], [(ol, lxq k n rr)], lrB G r fs fa fb n, mlW G q M]) := hD
      obtain ⟨hP, hD⟩ := lb_sub (Cs := [mlW G q M, [(o, .inr (10, [.ref ok, .ref ol, .ref on]))], [(ol, lxq k n rr)], lrB G r fs fa fb n]) [3, 0, 1, 2] [] hP hD rfl (by show List.Perm _ (List.range 4); decide)
      refine lv_bipush (v := 16) hx hb dL_add_24 (by decide) ?_
      refine lv_icmp_ne (tgt := 31) hx hb dL_add_26 (by decide) (fun c3 => ?_) (fun c3 => ?_)
      · have nc3 := (not_congr (nI_eq (a := (ql_n fs n)) (b := 16) (by omega) (by omega))).mp c3
        refine lv_aload_n hx hb dL_add_31 rfl (lv_at hl 1 rfl) ?_
        refine lv_aload_n hx hb dL_add_32 rfl (lv_at hl 1 rfl) ?_
        refine lb_get (ci := 10) (v := .ref ol) (C := RX10) (T := TX10) (N := 3) hx hb hts owX10 hown hK hP 1 0 rfl rfl rfl 1 (by decide) (bw13 (w := Cond.fieldLink RL 9 "DropflagMillLaw$Own" "lines" "[[I") hts 31 rfl) (fun _ h9 => h9) rfl dL_add_33 ?_
        refine lv_iconst (v := 3) hx hb dL_add_36 (by decide) ?_
        refine lb_newi hx hb (bw0 (w := Cond.arrayClass .int) hts 5 rfl) hK hP hD hS hA 3 (by decide) rfl (by show 3 * 4 ≤ _; omega) (by show _ ≤ 2; omega) (by show _ ≤ 36; omega) dL_add_37 (fun a1_ H hP hD hS => ?_)
        have hP : va_P G.1 vwCl (lxF [mlW G q M, [(o, .inr (10, [.ref ok, .ref ol, .ref on]))], [(ol, lxq k n rr)], lrB G r fs fa fb n, [(a1_, .inl (G.2.1, 3, .inl (fun _ => 0)))]]) H := hP
        have hD : va_D A (lxF [mlW G q M, [(o, .inr (10, [.ref ok, .ref ol, .ref on]))], [(ol, lxq k n rr)], lrB G r fs fa fb n, [(a1_, .inl (G.2.1, 3, .inl (fun _ => 0)))]]) := hD
        refine lv_dup hx hb dL_add_39 rfl ?_
        refine lv_iconst (v := 0) hx hb dL_add_40 (by decide) ?_
        refine lv_iload_n hx hb dL_add_41 rfl (lv_at hl 2 rfl) ?_
        refine lb_iast (x := a0) hx hb hK hP hD hS 4 0 rfl rfl (i := 0) (i' := 0) (vp_in_nI (n := 0) (by omega) (by omega)) rfl dL_add_42 (fun H locs hP hD hS => ?_)
        have hP : va_P G.1 vwCl (lxF [mlW G q M, [(o, .inr (10, [.ref ok, .ref ol, .ref on]))], [(ol, lxq k n rr)], lrB G r fs fa fb n, [(a1_, .inl (G.2.1, 3, .inl (upd (fun _ => 0) 0 a0)))]]) H := hP
        have hD : va_D A (lxF [mlW G q M, [(o, .inr (10, [.ref ok, .ref ol, .ref on]))], [(ol, lxq k n rr)], lrB G r fs fa fb n, [(a1_, .inl (G.2.1, 3, .inl (upd (fun _ => 0) 0 a0)))]]) := hD
        refine lv_dup hx hb dL_add_43 rfl ?_
        refine lv_iconst (v := 1) hx hb dL_add_44 (by decide) ?_
        refine lv_iload_n hx hb dL_add_45 rfl (lv_at hl 3 rfl) ?_
        refine lb_iast (x := b0) hx hb hK hP hD hS 4 0 rfl rfl (i := 1) (i' := 1) (vp_in_nI (n := 1) (by omega) (by omega)) rfl dL_add_46 (fun H locs hP hD hS => ?_)
        have hP : va_P G.1 vwCl (lxF [mlW G q M, [(o, .inr (10, [.ref ok, .ref ol, .ref on]))], [(ol, lxq k n rr)], lrB G r fs fa fb n, [(a1_, .inl (G.2.1, 3, .inl (upd (upd (fun _ => 0) 0 a0) 1 b0)))]]) H := hP
        have hD : va_D A (lxF [mlW G q M, [(o, .inr (10, [.ref ok, .ref ol, .ref on]))], [(ol, lxq k n rr)], lrB G r fs fa fb n, [(a1_, .inl (G.2.1, 3, .inl (upd (upd (fun _ => 0) 0 a0) 1 b0)))]]) := hD
        refine lv_dup hx hb dL_add_47 rfl ?_
        refine lv_iconst (v := 2) hx hb dL_add_48 (by decide) ?_
        refine lv_iload hx hb dL_add_49 (lv_at hl 4 rfl) ?_
        refine lb_iast (x := c0) hx hb hK hP hD hS 4 0 rfl rfl (i := 2) (i' := 2) (vp_in_nI (n := 2) (by omega) (by omega)) rfl dL_add_51 (fun H locs hP hD hS => ?_)
        have hP : va_P G.1 vwCl (lxF [mlW G q M, [(o, .inr (10, [.ref ok, .ref ol, .ref on]))], [(ol, lxq k n rr)], lrB G r fs fa fb n, [(a1_, .inl (G.2.1, 3, .inl (upd (upd (upd (fun _ => 0) 0 a0) 1 b0) 2 c0)))]]) H := hP
        have hD : va_D A (lxF [mlW G q M, [(o, .inr (10, [.ref ok, .ref ol, .ref on]))], [(ol, lxq k n rr)], lrB G r fs fa fb n, [(a1_, .inl (G.2.1, 3, .inl (upd (upd (upd (fun _ => 0) 0 a0) 1 b0) 2 c0)))]]) := hD
        refine ly_s (As := [.ref ol, .ref a1_]) (rest := [.ref o]) hx hb hml hown hts (t_X10_with l G k ol a1_ n rr r fs fa fb (upd (upd (upd (fun _ => 0) 0 a0) 1 b0) 2 c0) hn hrr) 2 (sxGS (bi13 (w := Cond.methodLink RL 19 yX10_with) 35 rfl) (bi13 (w := Cond.static yX10_with) 36 rfl) (bi13 (w := Cond.initialized RX10) 21 rfl) (bi13 (w := Cond.code yX10_with cX10_with 3 (some (.array (.array .int)))) 14 rfl)) rfl (by decide +kernel) ⟨Nat.le_of_ble_eq_true rfl, Nat.le_of_ble_eq_true rfl⟩ hK hP hD hS hA hE [2, 3, 4] [0, 1] rfl rfl (by show List.Perm _ (List.range 5); decide) rfl hl rfl (Nat.le_of_ble_eq_true rfl) ⟨by show _ ≤ 2; omega, by show _ ≤ 36; omega⟩ dL_add_52 (fun B1 v1 hp1 H locs hP hD hS => ?_)
        obtain ⟨ad, f1, rfl, rfl, hf1, hf2⟩ := hp1
        show W p l e _ s m args below meth c H locs _ _ _ (F0 m 55 ls [.ref ad, .ref o])
        have hP : va_P G.1 vwCl (lxF [[(ol, lxq k n rr)], lrB G r fs fa fb n, [(a1_, .inl (G.2.1, 3, .inl (upd (upd (upd (fun _ => 0) 0 a0) 1 b0) 2 c0)))], [(ad, lxq k (n + 1) f1)], mlW G q M, [(o, .inr (10, [.ref ok, .ref ol, .ref on]))]]) H := hP
        have hD : va_D A (lxF [[(ol, lxq k n rr)], lrB G r fs fa fb n, [(a1_, .inl (G.2.1, 3, .inl (upd (upd (upd (fun _ => 0) 0 a0) 1 b0) 2 c0)))], [(ad, lxq k (n + 1) f1)], mlW G q M, [(o, .inr (10, [.ref ok, .ref ol, .ref on]))]]) := hD
        obtain ⟨hP, hD⟩ := lb_sub (Cs := [mlW G q M, [(o, .inr (10, [.ref ok, .ref ol, .ref on]))], [(ol, lxq k n rr)], lrB G r fs fa fb n, [(a1_, .inl (G.2.1, 3, .inl (upd (upd (upd (fun _ => 0) 0 a0) 1 b0) 2 c0)))], [(ad, lxq k (n + 1) f1)]]) [4, 5, 0, 1, 2, 3] [] hP hD rfl (by show List.Perm _ (List.range 6); decide)
        refine lb_put (ci := 10) (v := .ref ad) (ty := (.array (.array .int))) (C := RX10) (T := TX10) (N := 3) hx hb hts owX10 tyX10 tyX10_ok nmX10 hown hK hP hD hS 1 0 rfl rfl rfl 1 (by decide) (bw13 (w := Cond.fieldLink RL 9 "DropflagMillLaw$Own" "lines" "[[I") hts 31 rfl) (fun _ h9 => h9) rfl (by decide +kernel) rfl rfl (Nat.le_of_ble_eq_true rfl) dL_add_55 (fun H locs hP hD hS => ?_)
        have hP : va_P G.1 vwCl (lxF [mlW G q M, [(o, .inr (10, [.ref ok, .ref ad, .ref on]))], [(ol, lxq k n rr)], lrB G r fs fa fb n, [(a1_, .inl (G.2.1, 3, .inl (upd (upd (upd (fun _ => 0) 0 a0) 1 b0) 2 c0)))], [(ad, lxq k (n + 1) f1)]]) H := hP
        have hD : va_D A (lxF [mlW G q M, [(o, .inr (10, [.ref ok, .ref ad, .ref on]))], [(ol, lxq k n rr)], lrB G r fs fa fb n, [(a1_, .inl (G.2.1, 3, .inl (upd (upd (upd (fun _ => 0) 0 a0) 1 b0) 2 c0)))], [(ad, lxq k (n + 1) f1)]]) := hD
        refine lv_aload_n hx hb dL_add_58 rfl (lv_at hl 0 rfl) ?_
        refine lv_iload_n hx hb dL_add_59 rfl (lv_at hl 2 rfl) ?_
        refine lv_iload_n hx hb dL_add_60 rfl (lv_at hl 3 rfl) ?_
        refine lv_iload hx hb dL_add_61 (lv_at hl 4 rfl) ?_
        have hL4 : ql_n fs n + (if a0 = 3 ∨ a0 = 4 then 1 else 0) ≤ 16 := by rw [if_pos (Or.inl c2)]; omega
        refine ly_v (As := [.int a0, .int b0, .int c0]) (rest := []) hx hb hml hown hts (m_add (l := l) (G := G) (k := k) (q := q) hM hP4 (by omega) hF hL4) 3 (sxGV (bi13 (w := Cond.methodLink RL 23 yX9_add) 37 rfl) (bi13 (w := Cond.instanceMethod yX9_add) 38 rfl) (bi13 (w := Cond.selects RX9 yX9_add yX9_add) 39 rfl) (bi1 (w := Cond.initialized RX9) 58 rfl) (bi10 (w := Cond.code yX9_add cX9_add 4 (some .int)) 26 rfl)) rfl (by decide +kernel) ⟨Nat.le_of_ble_eq_true rfl, Nat.le_of_ble_eq_true rfl⟩ hK hP hD hS hA hE [0] [1, 2, 3, 4, 5] rfl rfl (by show List.Perm _ (List.range 6); decide) 0 0 rfl rfl rfl rfl hl rfl (Nat.le_of_ble_eq_true rfl) ⟨by show _ ≤ 2; omega, by show _ ≤ 36; omega⟩ dL_add_63 (fun B1 v1 hp1 H locs hP hD hS => ?_)
        obtain ⟨M1, rfl, rfl, hM1, hr1⟩ := hp1
        show W p l e _ s m args below meth c H locs _ _ _ (F0 m 66 ls [.int (nI n)])
        have hP : va_P G.1 vwCl (lxF [mlW G q M1, [(o, .inr (10, [.ref ok, .ref ad, .ref on]))], [(ol, lxq k n rr)], lrB G r fs fa fb n, [(a1_, .inl (G.2.1, 3, .inl (upd (upd (upd (fun _ => 0) 0 a0) 1 b0) 2 c0)))], [(ad, lxq k (n + 1) f1)]]) H := hP
        have hD : va_D A (lxF [mlW G q M1, [(o, .inr (10, [.ref ok, .ref ad, .ref on]))], [(ol, lxq k n rr)], lrB G r fs fa fb n, [(a1_, .inl (G.2.1, 3, .inl (upd (upd (upd (fun _ => 0) 0 a0) 1 b0) 2 c0)))], [(ad, lxq k (n + 1) f1)]]) := hD
        refine lv_aload_n hx hb dL_add_66 rfl (lv_at hl 1 rfl) ?_
        refine lb_get (ci := 10) (v := .ref ad) (C := RX10) (T := TX10) (N := 3) hx hb hts owX10 hown hK hP 1 0 rfl rfl rfl 1 (by decide) (bw13 (w := Cond.fieldLink RL 9 "DropflagMillLaw$Own" "lines" "[[I") hts 31 rfl) (fun _ h9 => h9) rfl dL_add_67 ?_
        refine lb_alenq (v := nI (n + 1)) hx hb hK hE hP 5 0 rfl rfl rfl dL_add_70 ?_
        refine lv_iconst (v := 1) hx hb dL_add_71 (by decide) ?_
        refine lv_isub hx hb dL_add_72 ?_
        rw [show (nI (n + 1)) - 1 = nI ((n + 1) - 1) from pk_sub (b := 1) (by omega)]
        refine lv_icmp_ne (tgt := 80) hx hb dL_add_73 (by decide) (fun c4 => False.elim (by have nc4 := (not_congr (nI_eq (a := n) (b := ((n + 1) - 1)) (by omega) (by omega))).mp c4; omega)) (fun c4 => ?_)
        have nc4 := (nI_eq (a := n) (b := ((n + 1) - 1)) (by omega) (by omega)).mp c4
        refine lv_iconst (v := 1) hx hb dL_add_76 (by decide) ?_
        refine lv_goto (tgt := 81) hx hb dL_add_77 (by decide) ?_
        obtain ⟨hP, hD⟩ := lb_sub (Cs := [mlW G q M1, [(o, .inr (10, [.ref ok, .ref ad, .ref on]))], [(ad, lxq k (n + 1) f1)], lrB G r fs fa fb n, [(a1_, .inl (G.2.1, 3, .inl (upd (upd (upd (fun _ => 0) 0 a0) 1 b0) 2 c0)))]]) [0, 1, 5, 3, 4] [2] hP hD rfl (by show List.Perm _ (List.range 6); decide)
        rw [lx_glue lrB_new] at hP hD
        have hP : va_P G.1 vwCl (lxF [mlW G q M1, [(o, .inr (10, [.ref ok, .ref ad, .ref on]))], [(ad, lxq k (n + 1) f1)], lrB G (fun i => if i < n then r i else a1_) (upd fs n a0) (upd fa n b0) (upd fb n c0) (n + 1)]) H := hP
        have hD : va_D A (lxF [mlW G q M1, [(o, .inr (10, [.ref ok, .ref ad, .ref on]))], [(ad, lxq k (n + 1) f1)], lrB G (fun i => if i < n then r i else a1_) (upd fs n a0) (upd fa n b0) (upd fb n c0) (n + 1)]) := hD
        exact ly_ri hx hb hr hlk hP hD hS rfl (⟨rfl, M1, ad, n + 1, f1, _, _, _, _, rfl, ⟨fun i hi => (Decidable.em (i < n)).elim (fun e => by show f1 i = some (if i < n then r i else a1_); rw [if_pos e, hf1 i e]; exact hrr i e) (fun e => by show f1 i = some (if i < n then r i else a1_); rw [if_neg e, show i = n by omega]; exact hf2), hM1, lg_add hP4 (by omega) hF hL4, hr1.trans hrn⟩, Or.inr ⟨by omega, rfl, rfl, rfl, rfl⟩⟩) (by omega) (by omega) dL_add_81
      · have nc3 := (nI_eq (a := (ql_n fs n)) (b := 16) (by omega) (by omega)).mp c3
        refine lv_iconst (v := 1) hx hb dL_add_29 (by decide) ?_
        exact ly_ri hx hb hr hlk hP hD hS rfl (⟨rfl, M, ol, n, rr, r, fs, fa, fb, rfl, hI, Or.inl ⟨rfl, rfl, rfl, rfl, Or.inr (Or.inl c2)⟩⟩) (by omega) (by omega) dL_add_30
    · refine lv_iload_n hx hb dL_add_15 rfl (lv_at hl 2 rfl) ?_
      refine lv_iconst (v := 4) hx hb dL_add_16 (by decide) ?_
      refine lv_icmp_ne (tgt := 31) hx hb dL_add_17 (by decide) (fun c5 => ?_) (fun c5 => ?_)
      · refine lv_aload_n hx hb dL_add_31 rfl (lv_at hl 1 rfl) ?_
        refine lv_aload_n hx hb dL_add_32 rfl (lv_at hl 1 rfl) ?_
        refine lb_get (ci := 10) (v := .ref ol) (C := RX10) (T := TX10) (N := 3) hx hb hts owX10 hown hK hP 1 0 rfl rfl rfl 1 (by decide) (bw13 (w := Cond.fieldLink RL 9 "DropflagMillLaw$Own" "lines" "[[I") hts 31 rfl) (fun _ h9 => h9) rfl dL_add_33 ?_
        refine lv_iconst (v := 3) hx hb dL_add_36 (by decide) ?_
        refine lb_newi hx hb (bw0 (w := Cond.arrayClass .int) hts 5 rfl) hK hP hD hS hA 3 (by decide) rfl (by show 3 * 4 ≤ _; omega) (by show _ ≤ 2; omega) (by show _ ≤ 36; omega) dL_add_37 (fun a2_ H hP hD hS => ?_)
        have hP : va_P G.1 vwCl (lxF [mlW G q M, [(o, .inr (10, [.ref ok, .ref ol, .ref on]))], [(ol, lxq k n rr)], lrB G r fs fa fb n, [(a2_, .inl (G.2.1, 3, .inl (fun _ => 0)))]]) H := hP
        have hD : va_D A (lxF [mlW G q M, [(o, .inr (10, [.ref ok, .ref ol, .ref on]))], [(ol, lxq k n rr)], lrB G r fs fa fb n, [(a2_, .inl (G.2.1, 3, .inl (fun _ => 0)))]]) := hD
        refine lv_dup hx hb dL_add_39 rfl ?_
        refine lv_iconst (v := 0) hx hb dL_add_40 (by decide) ?_
        refine lv_iload_n hx hb dL_add_41 rfl (lv_at hl 2 rfl) ?_
        refine lb_iast (x := a0) hx hb hK hP hD hS 4 0 rfl rfl (i := 0) (i' := 0) (vp_in_nI (n := 0) (by omega) (by omega)) rfl dL_add_42 (fun H locs hP hD hS => ?_)
        have hP : va_P G.1 vwCl (lxF [mlW G q M, [(o, .inr (10, [.ref ok, .ref ol, .ref on]))], [(ol, lxq k n rr)], lrB G r fs fa fb n, [(a2_, .inl (G.2.1, 3, .inl (upd (fun _ => 0) 0 a0)))]]) H := hP
        have hD : va_D A (lxF [mlW G q M, [(o, .inr (10, [.ref ok, .ref ol, .ref on]))], [(ol, lxq k n rr)], lrB G r fs fa fb n, [(a2_, .inl (G.2.1, 3, .inl (upd (fun _ => 0) 0 a0)))]]) := hD
        refine lv_dup hx hb dL_add_43 rfl ?_
        refine lv_iconst (v := 1) hx hb dL_add_44 (by decide) ?_
        refine lv_iload_n hx hb dL_add_45 rfl (lv_at hl 3 rfl) ?_
        refine lb_iast (x := b0) hx hb hK hP hD hS 4 0 rfl rfl (i := 1) (i' := 1) (vp_in_nI (n := 1) (by omega) (by omega)) rfl dL_add_46 (fun H locs hP hD hS => ?_)
        have hP : va_P G.1 vwCl (lxF [mlW G q M, [(o, .inr (10, [.ref ok, .ref ol, .ref on]))], [(ol, lxq k n rr)], lrB G r fs fa fb n, [(a2_, .inl (G.2.1, 3, .inl (upd (upd (fun _ => 0) 0 a0) 1 b0)))]]) H := hP
        have hD : va_D A (lxF [mlW G q M, [(o, .inr (10, [.ref ok, .ref ol, .ref on]))], [(ol, lxq k n rr)], lrB G r fs fa fb n, [(a2_, .inl (G.2.1, 3, .inl (upd (upd (fun _ => 0) 0 a0) 1 b0)))]]) := hD
        refine lv_dup hx hb dL_add_47 rfl ?_
        refine lv_iconst (v := 2) hx hb dL_add_48 (by decide) ?_
        refine lv_iload hx hb dL_add_49 (lv_at hl 4 rfl) ?_
        refine lb_iast (x := c0) hx hb hK hP hD hS 4 0 rfl rfl (i := 2) (i' := 2) (vp_in_nI (n := 2) (by omega) (by omega)) rfl dL_add_51 (fun H locs hP hD hS => ?_)
        have hP : va_P G.1 vwCl (lxF [mlW G q M, [(o, .inr (10, [.ref ok, .ref ol, .ref on]))], [(ol, lxq k n rr)], lrB G r fs fa fb n, [(a2_, .inl (G.2.1, 3, .inl (upd (upd (upd (fun _ => 0) 0 a0) 1 b0) 2 c0)))]]) H := hP
        have hD : va_D A (lxF [mlW G q M, [(o, .inr (10, [.ref ok, .ref ol, .ref on]))], [(ol, lxq k n rr)], lrB G r fs fa fb n, [(a2_, .inl (G.2.1, 3, .inl (upd (upd (upd (fun _ => 0) 0 a0) 1 b0) 2 c0)))]]) := hD
        refine ly_s (As := [.ref ol, .ref a2_]) (rest := [.ref o]) hx hb hml hown hts (t_X10_with l G k ol a2_ n rr r fs fa fb (upd (upd (upd (fun _ => 0) 0 a0) 1 b0) 2 c0) hn hrr) 2 (sxGS (bi13 (w := Cond.methodLink RL 19 yX10_with) 35 rfl) (bi13 (w := Cond.static yX10_with) 36 rfl) (bi13 (w := Cond.initialized RX10) 21 rfl) (bi13 (w := Cond.code yX10_with cX10_with 3 (some (.array (.array .int)))) 14 rfl)) rfl (by decide +kernel) ⟨Nat.le_of_ble_eq_true rfl, Nat.le_of_ble_eq_true rfl⟩ hK hP hD hS hA hE [2, 3, 4] [0, 1] rfl rfl (by show List.Perm _ (List.range 5); decide) rfl hl rfl (Nat.le_of_ble_eq_true rfl) ⟨by show _ ≤ 2; omega, by show _ ≤ 36; omega⟩ dL_add_52 (fun B1 v1 hp1 H locs hP hD hS => ?_)
        obtain ⟨ad, f1, rfl, rfl, hf1, hf2⟩ := hp1
        show W p l e _ s m args below meth c H locs _ _ _ (F0 m 55 ls [.ref ad, .ref o])
        have hP : va_P G.1 vwCl (lxF [[(ol, lxq k n rr)], lrB G r fs fa fb n, [(a2_, .inl (G.2.1, 3, .inl (upd (upd (upd (fun _ => 0) 0 a0) 1 b0) 2 c0)))], [(ad, lxq k (n + 1) f1)], mlW G q M, [(o, .inr (10, [.ref ok, .ref ol, .ref on]))]]) H := hP
        have hD : va_D A (lxF [[(ol, lxq k n rr)], lrB G r fs fa fb n, [(a2_, .inl (G.2.1, 3, .inl (upd (upd (upd (fun _ => 0) 0 a0) 1 b0) 2 c0)))], [(ad, lxq k (n + 1) f1)], mlW G q M, [(o, .inr (10, [.ref ok, .ref ol, .ref on]))]]) := hD
        obtain ⟨hP, hD⟩ := lb_sub (Cs := [mlW G q M, [(o, .inr (10, [.ref ok, .ref ol, .ref on]))], [(ol, lxq k n rr)], lrB G r fs fa fb n, [(a2_, .inl (G.2.1, 3, .inl (upd (upd (upd (fun _ => 0) 0 a0) 1 b0) 2 c0)))], [(ad, lxq k (n + 1) f1)]]) [4, 5, 0, 1, 2, 3] [] hP hD rfl (by show List.Perm _ (List.range 6); decide)
        refine lb_put (ci := 10) (v := .ref ad) (ty := (.array (.array .int))) (C := RX10) (T := TX10) (N := 3) hx hb hts owX10 tyX10 tyX10_ok nmX10 hown hK hP hD hS 1 0 rfl rfl rfl 1 (by decide) (bw13 (w := Cond.fieldLink RL 9 "DropflagMillLaw$Own" "lines" "[[I") hts 31 rfl) (fun _ h9 => h9) rfl (by decide +kernel) rfl rfl (Nat.le_of_ble_eq_true rfl) dL_add_55 (fun H locs hP hD hS => ?_)
        have hP : va_P G.1 vwCl (lxF [mlW G q M, [(o, .inr (10, [.ref ok, .ref ad, .ref on]))], [(ol, lxq k n rr)], lrB G r fs fa fb n, [(a2_, .inl (G.2.1, 3, .inl (upd (upd (upd (fun _ => 0) 0 a0) 1 b0) 2 c0)))], [(ad, lxq k (n + 1) f1)]]) H := hP
        have hD : va_D A (lxF [mlW G q M, [(o, .inr (10, [.ref ok, .ref ad, .ref on]))], [(ol, lxq k n rr)], lrB G r fs fa fb n, [(a2_, .inl (G.2.1, 3, .inl (upd (upd (upd (fun _ => 0) 0 a0) 1 b0) 2 c0)))], [(ad, lxq k (n + 1) f1)]]) := hD
        refine lv_aload_n hx hb dL_add_58 rfl (lv_at hl 0 rfl) ?_
        refine lv_iload_n hx hb dL_add_59 rfl (lv_at hl 2 rfl) ?_
        refine lv_iload_n hx hb dL_add_60 rfl (lv_at hl 3 rfl) ?_
        refine lv_iload hx hb dL_add_61 (lv_at hl 4 rfl) ?_
        have hL4 : ql_n fs n + (if a0 = 3 ∨ a0 = 4 then 1 else 0) ≤ 16 := by rw [if_neg (fun z => z.elim c2 c5)]; omega
        refine ly_v (As := [.int a0, .int b0, .int c0]) (rest := []) hx hb hml hown hts (m_add (l := l) (G := G) (k := k) (q := q) hM hP4 (by omega) hF hL4) 3 (sxGV (bi13 (w := Cond.methodLink RL 23 yX9_add) 37 rfl) (bi13 (w := Cond.instanceMethod yX9_add) 38 rfl) (bi13 (w := Cond.selects RX9 yX9_add yX9_add) 39 rfl) (bi1 (w := Cond.initialized RX9) 58 rfl) (bi10 (w := Cond.code yX9_add cX9_add 4 (some .int)) 26 rfl)) rfl (by decide +kernel) ⟨Nat.le_of_ble_eq_true rfl, Nat.le_of_ble_eq_true rfl⟩ hK hP hD hS hA hE [0] [1, 2, 3, 4, 5] rfl rfl (by show List.Perm _ (List.range 6); decide) 0 0 rfl rfl rfl rfl hl rfl (Nat.le_of_ble_eq_true rfl) ⟨by show _ ≤ 2; omega, by show _ ≤ 36; omega⟩ dL_add_63 (fun B1 v1 hp1 H locs hP hD hS => ?_)
        obtain ⟨M1, rfl, rfl, hM1, hr1⟩ := hp1
        show W p l e _ s m args below meth c H locs _ _ _ (F0 m 66 ls [.int (nI n)])
        have hP : va_P G.1 vwCl (lxF [mlW G q M1, [(o, .inr (10, [.ref ok, .ref ad, .ref on]))], [(ol, lxq k n rr)], lrB G r fs fa fb n, [(a2_, .inl (G.2.1, 3, .inl (upd (upd (upd (fun _ => 0) 0 a0) 1 b0) 2 c0)))], [(ad, lxq k (n + 1) f1)]]) H := hP
        have hD : va_D A (lxF [mlW G q M1, [(o, .inr (10, [.ref ok, .ref ad, .ref on]))], [(ol, lxq k n rr)], lrB G r fs fa fb n, [(a2_, .inl (G.2.1, 3, .inl (upd (upd (upd (fun _ => 0) 0 a0) 1 b0) 2 c0)))], [(ad, lxq k (n + 1) f1)]]) := hD
        refine lv_aload_n hx hb dL_add_66 rfl (lv_at hl 1 rfl) ?_
        refine lb_get (ci := 10) (v := .ref ad) (C := RX10) (T := TX10) (N := 3) hx hb hts owX10 hown hK hP 1 0 rfl rfl rfl 1 (by decide) (bw13 (w := Cond.fieldLink RL 9 "DropflagMillLaw$Own" "lines" "[[I") hts 31 rfl) (fun _ h9 => h9) rfl dL_add_67 ?_
        refine lb_alenq (v := nI (n + 1)) hx hb hK hE hP 5 0 rfl rfl rfl dL_add_70 ?_
        refine lv_iconst (v := 1) hx hb dL_add_71 (by decide) ?_
        refine lv_isub hx hb dL_add_72 ?_
        rw [show (nI (n + 1)) - 1 = nI ((n + 1) - 1) from pk_sub (b := 1) (by omega)]
        refine lv_icmp_ne (tgt := 80) hx hb dL_add_73 (by decide) (fun c6 => False.elim (by have nc6 := (not_congr (nI_eq (a := n) (b := ((n + 1) - 1)) (by omega) (by omega))).mp c6; omega)) (fun c6 => ?_)
        have nc6 := (nI_eq (a := n) (b := ((n + 1) - 1)) (by omega) (by omega)).mp c6
        refine lv_iconst (v := 1) hx hb dL_add_76 (by decide) ?_
        refine lv_goto (tgt := 81) hx hb dL_add_77 (by decide) ?_
        obtain ⟨hP, hD⟩ := lb_sub (Cs := [mlW G q M1, [(o, .inr (10, [.ref ok, .ref ad, .ref on]))], [(ad, lxq k (n + 1) f1)], lrB G r fs fa fb n, [(a2_, .inl (G.2.1, 3, .inl (upd (upd (upd (fun _ => 0) 0 a0) 1 b0) 2 c0)))]]) [0, 1, 5, 3, 4] [2] hP hD rfl (by show List.Perm _ (List.range 6); decide)
        rw [lx_glue lrB_new] at hP hD
        have hP : va_P G.1 vwCl (lxF [mlW G q M1, [(o, .inr (10, [.ref ok, .ref ad, .ref on]))], [(ad, lxq k (n + 1) f1)], lrB G (fun i => if i < n then r i else a2_) (upd fs n a0) (upd fa n b0) (upd fb n c0) (n + 1)]) H := hP
        have hD : va_D A (lxF [mlW G q M1, [(o, .inr (10, [.ref ok, .ref ad, .ref on]))], [(ad, lxq k (n + 1) f1)], lrB G (fun i => if i < n then r i else a2_) (upd fs n a0) (upd fa n b0) (upd fb n c0) (n + 1)]) := hD
        exact ly_ri hx hb hr hlk hP hD hS rfl (⟨rfl, M1, ad, n + 1, f1, _, _, _, _, rfl, ⟨fun i hi => (Decidable.em (i < n)).elim (fun e => by show f1 i = some (if i < n then r i else a2_); rw [if_pos e, hf1 i e]; exact hrr i e) (fun e => by show f1 i = some (if i < n then r i else a2_); rw [if_neg e, show i = n by omega]; exact hf2), hM1, lg_add hP4 (by omega) hF hL4, hr1.trans hrn⟩, Or.inr ⟨by omega, rfl, rfl, rfl, rfl⟩⟩) (by omega) (by omega) dL_add_81
      · refine lv_aload_n hx hb dL_add_20 rfl (lv_at hl 1 rfl) ?_
        refine ly_v (As := []) (rest := []) hx hb hml hown hts (t_X10_loans l G k o ok ol on n rr r fs fa fb hn hrr) 0 (sxGV (bi13 (w := Cond.methodLink RL 15 yX10_loans) 32 rfl) (bi13 (w := Cond.instanceMethod yX10_loans) 33 rfl) (bi13 (w := Cond.selects RX10 yX10_loans yX10_loans) 34 rfl) (bi13 (w := Cond.initialized RX10) 21 rfl) (bi13 (w := Cond.code yX10_loans cX10_loans 6 (some .int)) 24 rfl)) rfl (by decide +kernel) ⟨Nat.le_of_ble_eq_true rfl, Nat.le_of_ble_eq_true rfl⟩ hK hP hD hS hA hE [1, 2, 3] [0] rfl rfl (by show List.Perm _ (List.range 4); decide) 0 0 rfl rfl rfl rfl hl rfl (Nat.le_of_ble_eq_true rfl) ⟨by show _ ≤ 2; omega, by show _ ≤ 36; omega⟩ dL_add_21 (fun B1 v1 hp1 H locs hP hD hS => ?_)
        obtain ⟨rfl, rfl⟩ := hp1
        show W p l e _ s m args below meth c H locs _ _ _ (F0 m 24 ls [.int (nI (ql_n fs n))])
        have hP : va_P G.1 vwCl (lxF [[(o, .inr (10, [.ref ok, .ref ol, .ref on]))], [(ol, lxq k n rr)], lrB G r fs fa fb n, mlW G q M]) H := hP
        have hD : va_D A (lxF [[(o, .inr (10, [.ref ok, .ref ol, .ref on]))], [(ol, lxq k n rr)], lrB G r fs fa fb n, mlW G q M]) := hD
        obtain ⟨hP, hD⟩ := lb_sub (Cs := [mlW G q M, [(o, .inr (10, [.ref ok, .ref ol, .ref on]))], [(ol, lxq k n rr)], lrB G r fs fa fb n]) [3, 0, 1, 2] [] hP hD rfl (by show List.Perm _ (List.range 4); decide)
        refine lv_bipush (v := 16) hx hb dL_add_24 (by decide) ?_
        refine lv_icmp_ne (tgt := 31) hx hb dL_add_26 (by decide) (fun c7 => ?_) (fun c7 => ?_)
        · have nc7 := (not_congr (nI_eq (a := (ql_n fs n)) (b := 16) (by omega) (by omega))).mp c7
          refine lv_aload_n hx hb dL_add_31 rfl (lv_at hl 1 rfl) ?_
          refine lv_aload_n hx hb dL_add_32 rfl (lv_at hl 1 rfl) ?_
          refine lb_get (ci := 10) (v := .ref ol) (C := RX10) (T := TX10) (N := 3) hx hb hts owX10 hown hK hP 1 0 rfl rfl rfl 1 (by decide) (bw13 (w := Cond.fieldLink RL 9 "DropflagMillLaw$Own" "lines" "[[I") hts 31 rfl) (fun _ h9 => h9) rfl dL_add_33 ?_
          refine lv_iconst (v := 3) hx hb dL_add_36 (by decide) ?_
          refine lb_newi hx hb (bw0 (w := Cond.arrayClass .int) hts 5 rfl) hK hP hD hS hA 3 (by decide) rfl (by show 3 * 4 ≤ _; omega) (by show _ ≤ 2; omega) (by show _ ≤ 36; omega) dL_add_37 (fun a3_ H hP hD hS => ?_)
          have hP : va_P G.1 vwCl (lxF [mlW G q M, [(o, .inr (10, [.ref ok, .ref ol, .ref on]))], [(ol, lxq k n rr)], lrB G r fs fa fb n, [(a3_, .inl (G.2.1, 3, .inl (fun _ => 0)))]]) H := hP
          have hD : va_D A (lxF [mlW G q M, [(o, .inr (10, [.ref ok, .ref ol, .ref on]))], [(ol, lxq k n rr)], lrB G r fs fa fb n, [(a3_, .inl (G.2.1, 3, .inl (fun _ => 0)))]]) := hD
          refine lv_dup hx hb dL_add_39 rfl ?_
          refine lv_iconst (v := 0) hx hb dL_add_40 (by decide) ?_
          refine lv_iload_n hx hb dL_add_41 rfl (lv_at hl 2 rfl) ?_
          refine lb_iast (x := a0) hx hb hK hP hD hS 4 0 rfl rfl (i := 0) (i' := 0) (vp_in_nI (n := 0) (by omega) (by omega)) rfl dL_add_42 (fun H locs hP hD hS => ?_)
          have hP : va_P G.1 vwCl (lxF [mlW G q M, [(o, .inr (10, [.ref ok, .ref ol, .ref on]))], [(ol, lxq k n rr)], lrB G r fs fa fb n, [(a3_, .inl (G.2.1, 3, .inl (upd (fun _ => 0) 0 a0)))]]) H := hP
          have hD : va_D A (lxF [mlW G q M, [(o, .inr (10, [.ref ok, .ref ol, .ref on]))], [(ol, lxq k n rr)], lrB G r fs fa fb n, [(a3_, .inl (G.2.1, 3, .inl (upd (fun _ => 0) 0 a0)))]]) := hD
          refine lv_dup hx hb dL_add_43 rfl ?_
          refine lv_iconst (v := 1) hx hb dL_add_44 (by decide) ?_
          refine lv_iload_n hx hb dL_add_45 rfl (lv_at hl 3 rfl) ?_
          refine lb_iast (x := b0) hx hb hK hP hD hS 4 0 rfl rfl (i := 1) (i' := 1) (vp_in_nI (n := 1) (by omega) (by omega)) rfl dL_add_46 (fun H locs hP hD hS => ?_)
          have hP : va_P G.1 vwCl (lxF [mlW G q M, [(o, .inr (10, [.ref ok, .ref ol, .ref on]))], [(ol, lxq k n rr)], lrB G r fs fa fb n, [(a3_, .inl (G.2.1, 3, .inl (upd (upd (fun _ => 0) 0 a0) 1 b0)))]]) H := hP
          have hD : va_D A (lxF [mlW G q M, [(o, .inr (10, [.ref ok, .ref ol, .ref on]))], [(ol, lxq k n rr)], lrB G r fs fa fb n, [(a3_, .inl (G.2.1, 3, .inl (upd (upd (fun _ => 0) 0 a0) 1 b0)))]]) := hD
          refine lv_dup hx hb dL_add_47 rfl ?_
          refine lv_iconst (v := 2) hx hb dL_add_48 (by decide) ?_
          refine lv_iload hx hb dL_add_49 (lv_at hl 4 rfl) ?_
          refine lb_iast (x := c0) hx hb hK hP hD hS 4 0 rfl rfl (i := 2) (i' := 2) (vp_in_nI (n := 2) (by omega) (by omega)) rfl dL_add_51 (fun H locs hP hD hS => ?_)
          have hP : va_P G.1 vwCl (lxF [mlW G q M, [(o, .inr (10, [.ref ok, .ref ol, .ref on]))], [(ol, lxq k n rr)], lrB G r fs fa fb n, [(a3_, .inl (G.2.1, 3, .inl (upd (upd (upd (fun _ => 0) 0 a0) 1 b0) 2 c0)))]]) H := hP
          have hD : va_D A (lxF [mlW G q M, [(o, .inr (10, [.ref ok, .ref ol, .ref on]))], [(ol, lxq k n rr)], lrB G r fs fa fb n, [(a3_, .inl (G.2.1, 3, .inl (upd (upd (upd (fun _ => 0) 0 a0) 1 b0) 2 c0)))]]) := hD
          refine ly_s (As := [.ref ol, .ref a3_]) (rest := [.ref o]) hx hb hml hown hts (t_X10_with l G k ol a3_ n rr r fs fa fb (upd (upd (upd (fun _ => 0) 0 a0) 1 b0) 2 c0) hn hrr) 2 (sxGS (bi13 (w := Cond.methodLink RL 19 yX10_with) 35 rfl) (bi13 (w := Cond.static yX10_with) 36 rfl) (bi13 (w := Cond.initialized RX10) 21 rfl) (bi13 (w := Cond.code yX10_with cX10_with 3 (some (.array (.array .int)))) 14 rfl)) rfl (by decide +kernel) ⟨Nat.le_of_ble_eq_true rfl, Nat.le_of_ble_eq_true rfl⟩ hK hP hD hS hA hE [2, 3, 4] [0, 1] rfl rfl (by show List.Perm _ (List.range 5); decide) rfl hl rfl (Nat.le_of_ble_eq_true rfl) ⟨by show _ ≤ 2; omega, by show _ ≤ 36; omega⟩ dL_add_52 (fun B1 v1 hp1 H locs hP hD hS => ?_)
          obtain ⟨ad, f1, rfl, rfl, hf1, hf2⟩ := hp1
          show W p l e _ s m args below meth c H locs _ _ _ (F0 m 55 ls [.ref ad, .ref o])
          have hP : va_P G.1 vwCl (lxF [[(ol, lxq k n rr)], lrB G r fs fa fb n, [(a3_, .inl (G.2.1, 3, .inl (upd (upd (upd (fun _ => 0) 0 a0) 1 b0) 2 c0)))], [(ad, lxq k (n + 1) f1)], mlW G q M, [(o, .inr (10, [.ref ok, .ref ol, .ref on]))]]) H := hP
          have hD : va_D A (lxF [[(ol, lxq k n rr)], lrB G r fs fa fb n, [(a3_, .inl (G.2.1, 3, .inl (upd (upd (upd (fun _ => 0) 0 a0) 1 b0) 2 c0)))], [(ad, lxq k (n + 1) f1)], mlW G q M, [(o, .inr (10, [.ref ok, .ref ol, .ref on]))]]) := hD
          obtain ⟨hP, hD⟩ := lb_sub (Cs := [mlW G q M, [(o, .inr (10, [.ref ok, .ref ol, .ref on]))], [(ol, lxq k n rr)], lrB G r fs fa fb n, [(a3_, .inl (G.2.1, 3, .inl (upd (upd (upd (fun _ => 0) 0 a0) 1 b0) 2 c0)))], [(ad, lxq k (n + 1) f1)]]) [4, 5, 0, 1, 2, 3] [] hP hD rfl (by show List.Perm _ (List.range 6); decide)
          refine lb_put (ci := 10) (v := .ref ad) (ty := (.array (.array .int))) (C := RX10) (T := TX10) (N := 3) hx hb hts owX10 tyX10 tyX10_ok nmX10 hown hK hP hD hS 1 0 rfl rfl rfl 1 (by decide) (bw13 (w := Cond.fieldLink RL 9 "DropflagMillLaw$Own" "lines" "[[I") hts 31 rfl) (fun _ h9 => h9) rfl (by decide +kernel) rfl rfl (Nat.le_of_ble_eq_true rfl) dL_add_55 (fun H locs hP hD hS => ?_)
          have hP : va_P G.1 vwCl (lxF [mlW G q M, [(o, .inr (10, [.ref ok, .ref ad, .ref on]))], [(ol, lxq k n rr)], lrB G r fs fa fb n, [(a3_, .inl (G.2.1, 3, .inl (upd (upd (upd (fun _ => 0) 0 a0) 1 b0) 2 c0)))], [(ad, lxq k (n + 1) f1)]]) H := hP
          have hD : va_D A (lxF [mlW G q M, [(o, .inr (10, [.ref ok, .ref ad, .ref on]))], [(ol, lxq k n rr)], lrB G r fs fa fb n, [(a3_, .inl (G.2.1, 3, .inl (upd (upd (upd (fun _ => 0) 0 a0) 1 b0) 2 c0)))], [(ad, lxq k (n + 1) f1)]]) := hD
          refine lv_aload_n hx hb dL_add_58 rfl (lv_at hl 0 rfl) ?_
          refine lv_iload_n hx hb dL_add_59 rfl (lv_at hl 2 rfl) ?_
          refine lv_iload_n hx hb dL_add_60 rfl (lv_at hl 3 rfl) ?_
          refine lv_iload hx hb dL_add_61 (lv_at hl 4 rfl) ?_
          have hL4 : ql_n fs n + (if a0 = 3 ∨ a0 = 4 then 1 else 0) ≤ 16 := by rw [if_pos (Or.inr c5)]; omega
          refine ly_v (As := [.int a0, .int b0, .int c0]) (rest := []) hx hb hml hown hts (m_add (l := l) (G := G) (k := k) (q := q) hM hP4 (by omega) hF hL4) 3 (sxGV (bi13 (w := Cond.methodLink RL 23 yX9_add) 37 rfl) (bi13 (w := Cond.instanceMethod yX9_add) 38 rfl) (bi13 (w := Cond.selects RX9 yX9_add yX9_add) 39 rfl) (bi1 (w := Cond.initialized RX9) 58 rfl) (bi10 (w := Cond.code yX9_add cX9_add 4 (some .int)) 26 rfl)) rfl (by decide +kernel) ⟨Nat.le_of_ble_eq_true rfl, Nat.le_of_ble_eq_true rfl⟩ hK hP hD hS hA hE [0] [1, 2, 3, 4, 5] rfl rfl (by show List.Perm _ (List.range 6); decide) 0 0 rfl rfl rfl rfl hl rfl (Nat.le_of_ble_eq_true rfl) ⟨by show _ ≤ 2; omega, by show _ ≤ 36; omega⟩ dL_add_63 (fun B1 v1 hp1 H locs hP hD hS => ?_)
          obtain ⟨M1, rfl, rfl, hM1, hr1⟩ := hp1
          show W p l e _ s m args below meth c H locs _ _ _ (F0 m 66 ls [.int (nI n)])
          have hP : va_P G.1 vwCl (lxF [mlW G q M1, [(o, .inr (10, [.ref ok, .ref ad, .ref on]))], [(ol, lxq k n rr)], lrB G r fs fa fb n, [(a3_, .inl (G.2.1, 3, .inl (upd (upd (upd (fun _ => 0) 0 a0) 1 b0) 2 c0)))], [(ad, lxq k (n + 1) f1)]]) H := hP
          have hD : va_D A (lxF [mlW G q M1, [(o, .inr (10, [.ref ok, .ref ad, .ref on]))], [(ol, lxq k n rr)], lrB G r fs fa fb n, [(a3_, .inl (G.2.1, 3, .inl (upd (upd (upd (fun _ => 0) 0 a0) 1 b0) 2 c0)))], [(ad, lxq k (n + 1) f1)]]) := hD
          refine lv_aload_n hx hb dL_add_66 rfl (lv_at hl 1 rfl) ?_
          refine lb_get (ci := 10) (v := .ref ad) (C := RX10) (T := TX10) (N := 3) hx hb hts owX10 hown hK hP 1 0 rfl rfl rfl 1 (by decide) (bw13 (w := Cond.fieldLink RL 9 "DropflagMillLaw$Own" "lines" "[[I") hts 31 rfl) (fun _ h9 => h9) rfl dL_add_67 ?_
          refine lb_alenq (v := nI (n + 1)) hx hb hK hE hP 5 0 rfl rfl rfl dL_add_70 ?_
          refine lv_iconst (v := 1) hx hb dL_add_71 (by decide) ?_
          refine lv_isub hx hb dL_add_72 ?_
          rw [show (nI (n + 1)) - 1 = nI ((n + 1) - 1) from pk_sub (b := 1) (by omega)]
          refine lv_icmp_ne (tgt := 80) hx hb dL_add_73 (by decide) (fun c8 => False.elim (by have nc8 := (not_congr (nI_eq (a := n) (b := ((n + 1) - 1)) (by omega) (by omega))).mp c8; omega)) (fun c8 => ?_)
          have nc8 := (nI_eq (a := n) (b := ((n + 1) - 1)) (by omega) (by omega)).mp c8
          refine lv_iconst (v := 1) hx hb dL_add_76 (by decide) ?_
          refine lv_goto (tgt := 81) hx hb dL_add_77 (by decide) ?_
          obtain ⟨hP, hD⟩ := lb_sub (Cs := [mlW G q M1, [(o, .inr (10, [.ref ok, .ref ad, .ref on]))], [(ad, lxq k (n + 1) f1)], lrB G r fs fa fb n, [(a3_, .inl (G.2.1, 3, .inl (upd (upd (upd (fun _ => 0) 0 a0) 1 b0) 2 c0)))]]) [0, 1, 5, 3, 4] [2] hP hD rfl (by show List.Perm _ (List.range 6); decide)
          rw [lx_glue lrB_new] at hP hD
          have hP : va_P G.1 vwCl (lxF [mlW G q M1, [(o, .inr (10, [.ref ok, .ref ad, .ref on]))], [(ad, lxq k (n + 1) f1)], lrB G (fun i => if i < n then r i else a3_) (upd fs n a0) (upd fa n b0) (upd fb n c0) (n + 1)]) H := hP
          have hD : va_D A (lxF [mlW G q M1, [(o, .inr (10, [.ref ok, .ref ad, .ref on]))], [(ad, lxq k (n + 1) f1)], lrB G (fun i => if i < n then r i else a3_) (upd fs n a0) (upd fa n b0) (upd fb n c0) (n + 1)]) := hD
          exact ly_ri hx hb hr hlk hP hD hS rfl (⟨rfl, M1, ad, n + 1, f1, _, _, _, _, rfl, ⟨fun i hi => (Decidable.em (i < n)).elim (fun e => by show f1 i = some (if i < n then r i else a3_); rw [if_pos e, hf1 i e]; exact hrr i e) (fun e => by show f1 i = some (if i < n then r i else a3_); rw [if_neg e, show i = n by omega]; exact hf2), hM1, lg_add hP4 (by omega) hF hL4, hr1.trans hrn⟩, Or.inr ⟨by omega, rfl, rfl, rfl, rfl⟩⟩) (by omega) (by omega) dL_add_81
        · have nc7 := (nI_eq (a := (ql_n fs n)) (b := 16) (by omega) (by omega)).mp c7
          refine lv_iconst (v := 1) hx hb dL_add_29 (by decide) ?_
          exact ly_ri hx hb hr hlk hP hD hS rfl (⟨rfl, M, ol, n, rr, r, fs, fa, fb, rfl, hI, Or.inl ⟨rfl, rfl, rfl, rfl, Or.inr (Or.inr c5)⟩⟩) (by omega) (by omega) dL_add_30

abbrev wdL_close : List Cond := Cond.code yL_close cL_close 3 (some .boolean) :: bwC
set_option maxHeartbeats 4000000 in
set_option maxRecDepth 100000 in
theorem t_L_close (l : Launch) (G : sxG) (k : lxC) (q : Nat → Nat) (o ok ol on n : Nat) (rr : Nat → Option Nat) (r : Nat → Nat) (fk fs fa fb : Nat → Int32) (M : mlS) (rn : Int32) (dp d : Nat) (dD : Nat → Int32) (hI : lsI fk n rr r fs fa fb M rn) (hd1 : 1 ≤ d) (hd2 : d < 40) (hd0 : dD 0 = nI d) (hn32 : n < 32) : lyM l yL_close wdL_close 7 169 2 36 G k [mlW G q M, [(o, .inr (10, [.ref ok, .ref ol, .ref on]))], [(ol, lxq k n rr)], lrB G r fs fa fb n, [(dp, .inl (G.2.1, 40, .inl dD))]] [.ref (q 0), .ref o, .ref dp] (fun B v => v = some (.int 1) ∧ ∃ (M1 : mlS) (ol1 : Nat) (rr1 : Nat → Option Nat) (r1 : Nat → Nat), B = [mlW G q M1, [(o, .inr (10, [.ref ok, .ref ol1, .ref on]))], [(ol1, lxq k (n + 1) rr1)], lrB G r1 (upd fs n 11) (upd fa n 0) (upd fb n 0) (n + 1), [(dp, .inl (G.2.1, 40, .inl (upd dD 0 (nI (d - 1)))))]] ∧ lsI fk (n + 1) rr1 r1 (upd fs n 11) (upd fa n 0) (upd fb n 0) M1 rn) := by
  refine lyM.of (cc := cL_close) (maxL := 3) (rt := (some .boolean)) (by decide) rfl (Nat.le_of_ble_eq_true rfl) ?_
  intro p e s m args below meth c ⟨hx, hb, hr, hml, hown, hlk, hts, hK⟩ hnm A hA hP hD hS hE ls hl
  have hl : lv_has ls 3 [(0, .ref (q 0)), (1, .ref o), (2, .ref dp)] := hl
  refine lv_aload_n hx hb dL_close_0 rfl (lv_at hl 2 rfl) ?_
  refine lv_iconst (v := 0) hx hb dL_close_1 (by decide) ?_
  refine lv_dup2_11 hx hb dL_close_2 rfl rfl ?_
  refine lb_iald (v := nI d) hx hb hK hP 4 0 rfl rfl (i := 0) (vp_in_nI (n := 0) (by omega) (by omega)) hd0 dL_close_3 ?_
  refine lv_iconst (v := 1) hx hb dL_close_4 (by decide) ?_
  refine lv_isub hx hb dL_close_5 ?_
  rw [show (nI d) - 1 = nI (d - 1) from pk_sub (b := 1) (by omega)]
  refine lb_iast (x := nI (d - 1)) hx hb hK hP hD hS 4 0 rfl rfl (i := 0) (i' := 0) (vp_in_nI (n := 0) (by omega) (by omega)) rfl dL_close_6 (fun H locs hP hD hS => ?_)
  have hP : va_P G.1 vwCl (lxF [mlW G q M, [(o, .inr (10, [.ref ok, .ref ol, .ref on]))], [(ol, lxq k n rr)], lrB G r fs fa fb n, [(dp, .inl (G.2.1, 40, .inl (upd dD 0 (nI (d - 1)))))]]) H := hP
  have hD : va_D A (lxF [mlW G q M, [(o, .inr (10, [.ref ok, .ref ol, .ref on]))], [(ol, lxq k n rr)], lrB G r fs fa fb n, [(dp, .inl (G.2.1, 40, .inl (upd dD 0 (nI (d - 1)))))]]) := hD
  refine lv_aload_n hx hb dL_close_7 rfl (lv_at hl 0 rfl) ?_
  refine lv_aload_n hx hb dL_close_8 rfl (lv_at hl 1 rfl) ?_
  refine lv_bipush (v := 11) hx hb dL_close_9 (by decide) ?_
  refine lv_iconst (v := 0) hx hb dL_close_11 (by decide) ?_
  refine lv_iconst (v := 0) hx hb dL_close_12 (by decide) ?_
  refine ly_s (As := [.ref (q 0), .ref o, .int 11, .int 0, .int 0]) (rest := []) hx hb hml hown hts (t_L_add l G k q o ok ol on n rr r fk fs fa fb M rn 11 0 0 hI lf11) 5 (sxGS (bi13 (w := Cond.methodLink RL 50 yL_add) 51 rfl) (bi13 (w := Cond.static yL_add) 52 rfl) (bi13 (w := Cond.initialized RL) 44 rfl) (bi13 (w := Cond.code yL_add cL_add 5 (some .boolean)) 40 rfl)) rfl (by decide +kernel) ⟨Nat.le_of_ble_eq_true rfl, Nat.le_of_ble_eq_true rfl⟩ hK hP hD hS hA hE [0, 1, 2, 3] [4] rfl rfl (by show List.Perm _ (List.range 5); decide) rfl hl rfl (Nat.le_of_ble_eq_true rfl) ⟨by show _ ≤ 2; omega, by show _ ≤ 36; omega⟩ dL_close_13 (fun B1 v1 hp1 H locs hP hD hS => ?_)
  obtain ⟨rfl, M1, ol1, n1, rr1, r1, fs1, fa1, fb1, rfl, hI1, hA1⟩ := hp1
  show W p l e _ s m args below meth c H locs _ _ _ (F0 m 16 ls [.int 1])
  have hP : va_P G.1 vwCl (lxF [mlW G q M1, [(o, .inr (10, [.ref ok, .ref ol1, .ref on]))], [(ol1, lxq k n1 rr1)], lrB G r1 fs1 fa1 fb1 n1, [(dp, .inl (G.2.1, 40, .inl (upd dD 0 (nI (d - 1)))))]]) H := hP
  have hD : va_D A (lxF [mlW G q M1, [(o, .inr (10, [.ref ok, .ref ol1, .ref on]))], [(ol1, lxq k n1 rr1)], lrB G r1 fs1 fa1 fb1 n1, [(dp, .inl (G.2.1, 40, .inl (upd dD 0 (nI (d - 1)))))]]) := hD
  obtain ⟨rfl, rfl, rfl, rfl⟩ := lg_sure hA1 hn32 (by decide) (by decide)
  exact ly_ri hx hb hr hlk hP hD hS rfl (⟨rfl, M1, ol1, rr1, r1, rfl, hI1⟩) (by omega) (by omega) dL_close_16

abbrev wdL_tell : List Cond := Cond.code yL_tell cL_tell 4 (some .boolean) :: bwC
set_option maxHeartbeats 4000000 in
set_option maxRecDepth 100000 in
theorem t_L_tell (l : Launch) (G : sxG) (k : lxC) (q : Nat → Nat) (o ok ol on : Nat) (fs fa fb : Nat → Int32) (M : mlS) (x : Int32) (hM : mlI 0 (fun _ => 0) 0 fs fa fb M) : lyM l yL_tell wdL_tell 6 144 1 8 G k [mlW G q M, [(o, .inr (10, [.ref ok, .ref ol, .ref on]))]] [.ref (q 0), .ref o, .int x] (fun B v => v = some (.int 1) ∧ ∃ (M1 : mlS) (ok1 : Nat) (fk1 : Nat → Int32), B = [mlW G q M1, [(o, .inr (10, [.ref ok1, .ref ol, .ref on]))], [(ok1, .inl (G.2.1, 8, .inl fk1))]] ∧ qz_K fk1 ∧ mlI 8 fk1 0 fs fa fb M1 ∧ M1.2.2.2.1 = M.2.2.2.1) := by
  refine lyM.of (cc := cL_tell) (maxL := 4) (rt := (some .boolean)) (by decide) rfl (Nat.le_of_ble_eq_true rfl) ?_
  intro p e s m args below meth c ⟨hx, hb, hr, hml, hown, hlk, hts, hK⟩ hnm A hA hP hD hS hE ls hl
  have hl : lv_has ls 4 [(0, .ref (q 0)), (1, .ref o), (2, .int x)] := hl
  refine lv_aload_n hx hb dL_tell_0 rfl (lv_at hl 1 rfl) ?_
  refine lv_bipush (v := 8) hx hb dL_tell_1 (by decide) ?_
  refine lb_newi hx hb (bw0 (w := Cond.arrayClass .int) hts 5 rfl) hK hP hD hS hA 8 (by decide) rfl (by show 8 * 4 ≤ _; omega) (by show _ ≤ 1; omega) (by show _ ≤ 8; omega) dL_tell_3 (fun a1_ H hP hD hS => ?_)
  have hP : va_P G.1 vwCl (lxF [mlW G q M, [(o, .inr (10, [.ref ok, .ref ol, .ref on]))], [(a1_, .inl (G.2.1, 8, .inl (fun _ => 0)))]]) H := hP
  have hD : va_D A (lxF [mlW G q M, [(o, .inr (10, [.ref ok, .ref ol, .ref on]))], [(a1_, .inl (G.2.1, 8, .inl (fun _ => 0)))]]) := hD
  refine lv_dup hx hb dL_tell_5 rfl ?_
  refine lv_iconst (v := 0) hx hb dL_tell_6 (by decide) ?_
  refine lv_iconst (v := 0) hx hb dL_tell_7 (by decide) ?_
  refine lb_iast (x := 0) hx hb hK hP hD hS 2 0 rfl rfl (i := 0) (i' := 0) (vp_in_nI (n := 0) (by omega) (by omega)) rfl dL_tell_8 (fun H locs hP hD hS => ?_)
  have hP : va_P G.1 vwCl (lxF [mlW G q M, [(o, .inr (10, [.ref ok, .ref ol, .ref on]))], [(a1_, .inl (G.2.1, 8, .inl (upd (fun _ => 0) 0 0)))]]) H := hP
  have hD : va_D A (lxF [mlW G q M, [(o, .inr (10, [.ref ok, .ref ol, .ref on]))], [(a1_, .inl (G.2.1, 8, .inl (upd (fun _ => 0) 0 0)))]]) := hD
  refine lv_dup hx hb dL_tell_9 rfl ?_
  refine lv_iconst (v := 1) hx hb dL_tell_10 (by decide) ?_
  refine lv_iconst (v := 0) hx hb dL_tell_11 (by decide) ?_
  refine lb_iast (x := 0) hx hb hK hP hD hS 2 0 rfl rfl (i := 1) (i' := 1) (vp_in_nI (n := 1) (by omega) (by omega)) rfl dL_tell_12 (fun H locs hP hD hS => ?_)
  have hP : va_P G.1 vwCl (lxF [mlW G q M, [(o, .inr (10, [.ref ok, .ref ol, .ref on]))], [(a1_, .inl (G.2.1, 8, .inl (upd (upd (fun _ => 0) 0 0) 1 0)))]]) H := hP
  have hD : va_D A (lxF [mlW G q M, [(o, .inr (10, [.ref ok, .ref ol, .ref on]))], [(a1_, .inl (G.2.1, 8, .inl (upd (upd (fun _ => 0) 0 0) 1 0)))]]) := hD
  refine lv_dup hx hb dL_tell_13 rfl ?_
  refine lv_iconst (v := 2) hx hb dL_tell_14 (by decide) ?_
  refine lv_iconst (v := 1) hx hb dL_tell_15 (by decide) ?_
  refine lb_iast (x := 1) hx hb hK hP hD hS 2 0 rfl rfl (i := 2) (i' := 2) (vp_in_nI (n := 2) (by omega) (by omega)) rfl dL_tell_16 (fun H locs hP hD hS => ?_)
  have hP : va_P G.1 vwCl (lxF [mlW G q M, [(o, .inr (10, [.ref ok, .ref ol, .ref on]))], [(a1_, .inl (G.2.1, 8, .inl (upd (upd (upd (fun _ => 0) 0 0) 1 0) 2 1)))]]) H := hP
  have hD : va_D A (lxF [mlW G q M, [(o, .inr (10, [.ref ok, .ref ol, .ref on]))], [(a1_, .inl (G.2.1, 8, .inl (upd (upd (upd (fun _ => 0) 0 0) 1 0) 2 1)))]]) := hD
  refine lv_dup hx hb dL_tell_17 rfl ?_
  refine lv_iconst (v := 3) hx hb dL_tell_18 (by decide) ?_
  refine lv_iconst (v := 2) hx hb dL_tell_19 (by decide) ?_
  refine lb_iast (x := 2) hx hb hK hP hD hS 2 0 rfl rfl (i := 3) (i' := 3) (vp_in_nI (n := 3) (by omega) (by omega)) rfl dL_tell_20 (fun H locs hP hD hS => ?_)
  have hP : va_P G.1 vwCl (lxF [mlW G q M, [(o, .inr (10, [.ref ok, .ref ol, .ref on]))], [(a1_, .inl (G.2.1, 8, .inl (upd (upd (upd (upd (fun _ => 0) 0 0) 1 0) 2 1) 3 2)))]]) H := hP
  have hD : va_D A (lxF [mlW G q M, [(o, .inr (10, [.ref ok, .ref ol, .ref on]))], [(a1_, .inl (G.2.1, 8, .inl (upd (upd (upd (upd (fun _ => 0) 0 0) 1 0) 2 1) 3 2)))]]) := hD
  refine lv_dup hx hb dL_tell_21 rfl ?_
  refine lv_iconst (v := 4) hx hb dL_tell_22 (by decide) ?_
  refine lv_iconst (v := 3) hx hb dL_tell_23 (by decide) ?_
  refine lb_iast (x := 3) hx hb hK hP hD hS 2 0 rfl rfl (i := 4) (i' := 4) (vp_in_nI (n := 4) (by omega) (by omega)) rfl dL_tell_24 (fun H locs hP hD hS => ?_)
  have hP : va_P G.1 vwCl (lxF [mlW G q M, [(o, .inr (10, [.ref ok, .ref ol, .ref on]))], [(a1_, .inl (G.2.1, 8, .inl (upd (upd (upd (upd (upd (fun _ => 0) 0 0) 1 0) 2 1) 3 2) 4 3)))]]) H := hP
  have hD : va_D A (lxF [mlW G q M, [(o, .inr (10, [.ref ok, .ref ol, .ref on]))], [(a1_, .inl (G.2.1, 8, .inl (upd (upd (upd (upd (upd (fun _ => 0) 0 0) 1 0) 2 1) 3 2) 4 3)))]]) := hD
  refine lv_dup hx hb dL_tell_25 rfl ?_
  refine lv_iconst (v := 5) hx hb dL_tell_26 (by decide) ?_
  refine lv_iconst (v := 4) hx hb dL_tell_27 (by decide) ?_
  refine lb_iast (x := 4) hx hb hK hP hD hS 2 0 rfl rfl (i := 5) (i' := 5) (vp_in_nI (n := 5) (by omega) (by omega)) rfl dL_tell_28 (fun H locs hP hD hS => ?_)
  have hP : va_P G.1 vwCl (lxF [mlW G q M, [(o, .inr (10, [.ref ok, .ref ol, .ref on]))], [(a1_, .inl (G.2.1, 8, .inl (upd (upd (upd (upd (upd (upd (fun _ => 0) 0 0) 1 0) 2 1) 3 2) 4 3) 5 4)))]]) H := hP
  have hD : va_D A (lxF [mlW G q M, [(o, .inr (10, [.ref ok, .ref ol, .ref on]))], [(a1_, .inl (G.2.1, 8, .inl (upd (upd (upd (upd (upd (upd (fun _ => 0) 0 0) 1 0) 2 1) 3 2) 4 3) 5 4)))]]) := hD
  refine lv_dup hx hb dL_tell_29 rfl ?_
  refine lv_bipush (v := 6) hx hb dL_tell_30 (by decide) ?_
  refine lv_iconst (v := 5) hx hb dL_tell_32 (by decide) ?_
  refine lb_iast (x := 5) hx hb hK hP hD hS 2 0 rfl rfl (i := 6) (i' := 6) (vp_in_nI (n := 6) (by omega) (by omega)) rfl dL_tell_33 (fun H locs hP hD hS => ?_)
  have hP : va_P G.1 vwCl (lxF [mlW G q M, [(o, .inr (10, [.ref ok, .ref ol, .ref on]))], [(a1_, .inl (G.2.1, 8, .inl (upd (upd (upd (upd (upd (upd (upd (fun _ => 0) 0 0) 1 0) 2 1) 3 2) 4 3) 5 4) 6 5)))]]) H := hP
  have hD : va_D A (lxF [mlW G q M, [(o, .inr (10, [.ref ok, .ref ol, .ref on]))], [(a1_, .inl (G.2.1, 8, .inl (upd (upd (upd (upd (upd (upd (upd (fun _ => 0) 0 0) 1 0) 2 1) 3 2) 4 3) 5 4) 6 5)))]]) := hD
  refine lv_dup hx hb dL_tell_34 rfl ?_
  refine lv_bipush (v := 7) hx hb dL_tell_35 (by decide) ?_
  refine lv_iload_n hx hb dL_tell_37 rfl (lv_at hl 2 rfl) ?_
  refine lv_bipush (v := 6) hx hb dL_tell_38 (by decide) ?_
  refine ly_s (As := [.int x, .int 6]) (rest := [.int 7, .ref a1_, .ref a1_, .ref o]) hx hb hml hown hts (t_L_below l G k x 6 (by decide) (by decide)) 2 (sxGS (bi13 (w := Cond.methodLink RL 29 yL_below) 42 rfl) (bi13 (w := Cond.static yL_below) 43 rfl) (bi13 (w := Cond.initialized RL) 44 rfl) (bi13 (w := Cond.code yL_below cL_below 2 (some .int)) 27 rfl)) rfl (by decide +kernel) ⟨Nat.le_of_ble_eq_true rfl, Nat.le_of_ble_eq_true rfl⟩ hK hP hD hS hA hE [] [0, 1, 2] rfl rfl (by show List.Perm _ (List.range 3); decide) rfl hl rfl (Nat.le_of_ble_eq_true rfl) ⟨by show _ ≤ 1; omega, by show _ ≤ 8; omega⟩ dL_tell_40 (fun B1 v1 hp1 H locs hP hD hS => ?_)
  obtain ⟨rfl, rfl⟩ := hp1
  have hbl0 := lbl_lt x (n := 6) (by decide)
  show W p l e _ s m args below meth c H locs _ _ _ (F0 m 43 ls [.int (nI (lbl x 6)), .int 7, .ref a1_, .ref a1_, .ref o])
  have hP : va_P G.1 vwCl (lxF [mlW G q M, [(o, .inr (10, [.ref ok, .ref ol, .ref on]))], [(a1_, .inl (G.2.1, 8, .inl (upd (upd (upd (upd (upd (upd (upd (fun _ => 0) 0 0) 1 0) 2 1) 3 2) 4 3) 5 4) 6 5)))]]) H := hP
  have hD : va_D A (lxF [mlW G q M, [(o, .inr (10, [.ref ok, .ref ol, .ref on]))], [(a1_, .inl (G.2.1, 8, .inl (upd (upd (upd (upd (upd (upd (upd (fun _ => 0) 0 0) 1 0) 2 1) 3 2) 4 3) 5 4) 6 5)))]]) := hD
  refine lb_iast (x := nI (lbl x 6)) hx hb hK hP hD hS 2 0 rfl rfl (i := 7) (i' := 7) (vp_in_nI (n := 7) (by omega) (by omega)) rfl dL_tell_43 (fun H locs hP hD hS => ?_)
  have hP : va_P G.1 vwCl (lxF [mlW G q M, [(o, .inr (10, [.ref ok, .ref ol, .ref on]))], [(a1_, .inl (G.2.1, 8, .inl (upd (upd (upd (upd (upd (upd (upd (upd (fun _ => 0) 0 0) 1 0) 2 1) 3 2) 4 3) 5 4) 6 5) 7 (nI (lbl x 6)))))]]) H := hP
  have hD : va_D A (lxF [mlW G q M, [(o, .inr (10, [.ref ok, .ref ol, .ref on]))], [(a1_, .inl (G.2.1, 8, .inl (upd (upd (upd (upd (upd (upd (upd (upd (fun _ => 0) 0 0) 1 0) 2 1) 3 2) 4 3) 5 4) 6 5) 7 (nI (lbl x 6)))))]]) := hD
  refine lb_put (ci := 10) (v := .ref a1_) (ty := (.array .int)) (C := RX10) (T := TX10) (N := 3) hx hb hts owX10 tyX10 tyX10_ok nmX10 hown hK hP hD hS 1 0 rfl rfl rfl 0 (by decide) (bw13 (w := Cond.fieldLink RL 35 "DropflagMillLaw$Own" "kinds" "[I") hts 41 rfl) (fun _ h9 => h9) rfl (by decide +kernel) rfl rfl (Nat.le_of_ble_eq_true rfl) dL_tell_44 (fun H locs hP hD hS => ?_)
  have hP : va_P G.1 vwCl (lxF [mlW G q M, [(o, .inr (10, [.ref a1_, .ref ol, .ref on]))], [(a1_, .inl (G.2.1, 8, .inl (upd (upd (upd (upd (upd (upd (upd (upd (fun _ => 0) 0 0) 1 0) 2 1) 3 2) 4 3) 5 4) 6 5) 7 (nI (lbl x 6)))))]]) H := hP
  have hD : va_D A (lxF [mlW G q M, [(o, .inr (10, [.ref a1_, .ref ol, .ref on]))], [(a1_, .inl (G.2.1, 8, .inl (upd (upd (upd (upd (upd (upd (upd (upd (fun _ => 0) 0 0) 1 0) 2 1) 3 2) 4 3) 5 4) 6 5) 7 (nI (lbl x 6)))))]]) := hD
  have hP : va_P G.1 vwCl (lxF [mlW G q M, [(o, .inr (10, [.ref a1_, .ref ol, .ref on]))], [(a1_, .inl (G.2.1, 8, .inl (lkF (lbl x 6))))]]) H := hP
  have hD : va_D A (lxF [mlW G q M, [(o, .inr (10, [.ref a1_, .ref ol, .ref on]))], [(a1_, .inl (G.2.1, 8, .inl (lkF (lbl x 6))))]]) := hD
  refine lv_iconst (v := 0) hx hb dL_tell_47 (by decide) ?_
  refine lv_istore_n (lv' := [(3, .int 0), (0, .ref (q 0)), (1, .ref o), (2, .int x)]) hx hb dL_tell_48 rfl hl (by decide) rfl (fun ls hl => ?_)
  have LP49_1 : ∀ (kk1 : Nat) (i : Nat) (Mi : mlS), 8 - i < kk1 → (i ≤ 8) → (mlI i (lkG (lbl x 6) i) 0 fs fa fb Mi) → (Mi.2.2.2.1 = M.2.2.2.1) → ∀ cells slots : Nat, cells ≤ 1 → slots ≤ 8 → ∀ (H : Heap) (locs : List Loc), va_P G.1 vwCl (lxF [mlW G q Mi, [(o, .inr (10, [.ref a1_, .ref ol, .ref on]))], [(a1_, .inl (G.2.1, 8, .inl (lkF (lbl x 6))))]]) H → va_D A (lxF [mlW G q Mi, [(o, .inr (10, [.ref a1_, .ref ol, .ref on]))], [(a1_, .inl (G.2.1, 8, .inl (lkF (lbl x 6))))]]) → va_S A s.heap H locs → ∀ ls : Array Slot, lv_has ls 4 [(0, .ref (q 0)), (1, .ref o), (2, .int x), (3, .int (nI i))] → W p l e ({ frames := 6, cells := 1, slots := 8, locals := 144 } : Room) s m args below meth c H locs cells slots (lyZ 1 8 G args s below A (fun B v => v = some (.int 1) ∧ ∃ (M1 : mlS) (ok1 : Nat) (fk1 : Nat → Int32), B = [mlW G q M1, [(o, .inr (10, [.ref ok1, .ref ol, .ref on]))], [(ok1, .inl (G.2.1, 8, .inl fk1))]] ∧ qz_K fk1 ∧ mlI 8 fk1 0 fs fa fb M1 ∧ M1.2.2.2.1 = M.2.2.2.1)) (F0 m 49 ls []) := by
    intro kk1
    induction kk1 with
    | zero =>
      intro i Mi hm
      exact absurd hm (Nat.not_lt_zero _)
    | succ kk1 ih1 =>
      intro i Mi hm1 hi hMi hri cells slots hcc1 hss1 H locs hP hD hS ls hl
      refine lv_iload_n hx hb dL_tell_49 rfl (lv_at hl 3 rfl) ?_
      refine lv_bipush (v := 8) hx hb dL_tell_50 (by decide) ?_
      refine lv_icmp_ge (tgt := 77) hx hb dL_tell_52 (by decide) (fun c2 => ?_) (fun c2 => ?_)
      · have nc2 := (nI_leI (a := 8) (b := i) (by omega) (by omega)).mp c2
        refine lv_iconst (v := 1) hx hb dL_tell_77 (by decide) ?_
        have e8 : i = 8 := by omega
        subst e8
        exact ly_ri hx hb hr hlk hP hD hS rfl (⟨rfl, Mi, a1_, lkF (lbl x 6), rfl, lkF_K (lbl_lt x (by decide)), by rw [← lkG_8]; exact hMi, hri⟩) (by omega) (by omega) dL_tell_78
      · have nc2 := (not_congr (nI_leI (a := 8) (b := i) (by omega) (by omega))).mp c2
        refine lv_aload_n hx hb dL_tell_55 rfl (lv_at hl 0 rfl) ?_
        refine lv_aload_n hx hb dL_tell_56 rfl (lv_at hl 1 rfl) ?_
        refine lb_get (ci := 10) (v := .ref a1_) (C := RX10) (T := TX10) (N := 3) hx hb hts owX10 hown hK hP 1 0 rfl rfl rfl 0 (by decide) (bw13 (w := Cond.fieldLink RL 35 "DropflagMillLaw$Own" "kinds" "[I") hts 41 rfl) (fun _ h9 => h9) rfl dL_tell_57 ?_
        refine lv_iload_n hx hb dL_tell_60 rfl (lv_at hl 3 rfl) ?_
        obtain ⟨t, ht, et⟩ := lkF_at (lbl_lt x (n := 6) (by decide)) (i := i) (by omega)
        refine lb_iald (v := nI t) hx hb hK hP 2 0 rfl rfl (i := nI i) (vp_in_nI (n := i) (by omega) (by omega)) (by rw [nI_clamp (by omega)]; exact et) dL_tell_61 ?_
        refine ly_v (As := [.int (nI t)]) (rest := []) hx hb hml hown hts (m_variable (l := l) (G := G) (k := k) (q := q) hMi (by omega) ht) 1 (sxGV (bi13 (w := Cond.methodLink RL 39 yX9_variable) 45 rfl) (bi13 (w := Cond.instanceMethod yX9_variable) 46 rfl) (bi13 (w := Cond.selects RX9 yX9_variable yX9_variable) 47 rfl) (bi1 (w := Cond.initialized RX9) 58 rfl) (bi10 (w := Cond.code yX9_variable cX9_variable 3 (some .int)) 14 rfl)) rfl (by decide +kernel) ⟨Nat.le_of_ble_eq_true rfl, Nat.le_of_ble_eq_true rfl⟩ hK hP hD hS hA hE [0] [1, 2] rfl rfl (by show List.Perm _ (List.range 3); decide) 0 0 rfl rfl rfl rfl hl rfl (Nat.le_of_ble_eq_true rfl) ⟨by show _ ≤ 1; omega, by show _ ≤ 8; omega⟩ dL_tell_62 (fun B1 v1 hp1 H locs hP hD hS => ?_)
        obtain ⟨M1, rfl, rfl, hM1, hr1⟩ := hp1
        show W p l e _ s m args below meth c H locs _ _ _ (F0 m 65 ls [.int (nI i)])
        have hP : va_P G.1 vwCl (lxF [mlW G q M1, [(o, .inr (10, [.ref a1_, .ref ol, .ref on]))], [(a1_, .inl (G.2.1, 8, .inl (lkF (lbl x 6))))]]) H := hP
        have hD : va_D A (lxF [mlW G q M1, [(o, .inr (10, [.ref a1_, .ref ol, .ref on]))], [(a1_, .inl (G.2.1, 8, .inl (lkF (lbl x 6))))]]) := hD
        refine lv_iload_n hx hb dL_tell_65 rfl (lv_at hl 3 rfl) ?_
        refine lv_icmp_eq (tgt := 71) hx hb dL_tell_66 (by decide) (fun c3 => ?_) (fun c3 => False.elim (by have nc3 := (not_congr (nI_eq (a := i) (b := i) (by omega) (by omega))).mp c3; exact c3 rfl))
        have nc3 := (nI_eq (a := i) (b := i) (by omega) (by omega)).mp c3
        refine lv_iinc (v := nI (i + 1)) (lv' := [(3, .int (nI (i + 1))), (0, .ref (q 0)), (1, .ref o), (2, .int x)]) hx hb dL_tell_71 hl (k := 3) rfl (nI_1 i) (by decide) rfl (fun ls hl => ?_)
        refine lv_goto (tgt := 49) hx hb dL_tell_74 (by decide) ?_
        exact ih1 (i + 1) M1 (by omega) (by omega) (by rw [← lkG_s et]; exact hM1) (hr1.trans hri) _ _ (by omega) (by omega) _ _ hP hD hS ls (lv_sub hl [1, 2, 3, 0] rfl)
  exact LP49_1 9 0 M (by omega) (Nat.zero_le _) (by rw [lkG_0]; exact hM) (rfl) _ _ (by omega) (by omega) _ _ hP hD hS ls (lv_sub hl [1, 2, 3, 0] rfl)
