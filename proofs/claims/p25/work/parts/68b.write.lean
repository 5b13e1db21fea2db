abbrev wdL_write : List Cond := Cond.code yL_write cL_write 9 (some .boolean) :: bwC
set_option maxHeartbeats 4000000 in
set_option maxRecDepth 100000 in
theorem t_L_write (l : Launch) (G : sxG) (k : lxC) (q : Nat → Nat) (o ok ol on : Nat) (M0 : mlS) (w : Nat) (hM0 : mlI 0 (fun _ => 0) 0 (fun _ => 0) (fun _ => 0) (fun _ => 0) M0) (hr0 : M0.2.2.2.1 = 0) (hw : w < 12) (hk : k.2.2.1 ≤ 260) : lyM l yL_write wdL_write 9 220 140 2400 G k [mlW G q M0, [(o, .inr (10, [.ref ok, .ref ol, .ref on]))], [(ol, lxq k 0 (fun _ => none))]] [.ref (q 0), .ref o, .ref k.2.1, .int (nI w)] (fun B v => v = some (.int 1) ∧ ∃ (M1 : mlS) (ok1 ol1 n1 : Nat) (rr1 : Nat → Option Nat) (r1 : Nat → Nat) (fk1 fs1 fa1 fb1 : Nat → Int32), B = [mlW G q M1, [(o, .inr (10, [.ref ok1, .ref ol1, .ref on]))], [(ok1, .inl (G.2.1, 8, .inl fk1))], [(ol1, lxq k n1 rr1)], lrB G r1 fs1 fa1 fb1 n1] ∧ qz_K fk1 ∧ lsI fk1 n1 rr1 r1 fs1 fa1 fb1 M1 0 ∧ qz_G n1 fk1 fs1 fa1 fb1) := by
  refine lyM.of (cc := cL_write) (maxL := 9) (rt := (some .boolean)) (by decide) rfl (Nat.le_of_ble_eq_true rfl) ?_
  intro p e s m args below meth c ⟨hx, hb, hr, hml, hown, hlk, hts, hK⟩ hnm A hA hP hD hS hE ls hl
  have hl : lv_has ls 9 [(0, .ref (q 0)), (1, .ref o), (2, .ref k.2.1), (3, .int (nI w))] := hl
  refine lv_aload_n hx hb dL_write_0 rfl (lv_at hl 0 rfl) ?_
  refine lv_aload_n hx hb dL_write_1 rfl (lv_at hl 1 rfl) ?_
  refine lv_aload_n hx hb dL_write_2 rfl (lv_at hl 2 rfl) ?_
  refine lv_iload_n hx hb dL_write_3 rfl (lv_at hl 3 rfl) ?_
  refine ly_s (As := [.ref k.2.1, .int (nI w)]) (rest := [.ref o, .ref (q 0)]) hx hb hml hown hts (t_L_cell l G k w (by omega) hk) 2 (sxGS (bi13 (w := Cond.methodLink RL 57 yL_cell) 59 rfl) (bi14 (w := Cond.static yL_cell) 0 rfl) (bi13 (w := Cond.initialized RL) 44 rfl) (bi13 (w := Cond.code yL_cell cL_cell 2 (some .int)) 29 rfl)) rfl (by decide +kernel) ⟨Nat.le_of_ble_eq_true rfl, Nat.le_of_ble_eq_true rfl⟩ hK hP hD hS hA hE [] [0, 1, 2] rfl rfl (by show List.Perm _ (List.range 3); decide) rfl hl rfl (Nat.le_of_ble_eq_true rfl) ⟨by show _ ≤ 140; omega, by show _ ≤ 2400; omega⟩ dL_write_4 (fun B1 v1 hp1 H locs hP hD hS => ?_)
  obtain ⟨rfl, x1_, rfl⟩ := hp1
  show W p l e _ s m args below meth c H locs _ _ _ (F0 m 7 ls [.int x1_, .ref o, .ref (q 0)])
  have hP : va_P G.1 vwCl (lxF [mlW G q M0, [(o, .inr (10, [.ref ok, .ref ol, .ref on]))], [(ol, lxq k 0 (fun _ => none))]]) H := hP
  have hD : va_D A (lxF [mlW G q M0, [(o, .inr (10, [.ref ok, .ref ol, .ref on]))], [(ol, lxq k 0 (fun _ => none))]]) := hD
  refine ly_s (As := [.ref (q 0), .ref o, .int x1_]) (rest := []) hx hb hml hown hts (t_L_tell l G k q o ok ol on (fun _ => 0) (fun _ => 0) (fun _ => 0) M0 x1_ hM0) 3 (sxGS (bi14 (w := Cond.methodLink RL 61 yL_tell) 1 rfl) (bi14 (w := Cond.static yL_tell) 2 rfl) (bi13 (w := Cond.initialized RL) 44 rfl) (bi13 (w := Cond.code yL_tell cL_tell 4 (some .boolean)) 48 rfl)) rfl (by decide +kernel) ⟨Nat.le_of_ble_eq_true rfl, Nat.le_of_ble_eq_true rfl⟩ hK hP hD hS hA hE [0, 1] [2] rfl rfl (by show List.Perm _ (List.range 3); decide) rfl hl rfl (Nat.le_of_ble_eq_true rfl) ⟨by show _ ≤ 140; omega, by show _ ≤ 2400; omega⟩ dL_write_7 (fun B1 v1 hp1 H locs hP hD hS => ?_)
  obtain ⟨rfl, Ma, ok1, fk1, rfl, hKz, hMa, hra⟩ := hp1
  show W p l e _ s m args below meth c H locs _ _ _ (F0 m 10 ls [.int 1])
  have hP : va_P G.1 vwCl (lxF [mlW G q Ma, [(o, .inr (10, [.ref ok1, .ref ol, .ref on]))], [(ok1, .inl (G.2.1, 8, .inl fk1))], [(ol, lxq k 0 (fun _ => none))]]) H := hP
  have hD : va_D A (lxF [mlW G q Ma, [(o, .inr (10, [.ref ok1, .ref ol, .ref on]))], [(ok1, .inl (G.2.1, 8, .inl fk1))], [(ol, lxq k 0 (fun _ => none))]]) := hD
  refine lv_if_ne (tgt := 15) hx hb dL_write_10 (by decide) (fun c1 => ?_) (fun c1 => absurd c1 (by decide))
  have hP : va_P G.1 vwCl (lxF [mlW G q Ma, [(o, .inr (10, [.ref ok1, .ref ol, .ref on]))], [(ok1, .inl (G.2.1, 8, .inl fk1))], [(ol, lxq k 0 (fun _ => none))], lrB G (fun _ => 0) (fun _ => 0) (fun _ => 0) (fun _ => 0) 0]) H := hP
  have hD : va_D A (lxF [mlW G q Ma, [(o, .inr (10, [.ref ok1, .ref ol, .ref on]))], [(ok1, .inl (G.2.1, 8, .inl fk1))], [(ol, lxq k 0 (fun _ => none))], lrB G (fun _ => 0) (fun _ => 0) (fun _ => 0) (fun _ => 0) 0]) := hD
  refine lv_aload_n hx hb dL_write_15 rfl (lv_at hl 0 rfl) ?_
  refine lv_aload_n hx hb dL_write_16 rfl (lv_at hl 1 rfl) ?_
  refine lv_iconst (v := 0) hx hb dL_write_17 (by decide) ?_
  refine lv_iconst (v := 0) hx hb dL_write_18 (by decide) ?_
  refine lv_aload_n hx hb dL_write_19 rfl (lv_at hl 2 rfl) ?_
  refine lv_iload_n hx hb dL_write_20 rfl (lv_at hl 3 rfl) ?_
  refine ly_s (As := [.ref k.2.1, .int (nI w)]) (rest := [.int 0, .int 0, .ref o, .ref (q 0)]) hx hb hml hown hts (t_L_cell l G k w (by omega) hk) 2 (sxGS (bi13 (w := Cond.methodLink RL 57 yL_cell) 59 rfl) (bi14 (w := Cond.static yL_cell) 0 rfl) (bi13 (w := Cond.initialized RL) 44 rfl) (bi13 (w := Cond.code yL_cell cL_cell 2 (some .int)) 29 rfl)) rfl (by decide +kernel) ⟨Nat.le_of_ble_eq_true rfl, Nat.le_of_ble_eq_true rfl⟩ hK hP hD hS hA hE [] [0, 1, 2, 3, 4] rfl rfl (by show List.Perm _ (List.range 5); decide) rfl hl rfl (Nat.le_of_ble_eq_true rfl) ⟨by show _ ≤ 140; omega, by show _ ≤ 2400; omega⟩ dL_write_21 (fun B1 v1 hp1 H locs hP hD hS => ?_)
  obtain ⟨rfl, x2_, rfl⟩ := hp1
  show W p l e _ s m args below meth c H locs _ _ _ (F0 m 24 ls [.int x2_, .int 0, .int 0, .ref o, .ref (q 0)])
  have hP : va_P G.1 vwCl (lxF [mlW G q Ma, [(o, .inr (10, [.ref ok1, .ref ol, .ref on]))], [(ok1, .inl (G.2.1, 8, .inl fk1))], [(ol, lxq k 0 (fun _ => none))], lrB G (fun _ => 0) (fun _ => 0) (fun _ => 0) (fun _ => 0) 0]) H := hP
  have hD : va_D A (lxF [mlW G q Ma, [(o, .inr (10, [.ref ok1, .ref ol, .ref on]))], [(ok1, .inl (G.2.1, 8, .inl fk1))], [(ol, lxq k 0 (fun _ => none))], lrB G (fun _ => 0) (fun _ => 0) (fun _ => 0) (fun _ => 0) 0]) := hD
  refine lv_bipush (v := 7) hx hb dL_write_24 (by decide) ?_
  refine ly_s (As := [.int x2_, .int 7]) (rest := [.int 0, .int 0, .ref o, .ref (q 0)]) hx hb hml hown hts (t_L_below l G k x2_ 7 (by decide) (by decide)) 2 (sxGS (bi13 (w := Cond.methodLink RL 29 yL_below) 42 rfl) (bi13 (w := Cond.static yL_below) 43 rfl) (bi13 (w := Cond.initialized RL) 44 rfl) (bi13 (w := Cond.code yL_below cL_below 2 (some .int)) 27 rfl)) rfl (by decide +kernel) ⟨Nat.le_of_ble_eq_true rfl, Nat.le_of_ble_eq_true rfl⟩ hK hP hD hS hA hE [] [0, 1, 2, 3, 4] rfl rfl (by show List.Perm _ (List.range 5); decide) rfl hl rfl (Nat.le_of_ble_eq_true rfl) ⟨by show _ ≤ 140; omega, by show _ ≤ 2400; omega⟩ dL_write_26 (fun B1 v1 hp1 H locs hP hD hS => ?_)
  obtain ⟨rfl, rfl⟩ := hp1
  have hbl1 := lbl_lt x2_ (n := 7) (by decide)
  show W p l e _ s m args below meth c H locs _ _ _ (F0 m 29 ls [.int (nI (lbl x2_ 7)), .int 0, .int 0, .ref o, .ref (q 0)])
  have hP : va_P G.1 vwCl (lxF [mlW G q Ma, [(o, .inr (10, [.ref ok1, .ref ol, .ref on]))], [(ok1, .inl (G.2.1, 8, .inl fk1))], [(ol, lxq k 0 (fun _ => none))], lrB G (fun _ => 0) (fun _ => 0) (fun _ => 0) (fun _ => 0) 0]) H := hP
  have hD : va_D A (lxF [mlW G q Ma, [(o, .inr (10, [.ref ok1, .ref ol, .ref on]))], [(ok1, .inl (G.2.1, 8, .inl fk1))], [(ol, lxq k 0 (fun _ => none))], lrB G (fun _ => 0) (fun _ => 0) (fun _ => 0) (fun _ => 0) 0]) := hD
  refine lv_iconst (v := 2) hx hb dL_write_29 (by decide) ?_
  refine lv_isub hx hb dL_write_30 ?_
  have hIa : lsI fk1 0 (fun _ => none) (fun _ => 0) (fun _ => 0) (fun _ => 0) (fun _ => 0) Ma 0 := ⟨fun i hi => absurd hi (Nat.not_lt_zero _), hMa, ⟨Nat.le_refl _, Nat.zero_le _, fun j hj => absurd hj (Nat.not_lt_zero _), Nat.zero_le _⟩, hra.trans hr0⟩
  refine ly_s (As := [.ref (q 0), .ref o, .int 0, .int 0, .int ((nI (lbl x2_ 7)) - 2)]) (rest := []) hx hb hml hown hts (t_L_add l G k q o ok1 ol on 0 (fun _ => none) (fun _ => 0) fk1 (fun _ => 0) (fun _ => 0) (fun _ => 0) Ma 0 0 0 ((nI (lbl x2_ 7)) - 2) hIa (lf0 (kA := 0) ((lf_kd (p := 0) (by omega)).trans (lk_all hKz).1) (by decide) (lf_small (c := (lbl x2_ 7)) (d := 2) (by omega) (by omega)))) 5 (sxGS (bi13 (w := Cond.methodLink RL 50 yL_add) 51 rfl) (bi13 (w := Cond.static yL_add) 52 rfl) (bi13 (w := Cond.initialized RL) 44 rfl) (bi13 (w := Cond.code yL_add cL_add 5 (some .boolean)) 40 rfl)) rfl (by decide +kernel) ⟨Nat.le_of_ble_eq_true rfl, Nat.le_of_ble_eq_true rfl⟩ hK hP hD hS hA hE [0, 1, 3, 4] [2] rfl rfl (by show List.Perm _ (List.range 5); decide) rfl hl rfl (Nat.le_of_ble_eq_true rfl) ⟨by show _ ≤ 140; omega, by show _ ≤ 2400; omega⟩ dL_write_31 (fun B1 v1 hp1 H locs hP hD hS => ?_)
  obtain ⟨rfl, M1, ol1, n1, rr1, r1, fs1, fa1, fb1, rfl, hI1, hA1⟩ := hp1
  obtain ⟨rfl, rfl, rfl, rfl⟩ := lg_sure hA1 (by omega) (by decide) (by decide)
  have hW1 := lwI_0 ((nI (lbl x2_ 7)) - 2)
  show W p l e _ s m args below meth c H locs _ _ _ (F0 m 34 ls [.int 1])
  have hP : va_P G.1 vwCl (lxF [mlW G q M1, [(o, .inr (10, [.ref ok1, .ref ol1, .ref on]))], [(ol1, lxq k (0 + 1) rr1)], lrB G r1 (upd (fun _ => 0) 0 0) (upd (fun _ => 0) 0 0) (upd (fun _ => 0) 0 ((nI (lbl x2_ 7)) - 2)) (0 + 1), [(ok1, .inl (G.2.1, 8, .inl fk1))]]) H := hP
  have hD : va_D A (lxF [mlW G q M1, [(o, .inr (10, [.ref ok1, .ref ol1, .ref on]))], [(ol1, lxq k (0 + 1) rr1)], lrB G r1 (upd (fun _ => 0) 0 0) (upd (fun _ => 0) 0 0) (upd (fun _ => 0) 0 ((nI (lbl x2_ 7)) - 2)) (0 + 1), [(ok1, .inl (G.2.1, 8, .inl fk1))]]) := hD
  obtain ⟨hP, hD⟩ := lb_sub (Cs := [mlW G q M1, [(o, .inr (10, [.ref ok1, .ref ol1, .ref on]))], [(ok1, .inl (G.2.1, 8, .inl fk1))], [(ol1, lxq k (0 + 1) rr1)], lrB G r1 (upd (fun _ => 0) 0 0) (upd (fun _ => 0) 0 0) (upd (fun _ => 0) 0 ((nI (lbl x2_ 7)) - 2)) (0 + 1)]) [0, 1, 4, 2, 3] [] hP hD rfl (by show List.Perm _ (List.range 5); decide)
  refine lv_if_ne (tgt := 39) hx hb dL_write_34 (by decide) (fun c2 => ?_) (fun c2 => absurd c2 (by decide))
  refine lv_iconst (v := 4) hx hb dL_write_39 (by decide) ?_
  refine lb_newi hx hb (bw0 (w := Cond.arrayClass .int) hts 5 rfl) hK hP hD hS hA 4 (by decide) rfl (by show 4 * 4 ≤ _; omega) (by show _ ≤ 140; omega) (by show _ ≤ 2400; omega) dL_write_40 (fun a3_ H hP hD hS => ?_)
  have hP : va_P G.1 vwCl (lxF [mlW G q M1, [(o, .inr (10, [.ref ok1, .ref ol1, .ref on]))], [(ok1, .inl (G.2.1, 8, .inl fk1))], [(ol1, lxq k (0 + 1) rr1)], lrB G r1 (upd (fun _ => 0) 0 0) (upd (fun _ => 0) 0 0) (upd (fun _ => 0) 0 ((nI (lbl x2_ 7)) - 2)) (0 + 1), [(a3_, .inl (G.2.1, 4, .inl (fun _ => 0)))]]) H := hP
  have hD : va_D A (lxF [mlW G q M1, [(o, .inr (10, [.ref ok1, .ref ol1, .ref on]))], [(ok1, .inl (G.2.1, 8, .inl fk1))], [(ol1, lxq k (0 + 1) rr1)], lrB G r1 (upd (fun _ => 0) 0 0) (upd (fun _ => 0) 0 0) (upd (fun _ => 0) 0 ((nI (lbl x2_ 7)) - 2)) (0 + 1), [(a3_, .inl (G.2.1, 4, .inl (fun _ => 0)))]]) := hD
  refine lv_dup hx hb dL_write_42 rfl ?_
  refine lv_iconst (v := 0) hx hb dL_write_43 (by decide) ?_
  refine lv_iconst (v := 3) hx hb dL_write_44 (by decide) ?_
  refine lb_iast (x := 3) hx hb hK hP hD hS 5 0 rfl rfl (i := 0) (i' := 0) (vp_in_nI (n := 0) (by omega) (by omega)) rfl dL_write_45 (fun H locs hP hD hS => ?_)
  have hP : va_P G.1 vwCl (lxF [mlW G q M1, [(o, .inr (10, [.ref ok1, .ref ol1, .ref on]))], [(ok1, .inl (G.2.1, 8, .inl fk1))], [(ol1, lxq k (0 + 1) rr1)], lrB G r1 (upd (fun _ => 0) 0 0) (upd (fun _ => 0) 0 0) (upd (fun _ => 0) 0 ((nI (lbl x2_ 7)) - 2)) (0 + 1), [(a3_, .inl (G.2.1, 4, .inl (upd (fun _ => 0) 0 3)))]]) H := hP
  have hD : va_D A (lxF [mlW G q M1, [(o, .inr (10, [.ref ok1, .ref ol1, .ref on]))], [(ok1, .inl (G.2.1, 8, .inl fk1))], [(ol1, lxq k (0 + 1) rr1)], lrB G r1 (upd (fun _ => 0) 0 0) (upd (fun _ => 0) 0 0) (upd (fun _ => 0) 0 ((nI (lbl x2_ 7)) - 2)) (0 + 1), [(a3_, .inl (G.2.1, 4, .inl (upd (fun _ => 0) 0 3)))]]) := hD
  refine lv_dup hx hb dL_write_46 rfl ?_
  refine lv_iconst (v := 1) hx hb dL_write_47 (by decide) ?_
  refine lv_bipush (v := 6) hx hb dL_write_48 (by decide) ?_
  refine lb_iast (x := 6) hx hb hK hP hD hS 5 0 rfl rfl (i := 1) (i' := 1) (vp_in_nI (n := 1) (by omega) (by omega)) rfl dL_write_50 (fun H locs hP hD hS => ?_)
  have hP : va_P G.1 vwCl (lxF [mlW G q M1, [(o, .inr (10, [.ref ok1, .ref ol1, .ref on]))], [(ok1, .inl (G.2.1, 8, .inl fk1))], [(ol1, lxq k (0 + 1) rr1)], lrB G r1 (upd (fun _ => 0) 0 0) (upd (fun _ => 0) 0 0) (upd (fun _ => 0) 0 ((nI (lbl x2_ 7)) - 2)) (0 + 1), [(a3_, .inl (G.2.1, 4, .inl (upd (upd (fun _ => 0) 0 3) 1 6)))]]) H := hP
  have hD : va_D A (lxF [mlW G q M1, [(o, .inr (10, [.ref ok1, .ref ol1, .ref on]))], [(ok1, .inl (G.2.1, 8, .inl fk1))], [(ol1, lxq k (0 + 1) rr1)], lrB G r1 (upd (fun _ => 0) 0 0) (upd (fun _ => 0) 0 0) (upd (fun _ => 0) 0 ((nI (lbl x2_ 7)) - 2)) (0 + 1), [(a3_, .inl (G.2.1, 4, .inl (upd (upd (fun _ => 0) 0 3) 1 6)))]]) := hD
  refine lv_dup hx hb dL_write_51 rfl ?_
  refine lv_iconst (v := 2) hx hb dL_write_52 (by decide) ?_
  refine lv_bipush (v := 9) hx hb dL_write_53 (by decide) ?_
  refine lb_iast (x := 9) hx hb hK hP hD hS 5 0 rfl rfl (i := 2) (i' := 2) (vp_in_nI (n := 2) (by omega) (by omega)) rfl dL_write_55 (fun H locs hP hD hS => ?_)
  have hP : va_P G.1 vwCl (lxF [mlW G q M1, [(o, .inr (10, [.ref ok1, .ref ol1, .ref on]))], [(ok1, .inl (G.2.1, 8, .inl fk1))], [(ol1, lxq k (0 + 1) rr1)], lrB G r1 (upd (fun _ => 0) 0 0) (upd (fun _ => 0) 0 0) (upd (fun _ => 0) 0 ((nI (lbl x2_ 7)) - 2)) (0 + 1), [(a3_, .inl (G.2.1, 4, .inl (upd (upd (upd (fun _ => 0) 0 3) 1 6) 2 9)))]]) H := hP
  have hD : va_D A (lxF [mlW G q M1, [(o, .inr (10, [.ref ok1, .ref ol1, .ref on]))], [(ok1, .inl (G.2.1, 8, .inl fk1))], [(ol1, lxq k (0 + 1) rr1)], lrB G r1 (upd (fun _ => 0) 0 0) (upd (fun _ => 0) 0 0) (upd (fun _ => 0) 0 ((nI (lbl x2_ 7)) - 2)) (0 + 1), [(a3_, .inl (G.2.1, 4, .inl (upd (upd (upd (fun _ => 0) 0 3) 1 6) 2 9)))]]) := hD
  refine lv_dup hx hb dL_write_56 rfl ?_
  refine lv_iconst (v := 3) hx hb dL_write_57 (by decide) ?_
  refine lv_bipush (v := 18) hx hb dL_write_58 (by decide) ?_
  refine lb_iast (x := 18) hx hb hK hP hD hS 5 0 rfl rfl (i := 3) (i' := 3) (vp_in_nI (n := 3) (by omega) (by omega)) rfl dL_write_60 (fun H locs hP hD hS => ?_)
  have hP : va_P G.1 vwCl (lxF [mlW G q M1, [(o, .inr (10, [.ref ok1, .ref ol1, .ref on]))], [(ok1, .inl (G.2.1, 8, .inl fk1))], [(ol1, lxq k (0 + 1) rr1)], lrB G r1 (upd (fun _ => 0) 0 0) (upd (fun _ => 0) 0 0) (upd (fun _ => 0) 0 ((nI (lbl x2_ 7)) - 2)) (0 + 1), [(a3_, .inl (G.2.1, 4, .inl (upd (upd (upd (upd (fun _ => 0) 0 3) 1 6) 2 9) 3 18)))]]) H := hP
  have hD : va_D A (lxF [mlW G q M1, [(o, .inr (10, [.ref ok1, .ref ol1, .ref on]))], [(ok1, .inl (G.2.1, 8, .inl fk1))], [(ol1, lxq k (0 + 1) rr1)], lrB G r1 (upd (fun _ => 0) 0 0) (upd (fun _ => 0) 0 0) (upd (fun _ => 0) 0 ((nI (lbl x2_ 7)) - 2)) (0 + 1), [(a3_, .inl (G.2.1, 4, .inl (upd (upd (upd (upd (fun _ => 0) 0 3) 1 6) 2 9) 3 18)))]]) := hD
  have hP : va_P G.1 vwCl (lxF [mlW G q M1, [(o, .inr (10, [.ref ok1, .ref ol1, .ref on]))], [(ok1, .inl (G.2.1, 8, .inl fk1))], [(ol1, lxq k (0 + 1) rr1)], lrB G r1 (upd (fun _ => 0) 0 0) (upd (fun _ => 0) 0 0) (upd (fun _ => 0) 0 ((nI (lbl x2_ 7)) - 2)) (0 + 1), [(a3_, .inl (G.2.1, 4, .inl lwFi))]]) H := hP
  have hD : va_D A (lxF [mlW G q M1, [(o, .inr (10, [.ref ok1, .ref ol1, .ref on]))], [(ok1, .inl (G.2.1, 8, .inl fk1))], [(ol1, lxq k (0 + 1) rr1)], lrB G r1 (upd (fun _ => 0) 0 0) (upd (fun _ => 0) 0 0) (upd (fun _ => 0) 0 ((nI (lbl x2_ 7)) - 2)) (0 + 1), [(a3_, .inl (G.2.1, 4, .inl lwFi))]]) := hD
  refine lv_astore (lv' := [(4, .ref a3_), (0, .ref (q 0)), (1, .ref o), (2, .ref k.2.1), (3, .int (nI w))]) hx hb dL_write_61 hl (by decide) rfl (fun ls hl => ?_)
  refine lv_aload hx hb dL_write_63 (lv_at hl 0 rfl) ?_
  refine lv_astore (lv' := [(5, .ref a3_), (4, .ref a3_), (0, .ref (q 0)), (1, .ref o), (2, .ref k.2.1), (3, .int (nI w))]) hx hb dL_write_65 hl (by decide) rfl (fun ls hl => ?_)
  refine lv_aload hx hb dL_write_67 (lv_at hl 0 rfl) ?_
  refine lb_alen (v := 4) hx hb hK hP 5 0 rfl rfl rfl dL_write_69 ?_
  refine lv_istore (lv' := [(6, .int 4), (5, .ref a3_), (4, .ref a3_), (0, .ref (q 0)), (1, .ref o), (2, .ref k.2.1), (3, .int (nI w))]) hx hb dL_write_70 hl (by decide) rfl (fun ls hl => ?_)
  refine lv_iconst (v := 0) hx hb dL_write_72 (by decide) ?_
  refine lv_istore (lv' := [(7, .int 0), (6, .int 4), (5, .ref a3_), (4, .ref a3_), (0, .ref (q 0)), (1, .ref o), (2, .ref k.2.1), (3, .int (nI w))]) hx hb dL_write_73 hl (by decide) rfl (fun ls hl => ?_)
  have LP75_3 : ∀ (kk3 : Nat) (i : Nat) (M : mlS) (ol : Nat) (n : Nat) (rr : Nat → Option Nat) (r : Nat → Nat) (fs : Nat → Int32) (fa : Nat → Int32) (fb : Nat → Int32), 4 - i < kk3 → (i ≤ 4) → (lsI fk1 n rr r fs fa fb M 0) → (lwI n 0 fs fa fb (fun _ => 0)) → (n ≤ 1 + i) → ∀ cells slots : Nat, cells ≤ 10 + 2 * i → slots ≤ 100 + 36 * i → ∀ (H : Heap) (locs : List Loc), va_P G.1 vwCl (lxF [mlW G q M, [(o, .inr (10, [.ref ok1, .ref ol, .ref on]))], [(ok1, .inl (G.2.1, 8, .inl fk1))], [(ol, lxq k n rr)], lrB G r fs fa fb n, [(a3_, .inl (G.2.1, 4, .inl lwFi))]]) H → va_D A (lxF [mlW G q M, [(o, .inr (10, [.ref ok1, .ref ol, .ref on]))], [(ok1, .inl (G.2.1, 8, .inl fk1))], [(ol, lxq k n rr)], lrB G r fs fa fb n, [(a3_, .inl (G.2.1, 4, .inl lwFi))]]) → va_S A s.heap H locs → ∀ ls : Array Slot, lv_has ls 9 [(0, .ref (q 0)), (1, .ref o), (2, .ref k.2.1), (3, .int (nI w)), (4, .ref a3_), (5, .ref a3_), (6, .int 4), (7, .int (nI i))] → W p l e ({ frames := 9, cells := 140, slots := 2400, locals := 220 } : Room) s m args below meth c H locs cells slots (lyZ 140 2400 G args s below A (fun B v => v = some (.int 1) ∧ ∃ (M1 : mlS) (ok1 ol1 n1 : Nat) (rr1 : Nat → Option Nat) (r1 : Nat → Nat) (fk1 fs1 fa1 fb1 : Nat → Int32), B = [mlW G q M1, [(o, .inr (10, [.ref ok1, .ref ol1, .ref on]))], [(ok1, .inl (G.2.1, 8, .inl fk1))], [(ol1, lxq k n1 rr1)], lrB G r1 fs1 fa1 fb1 n1] ∧ qz_K fk1 ∧ lsI fk1 n1 rr1 r1 fs1 fa1 fb1 M1 0 ∧ qz_G n1 fk1 fs1 fa1 fb1)) (F0 m 75 ls []) := by
    intro kk3
    induction kk3 with
    | zero =>
      intro i M ol n rr r fs fa fb hm
      exact absurd hm (Nat.not_lt_zero _)
    | succ kk3 ih3 =>
      intro i M ol n rr r fs fa fb hm3 hi hI hW hnn cells slots hcc3 hss3 H locs hP hD hS ls hl
      refine lv_iload hx hb dL_write_75 (lv_at hl 7 rfl) ?_
      refine lv_iload hx hb dL_write_77 (lv_at hl 6 rfl) ?_
      refine lv_icmp_ge (tgt := 142) hx hb dL_write_79 (by decide) (fun c4 => ?_) (fun c4 => ?_)
      · have nc4 := (nI_leI (a := 4) (b := i) (by omega) (by omega)).mp c4
        refine lv_bipush (v := 40) hx hb dL_write_142 (by decide) ?_
        refine lb_newi hx hb (bw0 (w := Cond.arrayClass .int) hts 5 rfl) hK hP hD hS hA 40 (by decide) rfl (by show 40 * 4 ≤ _; omega) (by show _ ≤ 140; omega) (by show _ ≤ 2400; omega) dL_write_144 (fun a4_ H hP hD hS => ?_)
        have hP : va_P G.1 vwCl (lxF [mlW G q M, [(o, .inr (10, [.ref ok1, .ref ol, .ref on]))], [(ok1, .inl (G.2.1, 8, .inl fk1))], [(ol, lxq k n rr)], lrB G r fs fa fb n, [(a3_, .inl (G.2.1, 4, .inl lwFi))], [(a4_, .inl (G.2.1, 40, .inl (fun _ => 0)))]]) H := hP
        have hD : va_D A (lxF [mlW G q M, [(o, .inr (10, [.ref ok1, .ref ol, .ref on]))], [(ok1, .inl (G.2.1, 8, .inl fk1))], [(ol, lxq k n rr)], lrB G r fs fa fb n, [(a3_, .inl (G.2.1, 4, .inl lwFi))], [(a4_, .inl (G.2.1, 40, .inl (fun _ => 0)))]]) := hD
        obtain ⟨hP, hD⟩ := lb_sub (Cs := [mlW G q M, [(o, .inr (10, [.ref ok1, .ref ol, .ref on]))], [(ok1, .inl (G.2.1, 8, .inl fk1))], [(ol, lxq k n rr)], lrB G r fs fa fb n, [(a4_, .inl (G.2.1, 40, .inl (fun _ => 0)))]]) [0, 1, 2, 3, 4, 6] [5] hP hD rfl (by show List.Perm _ (List.range 7); decide)
        have hP : va_P G.1 vwCl (lxF [mlW G q M, [(o, .inr (10, [.ref ok1, .ref ol, .ref on]))], [(ok1, .inl (G.2.1, 8, .inl fk1))], [(ol, lxq k n rr)], lrB G r fs fa fb n, [(a4_, .inl (G.2.1, 40, .inl (fun _ => 0)))]]) H := hP
        have hD : va_D A (lxF [mlW G q M, [(o, .inr (10, [.ref ok1, .ref ol, .ref on]))], [(ok1, .inl (G.2.1, 8, .inl fk1))], [(ol, lxq k n rr)], lrB G r fs fa fb n, [(a4_, .inl (G.2.1, 40, .inl (fun _ => 0)))]]) := hD
        refine lv_astore (lv' := [(5, .ref a4_), (0, .ref (q 0)), (1, .ref o), (2, .ref k.2.1), (3, .int (nI w)), (4, .ref a3_), (6, .int 4), (7, .int (nI i))]) hx hb dL_write_146 hl (by decide) rfl (fun ls hl => ?_)
        refine lv_bipush (v := 8) hx hb dL_write_148 (by decide) ?_
        refine lv_aload_n hx hb dL_write_150 rfl (lv_at hl 3 rfl) ?_
        refine lv_iload_n hx hb dL_write_151 rfl (lv_at hl 4 rfl) ?_
        refine lv_iconst (v := 3) hx hb dL_write_152 (by decide) ?_
        refine lv_iadd hx hb dL_write_153 ?_
        rw [show ((nI w) + 3 : Int32) = nI (w + 3) from nI_add w 3]
        refine ly_s (As := [.ref k.2.1, .int (nI (w + 3))]) (rest := [.int 8]) hx hb hml hown hts (t_L_cell l G k (w + 3) (by omega) hk) 2 (sxGS (bi13 (w := Cond.methodLink RL 57 yL_cell) 59 rfl) (bi14 (w := Cond.static yL_cell) 0 rfl) (bi13 (w := Cond.initialized RL) 44 rfl) (bi13 (w := Cond.code yL_cell cL_cell 2 (some .int)) 29 rfl)) rfl (by decide +kernel) ⟨Nat.le_of_ble_eq_true rfl, Nat.le_of_ble_eq_true rfl⟩ hK hP hD hS hA hE [] [0, 1, 2, 3, 4, 5] rfl rfl (by show List.Perm _ (List.range 6); decide) rfl hl rfl (Nat.le_of_ble_eq_true rfl) ⟨by show _ ≤ 140; omega, by show _ ≤ 2400; omega⟩ dL_write_154 (fun B1 v1 hp1 H locs hP hD hS => ?_)
        obtain ⟨rfl, x5_, rfl⟩ := hp1
        show W p l e _ s m args below meth c H locs _ _ _ (F0 m 157 ls [.int x5_, .int 8])
        have hP : va_P G.1 vwCl (lxF [mlW G q M, [(o, .inr (10, [.ref ok1, .ref ol, .ref on]))], [(ok1, .inl (G.2.1, 8, .inl fk1))], [(ol, lxq k n rr)], lrB G r fs fa fb n, [(a4_, .inl (G.2.1, 40, .inl (fun _ => 0)))]]) H := hP
        have hD : va_D A (lxF [mlW G q M, [(o, .inr (10, [.ref ok1, .ref ol, .ref on]))], [(ok1, .inl (G.2.1, 8, .inl fk1))], [(ol, lxq k n rr)], lrB G r fs fa fb n, [(a4_, .inl (G.2.1, 40, .inl (fun _ => 0)))]]) := hD
        refine lv_bipush (v := 14) hx hb dL_write_157 (by decide) ?_
        refine ly_s (As := [.int x5_, .int 14]) (rest := [.int 8]) hx hb hml hown hts (t_L_below l G k x5_ 14 (by decide) (by decide)) 2 (sxGS (bi13 (w := Cond.methodLink RL 29 yL_below) 42 rfl) (bi13 (w := Cond.static yL_below) 43 rfl) (bi13 (w := Cond.initialized RL) 44 rfl) (bi13 (w := Cond.code yL_below cL_below 2 (some .int)) 27 rfl)) rfl (by decide +kernel) ⟨Nat.le_of_ble_eq_true rfl, Nat.le_of_ble_eq_true rfl⟩ hK hP hD hS hA hE [] [0, 1, 2, 3, 4, 5] rfl rfl (by show List.Perm _ (List.range 6); decide) rfl hl rfl (Nat.le_of_ble_eq_true rfl) ⟨by show _ ≤ 140; omega, by show _ ≤ 2400; omega⟩ dL_write_159 (fun B1 v1 hp1 H locs hP hD hS => ?_)
        obtain ⟨rfl, rfl⟩ := hp1
        have hbl4 := lbl_lt x5_ (n := 14) (by decide)
        show W p l e _ s m args below meth c H locs _ _ _ (F0 m 162 ls [.int (nI (lbl x5_ 14)), .int 8])
        have hP : va_P G.1 vwCl (lxF [mlW G q M, [(o, .inr (10, [.ref ok1, .ref ol, .ref on]))], [(ok1, .inl (G.2.1, 8, .inl fk1))], [(ol, lxq k n rr)], lrB G r fs fa fb n, [(a4_, .inl (G.2.1, 40, .inl (fun _ => 0)))]]) H := hP
        have hD : va_D A (lxF [mlW G q M, [(o, .inr (10, [.ref ok1, .ref ol, .ref on]))], [(ok1, .inl (G.2.1, 8, .inl fk1))], [(ol, lxq k n rr)], lrB G r fs fa fb n, [(a4_, .inl (G.2.1, 40, .inl (fun _ => 0)))]]) := hD
        refine lv_iadd hx hb dL_write_162 ?_
        rw [show ((8 : Int32) + (nI (lbl x5_ 14)) : Int32) = nI (8 + (lbl x5_ 14)) from nI_add 8 (lbl x5_ 14)]
        refine lv_istore (lv' := [(6, .int (nI (8 + (lbl x5_ 14)))), (5, .ref a4_), (0, .ref (q 0)), (1, .ref o), (2, .ref k.2.1), (3, .int (nI w)), (4, .ref a3_), (7, .int (nI i))]) hx hb dL_write_163 hl (by decide) rfl (fun ls hl => ?_)
        have LP246_5 : ∀ (kk5 : Nat) (M : mlS) (ol : Nat) (n : Nat) (rr : Nat → Option Nat) (r : Nat → Nat) (fs : Nat → Int32) (fa : Nat → Int32) (fb : Nat → Int32) (d : Nat) (dD : Nat → Int32), d < kk5 → (lsI fk1 n rr r fs fa fb M 0) → (lwI n d fs fa fb dD) → (n + d ≤ 30) → ∀ cells slots : Nat, cells ≤ 70 + 2 * (31 - d) → slots ≤ 1200 + 36 * (31 - d) → ∀ (H : Heap) (locs : List Loc), va_P G.1 vwCl (lxF [mlW G q M, [(o, .inr (10, [.ref ok1, .ref ol, .ref on]))], [(ok1, .inl (G.2.1, 8, .inl fk1))], [(ol, lxq k n rr)], lrB G r fs fa fb n, [(a4_, .inl (G.2.1, 40, .inl dD))]]) H → va_D A (lxF [mlW G q M, [(o, .inr (10, [.ref ok1, .ref ol, .ref on]))], [(ok1, .inl (G.2.1, 8, .inl fk1))], [(ol, lxq k n rr)], lrB G r fs fa fb n, [(a4_, .inl (G.2.1, 40, .inl dD))]]) → va_S A s.heap H locs → ∀ ls : Array Slot, lv_has ls 9 [(0, .ref (q 0)), (1, .ref o), (5, .ref a4_)] → W p l e ({ frames := 9, cells := 140, slots := 2400, locals := 220 } : Room) s m args below meth c H locs cells slots (lyZ 140 2400 G args s below A (fun B v => v = some (.int 1) ∧ ∃ (M1 : mlS) (ok1 ol1 n1 : Nat) (rr1 : Nat → Option Nat) (r1 : Nat → Nat) (fk1 fs1 fa1 fb1 : Nat → Int32), B = [mlW G q M1, [(o, .inr (10, [.ref ok1, .ref ol1, .ref on]))], [(ok1, .inl (G.2.1, 8, .inl fk1))], [(ol1, lxq k n1 rr1)], lrB G r1 fs1 fa1 fb1 n1] ∧ qz_K fk1 ∧ lsI fk1 n1 rr1 r1 fs1 fa1 fb1 M1 0 ∧ qz_G n1 fk1 fs1 fa1 fb1)) (F0 m 246 ls []) := by
          intro kk5
          induction kk5 with
          | zero =>
            intro M ol n rr r fs fa fb d dD hm
            exact absurd hm (Nat.not_lt_zero _)
          | succ kk5 ih5 =>
            intro M ol n rr r fs fa fb d dD hm5 hI hW hnd cells slots hcc5 hss5 H locs hP hD hS ls hl
            have hd0 : dD 0 = nI d := by obtain ⟨-, -, -, -, st, -, -, s3, -⟩ := hW; exact s3
            refine lv_aload hx hb dL_write_246 (lv_at hl 2 rfl) ?_
            refine lv_iconst (v := 0) hx hb dL_write_248 (by decide) ?_
            refine lb_iald (v := nI d) hx hb hK hP 5 0 rfl rfl (i := 0) (vp_in_nI (n := 0) (by omega) (by omega)) hd0 dL_write_249 ?_
            refine lv_if_le (tgt := 265) hx hb dL_write_250 (by decide) (fun c6 => ?_) (fun c6 => ?_)
            · have nc6 := (nI_leI (a := d) (b := 0) (by omega) (by omega)).mp c6
              obtain ⟨hP, hD⟩ := lb_sub (Cs := [mlW G q M, [(o, .inr (10, [.ref ok1, .ref ol, .ref on]))], [(ok1, .inl (G.2.1, 8, .inl fk1))], [(ol, lxq k n rr)], lrB G r fs fa fb n]) [0, 1, 2, 3, 4] [5] hP hD rfl (by show List.Perm _ (List.range 6); decide)
              have hP : va_P G.1 vwCl (lxF [mlW G q M, [(o, .inr (10, [.ref ok1, .ref ol, .ref on]))], [(ok1, .inl (G.2.1, 8, .inl fk1))], [(ol, lxq k n rr)], lrB G r fs fa fb n]) H := hP
              have hD : va_D A (lxF [mlW G q M, [(o, .inr (10, [.ref ok1, .ref ol, .ref on]))], [(ok1, .inl (G.2.1, 8, .inl fk1))], [(ol, lxq k n rr)], lrB G r fs fa fb n]) := hD
              refine lv_iconst (v := 1) hx hb dL_write_265 (by decide) ?_
              exact ly_ri hx hb hr hlk hP hD hS rfl (⟨rfl, M, ok1, ol, n, rr, r, fk1, fs, fa, fb, rfl, hKz, hI, lw_whole hI hKz ((show d = 0 by omega) ▸ hW)⟩) (by omega) (by omega) dL_write_266
            · have nc6 := (not_congr (nI_leI (a := d) (b := 0) (by omega) (by omega))).mp c6
              refine lv_aload_n hx hb dL_write_253 rfl (lv_at hl 0 rfl) ?_
              refine lv_aload_n hx hb dL_write_254 rfl (lv_at hl 1 rfl) ?_
              refine lv_aload hx hb dL_write_255 (lv_at hl 2 rfl) ?_
              refine ly_s (As := [.ref (q 0), .ref o, .ref a4_]) (rest := []) hx hb hml hown hts (t_L_close l G k q o ok1 ol on n rr r fk1 fs fa fb M 0 a4_ d dD hI (by omega) (by omega) hd0 (by omega)) 3 (sxGS (bi13 (w := Cond.methodLink RL 53 yL_close) 56 rfl) (bi13 (w := Cond.static yL_close) 57 rfl) (bi13 (w := Cond.initialized RL) 44 rfl) (bi13 (w := Cond.code yL_close cL_close 3 (some .boolean)) 53 rfl)) rfl (by decide +kernel) ⟨Nat.le_of_ble_eq_true rfl, Nat.le_of_ble_eq_true rfl⟩ hK hP hD hS hA hE [0, 1, 3, 4, 5] [2] rfl rfl (by show List.Perm _ (List.range 6); decide) rfl hl rfl (Nat.le_of_ble_eq_true rfl) ⟨by show _ ≤ 140; omega, by show _ ≤ 2400; omega⟩ dL_write_257 (fun B1 v1 hp1 H locs hP hD hS => ?_)
              obtain ⟨rfl, M1, ol1, rr1, r1, rfl, hI1⟩ := hp1
              show W p l e _ s m args below meth c H locs _ _ _ (F0 m 260 ls [.int 1])
              have hP : va_P G.1 vwCl (lxF [mlW G q M1, [(o, .inr (10, [.ref ok1, .ref ol1, .ref on]))], [(ol1, lxq k (n + 1) rr1)], lrB G r1 (upd fs n 11) (upd fa n 0) (upd fb n 0) (n + 1), [(a4_, .inl (G.2.1, 40, .inl (upd dD 0 (nI (d - 1)))))], [(ok1, .inl (G.2.1, 8, .inl fk1))]]) H := hP
              have hD : va_D A (lxF [mlW G q M1, [(o, .inr (10, [.ref ok1, .ref ol1, .ref on]))], [(ol1, lxq k (n + 1) rr1)], lrB G r1 (upd fs n 11) (upd fa n 0) (upd fb n 0) (n + 1), [(a4_, .inl (G.2.1, 40, .inl (upd dD 0 (nI (d - 1)))))], [(ok1, .inl (G.2.1, 8, .inl fk1))]]) := hD
              obtain ⟨hP, hD⟩ := lb_sub (Cs := [mlW G q M1, [(o, .inr (10, [.ref ok1, .ref ol1, .ref on]))], [(ok1, .inl (G.2.1, 8, .inl fk1))], [(ol1, lxq k (n + 1) rr1)], lrB G r1 (upd fs n 11) (upd fa n 0) (upd fb n 0) (n + 1), [(a4_, .inl (G.2.1, 40, .inl (upd dD 0 (nI (d - 1)))))]]) [0, 1, 5, 2, 3, 4] [] hP hD rfl (by show List.Perm _ (List.range 6); decide)
              refine lv_if_ne (tgt := 246) hx hb dL_write_260 (by decide) (fun c7 => ?_) (fun c7 => absurd c7 (by decide))
              exact ih5 M1 ol1 (n + 1) rr1 r1 (upd fs n 11) (upd fa n 0) (upd fb n 0) (d - 1) (upd dD 0 (nI (d - 1))) (by omega) (hI1) (lw_end hW (by omega)) (by omega) _ _ (by omega) (by omega) _ _ hP hD hS ls (lv_sub hl [0, 1, 2] rfl)
        refine lv_iconst (v := 0) hx hb dL_write_165 (by decide) ?_
        refine lv_istore (lv' := [(7, .int 0), (6, .int (nI (8 + (lbl x5_ 14)))), (5, .ref a4_), (0, .ref (q 0)), (1, .ref o), (2, .ref k.2.1), (3, .int (nI w)), (4, .ref a3_)]) hx hb dL_write_166 hl (by decide) rfl (fun ls hl => ?_)
        have LP168_8 : ∀ (kk8 : Nat) (i : Nat) (M : mlS) (ol : Nat) (n : Nat) (rr : Nat → Option Nat) (r : Nat → Nat) (fs : Nat → Int32) (fa : Nat → Int32) (fb : Nat → Int32) (d : Nat) (dD : Nat → Int32), 22 - i < kk8 → (i ≤ (8 + (lbl x5_ 14))) → (lsI fk1 n rr r fs fa fb M 0) → (lwI n d fs fa fb dD) → (n + d ≤ 30) → ∀ cells slots : Nat, cells ≤ 20 + 2 * i → slots ≤ 300 + 36 * i → ∀ (H : Heap) (locs : List Loc), va_P G.1 vwCl (lxF [mlW G q M, [(o, .inr (10, [.ref ok1, .ref ol, .ref on]))], [(ok1, .inl (G.2.1, 8, .inl fk1))], [(ol, lxq k n rr)], lrB G r fs fa fb n, [(a4_, .inl (G.2.1, 40, .inl dD))]]) H → va_D A (lxF [mlW G q M, [(o, .inr (10, [.ref ok1, .ref ol, .ref on]))], [(ok1, .inl (G.2.1, 8, .inl fk1))], [(ol, lxq k n rr)], lrB G r fs fa fb n, [(a4_, .inl (G.2.1, 40, .inl dD))]]) → va_S A s.heap H locs → ∀ ls : Array Slot, lv_has ls 9 [(0, .ref (q 0)), (1, .ref o), (2, .ref k.2.1), (3, .int (nI w)), (4, .ref a3_), (5, .ref a4_), (6, .int (nI (8 + (lbl x5_ 14)))), (7, .int (nI i))] → W p l e ({ frames := 9, cells := 140, slots := 2400, locals := 220 } : Room) s m args below meth c H locs cells slots (lyZ 140 2400 G args s below A (fun B v => v = some (.int 1) ∧ ∃ (M1 : mlS) (ok1 ol1 n1 : Nat) (rr1 : Nat → Option Nat) (r1 : Nat → Nat) (fk1 fs1 fa1 fb1 : Nat → Int32), B = [mlW G q M1, [(o, .inr (10, [.ref ok1, .ref ol1, .ref on]))], [(ok1, .inl (G.2.1, 8, .inl fk1))], [(ol1, lxq k n1 rr1)], lrB G r1 fs1 fa1 fb1 n1] ∧ qz_K fk1 ∧ lsI fk1 n1 rr1 r1 fs1 fa1 fb1 M1 0 ∧ qz_G n1 fk1 fs1 fa1 fb1)) (F0 m 168 ls []) := by
          intro kk8
          induction kk8 with
          | zero =>
            intro i M ol n rr r fs fa fb d dD hm
            exact absurd hm (Nat.not_lt_zero _)
          | succ kk8 ih8 =>
            intro i M ol n rr r fs fa fb d dD hm8 hi hI hW hnd cells slots hcc8 hss8 H locs hP hD hS ls hl
            refine lv_iload hx hb dL_write_168 (lv_at hl 7 rfl) ?_
            refine lv_iload hx hb dL_write_170 (lv_at hl 6 rfl) ?_
            refine lv_icmp_ge (tgt := 246) hx hb dL_write_172 (by decide) (fun c9 => ?_) (fun c9 => ?_)
            · have nc9 := (nI_leI (a := (8 + (lbl x5_ 14))) (b := i) (by omega) (by omega)).mp c9
              exact LP246_5 31 M ol n rr r fs fa fb d dD (by omega) (hI) (hW) (hnd) _ _ (by omega) (by omega) _ _ hP hD hS ls (lv_sub hl [0, 1, 5] rfl)
            · have nc9 := (not_congr (nI_leI (a := (8 + (lbl x5_ 14))) (b := i) (by omega) (by omega))).mp c9
              have hd0 : dD 0 = nI d := by obtain ⟨-, -, -, -, st, -, -, s3, -⟩ := hW; exact s3
              refine lv_aload_n hx hb dL_write_175 rfl (lv_at hl 1 rfl) ?_
              refine lb_get (ci := 10) (v := .ref ol) (C := RX10) (T := TX10) (N := 3) hx hb hts owX10 hown hK hP 1 0 rfl rfl rfl 1 (by decide) (bw13 (w := Cond.fieldLink RL 9 "DropflagMillLaw$Own" "lines" "[[I") hts 31 rfl) (fun _ h9 => h9) rfl dL_write_176 ?_
              refine lb_alenq (v := nI n) hx hb hK hE hP 3 0 rfl rfl rfl dL_write_179 ?_
              refine lv_aload hx hb dL_write_180 (lv_at hl 5 rfl) ?_
              refine lv_iconst (v := 0) hx hb dL_write_182 (by decide) ?_
              refine lb_iald (v := nI d) hx hb hK hP 5 0 rfl rfl (i := 0) (vp_in_nI (n := 0) (by omega) (by omega)) hd0 dL_write_183 ?_
              refine lv_iadd hx hb dL_write_184 ?_
              rw [show ((nI n) + (nI d) : Int32) = nI (n + d) from nI_add n d]
              refine lv_bipush (v := 30) hx hb dL_write_185 (by decide) ?_
              refine lv_icmp_ge (tgt := 246) hx hb dL_write_187 (by decide) (fun c10 => ?_) (fun c10 => ?_)
              · have nc10 := (nI_leI (a := 30) (b := (n + d)) (by omega) (by omega)).mp c10
                exact LP246_5 31 M ol n rr r fs fa fb d dD (by omega) (hI) (hW) (hnd) _ _ (by omega) (by omega) _ _ hP hD hS ls (lv_sub hl [0, 1, 5] rfl)
              · have nc10 := (not_congr (nI_leI (a := 30) (b := (n + d)) (by omega) (by omega))).mp c10
                refine lv_aload_n hx hb dL_write_190 rfl (lv_at hl 0 rfl) ?_
                refine lv_aload_n hx hb dL_write_191 rfl (lv_at hl 1 rfl) ?_
                refine lv_aload_n hx hb dL_write_192 rfl (lv_at hl 2 rfl) ?_
                refine lv_iload hx hb dL_write_193 (lv_at hl 7 rfl) ?_
                refine lv_iload_n hx hb dL_write_195 rfl (lv_at hl 3 rfl) ?_
                refine lv_iadd hx hb dL_write_196 ?_
                rw [show ((nI i) + (nI w) : Int32) = nI (i + w) from nI_add i w]
                refine lv_bipush (v := 16) hx hb dL_write_197 (by decide) ?_
                refine lv_irem hx hb dL_write_199 (by decide) ?_
                rw [show ((nI (i + w)) - (nI (i + w)) / 16 * 16 : Int32) = nI ((i + w) % 16) from pk_rem (d := 16) (by omega) (by omega) (by omega)]
                refine ly_s (As := [.ref k.2.1, .int (nI ((i + w) % 16))]) (rest := [.ref o, .ref (q 0)]) hx hb hml hown hts (t_L_cell l G k ((i + w) % 16) (by omega) hk) 2 (sxGS (bi13 (w := Cond.methodLink RL 57 yL_cell) 59 rfl) (bi14 (w := Cond.static yL_cell) 0 rfl) (bi13 (w := Cond.initialized RL) 44 rfl) (bi13 (w := Cond.code yL_cell cL_cell 2 (some .int)) 29 rfl)) rfl (by decide +kernel) ⟨Nat.le_of_ble_eq_true rfl, Nat.le_of_ble_eq_true rfl⟩ hK hP hD hS hA hE [] [0, 1, 2, 3, 4, 5] rfl rfl (by show List.Perm _ (List.range 6); decide) rfl hl rfl (Nat.le_of_ble_eq_true rfl) ⟨by show _ ≤ 140; omega, by show _ ≤ 2400; omega⟩ dL_write_200 (fun B1 v1 hp1 H locs hP hD hS => ?_)
                obtain ⟨rfl, x6_, rfl⟩ := hp1
                show W p l e _ s m args below meth c H locs _ _ _ (F0 m 203 ls [.int x6_, .ref o, .ref (q 0)])
                have hP : va_P G.1 vwCl (lxF [mlW G q M, [(o, .inr (10, [.ref ok1, .ref ol, .ref on]))], [(ok1, .inl (G.2.1, 8, .inl fk1))], [(ol, lxq k n rr)], lrB G r fs fa fb n, [(a4_, .inl (G.2.1, 40, .inl dD))]]) H := hP
                have hD : va_D A (lxF [mlW G q M, [(o, .inr (10, [.ref ok1, .ref ol, .ref on]))], [(ok1, .inl (G.2.1, 8, .inl fk1))], [(ol, lxq k n rr)], lrB G r fs fa fb n, [(a4_, .inl (G.2.1, 40, .inl dD))]]) := hD
                refine lv_bipush (v := 31) hx hb dL_write_203 (by decide) ?_
                refine lv_iload hx hb dL_write_205 (lv_at hl 7 rfl) ?_
                refine lv_imul hx hb dL_write_207 ?_
                rw [show ((31 : Int32) * (nI i) : Int32) = nI (31 * i) from pk_mul 31 i]
                refine lv_iadd hx hb dL_write_208 ?_
                refine lv_aload_n hx hb dL_write_209 rfl (lv_at hl 2 rfl) ?_
                refine lv_iconst (v := 3) hx hb dL_write_210 (by decide) ?_
                refine lv_iload hx hb dL_write_211 (lv_at hl 7 rfl) ?_
                refine lv_imul hx hb dL_write_213 ?_
                rw [show ((3 : Int32) * (nI i) : Int32) = nI (3 * i) from pk_mul 3 i]
                refine lv_iload_n hx hb dL_write_214 rfl (lv_at hl 3 rfl) ?_
                refine lv_iadd hx hb dL_write_215 ?_
                rw [show ((nI (3 * i)) + (nI w) : Int32) = nI ((3 * i) + w) from nI_add (3 * i) w]
                refine lv_iconst (v := 1) hx hb dL_write_216 (by decide) ?_
                refine lv_iadd hx hb dL_write_217 ?_
                rw [show ((nI ((3 * i) + w)) + 1 : Int32) = nI (((3 * i) + w) + 1) from nI_add ((3 * i) + w) 1]
                refine lv_bipush (v := 16) hx hb dL_write_218 (by decide) ?_
                refine lv_irem hx hb dL_write_220 (by decide) ?_
                rw [show ((nI (((3 * i) + w) + 1)) - (nI (((3 * i) + w) + 1)) / 16 * 16 : Int32) = nI ((((3 * i) + w) + 1) % 16) from pk_rem (d := 16) (by omega) (by omega) (by omega)]
                refine ly_s (As := [.ref k.2.1, .int (nI ((((3 * i) + w) + 1) % 16))]) (rest := [.int (x6_ + (nI (31 * i))), .ref o, .ref (q 0)]) hx hb hml hown hts (t_L_cell l G k ((((3 * i) + w) + 1) % 16) (by omega) hk) 2 (sxGS (bi13 (w := Cond.methodLink RL 57 yL_cell) 59 rfl) (bi14 (w := Cond.static yL_cell) 0 rfl) (bi13 (w := Cond.initialized RL) 44 rfl) (bi13 (w := Cond.code yL_cell cL_cell 2 (some .int)) 29 rfl)) rfl (by decide +kernel) ⟨Nat.le_of_ble_eq_true rfl, Nat.le_of_ble_eq_true rfl⟩ hK hP hD hS hA hE [] [0, 1, 2, 3, 4, 5] rfl rfl (by show List.Perm _ (List.range 6); decide) rfl hl rfl (Nat.le_of_ble_eq_true rfl) ⟨by show _ ≤ 140; omega, by show _ ≤ 2400; omega⟩ dL_write_221 (fun B1 v1 hp1 H locs hP hD hS => ?_)
                obtain ⟨rfl, x7_, rfl⟩ := hp1
                show W p l e _ s m args below meth c H locs _ _ _ (F0 m 224 ls [.int x7_, .int (x6_ + (nI (31 * i))), .ref o, .ref (q 0)])
                have hP : va_P G.1 vwCl (lxF [mlW G q M, [(o, .inr (10, [.ref ok1, .ref ol, .ref on]))], [(ok1, .inl (G.2.1, 8, .inl fk1))], [(ol, lxq k n rr)], lrB G r fs fa fb n, [(a4_, .inl (G.2.1, 40, .inl dD))]]) H := hP
                have hD : va_D A (lxF [mlW G q M, [(o, .inr (10, [.ref ok1, .ref ol, .ref on]))], [(ok1, .inl (G.2.1, 8, .inl fk1))], [(ol, lxq k n rr)], lrB G r fs fa fb n, [(a4_, .inl (G.2.1, 40, .inl dD))]]) := hD
                refine lv_bipush (v := 7) hx hb dL_write_224 (by decide) ?_
                refine lv_iload hx hb dL_write_226 (lv_at hl 7 rfl) ?_
                refine lv_imul hx hb dL_write_228 ?_
                rw [show ((7 : Int32) * (nI i) : Int32) = nI (7 * i) from pk_mul 7 i]
                refine lv_iadd hx hb dL_write_229 ?_
                refine lv_aload hx hb dL_write_230 (lv_at hl 5 rfl) ?_
                refine ly_s (As := [.ref (q 0), .ref o, .int (x6_ + (nI (31 * i))), .int (x7_ + (nI (7 * i))), .ref a4_]) (rest := []) hx hb hml hown hts (t_L_line l G k q o ok1 ol on n rr r fk1 fs fa fb M 0 (x6_ + (nI (31 * i))) (x7_ + (nI (7 * i))) a4_ d dD hI hKz hW (by omega)) 5 (sxGS (bi14 (w := Cond.methodLink RL 65 yL_line) 3 rfl) (bi14 (w := Cond.static yL_line) 4 rfl) (bi13 (w := Cond.initialized RL) 44 rfl) (bi13 (w := Cond.code yL_line cL_line 10 (some .boolean)) 58 rfl)) rfl (by decide +kernel) ⟨Nat.le_of_ble_eq_true rfl, Nat.le_of_ble_eq_true rfl⟩ hK hP hD hS hA hE [0, 1, 2, 3, 4, 5] [] rfl rfl (by show List.Perm _ (List.range 6); decide) rfl hl rfl (Nat.le_of_ble_eq_true rfl) ⟨by show _ ≤ 140; omega, by show _ ≤ 2400; omega⟩ dL_write_232 (fun B1 v1 hp1 H locs hP hD hS => ?_)
                obtain ⟨rfl, M1, ol1, n1, rr1, r1, fs1, fa1, fb1, d1, dD1, rfl, hI1, hW1, hnd1⟩ := hp1
                show W p l e _ s m args below meth c H locs _ _ _ (F0 m 235 ls [.int 1])
                have hP : va_P G.1 vwCl (lxF [mlW G q M1, [(o, .inr (10, [.ref ok1, .ref ol1, .ref on]))], [(ok1, .inl (G.2.1, 8, .inl fk1))], [(ol1, lxq k n1 rr1)], lrB G r1 fs1 fa1 fb1 n1, [(a4_, .inl (G.2.1, 40, .inl dD1))]]) H := hP
                have hD : va_D A (lxF [mlW G q M1, [(o, .inr (10, [.ref ok1, .ref ol1, .ref on]))], [(ok1, .inl (G.2.1, 8, .inl fk1))], [(ol1, lxq k n1 rr1)], lrB G r1 fs1 fa1 fb1 n1, [(a4_, .inl (G.2.1, 40, .inl dD1))]]) := hD
                refine lv_if_ne (tgt := 240) hx hb dL_write_235 (by decide) (fun c11 => ?_) (fun c11 => absurd c11 (by decide))
                refine lv_iinc (v := nI (i + 1)) (lv' := [(7, .int (nI (i + 1))), (0, .ref (q 0)), (1, .ref o), (2, .ref k.2.1), (3, .int (nI w)), (4, .ref a3_), (5, .ref a4_), (6, .int (nI (8 + (lbl x5_ 14))))]) hx hb dL_write_240 hl (k := 7) rfl (nI_1 i) (by decide) rfl (fun ls hl => ?_)
                refine lv_goto (tgt := 168) hx hb dL_write_243 (by decide) ?_
                exact ih8 (i + 1) M1 ol1 n1 rr1 r1 fs1 fa1 fb1 d1 dD1 (by omega) (by omega) (hI1) (hW1) (hnd1) _ _ (by omega) (by omega) _ _ hP hD hS ls (lv_sub hl [1, 2, 3, 4, 5, 6, 7, 0] rfl)
        exact LP168_8 23 0 M ol n rr r fs fa fb 0 (fun _ => 0) (by omega) (Nat.zero_le _) (hI) (hW) (by omega) _ _ (by omega) (by omega) _ _ hP hD hS ls (lv_sub hl [3, 4, 5, 6, 7, 2, 1, 0] rfl)
      · have nc4 := (not_congr (nI_leI (a := 4) (b := i) (by omega) (by omega))).mp c4
        refine lv_aload hx hb dL_write_82 (lv_at hl 5 rfl) ?_
        refine lv_iload hx hb dL_write_84 (lv_at hl 7 rfl) ?_
        obtain ⟨pf, ef, hpf⟩ := lwF_at (i := i) (by omega)
        have hkf := lwF_kd hKz hpf
        refine lb_iald (v := nI pf) hx hb hK hP 5 0 rfl rfl (i := nI i) (vp_in_nI (n := i) (by omega) (by omega)) (by rw [nI_clamp (by omega)]; exact ef) dL_write_86 ?_
        refine lv_istore (lv' := [(8, .int (nI pf)), (0, .ref (q 0)), (1, .ref o), (2, .ref k.2.1), (3, .int (nI w)), (4, .ref a3_), (5, .ref a3_), (6, .int 4), (7, .int (nI i))]) hx hb dL_write_87 hl (by decide) rfl (fun ls hl => ?_)
        have hpf2 : pf < 24 := by omega
        refine lv_aload_n hx hb dL_write_89 rfl (lv_at hl 3 rfl) ?_
        refine lv_iload hx hb dL_write_90 (lv_at hl 0 rfl) ?_
        refine lv_iconst (v := 3) hx hb dL_write_92 (by decide) ?_
        refine lv_idiv hx hb dL_write_93 (by decide) ?_
        rw [show ((nI pf) / 3 : Int32) = nI (pf / 3) from pk_div (d := 3) (by omega) (by omega) (by omega)]
        refine lv_iload_n hx hb dL_write_94 rfl (lv_at hl 4 rfl) ?_
        refine lv_iadd hx hb dL_write_95 ?_
        rw [show ((nI (pf / 3)) + (nI w) : Int32) = nI ((pf / 3) + w) from nI_add (pf / 3) w]
        refine ly_s (As := [.ref k.2.1, .int (nI ((pf / 3) + w))]) (rest := []) hx hb hml hown hts (t_L_cell l G k ((pf / 3) + w) (by omega) hk) 2 (sxGS (bi13 (w := Cond.methodLink RL 57 yL_cell) 59 rfl) (bi14 (w := Cond.static yL_cell) 0 rfl) (bi13 (w := Cond.initialized RL) 44 rfl) (bi13 (w := Cond.code yL_cell cL_cell 2 (some .int)) 29 rfl)) rfl (by decide +kernel) ⟨Nat.le_of_ble_eq_true rfl, Nat.le_of_ble_eq_true rfl⟩ hK hP hD hS hA hE [] [0, 1, 2, 3, 4, 5] rfl rfl (by show List.Perm _ (List.range 6); decide) rfl hl rfl (Nat.le_of_ble_eq_true rfl) ⟨by show _ ≤ 140; omega, by show _ ≤ 2400; omega⟩ dL_write_96 (fun B1 v1 hp1 H locs hP hD hS => ?_)
        obtain ⟨rfl, x8_, rfl⟩ := hp1
        show W p l e _ s m args below meth c H locs _ _ _ (F0 m 99 ls [.int x8_])
        have hP : va_P G.1 vwCl (lxF [mlW G q M, [(o, .inr (10, [.ref ok1, .ref ol, .ref on]))], [(ok1, .inl (G.2.1, 8, .inl fk1))], [(ol, lxq k n rr)], lrB G r fs fa fb n, [(a3_, .inl (G.2.1, 4, .inl lwFi))]]) H := hP
        have hD : va_D A (lxF [mlW G q M, [(o, .inr (10, [.ref ok1, .ref ol, .ref on]))], [(ok1, .inl (G.2.1, 8, .inl fk1))], [(ol, lxq k n rr)], lrB G r fs fa fb n, [(a3_, .inl (G.2.1, 4, .inl lwFi))]]) := hD
        refine lv_iconst (v := 5) hx hb dL_write_99 (by decide) ?_
        refine ly_s (As := [.int x8_, .int 5]) (rest := []) hx hb hml hown hts (t_L_below l G k x8_ 5 (by decide) (by decide)) 2 (sxGS (bi13 (w := Cond.methodLink RL 29 yL_below) 42 rfl) (bi13 (w := Cond.static yL_below) 43 rfl) (bi13 (w := Cond.initialized RL) 44 rfl) (bi13 (w := Cond.code yL_below cL_below 2 (some .int)) 27 rfl)) rfl (by decide +kernel) ⟨Nat.le_of_ble_eq_true rfl, Nat.le_of_ble_eq_true rfl⟩ hK hP hD hS hA hE [] [0, 1, 2, 3, 4, 5] rfl rfl (by show List.Perm _ (List.range 6); decide) rfl hl rfl (Nat.le_of_ble_eq_true rfl) ⟨by show _ ≤ 140; omega, by show _ ≤ 2400; omega⟩ dL_write_100 (fun B1 v1 hp1 H locs hP hD hS => ?_)
        obtain ⟨rfl, rfl⟩ := hp1
        have hbl11 := lbl_lt x8_ (n := 5) (by decide)
        show W p l e _ s m args below meth c H locs _ _ _ (F0 m 103 ls [.int (nI (lbl x8_ 5))])
        have hP : va_P G.1 vwCl (lxF [mlW G q M, [(o, .inr (10, [.ref ok1, .ref ol, .ref on]))], [(ok1, .inl (G.2.1, 8, .inl fk1))], [(ol, lxq k n rr)], lrB G r fs fa fb n, [(a3_, .inl (G.2.1, 4, .inl lwFi))]]) H := hP
        have hD : va_D A (lxF [mlW G q M, [(o, .inr (10, [.ref ok1, .ref ol, .ref on]))], [(ok1, .inl (G.2.1, 8, .inl fk1))], [(ol, lxq k n rr)], lrB G r fs fa fb n, [(a3_, .inl (G.2.1, 4, .inl lwFi))]]) := hD
        refine lv_if_le (tgt := 136) hx hb dL_write_103 (by decide) (fun c12 => ?_) (fun c12 => ?_)
        · have nc12 := (nI_leI (a := (lbl x8_ 5)) (b := 0) (by omega) (by omega)).mp c12
          refine lv_iinc (v := nI (i + 1)) (lv' := [(7, .int (nI (i + 1))), (8, .int (nI pf)), (0, .ref (q 0)), (1, .ref o), (2, .ref k.2.1), (3, .int (nI w)), (4, .ref a3_), (5, .ref a3_), (6, .int 4)]) hx hb dL_write_136 hl (k := 8) rfl (nI_1 i) (by decide) rfl (fun ls hl => ?_)
          refine lv_goto (tgt := 75) hx hb dL_write_139 (by decide) ?_
          exact ih3 (i + 1) M ol n rr r fs fa fb (by omega) (by omega) (hI) (hW) (by omega) _ _ (by omega) (by omega) _ _ hP hD hS ls (lv_sub hl [2, 3, 4, 5, 6, 7, 8, 0] rfl)
        · have nc12 := (not_congr (nI_leI (a := (lbl x8_ 5)) (b := 0) (by omega) (by omega))).mp c12
          refine lv_aload_n hx hb dL_write_106 rfl (lv_at hl 1 rfl) ?_
          refine lv_aload_n hx hb dL_write_107 rfl (lv_at hl 2 rfl) ?_
          refine lv_iconst (v := 0) hx hb dL_write_108 (by decide) ?_
          refine lv_iload hx hb dL_write_109 (lv_at hl 0 rfl) ?_
          refine lv_aload_n hx hb dL_write_111 rfl (lv_at hl 3 rfl) ?_
          refine lv_iload hx hb dL_write_112 (lv_at hl 0 rfl) ?_
          refine lv_iconst (v := 3) hx hb dL_write_114 (by decide) ?_
          refine lv_idiv hx hb dL_write_115 (by decide) ?_
          rw [show ((nI pf) / 3 : Int32) = nI (pf / 3) from pk_div (d := 3) (by omega) (by omega) (by omega)]
          refine ly_s (As := [.ref k.2.1, .int (nI (pf / 3))]) (rest := [.int (nI pf), .int 0, .ref o, .ref (q 0)]) hx hb hml hown hts (t_L_cell l G k (pf / 3) (by omega) hk) 2 (sxGS (bi13 (w := Cond.methodLink RL 57 yL_cell) 59 rfl) (bi14 (w := Cond.static yL_cell) 0 rfl) (bi13 (w := Cond.initialized RL) 44 rfl) (bi13 (w := Cond.code yL_cell cL_cell 2 (some .int)) 29 rfl)) rfl (by decide +kernel) ⟨Nat.le_of_ble_eq_true rfl, Nat.le_of_ble_eq_true rfl⟩ hK hP hD hS hA hE [] [0, 1, 2, 3, 4, 5] rfl rfl (by show List.Perm _ (List.range 6); decide) rfl hl rfl (Nat.le_of_ble_eq_true rfl) ⟨by show _ ≤ 140; omega, by show _ ≤ 2400; omega⟩ dL_write_116 (fun B1 v1 hp1 H locs hP hD hS => ?_)
          obtain ⟨rfl, x9_, rfl⟩ := hp1
          show W p l e _ s m args below meth c H locs _ _ _ (F0 m 119 ls [.int x9_, .int (nI pf), .int 0, .ref o, .ref (q 0)])
          have hP : va_P G.1 vwCl (lxF [mlW G q M, [(o, .inr (10, [.ref ok1, .ref ol, .ref on]))], [(ok1, .inl (G.2.1, 8, .inl fk1))], [(ol, lxq k n rr)], lrB G r fs fa fb n, [(a3_, .inl (G.2.1, 4, .inl lwFi))]]) H := hP
          have hD : va_D A (lxF [mlW G q M, [(o, .inr (10, [.ref ok1, .ref ol, .ref on]))], [(ok1, .inl (G.2.1, 8, .inl fk1))], [(ol, lxq k n rr)], lrB G r fs fa fb n, [(a3_, .inl (G.2.1, 4, .inl lwFi))]]) := hD
          refine lv_iconst (v := 3) hx hb dL_write_119 (by decide) ?_
          refine lv_ishr hx hb dL_write_120 ?_
          refine lv_bipush (v := 9) hx hb dL_write_121 (by decide) ?_
          refine ly_s (As := [.int (x9_ >>> (3 &&& 31)), .int 9]) (rest := [.int (nI pf), .int 0, .ref o, .ref (q 0)]) hx hb hml hown hts (t_L_below l G k (x9_ >>> (3 &&& 31)) 9 (by decide) (by decide)) 2 (sxGS (bi13 (w := Cond.methodLink RL 29 yL_below) 42 rfl) (bi13 (w := Cond.static yL_below) 43 rfl) (bi13 (w := Cond.initialized RL) 44 rfl) (bi13 (w := Cond.code yL_below cL_below 2 (some .int)) 27 rfl)) rfl (by decide +kernel) ⟨Nat.le_of_ble_eq_true rfl, Nat.le_of_ble_eq_true rfl⟩ hK hP hD hS hA hE [] [0, 1, 2, 3, 4, 5] rfl rfl (by show List.Perm _ (List.range 6); decide) rfl hl rfl (Nat.le_of_ble_eq_true rfl) ⟨by show _ ≤ 140; omega, by show _ ≤ 2400; omega⟩ dL_write_123 (fun B1 v1 hp1 H locs hP hD hS => ?_)
          obtain ⟨rfl, rfl⟩ := hp1
          have hbl12 := lbl_lt (x9_ >>> (3 &&& 31)) (n := 9) (by decide)
          show W p l e _ s m args below meth c H locs _ _ _ (F0 m 126 ls [.int (nI (lbl (x9_ >>> (3 &&& 31)) 9)), .int (nI pf), .int 0, .ref o, .ref (q 0)])
          have hP : va_P G.1 vwCl (lxF [mlW G q M, [(o, .inr (10, [.ref ok1, .ref ol, .ref on]))], [(ok1, .inl (G.2.1, 8, .inl fk1))], [(ol, lxq k n rr)], lrB G r fs fa fb n, [(a3_, .inl (G.2.1, 4, .inl lwFi))]]) H := hP
          have hD : va_D A (lxF [mlW G q M, [(o, .inr (10, [.ref ok1, .ref ol, .ref on]))], [(ok1, .inl (G.2.1, 8, .inl fk1))], [(ol, lxq k n rr)], lrB G r fs fa fb n, [(a3_, .inl (G.2.1, 4, .inl lwFi))]]) := hD
          refine lv_iconst (v := 1) hx hb dL_write_126 (by decide) ?_
          refine lv_isub hx hb dL_write_127 ?_
          refine ly_s (As := [.ref (q 0), .ref o, .int 0, .int (nI pf), .int ((nI (lbl (x9_ >>> (3 &&& 31)) 9)) - 1)]) (rest := []) hx hb hml hown hts (t_L_add l G k q o ok1 ol on n rr r fk1 fs fa fb M 0 0 (nI pf) ((nI (lbl (x9_ >>> (3 &&& 31)) 9)) - 1) hI (lf0 (kA := qp_kd 8 fk1 pf) (lf_kd (by omega)) hkf (lf_small (c := (lbl (x9_ >>> (3 &&& 31)) 9)) (d := 1) (by omega) (by omega)))) 5 (sxGS (bi13 (w := Cond.methodLink RL 50 yL_add) 51 rfl) (bi13 (w := Cond.static yL_add) 52 rfl) (bi13 (w := Cond.initialized RL) 44 rfl) (bi13 (w := Cond.code yL_add cL_add 5 (some .boolean)) 40 rfl)) rfl (by decide +kernel) ⟨Nat.le_of_ble_eq_true rfl, Nat.le_of_ble_eq_true rfl⟩ hK hP hD hS hA hE [0, 1, 3, 4] [2, 5] rfl rfl (by show List.Perm _ (List.range 6); decide) rfl hl rfl (Nat.le_of_ble_eq_true rfl) ⟨by show _ ≤ 140; omega, by show _ ≤ 2400; omega⟩ dL_write_128 (fun B1 v1 hp1 H locs hP hD hS => ?_)
          obtain ⟨rfl, M1, ol1, n1, rr1, r1, fs1, fa1, fb1, rfl, hI1, hA1⟩ := hp1
          obtain ⟨hW1, hn1⟩ := lw_lgA hW hA1 (fun e => absurd e (by decide)) (by decide) (by decide) (by decide) (by decide)
          show W p l e _ s m args below meth c H locs _ _ _ (F0 m 131 ls [.int 1])
          have hP : va_P G.1 vwCl (lxF [mlW G q M1, [(o, .inr (10, [.ref ok1, .ref ol1, .ref on]))], [(ol1, lxq k n1 rr1)], lrB G r1 fs1 fa1 fb1 n1, [(ok1, .inl (G.2.1, 8, .inl fk1))], [(a3_, .inl (G.2.1, 4, .inl lwFi))]]) H := hP
          have hD : va_D A (lxF [mlW G q M1, [(o, .inr (10, [.ref ok1, .ref ol1, .ref on]))], [(ol1, lxq k n1 rr1)], lrB G r1 fs1 fa1 fb1 n1, [(ok1, .inl (G.2.1, 8, .inl fk1))], [(a3_, .inl (G.2.1, 4, .inl lwFi))]]) := hD
          obtain ⟨hP, hD⟩ := lb_sub (Cs := [mlW G q M1, [(o, .inr (10, [.ref ok1, .ref ol1, .ref on]))], [(ok1, .inl (G.2.1, 8, .inl fk1))], [(ol1, lxq k n1 rr1)], lrB G r1 fs1 fa1 fb1 n1, [(a3_, .inl (G.2.1, 4, .inl lwFi))]]) [0, 1, 4, 2, 3, 5] [] hP hD rfl (by show List.Perm _ (List.range 6); decide)
          refine lv_if_ne (tgt := 136) hx hb dL_write_131 (by decide) (fun c13 => ?_) (fun c13 => absurd c13 (by decide))
          refine lv_iinc (v := nI (i + 1)) (lv' := [(7, .int (nI (i + 1))), (8, .int (nI pf)), (0, .ref (q 0)), (1, .ref o), (2, .ref k.2.1), (3, .int (nI w)), (4, .ref a3_), (5, .ref a3_), (6, .int 4)]) hx hb dL_write_136 hl (k := 8) rfl (nI_1 i) (by decide) rfl (fun ls hl => ?_)
          refine lv_goto (tgt := 75) hx hb dL_write_139 (by decide) ?_
          exact ih3 (i + 1) M1 ol1 n1 rr1 r1 fs1 fa1 fb1 (by omega) (by omega) (hI1) (hW1) (by omega) _ _ (by omega) (by omega) _ _ hP hD hS ls (lv_sub hl [2, 3, 4, 5, 6, 7, 8, 0] rfl)
  exact LP75_3 5 0 M1 ol1 (0 + 1) rr1 r1 (upd (fun _ => 0) 0 0) (upd (fun _ => 0) 0 0) (upd (fun _ => 0) 0 ((nI (lbl x2_ 7)) - 2)) (by omega) (Nat.zero_le _) (hI1) (hW1) (by omega) _ _ (by omega) (by omega) _ _ hP hD hS ls (lv_sub hl [4, 5, 6, 7, 3, 2, 1, 0] rfl)
