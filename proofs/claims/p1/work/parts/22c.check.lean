set_option maxHeartbeats 8000000 in
set_option maxRecDepth 100000 in
theorem k_loans0 (l : Launch) (G : sxG) (k : pxC) (pg : Nat) (kl : Nat) (ll : Nat)  : pxM l yX14_loans (Cond.code yX14_loans cX14_loans 4 (some .int) :: bwA) 3 53 1 4 G k [(pg, .inr (19, [.ref kl, .ref ll])), (kl, .inr (4, [.int 0, .ref k.1, .int 0])), (ll, .inr (4, [.int 0, .ref k.1, .int 0]))] [.ref pg] (fun u : Unit => some (.int 0)) (fun u : Unit => ([(pg, .inr (19, [.ref kl, .ref ll])), (kl, .inr (4, [.int 0, .ref k.1, .int 0])), (ll, .inr (4, [.int 0, .ref k.1, .int 0]))] : va_W)) := by
  refine pxM.of (cc := cX14_loans) (maxL := 4) (by decide) rfl (Nat.le_of_ble_eq_true rfl) ?_
  intro p e s m args below meth c ⟨hx, hb, hr, hml, hown, hlk, hts, hK⟩ hin A hA hP hD hS hE ls hl
  have hl : lv_has ls 4 [(0, .ref pg)] := hl
  refine lv_iconst (v := 0) hx hb dX14_loans_0 (by decide) ?_
  refine lv_istore_n (lv' := [(1, .int 0), (0, .ref pg)]) hx hb dX14_loans_1 rfl hl (by decide) rfl (fun ls hl => ?_)
  refine lv_aload_n hx hb dX14_loans_2 rfl (lv_at hl 1 rfl) ?_
  refine va_get (D := G.1) (ci := 19) (v := .ref ll) (C := RX14) (T := TX14) (N := 2) hx hb hts oaX14 hown hK.1 hP 0 rfl rfl 1 (by decide) (aw (w := Cond.fieldLink RX14 18 "DropflagMillModel$Program" "lines" "Ljava/util/ArrayList;") hts (ai2 (w := Cond.fieldLink RX14 18 "DropflagMillModel$Program" "lines" "Ljava/util/ArrayList;") 33 rfl)) (fun _ h9 => h9) rfl dX14_loans_3 ?_
  refine px_v (As := []) (rest := []) (wr := [(pg, .inr (19, [.ref kl, .ref ll])), (kl, .inr (4, [.int 0, .ref k.1, .int 0]))]) hx hb hml hown hts (k_al_iterator0 l G k ll ) 0 (gAV idA (ai4 (w := Cond.methodLink RX14 60 yJx4a65c_iterator_32c93) 19 rfl) (ai4 (w := Cond.instanceMethod yJx4a65c_iterator_32c93) 20 rfl) (ai4 (w := Cond.selects RJx4a65c yJx4a65c_iterator_32c93 yJx4a65c_iterator_32c93) 21 rfl) (ai0 (w := Cond.initialized RJx4a65c) 31 rfl) (ai4 (w := Cond.code yJx4a65c_iterator_32c93 cJx4a65c_iterator_32c93 1 (some (.object "java/util/Iterator"))) 5 rfl)) rfl (by decide +kernel) ⟨(Nat.le_of_ble_eq_true rfl), (Nat.le_of_ble_eq_true rfl)⟩ hK hP hD hS hA hE [2] [0, 1] rfl (by decide) rfl (by decide) (by decide) 0 rfl rfl rfl hl rfl (Nat.le_of_ble_eq_true rfl) ⟨(Nat.le_of_ble_eq_true rfl), (Nat.le_of_ble_eq_true rfl)⟩ dX14_loans_6 (fun q1 H locs hP hD hS => ?_)
  have hP : va_P G.1 vwCl [(pg, .inr (19, [.ref kl, .ref ll])), (kl, .inr (4, [.int 0, .ref k.1, .int 0])), (q1, .inr (3, [.int 0, .int (-1), .int 0, .ref ll])), (ll, .inr (4, [.int 0, .ref k.1, .int 0]))] _ := hP
  have hD : va_D A [(pg, .inr (19, [.ref kl, .ref ll])), (kl, .inr (4, [.int 0, .ref k.1, .int 0])), (q1, .inr (3, [.int 0, .int (-1), .int 0, .ref ll])), (ll, .inr (4, [.int 0, .ref k.1, .int 0]))] := hD
  refine W.eq (g2 := F0 m _ ls [.ref q1]) rfl ?_
  refine W.widen (k := 1) (n := 4) (Nat.le_of_ble_eq_true rfl) (Nat.le_of_ble_eq_true rfl) ?_
  refine lv_astore_n (lv' := [(2, .ref q1), (1, .int 0), (0, .ref pg)]) hx hb dX14_loans_9 rfl hl (by decide) rfl (fun ls hl => ?_)
  refine lv_aload_n hx hb dX14_loans_10 rfl (lv_at hl 0 rfl) ?_
  refine px_f (As := []) (rest := []) (wr := [(pg, .inr (19, [.ref kl, .ref ll])), (kl, .inr (4, [.int 0, .ref k.1, .int 0]))]) hx hb hml hown hts (k_itr_hasNext0 l G k q1 ll ) 0 (gAF idA (x := yItr_hasNext) (ai4 (w := Cond.methodLink RX14 64 ⟨"java/util/Iterator", "hasNext", "()Z"⟩) 22 rfl) (ai4 (w := Cond.selects RJx35411 ⟨"java/util/Iterator", "hasNext", "()Z"⟩ yJx35411_hasNext_aae02) 23 rfl) (ai4 (w := Cond.instanceMethod yJx35411_hasNext_aae02) 24 rfl) (ai4 (w := Cond.initialized RJx35411) 8 rfl) (ai4 (w := Cond.code yJx35411_hasNext_aae02 cJx35411_hasNext_aae02 1 (some .boolean)) 11 rfl)) rfl hE.1.2.2.2.2.2.2.1 (by decide +kernel) ⟨(Nat.le_of_ble_eq_true rfl), (Nat.le_of_ble_eq_true rfl)⟩ hK hP hD hS hA hE [2, 3] [0, 1] rfl (by decide) rfl (by decide) (by decide) 0 rfl rfl rfl hl rfl (Nat.le_of_ble_eq_true rfl) ⟨(Nat.le_of_ble_eq_true rfl), (Nat.le_of_ble_eq_true rfl)⟩ dX14_loans_11 (fun u H locs hP hD hS => ?_)
  have hP : va_P G.1 vwCl [(pg, .inr (19, [.ref kl, .ref ll])), (kl, .inr (4, [.int 0, .ref k.1, .int 0])), (q1, .inr (3, [.int 0, .int (-1), .int 0, .ref ll])), (ll, .inr (4, [.int 0, .ref k.1, .int 0]))] _ := hP
  have hD : va_D A [(pg, .inr (19, [.ref kl, .ref ll])), (kl, .inr (4, [.int 0, .ref k.1, .int 0])), (q1, .inr (3, [.int 0, .int (-1), .int 0, .ref ll])), (ll, .inr (4, [.int 0, .ref k.1, .int 0]))] := hD
  refine W.eq (g2 := F0 m _ ls [.int 0]) rfl ?_
  refine lv_if_eq (tgt := 47) hx hb dX14_loans_16 (by decide) (fun c2 => ?_) (fun c2 => absurd c2 (by decide))
  refine lv_iload_n hx hb dX14_loans_47 rfl (lv_at hl 1 rfl) ?_
  refine W.widen (k := 1) (n := 4) (Nat.le_of_ble_eq_true rfl) (Nat.le_of_ble_eq_true rfl) ?_
  exact px_ri () hx hb hr hlk (hP.sub [0, 1, 3] rfl) (hD.sub [0, 1, 3] (by decide) rfl) hS rfl (rfl) dX14_loans_48

set_option maxHeartbeats 8000000 in
set_option maxRecDepth 100000 in
theorem k_join0 (l : Launch) (G : sxG) (k : pxC) (o : Nat) (pg : Nat) (a1 : Nat) (a2 : Nat) (a3 : Nat) (a4 : Nat) (a5 : Nat) (a6 : Nat)  : pxM l yX11_join (Cond.code yX11_join cX11_join 6 none :: bwA) 4 72 3 4 G k [(o, .inr (16, [.ref pg, .int 0, .int (-1), .ref a1, .ref a2, .ref a3, .ref a4, .ref a5, .ref a6])), (a1, .inl (k.2.2.2.2.1, 1, .inr (.inr (.inr (.inr (fun _ => none))))))] [.ref o] (fun u : Unit => none) (fun u : Unit => ([(o, .inr (16, [.ref pg, .int 0, .int (-1), .ref a1, .ref a2, .ref a3, .ref a4, .ref a5, .ref a6]))] : va_W)) := by
  refine pxM.of (cc := cX11_join) (maxL := 6) (by decide) rfl (Nat.le_of_ble_eq_true rfl) ?_
  intro p e s m args below meth c ⟨hx, hb, hr, hml, hown, hlk, hts, hK⟩ hin A hA hP hD hS hE ls hl
  have hl : lv_has ls 6 [(0, .ref o)] := hl
  refine va_new (ci := 4) (fs := [.int 0, .null, .int 0]) (C := RJx4a65c) (T := TJx4a65c) (N := 3) hx hb hts oaJx4a65c tyJx4a65c tyJx4a65c_ok hown (aw (w := Cond.classLink RX11 26 RJx4a65c) hts (ai1 (w := Cond.classLink RX11 26 RJx4a65c) 43 rfl)) (aw (w := Cond.instantiable RJx4a65c 3) hts (ai1 (w := Cond.instantiable RJx4a65c 3) 44 rfl)) (aw (w := Cond.initialized RJx4a65c) hts (ai0 (w := Cond.initialized RJx4a65c) 31 rfl)) hK.1 hP hD hS hA rfl dvJx4a65c (Nat.le_of_ble_eq_true rfl) (Nat.le_of_ble_eq_true rfl) dX11_join_0 (fun q1 H hP hD hS => ?_)
  have hP : va_P G.1 vwCl [(o, .inr (16, [.ref pg, .int 0, .int (-1), .ref a1, .ref a2, .ref a3, .ref a4, .ref a5, .ref a6])), (a1, .inl (k.2.2.2.2.1, 1, .inr (.inr (.inr (.inr (fun _ => none)))))), (q1, .inr (4, [.int 0, .null, .int 0]))] _ := hP
  have hD : va_D A [(o, .inr (16, [.ref pg, .int 0, .int (-1), .ref a1, .ref a2, .ref a3, .ref a4, .ref a5, .ref a6])), (a1, .inl (k.2.2.2.2.1, 1, .inr (.inr (.inr (.inr (fun _ => none)))))), (q1, .inr (4, [.int 0, .null, .int 0]))] := hD
  refine W.widen (k := 1) (n := 3) (Nat.le_of_ble_eq_true rfl) (Nat.le_of_ble_eq_true rfl) ?_
  refine lv_dup hx hb dX11_join_3 rfl ?_
  refine px_i (As := []) (rest := [.ref q1]) (wr := [(o, .inr (16, [.ref pg, .int 0, .int (-1), .ref a1, .ref a2, .ref a3, .ref a4, .ref a5, .ref a6])), (a1, .inl (k.2.2.2.2.1, 1, .inr (.inr (.inr (.inr (fun _ => none))))))]) hx hb hml hown hts (k_al_init l G k q1 ) 0 (gA idA (ai0 (w := Cond.code yJx4a65c_init_da8c8 cJx4a65c_init_da8c8 1 none) 12 rfl)) rfl (aw (w := Cond.initialized RJx4a65c) hts (ai0 (w := Cond.initialized RJx4a65c) 31 rfl)) (aw (w := Cond.methodLink RX11 72 yJx4a65c_init_da8c8) hts (ai1 (w := Cond.methodLink RX11 72 yJx4a65c_init_da8c8) 48 rfl)) (aw (w := Cond.instanceMethod yJx4a65c_init_da8c8) hts (ai1 (w := Cond.instanceMethod yJx4a65c_init_da8c8) 49 rfl)) rfl (by decide +kernel) ⟨(Nat.le_of_ble_eq_true rfl), (Nat.le_of_ble_eq_true rfl)⟩ hK hP hD hS hA hE [2] [0, 1] rfl (by decide) rfl (by decide) (by decide) rfl hl rfl (Nat.le_of_ble_eq_true rfl) ⟨(Nat.le_of_ble_eq_true rfl), (Nat.le_of_ble_eq_true rfl)⟩ dX11_join_4 (fun u H locs hP hD hS => ?_)
  have hP : va_P G.1 vwCl [(o, .inr (16, [.ref pg, .int 0, .int (-1), .ref a1, .ref a2, .ref a3, .ref a4, .ref a5, .ref a6])), (a1, .inl (k.2.2.2.2.1, 1, .inr (.inr (.inr (.inr (fun _ => none)))))), (q1, .inr (4, [.int 0, .ref k.1, .int 0]))] _ := hP
  have hD : va_D A [(o, .inr (16, [.ref pg, .int 0, .int (-1), .ref a1, .ref a2, .ref a3, .ref a4, .ref a5, .ref a6])), (a1, .inl (k.2.2.2.2.1, 1, .inr (.inr (.inr (.inr (fun _ => none)))))), (q1, .inr (4, [.int 0, .ref k.1, .int 0]))] := hD
  refine W.eq (g2 := F0 m _ ls [.ref q1]) rfl ?_
  refine lv_astore_n (lv' := [(1, .ref q1), (0, .ref o)]) hx hb dX11_join_7 rfl hl (by decide) rfl (fun ls hl => ?_)
  refine lv_aload_n hx hb dX11_join_8 rfl (lv_at hl 1 rfl) ?_
  refine va_get (D := G.1) (ci := 16) (v := .int 0) (C := RX11) (T := TX11) (N := 9) hx hb hts oaX11 hown hK.1 hP 0 rfl rfl 1 (by decide) (aw (w := Cond.fieldLink RX11 31 "DropflagMillModel$Check" "end" "I") hts (ai1 (w := Cond.fieldLink RX11 31 "DropflagMillModel$Check" "end" "I") 45 rfl)) (fun _ h9 => h9) rfl dX11_join_9 ?_
  refine lv_iconst (v := 1) hx hb dX11_join_12 (by decide) ?_
  refine lv_iadd hx hb dX11_join_13 ?_
  rw [show ((0 : Int32) + 1) = 1 from by decide]
  refine sx_newi hx hb (aw (w := Cond.arrayClass .int) hts (ahC (bi0 (w := Cond.arrayClass .int) 5 rfl))) hK hP hD hS hA 1 (by decide) (by decide) (Nat.le_of_ble_eq_true rfl) (Nat.le_of_ble_eq_true rfl) (Nat.le_of_ble_eq_true rfl) dX11_join_14 (fun q2 H hP hD hS => ?_)
  have hP : va_P G.1 vwCl [(o, .inr (16, [.ref pg, .int 0, .int (-1), .ref a1, .ref a2, .ref a3, .ref a4, .ref a5, .ref a6])), (a1, .inl (k.2.2.2.2.1, 1, .inr (.inr (.inr (.inr (fun _ => none)))))), (q1, .inr (4, [.int 0, .ref k.1, .int 0])), (q2, .inl (G.2.1, 1, .inl (fun _ => 0)))] _ := hP
  have hD : va_D A [(o, .inr (16, [.ref pg, .int 0, .int (-1), .ref a1, .ref a2, .ref a3, .ref a4, .ref a5, .ref a6])), (a1, .inl (k.2.2.2.2.1, 1, .inr (.inr (.inr (.inr (fun _ => none)))))), (q1, .inr (4, [.int 0, .ref k.1, .int 0])), (q2, .inl (G.2.1, 1, .inl (fun _ => 0)))] := hD
  refine W.widen (k := 2) (n := 4) (Nat.le_of_ble_eq_true rfl) (Nat.le_of_ble_eq_true rfl) ?_
  refine lv_astore_n (lv' := [(2, .ref q2), (1, .ref q1), (0, .ref o)]) hx hb dX11_join_16 rfl hl (by decide) rfl (fun ls hl => ?_)
  refine lv_iconst (v := 0) hx hb dX11_join_17 (by decide) ?_
  refine lv_istore_n (lv' := [(3, .int 0), (2, .ref q2), (1, .ref q1), (0, .ref o)]) hx hb dX11_join_18 rfl hl (by decide) rfl (fun ls hl => ?_)
  refine lv_iload_n hx hb dX11_join_19 rfl (lv_at hl 0 rfl) ?_
  refine lv_aload_n hx hb dX11_join_20 rfl (lv_at hl 3 rfl) ?_
  refine va_get (D := G.1) (ci := 16) (v := .int 0) (C := RX11) (T := TX11) (N := 9) hx hb hts oaX11 hown hK.1 hP 0 rfl rfl 1 (by decide) (aw (w := Cond.fieldLink RX11 31 "DropflagMillModel$Check" "end" "I") hts (ai1 (w := Cond.fieldLink RX11 31 "DropflagMillModel$Check" "end" "I") 45 rfl)) (fun _ h9 => h9) rfl dX11_join_21 ?_
  refine lv_icmp_gt (tgt := 66) hx hb dX11_join_24 (by decide) (fun c3 => absurd c3 (by decide)) (fun c3 => ?_)
  refine lv_aload_n hx hb dX11_join_27 rfl (lv_at hl 3 rfl) ?_
  refine va_get (D := G.1) (ci := 16) (v := .ref a1) (C := RX11) (T := TX11) (N := 9) hx hb hts oaX11 hown hK.1 hP 0 rfl rfl 3 (by decide) (aw (w := Cond.fieldLink RX11 36 "DropflagMillModel$Check" "next" "[[I") hts (ai1 (w := Cond.fieldLink RX11 36 "DropflagMillModel$Check" "next" "[[I") 38 rfl)) (fun _ h9 => h9) rfl dX11_join_28 ?_
  refine lv_iload_n hx hb dX11_join_31 rfl (lv_at hl 0 rfl) ?_
  refine lv_iload_n hx hb dX11_join_32 rfl (lv_at hl 0 rfl) ?_
  refine lv_aload_n hx hb dX11_join_33 rfl (lv_at hl 3 rfl) ?_
  refine va_get (D := G.1) (ci := 16) (v := .int 0) (C := RX11) (T := TX11) (N := 9) hx hb hts oaX11 hown hK.1 hP 0 rfl rfl 1 (by decide) (aw (w := Cond.fieldLink RX11 31 "DropflagMillModel$Check" "end" "I") hts (ai1 (w := Cond.fieldLink RX11 31 "DropflagMillModel$Check" "end" "I") 45 rfl)) (fun _ h9 => h9) rfl dX11_join_34 ?_
  refine lv_icmp_ne (tgt := 46) hx hb dX11_join_37 (by decide) (fun c4 => absurd c4 (by decide)) (fun c4 => ?_)
  refine lv_iconst (v := 0) hx hb dX11_join_40 (by decide) ?_
  refine sx_newi hx hb (aw (w := Cond.arrayClass .int) hts (ahC (bi0 (w := Cond.arrayClass .int) 5 rfl))) hK hP hD hS hA 0 (by decide) (by decide) (Nat.le_of_ble_eq_true rfl) (Nat.le_of_ble_eq_true rfl) (Nat.le_of_ble_eq_true rfl) dX11_join_41 (fun q5 H hP hD hS => ?_)
  have hP : va_P G.1 vwCl [(o, .inr (16, [.ref pg, .int 0, .int (-1), .ref a1, .ref a2, .ref a3, .ref a4, .ref a5, .ref a6])), (a1, .inl (k.2.2.2.2.1, 1, .inr (.inr (.inr (.inr (fun _ => none)))))), (q1, .inr (4, [.int 0, .ref k.1, .int 0])), (q2, .inl (G.2.1, 1, .inl (fun _ => 0))), (q5, .inl (G.2.1, 0, .inl (fun _ => 0)))] _ := hP
  have hD : va_D A [(o, .inr (16, [.ref pg, .int 0, .int (-1), .ref a1, .ref a2, .ref a3, .ref a4, .ref a5, .ref a6])), (a1, .inl (k.2.2.2.2.1, 1, .inr (.inr (.inr (.inr (fun _ => none)))))), (q1, .inr (4, [.int 0, .ref k.1, .int 0])), (q2, .inl (G.2.1, 1, .inl (fun _ => 0))), (q5, .inl (G.2.1, 0, .inl (fun _ => 0)))] := hD
  refine W.widen (k := 3) (n := 4) (Nat.le_of_ble_eq_true rfl) (Nat.le_of_ble_eq_true rfl) ?_
  refine lv_goto (tgt := 55) hx hb dX11_join_43 (by decide) ?_
  refine px_aastI hx hb hK hE hP hD hS 1 4 rfl rfl (i := 0) (by unfold vp_in; decide) dX11_join_55 (fun H locs hP hD hS => ?_)
  have hP : va_P G.1 vwCl [(o, .inr (16, [.ref pg, .int 0, .int (-1), .ref a1, .ref a2, .ref a3, .ref a4, .ref a5, .ref a6])), (a1, .inl (k.2.2.2.2.1, 1, .inr (.inr (.inr (.inr (va_up (fun _ => none) 0 (some q5))))))), (q1, .inr (4, [.int 0, .ref k.1, .int 0])), (q2, .inl (G.2.1, 1, .inl (fun _ => 0))), (q5, .inl (G.2.1, 0, .inl (fun _ => 0)))] _ := hP
  have hD : va_D A [(o, .inr (16, [.ref pg, .int 0, .int (-1), .ref a1, .ref a2, .ref a3, .ref a4, .ref a5, .ref a6])), (a1, .inl (k.2.2.2.2.1, 1, .inr (.inr (.inr (.inr (va_up (fun _ => none) 0 (some q5))))))), (q1, .inr (4, [.int 0, .ref k.1, .int 0])), (q2, .inl (G.2.1, 1, .inl (fun _ => 0))), (q5, .inl (G.2.1, 0, .inl (fun _ => 0)))] := hD
  refine lv_aload_n hx hb dX11_join_56 rfl (lv_at hl 1 rfl) ?_
  refine lv_iload_n hx hb dX11_join_57 rfl (lv_at hl 0 rfl) ?_
  refine lv_iconst (v := (-1)) hx hb dX11_join_58 (by decide) ?_
  refine va_iast hx hb hK.1 hP hD hS 3 0 rfl rfl (i := 0) (by unfold vp_in; decide) dX11_join_59 (fun H locs hP hD hS => ?_)
  have hP : va_P G.1 vwCl [(o, .inr (16, [.ref pg, .int 0, .int (-1), .ref a1, .ref a2, .ref a3, .ref a4, .ref a5, .ref a6])), (a1, .inl (k.2.2.2.2.1, 1, .inr (.inr (.inr (.inr (va_up (fun _ => none) 0 (some q5))))))), (q1, .inr (4, [.int 0, .ref k.1, .int 0])), (q2, .inl (G.2.1, 1, .inl (upd (fun _ => 0) 0 (-1)))), (q5, .inl (G.2.1, 0, .inl (fun _ => 0)))] _ := hP
  have hD : va_D A [(o, .inr (16, [.ref pg, .int 0, .int (-1), .ref a1, .ref a2, .ref a3, .ref a4, .ref a5, .ref a6])), (a1, .inl (k.2.2.2.2.1, 1, .inr (.inr (.inr (.inr (va_up (fun _ => none) 0 (some q5))))))), (q1, .inr (4, [.int 0, .ref k.1, .int 0])), (q2, .inl (G.2.1, 1, .inl (upd (fun _ => 0) 0 (-1)))), (q5, .inl (G.2.1, 0, .inl (fun _ => 0)))] := hD
  refine lv_iinc (v := 1) (lv' := [(3, .int 1), (2, .ref q2), (1, .ref q1), (0, .ref o)]) hx hb dX11_join_60 hl (k := 0) rfl (by decide) (by decide) rfl (fun ls hl => ?_)
  refine lv_goto (tgt := 19) hx hb dX11_join_63 (by decide) ?_
  refine lv_iload_n hx hb dX11_join_19 rfl (lv_at hl 0 rfl) ?_
  refine lv_aload_n hx hb dX11_join_20 rfl (lv_at hl 3 rfl) ?_
  refine va_get (D := G.1) (ci := 16) (v := .int 0) (C := RX11) (T := TX11) (N := 9) hx hb hts oaX11 hown hK.1 hP 0 rfl rfl 1 (by decide) (aw (w := Cond.fieldLink RX11 31 "DropflagMillModel$Check" "end" "I") hts (ai1 (w := Cond.fieldLink RX11 31 "DropflagMillModel$Check" "end" "I") 45 rfl)) (fun _ h9 => h9) rfl dX11_join_21 ?_
  refine lv_icmp_gt (tgt := 66) hx hb dX11_join_24 (by decide) (fun c6 => ?_) (fun c6 => absurd c6 (by decide))
  refine lv_iconst (v := 0) hx hb dX11_join_66 (by decide) ?_
  refine lv_istore_n (lv' := [(3, .int 0), (2, .ref q2), (1, .ref q1), (0, .ref o)]) hx hb dX11_join_67 rfl hl (by decide) rfl (fun ls hl => ?_)
  refine lv_iload_n hx hb dX11_join_68 rfl (lv_at hl 0 rfl) ?_
  refine lv_aload_n hx hb dX11_join_69 rfl (lv_at hl 3 rfl) ?_
  refine va_get (D := G.1) (ci := 16) (v := .int 0) (C := RX11) (T := TX11) (N := 9) hx hb hts oaX11 hown hK.1 hP 0 rfl rfl 1 (by decide) (aw (w := Cond.fieldLink RX11 31 "DropflagMillModel$Check" "end" "I") hts (ai1 (w := Cond.fieldLink RX11 31 "DropflagMillModel$Check" "end" "I") 45 rfl)) (fun _ h9 => h9) rfl dX11_join_70 ?_
  refine lv_icmp_ge (tgt := 268) hx hb dX11_join_73 (by decide) (fun c7 => ?_) (fun c7 => absurd c7 (by decide))
  refine lv_aload_n hx hb dX11_join_268 rfl (lv_at hl 2 rfl) ?_
  refine px_v (As := []) (rest := []) (wr := [(o, .inr (16, [.ref pg, .int 0, .int (-1), .ref a1, .ref a2, .ref a3, .ref a4, .ref a5, .ref a6])), (a1, .inl (k.2.2.2.2.1, 1, .inr (.inr (.inr (.inr (va_up (fun _ => none) 0 (some q5))))))), (q2, .inl (G.2.1, 1, .inl (upd (fun _ => 0) 0 (-1)))), (q5, .inl (G.2.1, 0, .inl (fun _ => 0)))]) hx hb hml hown hts (k_al_isEmpty0 l G k q1 ) 0 (gAV idA (ai1 (w := Cond.methodLink RX11 82 yJx4a65c_isEmpty_aae02) 50 rfl) (ai1 (w := Cond.instanceMethod yJx4a65c_isEmpty_aae02) 51 rfl) (ai1 (w := Cond.selects RJx4a65c yJx4a65c_isEmpty_aae02 yJx4a65c_isEmpty_aae02) 52 rfl) (ai0 (w := Cond.initialized RJx4a65c) 31 rfl) (ai0 (w := Cond.code yJx4a65c_isEmpty_aae02 cJx4a65c_isEmpty_aae02 1 (some .boolean)) 32 rfl)) rfl (by decide +kernel) ⟨(Nat.le_of_ble_eq_true rfl), (Nat.le_of_ble_eq_true rfl)⟩ hK hP hD hS hA hE [2] [0, 1, 3, 4] rfl (by decide) rfl (by decide) (by decide) 0 rfl rfl rfl hl rfl (Nat.le_of_ble_eq_true rfl) ⟨(Nat.le_of_ble_eq_true rfl), (Nat.le_of_ble_eq_true rfl)⟩ dX11_join_269 (fun u H locs hP hD hS => ?_)
  have hP : va_P G.1 vwCl [(o, .inr (16, [.ref pg, .int 0, .int (-1), .ref a1, .ref a2, .ref a3, .ref a4, .ref a5, .ref a6])), (a1, .inl (k.2.2.2.2.1, 1, .inr (.inr (.inr (.inr (va_up (fun _ => none) 0 (some q5))))))), (q2, .inl (G.2.1, 1, .inl (upd (fun _ => 0) 0 (-1)))), (q5, .inl (G.2.1, 0, .inl (fun _ => 0))), (q1, .inr (4, [.int 0, .ref k.1, .int 0]))] _ := hP
  have hD : va_D A [(o, .inr (16, [.ref pg, .int 0, .int (-1), .ref a1, .ref a2, .ref a3, .ref a4, .ref a5, .ref a6])), (a1, .inl (k.2.2.2.2.1, 1, .inr (.inr (.inr (.inr (va_up (fun _ => none) 0 (some q5))))))), (q2, .inl (G.2.1, 1, .inl (upd (fun _ => 0) 0 (-1)))), (q5, .inl (G.2.1, 0, .inl (fun _ => 0))), (q1, .inr (4, [.int 0, .ref k.1, .int 0]))] := hD
  refine W.eq (g2 := F0 m _ ls [.int 1]) rfl ?_
  refine lv_if_ne (tgt := 295) hx hb dX11_join_272 (by decide) (fun c8 => ?_) (fun c8 => absurd c8 (by decide))
  refine W.widen (k := 3) (n := 4) (Nat.le_of_ble_eq_true rfl) (Nat.le_of_ble_eq_true rfl) ?_
  exact px_rv () hx hb hr hlk (hP.sub [0] rfl) (hD.sub [0] (by decide) rfl) hS rfl dX11_join_295

set_option maxHeartbeats 8000000 in
set_option maxRecDepth 100000 in
theorem k_flow0 (l : Launch) (G : sxG) (k : pxC) (o : Nat) (pg : Nat) (a1 : Nat) (a2 : Nat) (a3 : Nat) (a4 : Nat) (a5 : Nat) (a6 : Nat)  : pxM l yX11_flow (Cond.code yX11_flow cX11_flow 11 (some .boolean) :: bwA) 0 12 0 0 G k [(o, .inr (16, [.ref pg, .int 0, .int (-1), .ref a1, .ref a2, .ref a3, .ref a4, .ref a5, .ref a6]))] [.ref o] (fun u : Unit => some (.int 0)) (fun u : Unit => ([(o, .inr (16, [.ref pg, .int 0, .int (-1), .ref a1, .ref a2, .ref a3, .ref a4, .ref a5, .ref a6]))] : va_W)) := by
  refine pxM.of (cc := cX11_flow) (maxL := 11) (by decide) rfl (Nat.le_of_ble_eq_true rfl) ?_
  intro p e s m args below meth c ⟨hx, hb, hr, hml, hown, hlk, hts, hK⟩ hin A hA hP hD hS hE ls hl
  have hl : lv_has ls 11 [(0, .ref o)] := hl
  refine lv_iconst (v := 0) hx hb dX11_flow_0 (by decide) ?_
  refine lv_istore_n (lv' := [(1, .int 0), (0, .ref o)]) hx hb dX11_flow_1 rfl hl (by decide) rfl (fun ls hl => ?_)
  refine lv_iconst (v := 0) hx hb dX11_flow_2 (by decide) ?_
  refine lv_istore_n (lv' := [(2, .int 0), (1, .int 0), (0, .ref o)]) hx hb dX11_flow_3 rfl hl (by decide) rfl (fun ls hl => ?_)
  refine lv_iload_n hx hb dX11_flow_4 rfl (lv_at hl 0 rfl) ?_
  refine lv_aload_n hx hb dX11_flow_5 rfl (lv_at hl 2 rfl) ?_
  refine va_get (D := G.1) (ci := 16) (v := .int 0) (C := RX11) (T := TX11) (N := 9) hx hb hts oaX11 hown hK.1 hP 0 rfl rfl 1 (by decide) (aw (w := Cond.fieldLink RX11 31 "DropflagMillModel$Check" "end" "I") hts (ai1 (w := Cond.fieldLink RX11 31 "DropflagMillModel$Check" "end" "I") 45 rfl)) (fun _ h9 => h9) rfl dX11_flow_6 ?_
  refine lv_icmp_ge (tgt := 261) hx hb dX11_flow_9 (by decide) (fun c1 => ?_) (fun c1 => absurd c1 (by decide))
  refine lv_iload_n hx hb dX11_flow_261 rfl (lv_at hl 1 rfl) ?_
  refine W.widen (k := 0) (n := 0) (Nat.le_of_ble_eq_true rfl) (Nat.le_of_ble_eq_true rfl) ?_
  exact px_ri () hx hb hr hlk (hP.sub [0] rfl) (hD.sub [0] (by decide) rfl) hS rfl (rfl) dX11_flow_262

set_option maxHeartbeats 8000000 in
set_option maxRecDepth 100000 in
theorem k_want0 (l : Launch) (G : sxG) (k : pxC) (o : Nat) (pg : Nat) (a1 : Nat) (a2 : Nat) (a3 : Nat) (a4 : Nat) (a5 : Nat) (a6 : Nat)  : pxM l yX11_want (Cond.code yX11_want cX11_want 4 (some .boolean) :: bwA) 0 12 0 0 G k [(o, .inr (16, [.ref pg, .int 0, .int (-1), .ref a1, .ref a2, .ref a3, .ref a4, .ref a5, .ref a6]))] [.ref o] (fun u : Unit => some (.int 0)) (fun u : Unit => ([(o, .inr (16, [.ref pg, .int 0, .int (-1), .ref a1, .ref a2, .ref a3, .ref a4, .ref a5, .ref a6]))] : va_W)) := by
  refine pxM.of (cc := cX11_want) (maxL := 4) (by decide) rfl (Nat.le_of_ble_eq_true rfl) ?_
  intro p e s m args below meth c ⟨hx, hb, hr, hml, hown, hlk, hts, hK⟩ hin A hA hP hD hS hE ls hl
  have hl : lv_has ls 4 [(0, .ref o)] := hl
  refine lv_iconst (v := 0) hx hb dX11_want_0 (by decide) ?_
  refine lv_istore_n (lv' := [(1, .int 0), (0, .ref o)]) hx hb dX11_want_1 rfl hl (by decide) rfl (fun ls hl => ?_)
  refine lv_aload_n hx hb dX11_want_2 rfl (lv_at hl 1 rfl) ?_
  refine va_get (D := G.1) (ci := 16) (v := .int 0) (C := RX11) (T := TX11) (N := 9) hx hb hts oaX11 hown hK.1 hP 0 rfl rfl 1 (by decide) (aw (w := Cond.fieldLink RX11 31 "DropflagMillModel$Check" "end" "I") hts (ai1 (w := Cond.fieldLink RX11 31 "DropflagMillModel$Check" "end" "I") 45 rfl)) (fun _ h9 => h9) rfl dX11_want_3 ?_
  refine lv_iconst (v := 1) hx hb dX11_want_6 (by decide) ?_
  refine lv_isub hx hb dX11_want_7 ?_
  rw [show ((0 : Int32) - 1) = (-1) from by decide]
  refine lv_istore_n (lv' := [(2, .int (-1)), (1, .int 0), (0, .ref o)]) hx hb dX11_want_8 rfl hl (by decide) rfl (fun ls hl => ?_)
  refine lv_iload_n hx hb dX11_want_9 rfl (lv_at hl 0 rfl) ?_
  refine lv_if_lt (tgt := 75) hx hb dX11_want_10 (by decide) (fun c1 => ?_) (fun c1 => absurd c1 (by decide))
  refine lv_iload_n hx hb dX11_want_75 rfl (lv_at hl 1 rfl) ?_
  refine W.widen (k := 0) (n := 0) (Nat.le_of_ble_eq_true rfl) (Nat.le_of_ble_eq_true rfl) ?_
  exact px_ri () hx hb hr hlk (hP.sub [0] rfl) (hD.sub [0] (by decide) rfl) hS rfl (rfl) dX11_want_76

set_option maxHeartbeats 8000000 in
set_option maxRecDepth 100000 in
theorem k_isWhole0 (l : Launch) (G : sxG) (k : pxC) (o : Nat) (pg : Nat) (a1 : Nat) (a2 : Nat) (a3 : Nat) (a4 : Nat) (a5 : Nat) (a6 : Nat)  : pxM l yX11_isWhole (Cond.code yX11_isWhole cX11_isWhole 1 (some .boolean) :: bwA) 0 12 0 0 G k [(o, .inr (16, [.ref pg, .int 0, .int (-1), .ref a1, .ref a2, .ref a3, .ref a4, .ref a5, .ref a6]))] [.ref o] (fun u : Unit => some (.int 1)) (fun u : Unit => ([(o, .inr (16, [.ref pg, .int 0, .int (-1), .ref a1, .ref a2, .ref a3, .ref a4, .ref a5, .ref a6]))] : va_W)) := by
  refine pxM.of (cc := cX11_isWhole) (maxL := 1) (by decide) rfl (Nat.le_of_ble_eq_true rfl) ?_
  intro p e s m args below meth c ⟨hx, hb, hr, hml, hown, hlk, hts, hK⟩ hin A hA hP hD hS hE ls hl
  have hl : lv_has ls 1 [(0, .ref o)] := hl
  refine lv_aload_n hx hb dX11_isWhole_0 rfl (lv_at hl 0 rfl) ?_
  refine va_get (D := G.1) (ci := 16) (v := .int (-1)) (C := RX11) (T := TX11) (N := 9) hx hb hts oaX11 hown hK.1 hP 0 rfl rfl 2 (by decide) (aw (w := Cond.fieldLink RX11 9 "DropflagMillModel$Check" "wrong" "I") hts (ai1 (w := Cond.fieldLink RX11 9 "DropflagMillModel$Check" "wrong" "I") 47 rfl)) (fun _ h9 => h9) rfl dX11_isWhole_1 ?_
  refine lv_iconst (v := (-1)) hx hb dX11_isWhole_4 (by decide) ?_
  refine lv_icmp_ne (tgt := 12) hx hb dX11_isWhole_5 (by decide) (fun c1 => absurd c1 (by decide)) (fun c1 => ?_)
  refine lv_iconst (v := 1) hx hb dX11_isWhole_8 (by decide) ?_
  refine lv_goto (tgt := 13) hx hb dX11_isWhole_9 (by decide) ?_
  refine W.widen (k := 0) (n := 0) (Nat.le_of_ble_eq_true rfl) (Nat.le_of_ble_eq_true rfl) ?_
  exact px_ri () hx hb hr hlk (hP.sub [0] rfl) (hD.sub [0] (by decide) rfl) hS rfl (rfl) dX11_isWhole_13

set_option maxHeartbeats 8000000 in
set_option maxRecDepth 100000 in
theorem k_check_init (l : Launch) (G : sxG) (k : pxC) (o : Nat) (pg : Nat) (kl : Nat) (ll : Nat)  : pxM l yX11_init (Cond.code yX11_init cX11_init 4 none :: bwA) 5 97 13 10 G k [(o, .inr (16, [.null, .int 0, .int 0, .null, .null, .null, .null, .null, .null])), (pg, .inr (19, [.ref kl, .ref ll])), (kl, .inr (4, [.int 0, .ref k.1, .int 0])), (ll, .inr (4, [.int 0, .ref k.1, .int 0]))] [.ref o, .ref pg] (fun u : Nat × Nat × Nat × Nat × Nat × Nat => none) (fun u : Nat × Nat × Nat × Nat × Nat × Nat => ([(o, .inr (16, [.ref pg, .int 0, .int (-1), .ref u.1, .ref u.2.1, .ref u.2.2.1, .ref u.2.2.2.1, .ref u.2.2.2.2.1, .ref u.2.2.2.2.2])), (pg, .inr (19, [.ref kl, .ref ll])), (kl, .inr (4, [.int 0, .ref k.1, .int 0])), (ll, .inr (4, [.int 0, .ref k.1, .int 0]))] : va_W)) := by
  refine pxM.of (cc := cX11_init) (maxL := 4) (by decide) rfl (Nat.le_of_ble_eq_true rfl) ?_
  intro p e s m args below meth c ⟨hx, hb, hr, hml, hown, hlk, hts, hK⟩ hin A hA hP hD hS hE ls hl
  have hl : lv_has ls 4 [(0, .ref o), (1, .ref pg)] := hl
  refine lv_aload_n hx hb dX11_init_0 rfl (lv_at hl 0 rfl) ?_
  refine W.objInit hx hb hown (aw (w := Cond.methodLink RX11 3 objectInit) hts (ai3 (w := Cond.methodLink RX11 3 objectInit) 42 rfl)) (aw (w := Cond.instanceMethod objectInit) hts (ahC (bi0 (w := Cond.instanceMethod objectInit) 2 rfl))) (aw (w := Cond.code objectInit ⟨#[0xb1]⟩ 1 none) hts (ahC (bi0 (w := Cond.code objectInit ⟨#[0xb1]⟩ 1 none) 3 rfl))) rfl (by rw [hml]; exact hl.1) rfl dX11_init_1 (Nat.le_of_ble_eq_true rfl) (Nat.le_of_ble_eq_true rfl) ?_
  refine W.eq (g2 := F0 m 4 ls []) rfl ?_
  refine lv_aload_n hx hb dX11_init_4 rfl (lv_at hl 0 rfl) ?_
  refine lv_iconst (v := (-1)) hx hb dX11_init_5 (by decide) ?_
  refine va_put (D := G.1) (ci := 16) (v := .int (-1)) (ty := .int) (C := RX11) (T := TX11) (N := 9) hx hb hts oaX11 tyX11 tyX11_ok nmX11 hown hK.1 hP hD hS 0 rfl rfl 2 (by decide) (aw (w := Cond.fieldLink RX11 9 "DropflagMillModel$Check" "wrong" "I") hts (ai1 (w := Cond.fieldLink RX11 9 "DropflagMillModel$Check" "wrong" "I") 47 rfl)) (fun _ h9 => h9) rfl (by decide +kernel) rfl rfl (Nat.le_of_ble_eq_true rfl) dX11_init_6 (fun H locs hP hD hS => ?_)
  have hP : va_P G.1 vwCl [(o, .inr (16, [.null, .int 0, .int (-1), .null, .null, .null, .null, .null, .null])), (pg, .inr (19, [.ref kl, .ref ll])), (kl, .inr (4, [.int 0, .ref k.1, .int 0])), (ll, .inr (4, [.int 0, .ref k.1, .int 0]))] _ := hP
  have hD : va_D A [(o, .inr (16, [.null, .int 0, .int (-1), .null, .null, .null, .null, .null, .null])), (pg, .inr (19, [.ref kl, .ref ll])), (kl, .inr (4, [.int 0, .ref k.1, .int 0])), (ll, .inr (4, [.int 0, .ref k.1, .int 0]))] := hD
  refine lv_aload_n hx hb dX11_init_9 rfl (lv_at hl 0 rfl) ?_
  refine lv_aload_n hx hb dX11_init_10 rfl (lv_at hl 1 rfl) ?_
  refine va_putF (D := G.1) (ci := 16) (v := .ref pg) (ty := .object "DropflagMillModel$Program") (C := RX11) (T := TX11) (N := 9) hx hb hts oaX11 tyX11 tyX11_ok nmX11 hown hK.1 hP hD hS 0 rfl rfl 0 (by decide) (aw (w := Cond.fieldLink RX11 15 "DropflagMillModel$Check" "program" "LDropflagMillModel$Program;") hts (ai1 (w := Cond.fieldLink RX11 15 "DropflagMillModel$Check" "program" "LDropflagMillModel$Program;") 34 rfl)) (fun _ h9 => h9) rfl hin rfl (by decide +kernel) rfl rfl (Nat.le_of_ble_eq_true rfl) dX11_init_11 (fun H locs hP hD hS => ?_)
  have hP : va_P G.1 vwCl [(o, .inr (16, [.ref pg, .int 0, .int (-1), .null, .null, .null, .null, .null, .null])), (pg, .inr (19, [.ref kl, .ref ll])), (kl, .inr (4, [.int 0, .ref k.1, .int 0])), (ll, .inr (4, [.int 0, .ref k.1, .int 0]))] _ := hP
  have hD : va_D A [(o, .inr (16, [.ref pg, .int 0, .int (-1), .null, .null, .null, .null, .null, .null])), (pg, .inr (19, [.ref kl, .ref ll])), (kl, .inr (4, [.int 0, .ref k.1, .int 0])), (ll, .inr (4, [.int 0, .ref k.1, .int 0]))] := hD
  refine lv_aload_n hx hb dX11_init_14 rfl (lv_at hl 0 rfl) ?_
  refine lv_aload_n hx hb dX11_init_15 rfl (lv_at hl 1 rfl) ?_
  refine va_get (D := G.1) (ci := 19) (v := .ref ll) (C := RX14) (T := TX14) (N := 2) hx hb hts oaX14 hown hK.1 hP 1 rfl rfl 1 (by decide) (aw (w := Cond.fieldLink RX11 19 "DropflagMillModel$Program" "lines" "Ljava/util/ArrayList;") hts (ai1 (w := Cond.fieldLink RX11 19 "DropflagMillModel$Program" "lines" "Ljava/util/ArrayList;") 35 rfl)) (fun _ h9 => h9) rfl dX11_init_16 ?_
  refine px_v (As := []) (rest := [.ref o]) (wr := [(o, .inr (16, [.ref pg, .int 0, .int (-1), .null, .null, .null, .null, .null, .null])), (pg, .inr (19, [.ref kl, .ref ll])), (kl, .inr (4, [.int 0, .ref k.1, .int 0]))]) hx hb hml hown hts (k_al_size l G k ll k.1 0 0 ) 0 (gAV idA (ai1 (w := Cond.methodLink RX11 25 yJx4a65c_size_8abf5) 53 rfl) (ai1 (w := Cond.instanceMethod yJx4a65c_size_8abf5) 54 rfl) (ai1 (w := Cond.selects RJx4a65c yJx4a65c_size_8abf5 yJx4a65c_size_8abf5) 55 rfl) (ai0 (w := Cond.initialized RJx4a65c) 31 rfl) (ai0 (w := Cond.code yJx4a65c_size_8abf5 cJx4a65c_size_8abf5 1 (some .int)) 3 rfl)) rfl (by decide +kernel) ⟨(Nat.le_of_ble_eq_true rfl), (Nat.le_of_ble_eq_true rfl)⟩ hK hP hD hS hA hE [3] [0, 1, 2] rfl (by decide) rfl (by decide) (by decide) 0 rfl rfl rfl hl rfl (Nat.le_of_ble_eq_true rfl) ⟨(Nat.le_of_ble_eq_true rfl), (Nat.le_of_ble_eq_true rfl)⟩ dX11_init_19 (fun u H locs hP hD hS => ?_)
  have hP : va_P G.1 vwCl [(o, .inr (16, [.ref pg, .int 0, .int (-1), .null, .null, .null, .null, .null, .null])), (pg, .inr (19, [.ref kl, .ref ll])), (kl, .inr (4, [.int 0, .ref k.1, .int 0])), (ll, .inr (4, [.int 0, .ref k.1, .int 0]))] _ := hP
  have hD : va_D A [(o, .inr (16, [.ref pg, .int 0, .int (-1), .null, .null, .null, .null, .null, .null])), (pg, .inr (19, [.ref kl, .ref ll])), (kl, .inr (4, [.int 0, .ref k.1, .int 0])), (ll, .inr (4, [.int 0, .ref k.1, .int 0]))] := hD
  refine W.eq (g2 := F0 m _ ls [.int 0, .ref o]) rfl ?_
  refine va_putF (D := G.1) (ci := 16) (v := .int 0) (ty := .int) (C := RX11) (T := TX11) (N := 9) hx hb hts oaX11 tyX11 tyX11_ok nmX11 hown hK.1 hP hD hS 0 rfl rfl 1 (by decide) (aw (w := Cond.fieldLink RX11 31 "DropflagMillModel$Check" "end" "I") hts (ai1 (w := Cond.fieldLink RX11 31 "DropflagMillModel$Check" "end" "I") 45 rfl)) (fun _ h9 => h9) rfl hin rfl (by decide +kernel) rfl rfl (Nat.le_of_ble_eq_true rfl) dX11_init_22 (fun H locs hP hD hS => ?_)
  have hP : va_P G.1 vwCl [(o, .inr (16, [.ref pg, .int 0, .int (-1), .null, .null, .null, .null, .null, .null])), (pg, .inr (19, [.ref kl, .ref ll])), (kl, .inr (4, [.int 0, .ref k.1, .int 0])), (ll, .inr (4, [.int 0, .ref k.1, .int 0]))] _ := hP
  have hD : va_D A [(o, .inr (16, [.ref pg, .int 0, .int (-1), .null, .null, .null, .null, .null, .null])), (pg, .inr (19, [.ref kl, .ref ll])), (kl, .inr (4, [.int 0, .ref k.1, .int 0])), (ll, .inr (4, [.int 0, .ref k.1, .int 0]))] := hD
  refine lv_aload_n hx hb dX11_init_25 rfl (lv_at hl 0 rfl) ?_
  refine lv_aload_n hx hb dX11_init_26 rfl (lv_at hl 0 rfl) ?_
  refine va_get (D := G.1) (ci := 16) (v := .int 0) (C := RX11) (T := TX11) (N := 9) hx hb hts oaX11 hown hK.1 hP 0 rfl rfl 1 (by decide) (aw (w := Cond.fieldLink RX11 31 "DropflagMillModel$Check" "end" "I") hts (ai1 (w := Cond.fieldLink RX11 31 "DropflagMillModel$Check" "end" "I") 45 rfl)) (fun _ h9 => h9) rfl dX11_init_27 ?_
  refine lv_iconst (v := 1) hx hb dX11_init_30 (by decide) ?_
  refine lv_iadd hx hb dX11_init_31 ?_
  rw [show ((0 : Int32) + 1) = 1 from by decide]
  refine px_anewI hx hb hown (aw (w := Cond.classLink RX11 34 "[I") hts (ai2 (w := Cond.classLink RX11 34 "[I") 54 rfl)) hK hE hP hD hS hA (n := 1) (by decide) 1 (by decide) (Nat.le_of_ble_eq_true rfl) (Nat.le_of_ble_eq_true rfl) (Nat.le_of_ble_eq_true rfl) dX11_init_32 (fun q1 H hP hD hS => ?_)
  have hP : va_P G.1 vwCl [(o, .inr (16, [.ref pg, .int 0, .int (-1), .null, .null, .null, .null, .null, .null])), (pg, .inr (19, [.ref kl, .ref ll])), (kl, .inr (4, [.int 0, .ref k.1, .int 0])), (ll, .inr (4, [.int 0, .ref k.1, .int 0])), (q1, .inl (k.2.2.2.2.1, 1, .inr (.inr (.inr (.inr (fun _ => none))))))] _ := hP
  have hD : va_D A [(o, .inr (16, [.ref pg, .int 0, .int (-1), .null, .null, .null, .null, .null, .null])), (pg, .inr (19, [.ref kl, .ref ll])), (kl, .inr (4, [.int 0, .ref k.1, .int 0])), (ll, .inr (4, [.int 0, .ref k.1, .int 0])), (q1, .inl (k.2.2.2.2.1, 1, .inr (.inr (.inr (.inr (fun _ => none))))))] := hD
  refine W.widen (k := 1) (n := 1) (Nat.le_of_ble_eq_true rfl) (Nat.le_of_ble_eq_true rfl) ?_
  refine va_putF (D := G.1) (ci := 16) (v := .ref q1) (ty := .array (.array .int)) (C := RX11) (T := TX11) (N := 9) hx hb hts oaX11 tyX11 tyX11_ok nmX11 hown hK.1 hP hD hS 0 rfl rfl 3 (by decide) (aw (w := Cond.fieldLink RX11 36 "DropflagMillModel$Check" "next" "[[I") hts (ai1 (w := Cond.fieldLink RX11 36 "DropflagMillModel$Check" "next" "[[I") 38 rfl)) (fun _ h9 => h9) rfl hin rfl (by decide +kernel) rfl rfl (Nat.le_of_ble_eq_true rfl) dX11_init_35 (fun H locs hP hD hS => ?_)
  have hP : va_P G.1 vwCl [(o, .inr (16, [.ref pg, .int 0, .int (-1), .ref q1, .null, .null, .null, .null, .null])), (pg, .inr (19, [.ref kl, .ref ll])), (kl, .inr (4, [.int 0, .ref k.1, .int 0])), (ll, .inr (4, [.int 0, .ref k.1, .int 0])), (q1, .inl (k.2.2.2.2.1, 1, .inr (.inr (.inr (.inr (fun _ => none))))))] _ := hP
  have hD : va_D A [(o, .inr (16, [.ref pg, .int 0, .int (-1), .ref q1, .null, .null, .null, .null, .null])), (pg, .inr (19, [.ref kl, .ref ll])), (kl, .inr (4, [.int 0, .ref k.1, .int 0])), (ll, .inr (4, [.int 0, .ref k.1, .int 0])), (q1, .inl (k.2.2.2.2.1, 1, .inr (.inr (.inr (.inr (fun _ => none))))))] := hD
  refine lv_iconst (v := 3) hx hb dX11_init_38 (by decide) ?_
  refine lv_aload_n hx hb dX11_init_39 rfl (lv_at hl 1 rfl) ?_
  refine va_get (D := G.1) (ci := 19) (v := .ref kl) (C := RX14) (T := TX14) (N := 2) hx hb hts oaX14 hown hK.1 hP 1 rfl rfl 0 (by decide) (aw (w := Cond.fieldLink RX11 40 "DropflagMillModel$Program" "kinds" "Ljava/util/ArrayList;") hts (ai3 (w := Cond.fieldLink RX11 40 "DropflagMillModel$Program" "kinds" "Ljava/util/ArrayList;") 37 rfl)) (fun _ h9 => h9) rfl dX11_init_40 ?_
  refine px_v (As := []) (rest := [.int 3]) (wr := [(o, .inr (16, [.ref pg, .int 0, .int (-1), .ref q1, .null, .null, .null, .null, .null])), (pg, .inr (19, [.ref kl, .ref ll])), (ll, .inr (4, [.int 0, .ref k.1, .int 0])), (q1, .inl (k.2.2.2.2.1, 1, .inr (.inr (.inr (.inr (fun _ => none))))))]) hx hb hml hown hts (k_al_size l G k kl k.1 0 0 ) 0 (gAV idA (ai1 (w := Cond.methodLink RX11 25 yJx4a65c_size_8abf5) 53 rfl) (ai1 (w := Cond.instanceMethod yJx4a65c_size_8abf5) 54 rfl) (ai1 (w := Cond.selects RJx4a65c yJx4a65c_size_8abf5 yJx4a65c_size_8abf5) 55 rfl) (ai0 (w := Cond.initialized RJx4a65c) 31 rfl) (ai0 (w := Cond.code yJx4a65c_size_8abf5 cJx4a65c_size_8abf5 1 (some .int)) 3 rfl)) rfl (by decide +kernel) ⟨(Nat.le_of_ble_eq_true rfl), (Nat.le_of_ble_eq_true rfl)⟩ hK hP hD hS hA hE [2] [0, 1, 3, 4] rfl (by decide) rfl (by decide) (by decide) 0 rfl rfl rfl hl rfl (Nat.le_of_ble_eq_true rfl) ⟨(Nat.le_of_ble_eq_true rfl), (Nat.le_of_ble_eq_true rfl)⟩ dX11_init_43 (fun u H locs hP hD hS => ?_)
  have hP : va_P G.1 vwCl [(o, .inr (16, [.ref pg, .int 0, .int (-1), .ref q1, .null, .null, .null, .null, .null])), (pg, .inr (19, [.ref kl, .ref ll])), (ll, .inr (4, [.int 0, .ref k.1, .int 0])), (q1, .inl (k.2.2.2.2.1, 1, .inr (.inr (.inr (.inr (fun _ => none)))))), (kl, .inr (4, [.int 0, .ref k.1, .int 0]))] _ := hP
  have hD : va_D A [(o, .inr (16, [.ref pg, .int 0, .int (-1), .ref q1, .null, .null, .null, .null, .null])), (pg, .inr (19, [.ref kl, .ref ll])), (ll, .inr (4, [.int 0, .ref k.1, .int 0])), (q1, .inl (k.2.2.2.2.1, 1, .inr (.inr (.inr (.inr (fun _ => none)))))), (kl, .inr (4, [.int 0, .ref k.1, .int 0]))] := hD
  refine W.eq (g2 := F0 m _ ls [.int 0, .int 3]) rfl ?_
  refine lv_imul hx hb dX11_init_46 ?_
  rw [show ((3 : Int32) * 0) = 0 from by decide]
  refine lv_istore_n (lv' := [(2, .int 0), (0, .ref o), (1, .ref pg)]) hx hb dX11_init_47 rfl hl (by decide) rfl (fun ls hl => ?_)
  refine lv_aload_n hx hb dX11_init_48 rfl (lv_at hl 1 rfl) ?_
  refine lv_aload_n hx hb dX11_init_49 rfl (lv_at hl 1 rfl) ?_
  refine va_get (D := G.1) (ci := 16) (v := .int 0) (C := RX11) (T := TX11) (N := 9) hx hb hts oaX11 hown hK.1 hP 0 rfl rfl 1 (by decide) (aw (w := Cond.fieldLink RX11 31 "DropflagMillModel$Check" "end" "I") hts (ai1 (w := Cond.fieldLink RX11 31 "DropflagMillModel$Check" "end" "I") 45 rfl)) (fun _ h9 => h9) rfl dX11_init_50 ?_
  refine lv_iconst (v := 1) hx hb dX11_init_53 (by decide) ?_
  refine lv_iadd hx hb dX11_init_54 ?_
  rw [show ((0 : Int32) + 1) = 1 from by decide]
  refine sx_newz hx hb (aw (w := Cond.arrayClass .boolean) hts (ahC (bi0 (w := Cond.arrayClass .boolean) 31 rfl))) hK hP hD hS hA 1 (by decide) (by decide) (Nat.le_of_ble_eq_true rfl) (Nat.le_of_ble_eq_true rfl) (Nat.le_of_ble_eq_true rfl) dX11_init_55 (fun q2 H hP hD hS => ?_)
  have hP : va_P G.1 vwCl [(o, .inr (16, [.ref pg, .int 0, .int (-1), .ref q1, .null, .null, .null, .null, .null])), (pg, .inr (19, [.ref kl, .ref ll])), (ll, .inr (4, [.int 0, .ref k.1, .int 0])), (q1, .inl (k.2.2.2.2.1, 1, .inr (.inr (.inr (.inr (fun _ => none)))))), (kl, .inr (4, [.int 0, .ref k.1, .int 0])), (q2, .inl (G.2.2, 1, .inl (fun _ => 0)))] _ := hP
  have hD : va_D A [(o, .inr (16, [.ref pg, .int 0, .int (-1), .ref q1, .null, .null, .null, .null, .null])), (pg, .inr (19, [.ref kl, .ref ll])), (ll, .inr (4, [.int 0, .ref k.1, .int 0])), (q1, .inl (k.2.2.2.2.1, 1, .inr (.inr (.inr (.inr (fun _ => none)))))), (kl, .inr (4, [.int 0, .ref k.1, .int 0])), (q2, .inl (G.2.2, 1, .inl (fun _ => 0)))] := hD
  refine W.widen (k := 2) (n := 2) (Nat.le_of_ble_eq_true rfl) (Nat.le_of_ble_eq_true rfl) ?_
  refine va_putF (D := G.1) (ci := 16) (v := .ref q2) (ty := .array .boolean) (C := RX11) (T := TX11) (N := 9) hx hb hts oaX11 tyX11 tyX11_ok nmX11 hown hK.1 hP hD hS 0 rfl rfl 4 (by decide) (aw (w := Cond.fieldLink RX11 43 "DropflagMillModel$Check" "isReached" "[Z") hts (ai2 (w := Cond.fieldLink RX11 43 "DropflagMillModel$Check" "isReached" "[Z") 41 rfl)) (fun _ h9 => h9) rfl hin rfl (by decide +kernel) rfl rfl (Nat.le_of_ble_eq_true rfl) dX11_init_57 (fun H locs hP hD hS => ?_)
  have hP : va_P G.1 vwCl [(o, .inr (16, [.ref pg, .int 0, .int (-1), .ref q1, .ref q2, .null, .null, .null, .null])), (pg, .inr (19, [.ref kl, .ref ll])), (ll, .inr (4, [.int 0, .ref k.1, .int 0])), (q1, .inl (k.2.2.2.2.1, 1, .inr (.inr (.inr (.inr (fun _ => none)))))), (kl, .inr (4, [.int 0, .ref k.1, .int 0])), (q2, .inl (G.2.2, 1, .inl (fun _ => 0)))] _ := hP
  have hD : va_D A [(o, .inr (16, [.ref pg, .int 0, .int (-1), .ref q1, .ref q2, .null, .null, .null, .null])), (pg, .inr (19, [.ref kl, .ref ll])), (ll, .inr (4, [.int 0, .ref k.1, .int 0])), (q1, .inl (k.2.2.2.2.1, 1, .inr (.inr (.inr (.inr (fun _ => none)))))), (kl, .inr (4, [.int 0, .ref k.1, .int 0])), (q2, .inl (G.2.2, 1, .inl (fun _ => 0)))] := hD
  refine lv_aload_n hx hb dX11_init_60 rfl (lv_at hl 1 rfl) ?_
  refine lv_aload_n hx hb dX11_init_61 rfl (lv_at hl 1 rfl) ?_
  refine va_get (D := G.1) (ci := 16) (v := .int 0) (C := RX11) (T := TX11) (N := 9) hx hb hts oaX11 hown hK.1 hP 0 rfl rfl 1 (by decide) (aw (w := Cond.fieldLink RX11 31 "DropflagMillModel$Check" "end" "I") hts (ai1 (w := Cond.fieldLink RX11 31 "DropflagMillModel$Check" "end" "I") 45 rfl)) (fun _ h9 => h9) rfl dX11_init_62 ?_
  refine lv_iconst (v := 1) hx hb dX11_init_65 (by decide) ?_
  refine lv_iadd hx hb dX11_init_66 ?_
  rw [show ((0 : Int32) + 1) = 1 from by decide]
  refine lv_iload_n hx hb dX11_init_67 rfl (lv_at hl 0 rfl) ?_
  refine px_multi (ty := .boolean) (nm := "[[Z") (nmA := "[Z") (by decide +kernel) (by decide +kernel) rfl rfl hx hb hown (aw (w := Cond.classLink RX11 47 "[[Z") hts (ai3 (w := Cond.classLink RX11 47 "[[Z") 43 rfl)) hE.1.2.2.2.2.2.1 (aw (w := Cond.arrayClass .boolean) hts (ahC (bi0 (w := Cond.arrayClass .boolean) 31 rfl))) hP hD hS hA (Nat.le_of_ble_eq_true rfl) (Nat.le_of_ble_eq_true rfl) dX11_init_68 (fun q3 H locs hP hD hS => ?_)
  have hP : va_P G.1 vwCl [(o, .inr (16, [.ref pg, .int 0, .int (-1), .ref q1, .ref q2, .null, .null, .null, .null])), (pg, .inr (19, [.ref kl, .ref ll])), (ll, .inr (4, [.int 0, .ref k.1, .int 0])), (q1, .inl (k.2.2.2.2.1, 1, .inr (.inr (.inr (.inr (fun _ => none)))))), (kl, .inr (4, [.int 0, .ref k.1, .int 0])), (q2, .inl (G.2.2, 1, .inl (fun _ => 0)))] _ := hP
  have hD : va_D A [(o, .inr (16, [.ref pg, .int 0, .int (-1), .ref q1, .ref q2, .null, .null, .null, .null])), (pg, .inr (19, [.ref kl, .ref ll])), (ll, .inr (4, [.int 0, .ref k.1, .int 0])), (q1, .inl (k.2.2.2.2.1, 1, .inr (.inr (.inr (.inr (fun _ => none)))))), (kl, .inr (4, [.int 0, .ref k.1, .int 0])), (q2, .inl (G.2.2, 1, .inl (fun _ => 0)))] := hD
  refine W.widen (k := 4) (n := 3) (Nat.le_of_ble_eq_true rfl) (Nat.le_of_ble_eq_true rfl) ?_
  refine va_putF (D := G.1) (ci := 16) (v := .ref q3) (ty := .array (.array .boolean)) (C := RX11) (T := TX11) (N := 9) hx hb hts oaX11 tyX11 tyX11_ok nmX11 hown hK.1 hP hD hS 0 rfl rfl 5 (by decide) (aw (w := Cond.fieldLink RX11 49 "DropflagMillModel$Check" "canHave" "[[Z") hts (ai2 (w := Cond.fieldLink RX11 49 "DropflagMillModel$Check" "canHave" "[[Z") 42 rfl)) (fun _ h9 => h9) rfl hin rfl (by decide +kernel) rfl rfl (Nat.le_of_ble_eq_true rfl) dX11_init_72 (fun H locs hP hD hS => ?_)
  have hP : va_P G.1 vwCl [(o, .inr (16, [.ref pg, .int 0, .int (-1), .ref q1, .ref q2, .ref q3, .null, .null, .null])), (pg, .inr (19, [.ref kl, .ref ll])), (ll, .inr (4, [.int 0, .ref k.1, .int 0])), (q1, .inl (k.2.2.2.2.1, 1, .inr (.inr (.inr (.inr (fun _ => none)))))), (kl, .inr (4, [.int 0, .ref k.1, .int 0])), (q2, .inl (G.2.2, 1, .inl (fun _ => 0)))] _ := hP
  have hD : va_D A [(o, .inr (16, [.ref pg, .int 0, .int (-1), .ref q1, .ref q2, .ref q3, .null, .null, .null])), (pg, .inr (19, [.ref kl, .ref ll])), (ll, .inr (4, [.int 0, .ref k.1, .int 0])), (q1, .inl (k.2.2.2.2.1, 1, .inr (.inr (.inr (.inr (fun _ => none)))))), (kl, .inr (4, [.int 0, .ref k.1, .int 0])), (q2, .inl (G.2.2, 1, .inl (fun _ => 0)))] := hD
  refine lv_aload_n hx hb dX11_init_75 rfl (lv_at hl 1 rfl) ?_
  refine lv_aload_n hx hb dX11_init_76 rfl (lv_at hl 1 rfl) ?_
  refine va_get (D := G.1) (ci := 16) (v := .int 0) (C := RX11) (T := TX11) (N := 9) hx hb hts oaX11 hown hK.1 hP 0 rfl rfl 1 (by decide) (aw (w := Cond.fieldLink RX11 31 "DropflagMillModel$Check" "end" "I") hts (ai1 (w := Cond.fieldLink RX11 31 "DropflagMillModel$Check" "end" "I") 45 rfl)) (fun _ h9 => h9) rfl dX11_init_77 ?_
  refine lv_iconst (v := 1) hx hb dX11_init_80 (by decide) ?_
  refine lv_iadd hx hb dX11_init_81 ?_
  rw [show ((0 : Int32) + 1) = 1 from by decide]
  refine lv_iload_n hx hb dX11_init_82 rfl (lv_at hl 0 rfl) ?_
  refine px_multi (ty := .boolean) (nm := "[[Z") (nmA := "[Z") (by decide +kernel) (by decide +kernel) rfl rfl hx hb hown (aw (w := Cond.classLink RX11 47 "[[Z") hts (ai3 (w := Cond.classLink RX11 47 "[[Z") 43 rfl)) hE.1.2.2.2.2.2.1 (aw (w := Cond.arrayClass .boolean) hts (ahC (bi0 (w := Cond.arrayClass .boolean) 31 rfl))) hP hD hS hA (Nat.le_of_ble_eq_true rfl) (Nat.le_of_ble_eq_true rfl) dX11_init_83 (fun q4 H locs hP hD hS => ?_)
  have hP : va_P G.1 vwCl [(o, .inr (16, [.ref pg, .int 0, .int (-1), .ref q1, .ref q2, .ref q3, .null, .null, .null])), (pg, .inr (19, [.ref kl, .ref ll])), (ll, .inr (4, [.int 0, .ref k.1, .int 0])), (q1, .inl (k.2.2.2.2.1, 1, .inr (.inr (.inr (.inr (fun _ => none)))))), (kl, .inr (4, [.int 0, .ref k.1, .int 0])), (q2, .inl (G.2.2, 1, .inl (fun _ => 0)))] _ := hP
  have hD : va_D A [(o, .inr (16, [.ref pg, .int 0, .int (-1), .ref q1, .ref q2, .ref q3, .null, .null, .null])), (pg, .inr (19, [.ref kl, .ref ll])), (ll, .inr (4, [.int 0, .ref k.1, .int 0])), (q1, .inl (k.2.2.2.2.1, 1, .inr (.inr (.inr (.inr (fun _ => none)))))), (kl, .inr (4, [.int 0, .ref k.1, .int 0])), (q2, .inl (G.2.2, 1, .inl (fun _ => 0)))] := hD
  refine W.widen (k := 6) (n := 4) (Nat.le_of_ble_eq_true rfl) (Nat.le_of_ble_eq_true rfl) ?_
  refine va_putF (D := G.1) (ci := 16) (v := .ref q4) (ty := .array (.array .boolean)) (C := RX11) (T := TX11) (N := 9) hx hb hts oaX11 tyX11 tyX11_ok nmX11 hown hK.1 hP hD hS 0 rfl rfl 6 (by decide) (aw (w := Cond.fieldLink RX11 52 "DropflagMillModel$Check" "canNot" "[[Z") hts (ai2 (w := Cond.fieldLink RX11 52 "DropflagMillModel$Check" "canNot" "[[Z") 43 rfl)) (fun _ h9 => h9) rfl hin rfl (by decide +kernel) rfl rfl (Nat.le_of_ble_eq_true rfl) dX11_init_87 (fun H locs hP hD hS => ?_)
  have hP : va_P G.1 vwCl [(o, .inr (16, [.ref pg, .int 0, .int (-1), .ref q1, .ref q2, .ref q3, .ref q4, .null, .null])), (pg, .inr (19, [.ref kl, .ref ll])), (ll, .inr (4, [.int 0, .ref k.1, .int 0])), (q1, .inl (k.2.2.2.2.1, 1, .inr (.inr (.inr (.inr (fun _ => none)))))), (kl, .inr (4, [.int 0, .ref k.1, .int 0])), (q2, .inl (G.2.2, 1, .inl (fun _ => 0)))] _ := hP
  have hD : va_D A [(o, .inr (16, [.ref pg, .int 0, .int (-1), .ref q1, .ref q2, .ref q3, .ref q4, .null, .null])), (pg, .inr (19, [.ref kl, .ref ll])), (ll, .inr (4, [.int 0, .ref k.1, .int 0])), (q1, .inl (k.2.2.2.2.1, 1, .inr (.inr (.inr (.inr (fun _ => none)))))), (kl, .inr (4, [.int 0, .ref k.1, .int 0])), (q2, .inl (G.2.2, 1, .inl (fun _ => 0)))] := hD
  refine lv_aload_n hx hb dX11_init_90 rfl (lv_at hl 1 rfl) ?_
  refine lv_aload_n hx hb dX11_init_91 rfl (lv_at hl 1 rfl) ?_
  refine va_get (D := G.1) (ci := 16) (v := .int 0) (C := RX11) (T := TX11) (N := 9) hx hb hts oaX11 hown hK.1 hP 0 rfl rfl 1 (by decide) (aw (w := Cond.fieldLink RX11 31 "DropflagMillModel$Check" "end" "I") hts (ai1 (w := Cond.fieldLink RX11 31 "DropflagMillModel$Check" "end" "I") 45 rfl)) (fun _ h9 => h9) rfl dX11_init_92 ?_
  refine lv_iconst (v := 1) hx hb dX11_init_95 (by decide) ?_
  refine lv_iadd hx hb dX11_init_96 ?_
  rw [show ((0 : Int32) + 1) = 1 from by decide]
  refine lv_aload_n hx hb dX11_init_97 rfl (lv_at hl 2 rfl) ?_
  refine va_get (D := G.1) (ci := 19) (v := .ref kl) (C := RX14) (T := TX14) (N := 2) hx hb hts oaX14 hown hK.1 hP 1 rfl rfl 0 (by decide) (aw (w := Cond.fieldLink RX11 40 "DropflagMillModel$Program" "kinds" "Ljava/util/ArrayList;") hts (ai3 (w := Cond.fieldLink RX11 40 "DropflagMillModel$Program" "kinds" "Ljava/util/ArrayList;") 37 rfl)) (fun _ h9 => h9) rfl dX11_init_98 ?_
  refine px_v (As := []) (rest := [.int 1, .ref o]) (wr := [(o, .inr (16, [.ref pg, .int 0, .int (-1), .ref q1, .ref q2, .ref q3, .ref q4, .null, .null])), (pg, .inr (19, [.ref kl, .ref ll])), (ll, .inr (4, [.int 0, .ref k.1, .int 0])), (q1, .inl (k.2.2.2.2.1, 1, .inr (.inr (.inr (.inr (fun _ => none)))))), (q2, .inl (G.2.2, 1, .inl (fun _ => 0)))]) hx hb hml hown hts (k_al_size l G k kl k.1 0 0 ) 0 (gAV idA (ai1 (w := Cond.methodLink RX11 25 yJx4a65c_size_8abf5) 53 rfl) (ai1 (w := Cond.instanceMethod yJx4a65c_size_8abf5) 54 rfl) (ai1 (w := Cond.selects RJx4a65c yJx4a65c_size_8abf5 yJx4a65c_size_8abf5) 55 rfl) (ai0 (w := Cond.initialized RJx4a65c) 31 rfl) (ai0 (w := Cond.code yJx4a65c_size_8abf5 cJx4a65c_size_8abf5 1 (some .int)) 3 rfl)) rfl (by decide +kernel) ⟨(Nat.le_of_ble_eq_true rfl), (Nat.le_of_ble_eq_true rfl)⟩ hK hP hD hS hA hE [4] [0, 1, 2, 3, 5] rfl (by decide) rfl (by decide) (by decide) 0 rfl rfl rfl hl rfl (Nat.le_of_ble_eq_true rfl) ⟨(Nat.le_of_ble_eq_true rfl), (Nat.le_of_ble_eq_true rfl)⟩ dX11_init_101 (fun u H locs hP hD hS => ?_)
  have hP : va_P G.1 vwCl [(o, .inr (16, [.ref pg, .int 0, .int (-1), .ref q1, .ref q2, .ref q3, .ref q4, .null, .null])), (pg, .inr (19, [.ref kl, .ref ll])), (ll, .inr (4, [.int 0, .ref k.1, .int 0])), (q1, .inl (k.2.2.2.2.1, 1, .inr (.inr (.inr (.inr (fun _ => none)))))), (q2, .inl (G.2.2, 1, .inl (fun _ => 0))), (kl, .inr (4, [.int 0, .ref k.1, .int 0]))] _ := hP
  have hD : va_D A [(o, .inr (16, [.ref pg, .int 0, .int (-1), .ref q1, .ref q2, .ref q3, .ref q4, .null, .null])), (pg, .inr (19, [.ref kl, .ref ll])), (ll, .inr (4, [.int 0, .ref k.1, .int 0])), (q1, .inl (k.2.2.2.2.1, 1, .inr (.inr (.inr (.inr (fun _ => none)))))), (q2, .inl (G.2.2, 1, .inl (fun _ => 0))), (kl, .inr (4, [.int 0, .ref k.1, .int 0]))] := hD
  refine W.eq (g2 := F0 m _ ls [.int 0, .int 1, .ref o]) rfl ?_
  refine px_multi (ty := .int) (nm := "[[I") (nmA := "[I") (by decide +kernel) (by decide +kernel) rfl rfl hx hb hown (aw (w := Cond.classLink RX11 55 "[[I") hts (ai3 (w := Cond.classLink RX11 55 "[[I") 44 rfl)) hE.1.2.2.2.2.1 (aw (w := Cond.arrayClass .int) hts (ahC (bi0 (w := Cond.arrayClass .int) 5 rfl))) hP hD hS hA (Nat.le_of_ble_eq_true rfl) (Nat.le_of_ble_eq_true rfl) dX11_init_104 (fun q5 H locs hP hD hS => ?_)
  have hP : va_P G.1 vwCl [(o, .inr (16, [.ref pg, .int 0, .int (-1), .ref q1, .ref q2, .ref q3, .ref q4, .null, .null])), (pg, .inr (19, [.ref kl, .ref ll])), (ll, .inr (4, [.int 0, .ref k.1, .int 0])), (q1, .inl (k.2.2.2.2.1, 1, .inr (.inr (.inr (.inr (fun _ => none)))))), (q2, .inl (G.2.2, 1, .inl (fun _ => 0))), (kl, .inr (4, [.int 0, .ref k.1, .int 0]))] _ := hP
  have hD : va_D A [(o, .inr (16, [.ref pg, .int 0, .int (-1), .ref q1, .ref q2, .ref q3, .ref q4, .null, .null])), (pg, .inr (19, [.ref kl, .ref ll])), (ll, .inr (4, [.int 0, .ref k.1, .int 0])), (q1, .inl (k.2.2.2.2.1, 1, .inr (.inr (.inr (.inr (fun _ => none)))))), (q2, .inl (G.2.2, 1, .inl (fun _ => 0))), (kl, .inr (4, [.int 0, .ref k.1, .int 0]))] := hD
  refine W.widen (k := 8) (n := 5) (Nat.le_of_ble_eq_true rfl) (Nat.le_of_ble_eq_true rfl) ?_
  refine va_putF (D := G.1) (ci := 16) (v := .ref q5) (ty := .array (.array .int)) (C := RX11) (T := TX11) (N := 9) hx hb hts oaX11 tyX11 tyX11_ok nmX11 hown hK.1 hP hD hS 0 rfl rfl 7 (by decide) (aw (w := Cond.fieldLink RX11 56 "DropflagMillModel$Check" "holds" "[[I") hts (ai2 (w := Cond.fieldLink RX11 56 "DropflagMillModel$Check" "holds" "[[I") 44 rfl)) (fun _ h9 => h9) rfl hin rfl (by decide +kernel) rfl rfl (Nat.le_of_ble_eq_true rfl) dX11_init_108 (fun H locs hP hD hS => ?_)
  have hP : va_P G.1 vwCl [(o, .inr (16, [.ref pg, .int 0, .int (-1), .ref q1, .ref q2, .ref q3, .ref q4, .ref q5, .null])), (pg, .inr (19, [.ref kl, .ref ll])), (ll, .inr (4, [.int 0, .ref k.1, .int 0])), (q1, .inl (k.2.2.2.2.1, 1, .inr (.inr (.inr (.inr (fun _ => none)))))), (q2, .inl (G.2.2, 1, .inl (fun _ => 0))), (kl, .inr (4, [.int 0, .ref k.1, .int 0]))] _ := hP
  have hD : va_D A [(o, .inr (16, [.ref pg, .int 0, .int (-1), .ref q1, .ref q2, .ref q3, .ref q4, .ref q5, .null])), (pg, .inr (19, [.ref kl, .ref ll])), (ll, .inr (4, [.int 0, .ref k.1, .int 0])), (q1, .inl (k.2.2.2.2.1, 1, .inr (.inr (.inr (.inr (fun _ => none)))))), (q2, .inl (G.2.2, 1, .inl (fun _ => 0))), (kl, .inr (4, [.int 0, .ref k.1, .int 0]))] := hD
  refine lv_aload_n hx hb dX11_init_111 rfl (lv_at hl 1 rfl) ?_
  refine lv_aload_n hx hb dX11_init_112 rfl (lv_at hl 1 rfl) ?_
  refine va_get (D := G.1) (ci := 16) (v := .int 0) (C := RX11) (T := TX11) (N := 9) hx hb hts oaX11 hown hK.1 hP 0 rfl rfl 1 (by decide) (aw (w := Cond.fieldLink RX11 31 "DropflagMillModel$Check" "end" "I") hts (ai1 (w := Cond.fieldLink RX11 31 "DropflagMillModel$Check" "end" "I") 45 rfl)) (fun _ h9 => h9) rfl dX11_init_113 ?_
  refine lv_iconst (v := 1) hx hb dX11_init_116 (by decide) ?_
  refine lv_iadd hx hb dX11_init_117 ?_
  rw [show ((0 : Int32) + 1) = 1 from by decide]
  refine lv_aload_n hx hb dX11_init_118 rfl (lv_at hl 2 rfl) ?_
  refine va_get (D := G.1) (ci := 19) (v := .ref kl) (C := RX14) (T := TX14) (N := 2) hx hb hts oaX14 hown hK.1 hP 1 rfl rfl 0 (by decide) (aw (w := Cond.fieldLink RX11 40 "DropflagMillModel$Program" "kinds" "Ljava/util/ArrayList;") hts (ai3 (w := Cond.fieldLink RX11 40 "DropflagMillModel$Program" "kinds" "Ljava/util/ArrayList;") 37 rfl)) (fun _ h9 => h9) rfl dX11_init_119 ?_
  refine px_v (As := []) (rest := [.int 1, .ref o]) (wr := [(o, .inr (16, [.ref pg, .int 0, .int (-1), .ref q1, .ref q2, .ref q3, .ref q4, .ref q5, .null])), (pg, .inr (19, [.ref kl, .ref ll])), (ll, .inr (4, [.int 0, .ref k.1, .int 0])), (q1, .inl (k.2.2.2.2.1, 1, .inr (.inr (.inr (.inr (fun _ => none)))))), (q2, .inl (G.2.2, 1, .inl (fun _ => 0)))]) hx hb hml hown hts (k_al_size l G k kl k.1 0 0 ) 0 (gAV idA (ai1 (w := Cond.methodLink RX11 25 yJx4a65c_size_8abf5) 53 rfl) (ai1 (w := Cond.instanceMethod yJx4a65c_size_8abf5) 54 rfl) (ai1 (w := Cond.selects RJx4a65c yJx4a65c_size_8abf5 yJx4a65c_size_8abf5) 55 rfl) (ai0 (w := Cond.initialized RJx4a65c) 31 rfl) (ai0 (w := Cond.code yJx4a65c_size_8abf5 cJx4a65c_size_8abf5 1 (some .int)) 3 rfl)) rfl (by decide +kernel) ⟨(Nat.le_of_ble_eq_true rfl), (Nat.le_of_ble_eq_true rfl)⟩ hK hP hD hS hA hE [5] [0, 1, 2, 3, 4] rfl (by decide) rfl (by decide) (by decide) 0 rfl rfl rfl hl rfl (Nat.le_of_ble_eq_true rfl) ⟨(Nat.le_of_ble_eq_true rfl), (Nat.le_of_ble_eq_true rfl)⟩ dX11_init_122 (fun u H locs hP hD hS => ?_)
  have hP : va_P G.1 vwCl [(o, .inr (16, [.ref pg, .int 0, .int (-1), .ref q1, .ref q2, .ref q3, .ref q4, .ref q5, .null])), (pg, .inr (19, [.ref kl, .ref ll])), (ll, .inr (4, [.int 0, .ref k.1, .int 0])), (q1, .inl (k.2.2.2.2.1, 1, .inr (.inr (.inr (.inr (fun _ => none)))))), (q2, .inl (G.2.2, 1, .inl (fun _ => 0))), (kl, .inr (4, [.int 0, .ref k.1, .int 0]))] _ := hP
  have hD : va_D A [(o, .inr (16, [.ref pg, .int 0, .int (-1), .ref q1, .ref q2, .ref q3, .ref q4, .ref q5, .null])), (pg, .inr (19, [.ref kl, .ref ll])), (ll, .inr (4, [.int 0, .ref k.1, .int 0])), (q1, .inl (k.2.2.2.2.1, 1, .inr (.inr (.inr (.inr (fun _ => none)))))), (q2, .inl (G.2.2, 1, .inl (fun _ => 0))), (kl, .inr (4, [.int 0, .ref k.1, .int 0]))] := hD
  refine W.eq (g2 := F0 m _ ls [.int 0, .int 1, .ref o]) rfl ?_
  refine px_multi (ty := .boolean) (nm := "[[Z") (nmA := "[Z") (by decide +kernel) (by decide +kernel) rfl rfl hx hb hown (aw (w := Cond.classLink RX11 47 "[[Z") hts (ai3 (w := Cond.classLink RX11 47 "[[Z") 43 rfl)) hE.1.2.2.2.2.2.1 (aw (w := Cond.arrayClass .boolean) hts (ahC (bi0 (w := Cond.arrayClass .boolean) 31 rfl))) hP hD hS hA (Nat.le_of_ble_eq_true rfl) (Nat.le_of_ble_eq_true rfl) dX11_init_125 (fun q6 H locs hP hD hS => ?_)
  have hP : va_P G.1 vwCl [(o, .inr (16, [.ref pg, .int 0, .int (-1), .ref q1, .ref q2, .ref q3, .ref q4, .ref q5, .null])), (pg, .inr (19, [.ref kl, .ref ll])), (ll, .inr (4, [.int 0, .ref k.1, .int 0])), (q1, .inl (k.2.2.2.2.1, 1, .inr (.inr (.inr (.inr (fun _ => none)))))), (q2, .inl (G.2.2, 1, .inl (fun _ => 0))), (kl, .inr (4, [.int 0, .ref k.1, .int 0]))] _ := hP
  have hD : va_D A [(o, .inr (16, [.ref pg, .int 0, .int (-1), .ref q1, .ref q2, .ref q3, .ref q4, .ref q5, .null])), (pg, .inr (19, [.ref kl, .ref ll])), (ll, .inr (4, [.int 0, .ref k.1, .int 0])), (q1, .inl (k.2.2.2.2.1, 1, .inr (.inr (.inr (.inr (fun _ => none)))))), (q2, .inl (G.2.2, 1, .inl (fun _ => 0))), (kl, .inr (4, [.int 0, .ref k.1, .int 0]))] := hD
  refine W.widen (k := 10) (n := 6) (Nat.le_of_ble_eq_true rfl) (Nat.le_of_ble_eq_true rfl) ?_
  refine va_putF (D := G.1) (ci := 16) (v := .ref q6) (ty := .array (.array .boolean)) (C := RX11) (T := TX11) (N := 9) hx hb hts oaX11 tyX11 tyX11_ok nmX11 hown hK.1 hP hD hS 0 rfl rfl 8 (by decide) (aw (w := Cond.fieldLink RX11 59 "DropflagMillModel$Check" "isWanted" "[[Z") hts (ai3 (w := Cond.fieldLink RX11 59 "DropflagMillModel$Check" "isWanted" "[[Z") 23 rfl)) (fun _ h9 => h9) rfl hin rfl (by decide +kernel) rfl rfl (Nat.le_of_ble_eq_true rfl) dX11_init_129 (fun H locs hP hD hS => ?_)
  have hP : va_P G.1 vwCl [(o, .inr (16, [.ref pg, .int 0, .int (-1), .ref q1, .ref q2, .ref q3, .ref q4, .ref q5, .ref q6])), (pg, .inr (19, [.ref kl, .ref ll])), (ll, .inr (4, [.int 0, .ref k.1, .int 0])), (q1, .inl (k.2.2.2.2.1, 1, .inr (.inr (.inr (.inr (fun _ => none)))))), (q2, .inl (G.2.2, 1, .inl (fun _ => 0))), (kl, .inr (4, [.int 0, .ref k.1, .int 0]))] _ := hP
  have hD : va_D A [(o, .inr (16, [.ref pg, .int 0, .int (-1), .ref q1, .ref q2, .ref q3, .ref q4, .ref q5, .ref q6])), (pg, .inr (19, [.ref kl, .ref ll])), (ll, .inr (4, [.int 0, .ref k.1, .int 0])), (q1, .inl (k.2.2.2.2.1, 1, .inr (.inr (.inr (.inr (fun _ => none)))))), (q2, .inl (G.2.2, 1, .inl (fun _ => 0))), (kl, .inr (4, [.int 0, .ref k.1, .int 0]))] := hD
  refine lv_aload_n hx hb dX11_init_132 rfl (lv_at hl 1 rfl) ?_
  refine px_v (As := []) (rest := []) (wr := [(pg, .inr (19, [.ref kl, .ref ll])), (ll, .inr (4, [.int 0, .ref k.1, .int 0])), (q2, .inl (G.2.2, 1, .inl (fun _ => 0))), (kl, .inr (4, [.int 0, .ref k.1, .int 0]))]) hx hb hml hown hts (k_join0 l G k o pg q1 q2 q3 q4 q5 q6 ) 0 (gAV idA (ai3 (w := Cond.methodLink RX11 62 yX11_join) 45 rfl) (ai3 (w := Cond.instanceMethod yX11_join) 46 rfl) (ai3 (w := Cond.selects RX11 yX11_join yX11_join) 47 rfl) (ai2 (w := Cond.initialized RX11) 10 rfl) (ai2 (w := Cond.code yX11_join cX11_join 6 none) 11 rfl)) rfl (by decide +kernel) ⟨(Nat.le_of_ble_eq_true rfl), (Nat.le_of_ble_eq_true rfl)⟩ hK hP hD hS hA hE [0, 3] [1, 2, 4, 5] rfl (by decide) rfl (by decide) (by decide) 0 rfl rfl rfl hl rfl (Nat.le_of_ble_eq_true rfl) ⟨(Nat.le_of_ble_eq_true rfl), (Nat.le_of_ble_eq_true rfl)⟩ dX11_init_133 (fun u H locs hP hD hS => ?_)
  have hP : va_P G.1 vwCl [(pg, .inr (19, [.ref kl, .ref ll])), (ll, .inr (4, [.int 0, .ref k.1, .int 0])), (q2, .inl (G.2.2, 1, .inl (fun _ => 0))), (kl, .inr (4, [.int 0, .ref k.1, .int 0])), (o, .inr (16, [.ref pg, .int 0, .int (-1), .ref q1, .ref q2, .ref q3, .ref q4, .ref q5, .ref q6]))] _ := hP
  have hD : va_D A [(pg, .inr (19, [.ref kl, .ref ll])), (ll, .inr (4, [.int 0, .ref k.1, .int 0])), (q2, .inl (G.2.2, 1, .inl (fun _ => 0))), (kl, .inr (4, [.int 0, .ref k.1, .int 0])), (o, .inr (16, [.ref pg, .int 0, .int (-1), .ref q1, .ref q2, .ref q3, .ref q4, .ref q5, .ref q6]))] := hD
  refine W.eq (g2 := F0 m _ ls []) rfl ?_
  refine W.widen (k := 13) (n := 10) (Nat.le_of_ble_eq_true rfl) (Nat.le_of_ble_eq_true rfl) ?_
  refine lv_aload_n hx hb dX11_init_136 rfl (lv_at hl 1 rfl) ?_
  refine va_get (D := G.1) (ci := 16) (v := .int (-1)) (C := RX11) (T := TX11) (N := 9) hx hb hts oaX11 hown hK.1 hP 4 rfl rfl 2 (by decide) (aw (w := Cond.fieldLink RX11 9 "DropflagMillModel$Check" "wrong" "I") hts (ai1 (w := Cond.fieldLink RX11 9 "DropflagMillModel$Check" "wrong" "I") 47 rfl)) (fun _ h9 => h9) rfl dX11_init_137 ?_
  refine lv_iconst (v := (-1)) hx hb dX11_init_140 (by decide) ?_
  refine lv_icmp_eq (tgt := 145) hx hb dX11_init_141 (by decide) (fun c7 => ?_) (fun c7 => absurd c7 (by decide))
  refine lv_aload_n hx hb dX11_init_145 rfl (lv_at hl 1 rfl) ?_
  refine va_get (D := G.1) (ci := 16) (v := .ref q2) (C := RX11) (T := TX11) (N := 9) hx hb hts oaX11 hown hK.1 hP 4 rfl rfl 4 (by decide) (aw (w := Cond.fieldLink RX11 43 "DropflagMillModel$Check" "isReached" "[Z") hts (ai2 (w := Cond.fieldLink RX11 43 "DropflagMillModel$Check" "isReached" "[Z") 41 rfl)) (fun _ h9 => h9) rfl dX11_init_146 ?_
  refine lv_iconst (v := 0) hx hb dX11_init_149 (by decide) ?_
  refine lv_iconst (v := 1) hx hb dX11_init_150 (by decide) ?_
  refine va_zast hx hb hK.1 hP hD hS 2 1 rfl rfl (i := 0) (by unfold vp_in; decide) dX11_init_151 (fun H locs hP hD hS => ?_)
  have hP : va_P G.1 vwCl [(pg, .inr (19, [.ref kl, .ref ll])), (ll, .inr (4, [.int 0, .ref k.1, .int 0])), (q2, .inl (G.2.2, 1, .inl (upd (fun _ => 0) 0 1))), (kl, .inr (4, [.int 0, .ref k.1, .int 0])), (o, .inr (16, [.ref pg, .int 0, .int (-1), .ref q1, .ref q2, .ref q3, .ref q4, .ref q5, .ref q6]))] _ := hP
  have hD : va_D A [(pg, .inr (19, [.ref kl, .ref ll])), (ll, .inr (4, [.int 0, .ref k.1, .int 0])), (q2, .inl (G.2.2, 1, .inl (upd (fun _ => 0) 0 1))), (kl, .inr (4, [.int 0, .ref k.1, .int 0])), (o, .inr (16, [.ref pg, .int 0, .int (-1), .ref q1, .ref q2, .ref q3, .ref q4, .ref q5, .ref q6]))] := hD
  refine lv_iconst (v := 0) hx hb dX11_init_152 (by decide) ?_
  refine lv_istore_n (lv' := [(3, .int 0), (2, .int 0), (0, .ref o), (1, .ref pg)]) hx hb dX11_init_153 rfl hl (by decide) rfl (fun ls hl => ?_)
  refine lv_iload_n hx hb dX11_init_154 rfl (lv_at hl 0 rfl) ?_
  refine lv_iload_n hx hb dX11_init_155 rfl (lv_at hl 1 rfl) ?_
  refine lv_icmp_ge (tgt := 174) hx hb dX11_init_156 (by decide) (fun c8 => ?_) (fun c8 => absurd c8 (by decide))
  refine lv_iconst (v := 1) hx hb dX11_init_174 (by decide) ?_
  refine lv_istore_n (lv' := [(3, .int 1), (2, .int 0), (0, .ref o), (1, .ref pg)]) hx hb dX11_init_175 rfl hl (by decide) rfl (fun ls hl => ?_)
  refine lv_iload_n hx hb dX11_init_176 rfl (lv_at hl 0 rfl) ?_
  refine lv_if_eq (tgt := 188) hx hb dX11_init_177 (by decide) (fun c9 => absurd c9 (by decide)) (fun c9 => ?_)
  refine lv_aload_n hx hb dX11_init_180 rfl (lv_at hl 2 rfl) ?_
  refine px_v (As := []) (rest := []) (wr := [(pg, .inr (19, [.ref kl, .ref ll])), (ll, .inr (4, [.int 0, .ref k.1, .int 0])), (q2, .inl (G.2.2, 1, .inl (upd (fun _ => 0) 0 1))), (kl, .inr (4, [.int 0, .ref k.1, .int 0]))]) hx hb hml hown hts (k_flow0 l G k o pg q1 q2 q3 q4 q5 q6 ) 0 (gAV idA (ai3 (w := Cond.methodLink RX11 65 yX11_flow) 48 rfl) (ai3 (w := Cond.instanceMethod yX11_flow) 49 rfl) (ai3 (w := Cond.selects RX11 yX11_flow yX11_flow) 50 rfl) (ai2 (w := Cond.initialized RX11) 10 rfl) (ai3 (w := Cond.code yX11_flow cX11_flow 11 (some .boolean)) 10 rfl)) rfl (by decide +kernel) ⟨(Nat.le_of_ble_eq_true rfl), (Nat.le_of_ble_eq_true rfl)⟩ hK hP hD hS hA hE [4] [0, 1, 2, 3] rfl (by decide) rfl (by decide) (by decide) 0 rfl rfl rfl hl rfl (Nat.le_of_ble_eq_true rfl) ⟨(Nat.le_of_ble_eq_true rfl), (Nat.le_of_ble_eq_true rfl)⟩ dX11_init_181 (fun u H locs hP hD hS => ?_)
  have hP : va_P G.1 vwCl [(pg, .inr (19, [.ref kl, .ref ll])), (ll, .inr (4, [.int 0, .ref k.1, .int 0])), (q2, .inl (G.2.2, 1, .inl (upd (fun _ => 0) 0 1))), (kl, .inr (4, [.int 0, .ref k.1, .int 0])), (o, .inr (16, [.ref pg, .int 0, .int (-1), .ref q1, .ref q2, .ref q3, .ref q4, .ref q5, .ref q6]))] _ := hP
  have hD : va_D A [(pg, .inr (19, [.ref kl, .ref ll])), (ll, .inr (4, [.int 0, .ref k.1, .int 0])), (q2, .inl (G.2.2, 1, .inl (upd (fun _ => 0) 0 1))), (kl, .inr (4, [.int 0, .ref k.1, .int 0])), (o, .inr (16, [.ref pg, .int 0, .int (-1), .ref q1, .ref q2, .ref q3, .ref q4, .ref q5, .ref q6]))] := hD
  refine W.eq (g2 := F0 m _ ls [.int 0]) rfl ?_
  refine lv_istore_n (lv' := [(3, .int 0), (2, .int 0), (0, .ref o), (1, .ref pg)]) hx hb dX11_init_184 rfl hl (by decide) rfl (fun ls hl => ?_)
  refine lv_goto (tgt := 176) hx hb dX11_init_185 (by decide) ?_
  refine lv_iload_n hx hb dX11_init_176 rfl (lv_at hl 0 rfl) ?_
  refine lv_if_eq (tgt := 188) hx hb dX11_init_177 (by decide) (fun c10 => ?_) (fun c10 => absurd c10 (by decide))
  refine lv_iconst (v := 1) hx hb dX11_init_188 (by decide) ?_
  refine lv_istore_n (lv' := [(3, .int 1), (2, .int 0), (0, .ref o), (1, .ref pg)]) hx hb dX11_init_189 rfl hl (by decide) rfl (fun ls hl => ?_)
  refine lv_iload_n hx hb dX11_init_190 rfl (lv_at hl 0 rfl) ?_
  refine lv_if_eq (tgt := 202) hx hb dX11_init_191 (by decide) (fun c11 => absurd c11 (by decide)) (fun c11 => ?_)
  refine lv_aload_n hx hb dX11_init_194 rfl (lv_at hl 2 rfl) ?_
  refine px_v (As := []) (rest := []) (wr := [(pg, .inr (19, [.ref kl, .ref ll])), (ll, .inr (4, [.int 0, .ref k.1, .int 0])), (q2, .inl (G.2.2, 1, .inl (upd (fun _ => 0) 0 1))), (kl, .inr (4, [.int 0, .ref k.1, .int 0]))]) hx hb hml hown hts (k_want0 l G k o pg q1 q2 q3 q4 q5 q6 ) 0 (gAV idA (ai3 (w := Cond.methodLink RX11 69 yX11_want) 51 rfl) (ai3 (w := Cond.instanceMethod yX11_want) 52 rfl) (ai3 (w := Cond.selects RX11 yX11_want yX11_want) 53 rfl) (ai2 (w := Cond.initialized RX11) 10 rfl) (ai3 (w := Cond.code yX11_want cX11_want 4 (some .boolean)) 41 rfl)) rfl (by decide +kernel) ⟨(Nat.le_of_ble_eq_true rfl), (Nat.le_of_ble_eq_true rfl)⟩ hK hP hD hS hA hE [4] [0, 1, 2, 3] rfl (by decide) rfl (by decide) (by decide) 0 rfl rfl rfl hl rfl (Nat.le_of_ble_eq_true rfl) ⟨(Nat.le_of_ble_eq_true rfl), (Nat.le_of_ble_eq_true rfl)⟩ dX11_init_195 (fun u H locs hP hD hS => ?_)
  have hP : va_P G.1 vwCl [(pg, .inr (19, [.ref kl, .ref ll])), (ll, .inr (4, [.int 0, .ref k.1, .int 0])), (q2, .inl (G.2.2, 1, .inl (upd (fun _ => 0) 0 1))), (kl, .inr (4, [.int 0, .ref k.1, .int 0])), (o, .inr (16, [.ref pg, .int 0, .int (-1), .ref q1, .ref q2, .ref q3, .ref q4, .ref q5, .ref q6]))] _ := hP
  have hD : va_D A [(pg, .inr (19, [.ref kl, .ref ll])), (ll, .inr (4, [.int 0, .ref k.1, .int 0])), (q2, .inl (G.2.2, 1, .inl (upd (fun _ => 0) 0 1))), (kl, .inr (4, [.int 0, .ref k.1, .int 0])), (o, .inr (16, [.ref pg, .int 0, .int (-1), .ref q1, .ref q2, .ref q3, .ref q4, .ref q5, .ref q6]))] := hD
  refine W.eq (g2 := F0 m _ ls [.int 0]) rfl ?_
  refine lv_istore_n (lv' := [(3, .int 0), (2, .int 0), (0, .ref o), (1, .ref pg)]) hx hb dX11_init_198 rfl hl (by decide) rfl (fun ls hl => ?_)
  refine lv_goto (tgt := 190) hx hb dX11_init_199 (by decide) ?_
  refine lv_iload_n hx hb dX11_init_190 rfl (lv_at hl 0 rfl) ?_
  refine lv_if_eq (tgt := 202) hx hb dX11_init_191 (by decide) (fun c12 => ?_) (fun c12 => absurd c12 (by decide))
  refine W.widen (k := 13) (n := 10) (Nat.le_of_ble_eq_true rfl) (Nat.le_of_ble_eq_true rfl) ?_
  exact px_rv (q1, q2, q3, q4, q5, q6) hx hb hr hlk (hP.sub [4, 0, 3, 1] rfl) (hD.sub [4, 0, 3, 1] (by decide) rfl) hS rfl dX11_init_202

set_option maxHeartbeats 8000000 in
set_option maxRecDepth 100000 in
theorem k_faults0 (l : Launch) (G : sxG) (k : pxC) (o : Nat) (pg : Nat) (a1 : Nat) (a2 : Nat) (a3 : Nat) (a4 : Nat) (a5 : Nat) (a6 : Nat)  : pxM l yX11_faults (Cond.code yX11_faults cX11_faults 4 (some (.object "java/util/ArrayList")) :: bwA) 4 72 1 3 G k [(o, .inr (16, [.ref pg, .int 0, .int (-1), .ref a1, .ref a2, .ref a3, .ref a4, .ref a5, .ref a6]))] [.ref o] (fun u : Nat => some (.ref u)) (fun u : Nat => ([(o, .inr (16, [.ref pg, .int 0, .int (-1), .ref a1, .ref a2, .ref a3, .ref a4, .ref a5, .ref a6])), (u, .inr (4, [.int 0, .ref k.1, .int 0]))] : va_W)) := by
  refine pxM.of (cc := cX11_faults) (maxL := 4) (by decide) rfl (Nat.le_of_ble_eq_true rfl) ?_
  intro p e s m args below meth c ⟨hx, hb, hr, hml, hown, hlk, hts, hK⟩ hin A hA hP hD hS hE ls hl
  have hl : lv_has ls 4 [(0, .ref o)] := hl
  refine va_new (ci := 4) (fs := [.int 0, .null, .int 0]) (C := RJx4a65c) (T := TJx4a65c) (N := 3) hx hb hts oaJx4a65c tyJx4a65c tyJx4a65c_ok hown (aw (w := Cond.classLink RX11 26 RJx4a65c) hts (ai1 (w := Cond.classLink RX11 26 RJx4a65c) 43 rfl)) (aw (w := Cond.instantiable RJx4a65c 3) hts (ai1 (w := Cond.instantiable RJx4a65c 3) 44 rfl)) (aw (w := Cond.initialized RJx4a65c) hts (ai0 (w := Cond.initialized RJx4a65c) 31 rfl)) hK.1 hP hD hS hA rfl dvJx4a65c (Nat.le_of_ble_eq_true rfl) (Nat.le_of_ble_eq_true rfl) dX11_faults_0 (fun q1 H hP hD hS => ?_)
  have hP : va_P G.1 vwCl [(o, .inr (16, [.ref pg, .int 0, .int (-1), .ref a1, .ref a2, .ref a3, .ref a4, .ref a5, .ref a6])), (q1, .inr (4, [.int 0, .null, .int 0]))] _ := hP
  have hD : va_D A [(o, .inr (16, [.ref pg, .int 0, .int (-1), .ref a1, .ref a2, .ref a3, .ref a4, .ref a5, .ref a6])), (q1, .inr (4, [.int 0, .null, .int 0]))] := hD
  refine W.widen (k := 1) (n := 3) (Nat.le_of_ble_eq_true rfl) (Nat.le_of_ble_eq_true rfl) ?_
  refine lv_dup hx hb dX11_faults_3 rfl ?_
  refine px_i (As := []) (rest := [.ref q1]) (wr := [(o, .inr (16, [.ref pg, .int 0, .int (-1), .ref a1, .ref a2, .ref a3, .ref a4, .ref a5, .ref a6]))]) hx hb hml hown hts (k_al_init l G k q1 ) 0 (gA idA (ai0 (w := Cond.code yJx4a65c_init_da8c8 cJx4a65c_init_da8c8 1 none) 12 rfl)) rfl (aw (w := Cond.initialized RJx4a65c) hts (ai0 (w := Cond.initialized RJx4a65c) 31 rfl)) (aw (w := Cond.methodLink RX11 72 yJx4a65c_init_da8c8) hts (ai1 (w := Cond.methodLink RX11 72 yJx4a65c_init_da8c8) 48 rfl)) (aw (w := Cond.instanceMethod yJx4a65c_init_da8c8) hts (ai1 (w := Cond.instanceMethod yJx4a65c_init_da8c8) 49 rfl)) rfl (by decide +kernel) ⟨(Nat.le_of_ble_eq_true rfl), (Nat.le_of_ble_eq_true rfl)⟩ hK hP hD hS hA hE [1] [0] rfl (by decide) rfl (by decide) (by decide) rfl hl rfl (Nat.le_of_ble_eq_true rfl) ⟨(Nat.le_of_ble_eq_true rfl), (Nat.le_of_ble_eq_true rfl)⟩ dX11_faults_4 (fun u H locs hP hD hS => ?_)
  have hP : va_P G.1 vwCl [(o, .inr (16, [.ref pg, .int 0, .int (-1), .ref a1, .ref a2, .ref a3, .ref a4, .ref a5, .ref a6])), (q1, .inr (4, [.int 0, .ref k.1, .int 0]))] _ := hP
  have hD : va_D A [(o, .inr (16, [.ref pg, .int 0, .int (-1), .ref a1, .ref a2, .ref a3, .ref a4, .ref a5, .ref a6])), (q1, .inr (4, [.int 0, .ref k.1, .int 0]))] := hD
  refine W.eq (g2 := F0 m _ ls [.ref q1]) rfl ?_
  refine lv_astore_n (lv' := [(1, .ref q1), (0, .ref o)]) hx hb dX11_faults_7 rfl hl (by decide) rfl (fun ls hl => ?_)
  refine lv_aload_n hx hb dX11_faults_8 rfl (lv_at hl 1 rfl) ?_
  refine px_v (As := []) (rest := []) (wr := [(q1, .inr (4, [.int 0, .ref k.1, .int 0]))]) hx hb hml hown hts (k_isWhole0 l G k o pg a1 a2 a3 a4 a5 a6 ) 0 (gAV idA (ai4 (w := Cond.methodLink RX11 156 yX11_isWhole) 50 rfl) (ai4 (w := Cond.instanceMethod yX11_isWhole) 51 rfl) (ai4 (w := Cond.selects RX11 yX11_isWhole yX11_isWhole) 52 rfl) (ai2 (w := Cond.initialized RX11) 10 rfl) (ai3 (w := Cond.code yX11_isWhole cX11_isWhole 1 (some .boolean)) 55 rfl)) rfl (by decide +kernel) ⟨(Nat.le_of_ble_eq_true rfl), (Nat.le_of_ble_eq_true rfl)⟩ hK hP hD hS hA hE [0] [1] rfl (by decide) rfl (by decide) (by decide) 0 rfl rfl rfl hl rfl (Nat.le_of_ble_eq_true rfl) ⟨(Nat.le_of_ble_eq_true rfl), (Nat.le_of_ble_eq_true rfl)⟩ dX11_faults_9 (fun u H locs hP hD hS => ?_)
  have hP : va_P G.1 vwCl [(q1, .inr (4, [.int 0, .ref k.1, .int 0])), (o, .inr (16, [.ref pg, .int 0, .int (-1), .ref a1, .ref a2, .ref a3, .ref a4, .ref a5, .ref a6]))] _ := hP
  have hD : va_D A [(q1, .inr (4, [.int 0, .ref k.1, .int 0])), (o, .inr (16, [.ref pg, .int 0, .int (-1), .ref a1, .ref a2, .ref a3, .ref a4, .ref a5, .ref a6]))] := hD
  refine W.eq (g2 := F0 m _ ls [.int 1]) rfl ?_
  refine lv_if_ne (tgt := 44) hx hb dX11_faults_12 (by decide) (fun c2 => ?_) (fun c2 => absurd c2 (by decide))
  refine lv_iconst (v := 0) hx hb dX11_faults_44 (by decide) ?_
  refine lv_istore_n (lv' := [(2, .int 0), (1, .ref q1), (0, .ref o)]) hx hb dX11_faults_45 rfl hl (by decide) rfl (fun ls hl => ?_)
  refine lv_iload_n hx hb dX11_faults_46 rfl (lv_at hl 0 rfl) ?_
  refine lv_aload_n hx hb dX11_faults_47 rfl (lv_at hl 2 rfl) ?_
  refine va_get (D := G.1) (ci := 16) (v := .int 0) (C := RX11) (T := TX11) (N := 9) hx hb hts oaX11 hown hK.1 hP 1 rfl rfl 1 (by decide) (aw (w := Cond.fieldLink RX11 31 "DropflagMillModel$Check" "end" "I") hts (ai1 (w := Cond.fieldLink RX11 31 "DropflagMillModel$Check" "end" "I") 45 rfl)) (fun _ h9 => h9) rfl dX11_faults_48 ?_
  refine lv_icmp_ge (tgt := 89) hx hb dX11_faults_51 (by decide) (fun c3 => ?_) (fun c3 => absurd c3 (by decide))
  refine lv_aload_n hx hb dX11_faults_89 rfl (lv_at hl 1 rfl) ?_
  refine W.widen (k := 1) (n := 3) (Nat.le_of_ble_eq_true rfl) (Nat.le_of_ble_eq_true rfl) ?_
  exact px_ra (q1) hx hb hr (Or.inl ⟨_, rfl⟩) hlk (hP.sub [1, 0] rfl) (hD.sub [1, 0] (by decide) rfl) hS rfl dX11_faults_90

set_option maxHeartbeats 8000000 in
set_option maxRecDepth 100000 in
theorem k_check0 (l : Launch) (G : sxG) (k : pxC) (z : Nat) (pg : Nat) (kl : Nat) (ll : Nat)  : pxM l yX16_check (Cond.code yX16_check cX16_check 1 (some (.object "DropflagMillModel$Check")) :: bwA) 6 120 14 19 G k [(z, .inr (21, [.int 0, .ref pg, .null, .int 0])), (pg, .inr (19, [.ref kl, .ref ll])), (kl, .inr (4, [.int 0, .ref k.1, .int 0])), (ll, .inr (4, [.int 0, .ref k.1, .int 0]))] [.ref z] (fun u : Nat × Nat × Nat × Nat × Nat × Nat × Nat => some (.ref u.1)) (fun u : Nat × Nat × Nat × Nat × Nat × Nat × Nat => ([(z, .inr (21, [.int 0, .ref pg, .null, .int 0])), (pg, .inr (19, [.ref kl, .ref ll])), (kl, .inr (4, [.int 0, .ref k.1, .int 0])), (ll, .inr (4, [.int 0, .ref k.1, .int 0])), (u.1, .inr (16, [.ref pg, .int 0, .int (-1), .ref u.2.1, .ref u.2.2.1, .ref u.2.2.2.1, .ref u.2.2.2.2.1, .ref u.2.2.2.2.2.1, .ref u.2.2.2.2.2.2]))] : va_W)) := by
  refine pxM.of (cc := cX16_check) (maxL := 1) (by decide) rfl (Nat.le_of_ble_eq_true rfl) ?_
  intro p e s m args below meth c ⟨hx, hb, hr, hml, hown, hlk, hts, hK⟩ hin A hA hP hD hS hE ls hl
  have hl : lv_has ls 1 [(0, .ref z)] := hl
  refine va_new (ci := 16) (fs := [.null, .int 0, .int 0, .null, .null, .null, .null, .null, .null]) (C := RX11) (T := TX11) (N := 9) hx hb hts oaX11 tyX11 tyX11_ok hown (aw (w := Cond.classLink RX16 24 RX11) hts (ai8 (w := Cond.classLink RX16 24 RX11) 2 rfl)) (aw (w := Cond.instantiable RX11 9) hts (ai8 (w := Cond.instantiable RX11 9) 3 rfl)) (aw (w := Cond.initialized RX11) hts (ai2 (w := Cond.initialized RX11) 10 rfl)) hK.1 hP hD hS hA rfl dvX11 (Nat.le_of_ble_eq_true rfl) (Nat.le_of_ble_eq_true rfl) dX16_check_0 (fun q1 H hP hD hS => ?_)
  have hP : va_P G.1 vwCl [(z, .inr (21, [.int 0, .ref pg, .null, .int 0])), (pg, .inr (19, [.ref kl, .ref ll])), (kl, .inr (4, [.int 0, .ref k.1, .int 0])), (ll, .inr (4, [.int 0, .ref k.1, .int 0])), (q1, .inr (16, [.null, .int 0, .int 0, .null, .null, .null, .null, .null, .null]))] _ := hP
  have hD : va_D A [(z, .inr (21, [.int 0, .ref pg, .null, .int 0])), (pg, .inr (19, [.ref kl, .ref ll])), (kl, .inr (4, [.int 0, .ref k.1, .int 0])), (ll, .inr (4, [.int 0, .ref k.1, .int 0])), (q1, .inr (16, [.null, .int 0, .int 0, .null, .null, .null, .null, .null, .null]))] := hD
  refine W.widen (k := 1) (n := 9) (Nat.le_of_ble_eq_true rfl) (Nat.le_of_ble_eq_true rfl) ?_
  refine lv_dup hx hb dX16_check_3 rfl ?_
  refine lv_aload_n hx hb dX16_check_4 rfl (lv_at hl 0 rfl) ?_
  refine va_get (D := G.1) (ci := 21) (v := .ref pg) (C := RX16) (T := TX16) (N := 4) hx hb hts oaX16 hown hK.1 hP 0 rfl rfl 1 (by decide) (aw (w := Cond.fieldLink RX16 10 "DropflagMillModel" "program" "LDropflagMillModel$Program;") hts (ai7 (w := Cond.fieldLink RX16 10 "DropflagMillModel" "program" "LDropflagMillModel$Program;") 53 rfl)) (fun _ h9 => h9) rfl dX16_check_5 ?_
  refine px_i (As := [.ref pg]) (rest := [.ref q1]) (wr := [(z, .inr (21, [.int 0, .ref pg, .null, .int 0]))]) hx hb hml hown hts (k_check_init l G k q1 pg kl ll ) 1 (gA idA (ai3 (w := Cond.code yX11_init cX11_init 4 none) 54 rfl)) rfl (aw (w := Cond.initialized RX11) hts (ai2 (w := Cond.initialized RX11) 10 rfl)) (aw (w := Cond.methodLink RX16 26 yX11_init) hts (ai8 (w := Cond.methodLink RX16 26 yX11_init) 4 rfl)) (aw (w := Cond.instanceMethod yX11_init) hts (ai8 (w := Cond.instanceMethod yX11_init) 5 rfl)) rfl (by decide +kernel) ⟨(Nat.le_of_ble_eq_true rfl), (Nat.le_of_ble_eq_true rfl)⟩ hK hP hD hS hA hE [4, 1, 2, 3] [0] rfl (by decide) rfl (by decide) (by decide) rfl hl rfl (Nat.le_of_ble_eq_true rfl) ⟨(Nat.le_of_ble_eq_true rfl), (Nat.le_of_ble_eq_true rfl)⟩ dX16_check_8 (fun u H locs hP hD hS => ?_)
  obtain ⟨q2, q3, q4, q5, q6, q7⟩ := u
  have hP : va_P G.1 vwCl [(z, .inr (21, [.int 0, .ref pg, .null, .int 0])), (q1, .inr (16, [.ref pg, .int 0, .int (-1), .ref q2, .ref q3, .ref q4, .ref q5, .ref q6, .ref q7])), (pg, .inr (19, [.ref kl, .ref ll])), (kl, .inr (4, [.int 0, .ref k.1, .int 0])), (ll, .inr (4, [.int 0, .ref k.1, .int 0]))] _ := hP
  have hD : va_D A [(z, .inr (21, [.int 0, .ref pg, .null, .int 0])), (q1, .inr (16, [.ref pg, .int 0, .int (-1), .ref q2, .ref q3, .ref q4, .ref q5, .ref q6, .ref q7])), (pg, .inr (19, [.ref kl, .ref ll])), (kl, .inr (4, [.int 0, .ref k.1, .int 0])), (ll, .inr (4, [.int 0, .ref k.1, .int 0]))] := hD
  refine W.eq (g2 := F0 m _ ls [.ref q1]) rfl ?_
  refine W.widen (k := 14) (n := 19) (Nat.le_of_ble_eq_true rfl) (Nat.le_of_ble_eq_true rfl) ?_
  refine W.widen (k := 14) (n := 19) (Nat.le_of_ble_eq_true rfl) (Nat.le_of_ble_eq_true rfl) ?_
  exact px_ra (q1, q2, q3, q4, q5, q6, q7) hx hb hr (Or.inl ⟨_, rfl⟩) hlk (hP.sub [0, 2, 3, 4, 1] rfl) (hD.sub [0, 2, 3, 4, 1] (by decide) rfl) hS rfl dX16_check_11
