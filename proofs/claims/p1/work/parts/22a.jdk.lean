theorem dvX10 : ∀ j, j < 1 → defaultValue (tyX10 j) = vp_V [.int 0] j := by
  intro j hj
  rcases (show j = 0 by omega) with rfl <;> rfl
theorem dvX11 : ∀ j, j < 9 → defaultValue (tyX11 j) = vp_V [.null, .int 0, .int 0, .null, .null, .null, .null, .null, .null] j := by
  intro j hj
  rcases (show j = 0 ∨ j = 1 ∨ j = 2 ∨ j = 3 ∨ j = 4 ∨ j = 5 ∨ j = 6 ∨ j = 7 ∨ j = 8 by omega) with rfl | rfl | rfl | rfl | rfl | rfl | rfl | rfl | rfl <;> rfl
theorem dvX12 : ∀ j, j < 3 → defaultValue (tyX12 j) = vp_V [.int 0, .int 0, .int 0] j := by
  intro j hj
  rcases (show j = 0 ∨ j = 1 ∨ j = 2 by omega) with rfl | rfl | rfl <;> rfl
theorem dvX13 : ∀ j, j < 4 → defaultValue (tyX13 j) = vp_V [.int 0, .int 0, .null, .int 0] j := by
  intro j hj
  rcases (show j = 0 ∨ j = 1 ∨ j = 2 ∨ j = 3 by omega) with rfl | rfl | rfl | rfl <;> rfl
theorem dvX14 : ∀ j, j < 2 → defaultValue (tyX14 j) = vp_V [.null, .null] j := by
  intro j hj
  rcases (show j = 0 ∨ j = 1 by omega) with rfl | rfl <;> rfl
theorem dvX15 : ∀ j, j < 18 → defaultValue (tyX15 j) = vp_V [.null, .null, .int 0, .null, .null, .null, .null, .null, .null, .int 0, .int 0, .int 0, .int 0, .int 0, .int 0, .int 0, .int 0, .int 0] j := by
  intro j hj
  rcases (show j = 0 ∨ j = 1 ∨ j = 2 ∨ j = 3 ∨ j = 4 ∨ j = 5 ∨ j = 6 ∨ j = 7 ∨ j = 8 ∨ j = 9 ∨ j = 10 ∨ j = 11 ∨ j = 12 ∨ j = 13 ∨ j = 14 ∨ j = 15 ∨ j = 16 ∨ j = 17 by omega) with rfl | rfl | rfl | rfl | rfl | rfl | rfl | rfl | rfl | rfl | rfl | rfl | rfl | rfl | rfl | rfl | rfl | rfl <;> rfl
theorem dvX16 : ∀ j, j < 4 → defaultValue (tyX16 j) = vp_V [.int 0, .null, .null, .int 0] j := by
  intro j hj
  rcases (show j = 0 ∨ j = 1 ∨ j = 2 ∨ j = 3 by omega) with rfl | rfl | rfl | rfl <;> rfl
theorem dvJ6 : ∀ j, j < 1 → defaultValue (tyJ6 j) = vp_V [.int 0] j := by
  intro j hj
  rcases (show j = 0 by omega) with rfl <;> rfl
theorem dvJx35411 : ∀ j, j < 4 → defaultValue (tyJx35411 j) = vp_V [.int 0, .int 0, .int 0, .null] j := by
  intro j hj
  rcases (show j = 0 ∨ j = 1 ∨ j = 2 ∨ j = 3 by omega) with rfl | rfl | rfl | rfl <;> rfl
theorem dvJx4a65c : ∀ j, j < 3 → defaultValue (tyJx4a65c j) = vp_V [.int 0, .null, .int 0] j := by
  intro j hj
  rcases (show j = 0 ∨ j = 1 ∨ j = 2 by omega) with rfl | rfl | rfl <;> rfl

set_option maxHeartbeats 8000000 in
set_option maxRecDepth 100000 in
theorem k_ac_init (l : Launch) (G : sxG) (k : pxC) (o : Nat)  : pxM l yJxa1e45_init_da8c8 (Cond.code yJxa1e45_init_da8c8 cJxa1e45_init_da8c8 1 none :: bwA) 1 12 0 0 G k [(o, .inr (4, [.int 0, .null, .int 0]))] [.ref o] (fun u : Unit => none) (fun u : Unit => ([(o, .inr (4, [.int 0, .null, .int 0]))] : va_W)) := by
  refine pxM.of (cc := cJxa1e45_init_da8c8) (maxL := 1) (by decide) rfl (Nat.le_of_ble_eq_true rfl) ?_
  intro p e s m args below meth c ⟨hx, hb, hr, hml, hown, hlk, hts, hK⟩ hin A hA hP hD hS hE ls hl
  have hl : lv_has ls 1 [(0, .ref o)] := hl
  refine lv_aload_n hx hb dJxa1e45_init_da8c8_0 rfl (lv_at hl 0 rfl) ?_
  refine W.objInit hx hb hown (aw (w := Cond.methodLink RJxa1e45 1 objectInit) hts (ai0 (w := Cond.methodLink RJxa1e45 1 objectInit) 6 rfl)) (aw (w := Cond.instanceMethod objectInit) hts (ahC (bi0 (w := Cond.instanceMethod objectInit) 2 rfl))) (aw (w := Cond.code objectInit ⟨#[0xb1]⟩ 1 none) hts (ahC (bi0 (w := Cond.code objectInit ⟨#[0xb1]⟩ 1 none) 3 rfl))) rfl (by rw [hml]; exact hl.1) rfl dJxa1e45_init_da8c8_1 (Nat.le_of_ble_eq_true rfl) (Nat.le_of_ble_eq_true rfl) ?_
  refine W.eq (g2 := F0 m 4 ls []) rfl ?_
  refine W.widen (k := 0) (n := 0) (Nat.le_of_ble_eq_true rfl) (Nat.le_of_ble_eq_true rfl) ?_
  exact px_rv () hx hb hr hlk (hP.sub [0] rfl) (hD.sub [0] (by decide) rfl) hS rfl dJxa1e45_init_da8c8_4

set_option maxHeartbeats 8000000 in
set_option maxRecDepth 100000 in
theorem k_abl_init (l : Launch) (G : sxG) (k : pxC) (o : Nat)  : pxM l yJxc12de_init_da8c8 (Cond.code yJxc12de_init_da8c8 cJxc12de_init_da8c8 1 none :: bwA) 2 32 0 0 G k [(o, .inr (4, [.int 0, .null, .int 0]))] [.ref o] (fun u : Unit => none) (fun u : Unit => ([(o, .inr (4, [.int 0, .null, .int 0]))] : va_W)) := by
  refine pxM.of (cc := cJxc12de_init_da8c8) (maxL := 1) (by decide) rfl (Nat.le_of_ble_eq_true rfl) ?_
  intro p e s m args below meth c ⟨hx, hb, hr, hml, hown, hlk, hts, hK⟩ hin A hA hP hD hS hE ls hl
  have hl : lv_has ls 1 [(0, .ref o)] := hl
  refine lv_aload_n hx hb dJxc12de_init_da8c8_0 rfl (lv_at hl 0 rfl) ?_
  refine px_i (As := []) (rest := []) (wr := []) hx hb hml hown hts (k_ac_init l G k o ) 0 (gA idA (ai0 (w := Cond.code yJxa1e45_init_da8c8 cJxa1e45_init_da8c8 1 none) 5 rfl)) rfl (aw (w := Cond.initialized RJxa1e45) hts (ai0 (w := Cond.initialized RJxa1e45) 11 rfl)) (aw (w := Cond.methodLink RJxc12de 1 yJxa1e45_init_da8c8) hts (ai0 (w := Cond.methodLink RJxc12de 1 yJxa1e45_init_da8c8) 9 rfl)) (aw (w := Cond.instanceMethod yJxa1e45_init_da8c8) hts (ai0 (w := Cond.instanceMethod yJxa1e45_init_da8c8) 10 rfl)) rfl (by decide +kernel) ⟨(Nat.le_of_ble_eq_true rfl), (Nat.le_of_ble_eq_true rfl)⟩ hK hP hD hS hA hE [0] [] rfl (by decide) rfl (by decide) (by decide) rfl hl rfl (Nat.le_of_ble_eq_true rfl) ⟨(Nat.le_of_ble_eq_true rfl), (Nat.le_of_ble_eq_true rfl)⟩ dJxc12de_init_da8c8_1 (fun u H locs hP hD hS => ?_)
  have hP : va_P G.1 vwCl [(o, .inr (4, [.int 0, .null, .int 0]))] _ := hP
  have hD : va_D A [(o, .inr (4, [.int 0, .null, .int 0]))] := hD
  refine W.eq (g2 := F0 m _ ls []) rfl ?_
  refine lv_aload_n hx hb dJxc12de_init_da8c8_4 rfl (lv_at hl 0 rfl) ?_
  refine lv_iconst (v := 0) hx hb dJxc12de_init_da8c8_5 (by decide) ?_
  refine va_put (D := G.1) (ci := 4) (v := .int 0) (ty := .int) (C := RJx4a65c) (T := TJx4a65c) (N := 3) hx hb hts oaJx4a65c tyJx4a65c tyJx4a65c_ok nmJx4a65c hown hK.1 hP hD hS 0 rfl rfl 0 (by decide) (aw (w := Cond.fieldLink RJxc12de 7 "java/util/AbstractList" "modCount" "I") hts (ai0 (w := Cond.fieldLink RJxc12de 7 "java/util/AbstractList" "modCount" "I") 8 rfl)) (fun _ h9 => h9) rfl (by decide +kernel) rfl rfl (Nat.le_of_ble_eq_true rfl) dJxc12de_init_da8c8_6 (fun H locs hP hD hS => ?_)
  have hP : va_P G.1 vwCl [(o, .inr (4, [.int 0, .null, .int 0]))] _ := hP
  have hD : va_D A [(o, .inr (4, [.int 0, .null, .int 0]))] := hD
  refine W.widen (k := 0) (n := 0) (Nat.le_of_ble_eq_true rfl) (Nat.le_of_ble_eq_true rfl) ?_
  exact px_rv () hx hb hr hlk (hP.sub [0] rfl) (hD.sub [0] (by decide) rfl) hS rfl dJxc12de_init_da8c8_9

set_option maxHeartbeats 8000000 in
set_option maxRecDepth 100000 in
theorem k_al_init (l : Launch) (G : sxG) (k : pxC) (o : Nat)  : pxM l yJx4a65c_init_da8c8 (Cond.code yJx4a65c_init_da8c8 cJx4a65c_init_da8c8 1 none :: bwA) 3 52 0 0 G k [(o, .inr (4, [.int 0, .null, .int 0]))] [.ref o] (fun u : Unit => none) (fun u : Unit => ([(o, .inr (4, [.int 0, .ref k.1, .int 0]))] : va_W)) := by
  refine pxM.of (cc := cJx4a65c_init_da8c8) (maxL := 1) (by decide) rfl (Nat.le_of_ble_eq_true rfl) ?_
  intro p e s m args below meth c ⟨hx, hb, hr, hml, hown, hlk, hts, hK⟩ hin A hA hP hD hS hE ls hl
  have hl : lv_has ls 1 [(0, .ref o)] := hl
  refine lv_aload_n hx hb dJx4a65c_init_da8c8_0 rfl (lv_at hl 0 rfl) ?_
  refine px_i (As := []) (rest := []) (wr := []) hx hb hml hown hts (k_abl_init l G k o ) 0 (gA idA (ai0 (w := Cond.code yJxc12de_init_da8c8 cJxc12de_init_da8c8 1 none) 7 rfl)) rfl (aw (w := Cond.initialized RJxc12de) hts (ai0 (w := Cond.initialized RJxc12de) 17 rfl)) (aw (w := Cond.methodLink RJx4a65c 1 yJxc12de_init_da8c8) hts (ai0 (w := Cond.methodLink RJx4a65c 1 yJxc12de_init_da8c8) 15 rfl)) (aw (w := Cond.instanceMethod yJxc12de_init_da8c8) hts (ai0 (w := Cond.instanceMethod yJxc12de_init_da8c8) 16 rfl)) rfl (by decide +kernel) ⟨(Nat.le_of_ble_eq_true rfl), (Nat.le_of_ble_eq_true rfl)⟩ hK hP hD hS hA hE [0] [] rfl (by decide) rfl (by decide) (by decide) rfl hl rfl (Nat.le_of_ble_eq_true rfl) ⟨(Nat.le_of_ble_eq_true rfl), (Nat.le_of_ble_eq_true rfl)⟩ dJx4a65c_init_da8c8_1 (fun u H locs hP hD hS => ?_)
  have hP : va_P G.1 vwCl [(o, .inr (4, [.int 0, .null, .int 0]))] _ := hP
  have hD : va_D A [(o, .inr (4, [.int 0, .null, .int 0]))] := hD
  refine W.eq (g2 := F0 m _ ls []) rfl ?_
  refine lv_aload_n hx hb dJx4a65c_init_da8c8_4 rfl (lv_at hl 0 rfl) ?_
  refine va_gets hx hb hE.2.1.1 hS hown (aw (w := Cond.fieldLink RJx4a65c 39 "java/util/ArrayList" "DEFAULTCAPACITY_EMPTY_ELEMENTDATA" "[Ljava/lang/Object;") hts (ai0 (w := Cond.fieldLink RJx4a65c 39 "java/util/ArrayList" "DEFAULTCAPACITY_EMPTY_ELEMENTDATA" "[Ljava/lang/Object;") 13 rfl)) (fun _ h9 => h9) dJx4a65c_init_da8c8_5 ?_
  refine va_put (D := G.1) (ci := 4) (v := .ref k.1) (ty := .array (.object "java/lang/Object")) (C := RJx4a65c) (T := TJx4a65c) (N := 3) hx hb hts oaJx4a65c tyJx4a65c tyJx4a65c_ok nmJx4a65c hown hK.1 hP hD hS 0 rfl rfl 1 (by decide) (aw (w := Cond.fieldLink RJx4a65c 9 "java/util/ArrayList" "elementData" "[Ljava/lang/Object;") hts (ai0 (w := Cond.fieldLink RJx4a65c 9 "java/util/ArrayList" "elementData" "[Ljava/lang/Object;") 14 rfl)) (fun _ h9 => h9) rfl (by decide +kernel) rfl rfl (Nat.le_of_ble_eq_true rfl) dJx4a65c_init_da8c8_8 (fun H locs hP hD hS => ?_)
  have hP : va_P G.1 vwCl [(o, .inr (4, [.int 0, .ref k.1, .int 0]))] _ := hP
  have hD : va_D A [(o, .inr (4, [.int 0, .ref k.1, .int 0]))] := hD
  refine W.widen (k := 0) (n := 0) (Nat.le_of_ble_eq_true rfl) (Nat.le_of_ble_eq_true rfl) ?_
  exact px_rv () hx hb hr hlk (hP.sub [0] rfl) (hD.sub [0] (by decide) rfl) hS rfl dJx4a65c_init_da8c8_11

set_option maxHeartbeats 8000000 in
set_option maxRecDepth 100000 in
theorem k_al_size (l : Launch) (G : sxG) (k : pxC) (o : Nat) (ea : Nat) (mo : Int32) (n : Int32)  : pxM l yJx4a65c_size_8abf5 (Cond.code yJx4a65c_size_8abf5 cJx4a65c_size_8abf5 1 (some .int) :: bwA) 0 12 0 0 G k [(o, .inr (4, [.int mo, .ref ea, .int n]))] [.ref o] (fun u : Unit => some (.int n)) (fun u : Unit => ([(o, .inr (4, [.int mo, .ref ea, .int n]))] : va_W)) := by
  refine pxM.of (cc := cJx4a65c_size_8abf5) (maxL := 1) (by decide) rfl (Nat.le_of_ble_eq_true rfl) ?_
  intro p e s m args below meth c ⟨hx, hb, hr, hml, hown, hlk, hts, hK⟩ hin A hA hP hD hS hE ls hl
  have hl : lv_has ls 1 [(0, .ref o)] := hl
  refine lv_aload_n hx hb dJx4a65c_size_8abf5_0 rfl (lv_at hl 0 rfl) ?_
  refine va_get (D := G.1) (ci := 4) (v := .int n) (C := RJx4a65c) (T := TJx4a65c) (N := 3) hx hb hts oaJx4a65c hown hK.1 hP 0 rfl rfl 2 (by decide) (aw (w := Cond.fieldLink RJx4a65c 48 "java/util/ArrayList" "size" "I") hts (ai0 (w := Cond.fieldLink RJx4a65c 48 "java/util/ArrayList" "size" "I") 4 rfl)) (fun _ h9 => h9) rfl dJx4a65c_size_8abf5_1 ?_
  refine W.widen (k := 0) (n := 0) (Nat.le_of_ble_eq_true rfl) (Nat.le_of_ble_eq_true rfl) ?_
  exact px_ri () hx hb hr hlk (hP.sub [0] rfl) (hD.sub [0] (by decide) rfl) hS rfl (rfl) dJx4a65c_size_8abf5_4

set_option maxHeartbeats 8000000 in
set_option maxRecDepth 100000 in
theorem k_al_isEmpty0 (l : Launch) (G : sxG) (k : pxC) (o : Nat)  : pxM l yJx4a65c_isEmpty_aae02 (Cond.code yJx4a65c_isEmpty_aae02 cJx4a65c_isEmpty_aae02 1 (some .boolean) :: bwA) 0 12 0 0 G k [(o, .inr (4, [.int 0, .ref k.1, .int 0]))] [.ref o] (fun u : Unit => some (.int 1)) (fun u : Unit => ([(o, .inr (4, [.int 0, .ref k.1, .int 0]))] : va_W)) := by
  refine pxM.of (cc := cJx4a65c_isEmpty_aae02) (maxL := 1) (by decide) rfl (Nat.le_of_ble_eq_true rfl) ?_
  intro p e s m args below meth c ⟨hx, hb, hr, hml, hown, hlk, hts, hK⟩ hin A hA hP hD hS hE ls hl
  have hl : lv_has ls 1 [(0, .ref o)] := hl
  refine lv_aload_n hx hb dJx4a65c_isEmpty_aae02_0 rfl (lv_at hl 0 rfl) ?_
  refine va_get (D := G.1) (ci := 4) (v := .int 0) (C := RJx4a65c) (T := TJx4a65c) (N := 3) hx hb hts oaJx4a65c hown hK.1 hP 0 rfl rfl 2 (by decide) (aw (w := Cond.fieldLink RJx4a65c 48 "java/util/ArrayList" "size" "I") hts (ai0 (w := Cond.fieldLink RJx4a65c 48 "java/util/ArrayList" "size" "I") 4 rfl)) (fun _ h9 => h9) rfl dJx4a65c_isEmpty_aae02_1 ?_
  refine lv_if_ne (tgt := 11) hx hb dJx4a65c_isEmpty_aae02_4 (by decide) (fun c1 => absurd c1 (by decide)) (fun c1 => ?_)
  refine lv_iconst (v := 1) hx hb dJx4a65c_isEmpty_aae02_7 (by decide) ?_
  refine lv_goto (tgt := 12) hx hb dJx4a65c_isEmpty_aae02_8 (by decide) ?_
  refine W.widen (k := 0) (n := 0) (Nat.le_of_ble_eq_true rfl) (Nat.le_of_ble_eq_true rfl) ?_
  exact px_ri () hx hb hr hlk (hP.sub [0] rfl) (hD.sub [0] (by decide) rfl) hS rfl (rfl) dJx4a65c_isEmpty_aae02_12

set_option maxHeartbeats 8000000 in
set_option maxRecDepth 100000 in
theorem k_itr_init (l : Launch) (G : sxG) (k : pxC) (o : Nat) (a : Nat)  : pxM l yJx35411_init_45d68 (Cond.code yJx35411_init_45d68 cJx35411_init_45d68 2 none :: bwA) 1 12 0 0 G k [(o, .inr (3, [.int 0, .int 0, .int 0, .null])), (a, .inr (4, [.int 0, .ref k.1, .int 0]))] [.ref o, .ref a] (fun u : Unit => none) (fun u : Unit => ([(o, .inr (3, [.int 0, .int (-1), .int 0, .ref a])), (a, .inr (4, [.int 0, .ref k.1, .int 0]))] : va_W)) := by
  refine pxM.of (cc := cJx35411_init_45d68) (maxL := 2) (by decide) rfl (Nat.le_of_ble_eq_true rfl) ?_
  intro p e s m args below meth c ⟨hx, hb, hr, hml, hown, hlk, hts, hK⟩ hin A hA hP hD hS hE ls hl
  have hl : lv_has ls 2 [(0, .ref o), (1, .ref a)] := hl
  refine lv_aload_n hx hb dJx35411_init_45d68_0 rfl (lv_at hl 0 rfl) ?_
  refine lv_aload_n hx hb dJx35411_init_45d68_1 rfl (lv_at hl 1 rfl) ?_
  refine va_putF (D := G.1) (ci := 3) (v := .ref a) (ty := .object "java/util/ArrayList") (C := RJx35411) (T := TJx35411) (N := 4) hx hb hts oaJx35411 tyJx35411 tyJx35411_ok nmJx35411 hown hK.1 hP hD hS 0 rfl rfl 3 (by decide) (aw (w := Cond.fieldLink RJx35411 1 "java/util/ArrayList$Itr" "this$0" "Ljava/util/ArrayList;") hts (ai4 (w := Cond.fieldLink RJx35411 1 "java/util/ArrayList$Itr" "this$0" "Ljava/util/ArrayList;") 0 rfl)) (fun _ h9 => h9) rfl hin rfl (by decide +kernel) rfl rfl (Nat.le_of_ble_eq_true rfl) dJx35411_init_45d68_2 (fun H locs hP hD hS => ?_)
  have hP : va_P G.1 vwCl [(o, .inr (3, [.int 0, .int 0, .int 0, .ref a])), (a, .inr (4, [.int 0, .ref k.1, .int 0]))] _ := hP
  have hD : va_D A [(o, .inr (3, [.int 0, .int 0, .int 0, .ref a])), (a, .inr (4, [.int 0, .ref k.1, .int 0]))] := hD
  refine lv_aload_n hx hb dJx35411_init_45d68_5 rfl (lv_at hl 0 rfl) ?_
  refine W.objInit hx hb hown (aw (w := Cond.methodLink RJx35411 7 objectInit) hts (ai4 (w := Cond.methodLink RJx35411 7 objectInit) 1 rfl)) (aw (w := Cond.instanceMethod objectInit) hts (ahC (bi0 (w := Cond.instanceMethod objectInit) 2 rfl))) (aw (w := Cond.code objectInit ⟨#[0xb1]⟩ 1 none) hts (ahC (bi0 (w := Cond.code objectInit ⟨#[0xb1]⟩ 1 none) 3 rfl))) rfl (by rw [hml]; exact hl.1) rfl dJx35411_init_45d68_6 (Nat.le_of_ble_eq_true rfl) (Nat.le_of_ble_eq_true rfl) ?_
  refine W.eq (g2 := F0 m 9 ls []) rfl ?_
  refine lv_aload_n hx hb dJx35411_init_45d68_9 rfl (lv_at hl 0 rfl) ?_
  refine lv_iconst (v := (-1)) hx hb dJx35411_init_45d68_10 (by decide) ?_
  refine va_put (D := G.1) (ci := 3) (v := .int (-1)) (ty := .int) (C := RJx35411) (T := TJx35411) (N := 4) hx hb hts oaJx35411 tyJx35411 tyJx35411_ok nmJx35411 hown hK.1 hP hD hS 0 rfl rfl 1 (by decide) (aw (w := Cond.fieldLink RJx35411 13 "java/util/ArrayList$Itr" "lastRet" "I") hts (ai4 (w := Cond.fieldLink RJx35411 13 "java/util/ArrayList$Itr" "lastRet" "I") 2 rfl)) (fun _ h9 => h9) rfl (by decide +kernel) rfl rfl (Nat.le_of_ble_eq_true rfl) dJx35411_init_45d68_11 (fun H locs hP hD hS => ?_)
  have hP : va_P G.1 vwCl [(o, .inr (3, [.int 0, .int (-1), .int 0, .ref a])), (a, .inr (4, [.int 0, .ref k.1, .int 0]))] _ := hP
  have hD : va_D A [(o, .inr (3, [.int 0, .int (-1), .int 0, .ref a])), (a, .inr (4, [.int 0, .ref k.1, .int 0]))] := hD
  refine lv_aload_n hx hb dJx35411_init_45d68_14 rfl (lv_at hl 0 rfl) ?_
  refine lv_aload_n hx hb dJx35411_init_45d68_15 rfl (lv_at hl 0 rfl) ?_
  refine va_get (D := G.1) (ci := 3) (v := .ref a) (C := RJx35411) (T := TJx35411) (N := 4) hx hb hts oaJx35411 hown hK.1 hP 0 rfl rfl 3 (by decide) (aw (w := Cond.fieldLink RJx35411 1 "java/util/ArrayList$Itr" "this$0" "Ljava/util/ArrayList;") hts (ai4 (w := Cond.fieldLink RJx35411 1 "java/util/ArrayList$Itr" "this$0" "Ljava/util/ArrayList;") 0 rfl)) (fun _ h9 => h9) rfl dJx35411_init_45d68_16 ?_
  refine va_get (D := G.1) (ci := 4) (v := .int 0) (C := RJx4a65c) (T := TJx4a65c) (N := 3) hx hb hts oaJx4a65c hown hK.1 hP 1 rfl rfl 0 (by decide) (aw (w := Cond.fieldLink RJx35411 17 "java/util/ArrayList" "modCount" "I") hts (ai4 (w := Cond.fieldLink RJx35411 17 "java/util/ArrayList" "modCount" "I") 3 rfl)) (fun x9 h9 => u_same (aw (w := Cond.sameField "java/util/ArrayList" "java/util/AbstractList" "modCount" "I") hts (ai1 (w := Cond.sameField "java/util/ArrayList" "java/util/AbstractList" "modCount" "I") 23 rfl)) x9 h9) rfl dJx35411_init_45d68_19 ?_
  refine va_put (D := G.1) (ci := 3) (v := .int 0) (ty := .int) (C := RJx35411) (T := TJx35411) (N := 4) hx hb hts oaJx35411 tyJx35411 tyJx35411_ok nmJx35411 hown hK.1 hP hD hS 0 rfl rfl 2 (by decide) (aw (w := Cond.fieldLink RJx35411 22 "java/util/ArrayList$Itr" "expectedModCount" "I") hts (ai4 (w := Cond.fieldLink RJx35411 22 "java/util/ArrayList$Itr" "expectedModCount" "I") 4 rfl)) (fun _ h9 => h9) rfl (by decide +kernel) rfl rfl (Nat.le_of_ble_eq_true rfl) dJx35411_init_45d68_22 (fun H locs hP hD hS => ?_)
  have hP : va_P G.1 vwCl [(o, .inr (3, [.int 0, .int (-1), .int 0, .ref a])), (a, .inr (4, [.int 0, .ref k.1, .int 0]))] _ := hP
  have hD : va_D A [(o, .inr (3, [.int 0, .int (-1), .int 0, .ref a])), (a, .inr (4, [.int 0, .ref k.1, .int 0]))] := hD
  refine W.widen (k := 0) (n := 0) (Nat.le_of_ble_eq_true rfl) (Nat.le_of_ble_eq_true rfl) ?_
  exact px_rv () hx hb hr hlk (hP.sub [0, 1] rfl) (hD.sub [0, 1] (by decide) rfl) hS rfl dJx35411_init_45d68_25

set_option maxHeartbeats 8000000 in
set_option maxRecDepth 100000 in
theorem k_al_iterator0 (l : Launch) (G : sxG) (k : pxC) (a : Nat)  : pxM l yJx4a65c_iterator_32c93 (Cond.code yJx4a65c_iterator_32c93 cJx4a65c_iterator_32c93 1 (some (.object "java/util/Iterator")) :: bwA) 2 33 1 4 G k [(a, .inr (4, [.int 0, .ref k.1, .int 0]))] [.ref a] (fun u : Nat => some (.ref u)) (fun u : Nat => ([(u, .inr (3, [.int 0, .int (-1), .int 0, .ref a])), (a, .inr (4, [.int 0, .ref k.1, .int 0]))] : va_W)) := by
  refine pxM.of (cc := cJx4a65c_iterator_32c93) (maxL := 1) (by decide) rfl (Nat.le_of_ble_eq_true rfl) ?_
  intro p e s m args below meth c ⟨hx, hb, hr, hml, hown, hlk, hts, hK⟩ hin A hA hP hD hS hE ls hl
  have hl : lv_has ls 1 [(0, .ref a)] := hl
  refine va_new (ci := 3) (fs := [.int 0, .int 0, .int 0, .null]) (C := RJx35411) (T := TJx35411) (N := 4) hx hb hts oaJx35411 tyJx35411 tyJx35411_ok hown (aw (w := Cond.classLink RJx4a65c 267 RJx35411) hts (ai4 (w := Cond.classLink RJx4a65c 267 RJx35411) 6 rfl)) (aw (w := Cond.instantiable RJx35411 4) hts (ai4 (w := Cond.instantiable RJx35411 4) 7 rfl)) (aw (w := Cond.initialized RJx35411) hts (ai4 (w := Cond.initialized RJx35411) 8 rfl)) hK.1 hP hD hS hA rfl dvJx35411 (Nat.le_of_ble_eq_true rfl) (Nat.le_of_ble_eq_true rfl) dJx4a65c_iterator_32c93_0 (fun q1 H hP hD hS => ?_)
  have hP : va_P G.1 vwCl [(a, .inr (4, [.int 0, .ref k.1, .int 0])), (q1, .inr (3, [.int 0, .int 0, .int 0, .null]))] _ := hP
  have hD : va_D A [(a, .inr (4, [.int 0, .ref k.1, .int 0])), (q1, .inr (3, [.int 0, .int 0, .int 0, .null]))] := hD
  refine W.widen (k := 1) (n := 4) (Nat.le_of_ble_eq_true rfl) (Nat.le_of_ble_eq_true rfl) ?_
  refine lv_dup hx hb dJx4a65c_iterator_32c93_3 rfl ?_
  refine lv_aload_n hx hb dJx4a65c_iterator_32c93_4 rfl (lv_at hl 0 rfl) ?_
  refine px_i (As := [.ref a]) (rest := [.ref q1]) (wr := []) hx hb hml hown hts (k_itr_init l G k q1 a ) 1 (gA idA (ai3 (w := Cond.code yJx35411_init_45d68 cJx35411_init_45d68 2 none) 59 rfl)) rfl (aw (w := Cond.initialized RJx35411) hts (ai4 (w := Cond.initialized RJx35411) 8 rfl)) (aw (w := Cond.methodLink RJx4a65c 269 yJx35411_init_45d68) hts (ai4 (w := Cond.methodLink RJx4a65c 269 yJx35411_init_45d68) 9 rfl)) (aw (w := Cond.instanceMethod yJx35411_init_45d68) hts (ai4 (w := Cond.instanceMethod yJx35411_init_45d68) 10 rfl)) rfl (by decide +kernel) ⟨(Nat.le_of_ble_eq_true rfl), (Nat.le_of_ble_eq_true rfl)⟩ hK hP hD hS hA hE [1, 0] [] rfl (by decide) rfl (by decide) (by decide) rfl hl rfl (Nat.le_of_ble_eq_true rfl) ⟨(Nat.le_of_ble_eq_true rfl), (Nat.le_of_ble_eq_true rfl)⟩ dJx4a65c_iterator_32c93_5 (fun u H locs hP hD hS => ?_)
  have hP : va_P G.1 vwCl [(q1, .inr (3, [.int 0, .int (-1), .int 0, .ref a])), (a, .inr (4, [.int 0, .ref k.1, .int 0]))] _ := hP
  have hD : va_D A [(q1, .inr (3, [.int 0, .int (-1), .int 0, .ref a])), (a, .inr (4, [.int 0, .ref k.1, .int 0]))] := hD
  refine W.eq (g2 := F0 m _ ls [.ref q1]) rfl ?_
  refine W.widen (k := 1) (n := 4) (Nat.le_of_ble_eq_true rfl) (Nat.le_of_ble_eq_true rfl) ?_
  exact px_ra (q1) hx hb hr (Or.inl ⟨_, rfl⟩) hlk (hP.sub [0, 1] rfl) (hD.sub [0, 1] (by decide) rfl) hS rfl dJx4a65c_iterator_32c93_8

set_option maxHeartbeats 8000000 in
set_option maxRecDepth 100000 in
theorem k_itr_hasNext0 (l : Launch) (G : sxG) (k : pxC) (o : Nat) (a : Nat)  : pxM l yJx35411_hasNext_aae02 (Cond.code yJx35411_hasNext_aae02 cJx35411_hasNext_aae02 1 (some .boolean) :: bwA) 0 12 0 0 G k [(o, .inr (3, [.int 0, .int (-1), .int 0, .ref a])), (a, .inr (4, [.int 0, .ref k.1, .int 0]))] [.ref o] (fun u : Unit => some (.int 0)) (fun u : Unit => ([(o, .inr (3, [.int 0, .int (-1), .int 0, .ref a])), (a, .inr (4, [.int 0, .ref k.1, .int 0]))] : va_W)) := by
  refine pxM.of (cc := cJx35411_hasNext_aae02) (maxL := 1) (by decide) rfl (Nat.le_of_ble_eq_true rfl) ?_
  intro p e s m args below meth c ⟨hx, hb, hr, hml, hown, hlk, hts, hK⟩ hin A hA hP hD hS hE ls hl
  have hl : lv_has ls 1 [(0, .ref o)] := hl
  refine lv_aload_n hx hb dJx35411_hasNext_aae02_0 rfl (lv_at hl 0 rfl) ?_
  refine va_get (D := G.1) (ci := 3) (v := .int 0) (C := RJx35411) (T := TJx35411) (N := 4) hx hb hts oaJx35411 hown hK.1 hP 0 rfl rfl 0 (by decide) (aw (w := Cond.fieldLink RJx35411 25 "java/util/ArrayList$Itr" "cursor" "I") hts (ai4 (w := Cond.fieldLink RJx35411 25 "java/util/ArrayList$Itr" "cursor" "I") 12 rfl)) (fun _ h9 => h9) rfl dJx35411_hasNext_aae02_1 ?_
  refine lv_aload_n hx hb dJx35411_hasNext_aae02_4 rfl (lv_at hl 0 rfl) ?_
  refine va_get (D := G.1) (ci := 3) (v := .ref a) (C := RJx35411) (T := TJx35411) (N := 4) hx hb hts oaJx35411 hown hK.1 hP 0 rfl rfl 3 (by decide) (aw (w := Cond.fieldLink RJx35411 1 "java/util/ArrayList$Itr" "this$0" "Ljava/util/ArrayList;") hts (ai4 (w := Cond.fieldLink RJx35411 1 "java/util/ArrayList$Itr" "this$0" "Ljava/util/ArrayList;") 0 rfl)) (fun _ h9 => h9) rfl dJx35411_hasNext_aae02_5 ?_
  refine va_getN (D := G.1) (ci := 4) (v := .int 0) (C := RJx4a65c) (T := TJx4a65c) (N := 3) (host := RJx4a65c) hx hb hts oaJx4a65c hown hK.1 hP 1 rfl rfl 2 (by decide) (va_Nw.use rfl (hE.1.1 (.fieldLinkNest RJx35411 28 RJx4a65c "size" "I" RJx4a65c) (by simp [pxNl]))) (fun _ h9 => h9) rfl dJx35411_hasNext_aae02_8 ?_
  refine lv_icmp_eq (tgt := 18) hx hb dJx35411_hasNext_aae02_11 (by decide) (fun c1 => ?_) (fun c1 => absurd c1 (by decide))
  refine lv_iconst (v := 0) hx hb dJx35411_hasNext_aae02_18 (by decide) ?_
  refine W.widen (k := 0) (n := 0) (Nat.le_of_ble_eq_true rfl) (Nat.le_of_ble_eq_true rfl) ?_
  exact px_ri () hx hb hr hlk (hP.sub [0, 1] rfl) (hD.sub [0, 1] (by decide) rfl) hS rfl (rfl) dJx35411_hasNext_aae02_19
