theorem dvX10 : ∀ j, j < 1 → defaultValue (tyX10 j) = vp_V [.int 0] j := by
  intro j hj
  rcases (show j = 0 by omega) with rfl <;> rfl
theorem dvX11 : ∀ j, j < 9 → defaultValue (tyX11 j) = vp_V [.null, .int 0, .int 0, .null, .null, .null, .null, .null, .null] j := by
  intro j hj
  rcases (show j = 0 ∨ j = 1 ∨ j = 2 ∨ j = 3 ∨ j = 4 ∨ j = 5 ∨ j = 6 ∨ j = 7 ∨ j = 8 by omega) with rfl | rfl | rfl | rfl | rfl | rfl | rfl | rfl | rfl <;> rfl
theorem dvX12 : ∀ j, j < 3 → defaultValue (tyX12 j) = vp_V [.int 0, .int 0, .int 0] j := by
  intro j hj
  rcases (show j = 0 ∨ j = 1 ∨ j = 2 by omega) with rfl | rfl | rfl <;> rfl
theorem dvX13 : ∀ j, j < 4 → defaultValue (tyX13 j) = vp_V [.int 0, .int 0, .null, .int 0] j := by
  intro j hj
  rcases (show j = 0 ∨ j = 1 ∨ j = 2 ∨ j = 3 by omega) with rfl | rfl | rfl | rfl <;> rfl
theorem dvX14 : ∀ j, j < 2 → defaultValue (tyX14 j) = vp_V [.null, .null] j := by
  intro j hj
  rcases (show j = 0 ∨ j = 1 by omega) with rfl | rfl <;> rfl
theorem dvX15 : ∀ j, j < 18 → defaultValue (tyX15 j) = vp_V [.null, .null, .int 0, .null, .null, .null, .null, .null, .null, .int 0, .int 0, .int 0, .int 0, .int 0, .int 0, .int 0, .int 0, .int 0] j := by
  intro j hj
  rcases (show j = 0 ∨ j = 1 ∨ j = 2 ∨ j = 3 ∨ j = 4 ∨ j = 5 ∨ j = 6 ∨ j = 7 ∨ j = 8 ∨ j = 9 ∨ j = 10 ∨ j = 11 ∨ j = 12 ∨ j = 13 ∨ j = 14 ∨ j = 15 ∨ j = 16 ∨ j = 17 by omega) with rfl | rfl | rfl | rfl | rfl | rfl | rfl | rfl | rfl | rfl | rfl | rfl | rfl | rfl | rfl | rfl | rfl | rfl <;> rfl
theorem dvX16 : ∀ j, j < 4 → defaultValue (tyX16 j) = vp_V [.int 0, .null, .null, .int 0] j := by
  intro j hj
  rcases (show j = 0 ∨ j = 1 ∨ j = 2 ∨ j = 3 by omega) with rfl | rfl | rfl | rfl <;> rfl
theorem dvJ6 : ∀ j, j < 1 → defaultValue (tyJ6 j) = vp_V [.int 0] j := by
  intro j hj
  rcases (show j = 0 by omega) with rfl <;> rfl
theorem dvJx35411 : ∀ j, j < 4 → defaultValue (tyJx35411 j) = vp_V [.int 0, .int 0, .int 0, .null] j := by
  intro j hj
  rcases (show j = 0 ∨ j = 1 ∨ j = 2 ∨ j = 3 by omega) with rfl | rfl | rfl | rfl <;> rfl
theorem dvJx4a65c : ∀ j, j < 3 → defaultValue (tyJx4a65c j) = vp_V [.int 0, .null, .int 0] j := by
  intro j hj
  rcases (show j = 0 ∨ j = 1 ∨ j = 2 by omega) with rfl | rfl | rfl <;> rfl

set_option maxHeartbeats 8000000 in
set_option maxRecDepth 100000 in
theorem k_ac_init (l : Launch) (G : sxG) (k : pxC) (o : Nat)  : pxM l yJxa1e45_init_da8c8 (Cond.code yJxa1e45_init_da8c8 cJxa1e45_init_da8c8 1 none :: bwA) 1 12 0 0 G k [(o, .inr (4, [.int 0, .null, .int 0]))] [.ref o] (fun u : Unit => none) (fun u : Unit => ([(o, .inr (4, [.int 0, .null, .int 0]))] : va_W)) := by
  refine pxM.of (cc := cJxa1e45_init_da8c8) (maxL := 1) (by decide) rfl (Nat.le_of_ble_eq_true rfl) ?_
  intro p e s m args below meth c ⟨hx, hb, hr, hml, hown, hlk, hts, hK⟩ hin A hA hP hD hS hE ls hl
  have hl : lv_has ls 1 [(0, .ref o)] := hl
  refine lv_aload_n hx hb dJxa1e45_init_da8c8_0 rfl (lv_at hl 0 rfl) ?_
  refine W.objInit hx hb hown (aw (w := Cond.methodLink RJxa1e45 1 objectInit) hts (ai0 (w := Cond.methodLink RJxa1e45 1 objectInit) 6 rfl)) (aw (w := Cond.instanceMethod objectInit) hts (ahC (bi0 (w := Cond.instanceMethod objectInit) 2 rfl))) (aw (w := Cond.code objectInit ⟨#[0xb1]⟩ 1 none) hts (ahC (bi0 (w := Cond.code objectInit ⟨#[0xb1]⟩ 1 none) 3 rfl))) rfl (by rw [hml]; exact hl.1) rfl dJxa1e45_init_da8c8_1 (Nat.le_of_ble_eq_true rfl) (Nat.le_of_ble_eq_true rfl) ?_
  refine W.eq (g2 := F0 m 4 ls []) rfl ?_
  refine W.widen (k := 0) (n := 0) (Nat.le_of_ble_eq_true rfl) (Nat.le_of_ble_eq_true rfl) ?_
  exact px_rv () hx hb hr hlk (hP.sub [0] rfl) (hD.sub [0] (by decide) rfl) hS rfl dJxa1e45_init_da8c8_4

set_option maxHeartbeats 8000000 in
set_option maxRecDepth 100000 in
theorem k_abl_init (l : Launch) (G : sxG) (k : pxC) (o : Nat)  : pxM l yJxc12de_init_da8c8 (Cond.code yJxc12de_init_da8c8 cJxc12de_init_da8c8 1 none :: bwA) 2 32 0 0 G k [(o, .inr (4, [.int 0, .null, .int 0]))] [.ref o] (fun u : Unit => none) (fun u : Unit => ([(o, .inr (4, [.int 0, .null, .int 0]))] : va_W)) := by
  refine pxM.of (cc := cJxc12de_init_da8c8) (maxL := 1) (by decide) rfl (Nat.le_of_ble_eq_true rfl) ?_
  intro p e s m args below meth c ⟨hx, hb, hr, hml, hown, hlk, hts, hK⟩ hin A hA hP hD hS hE ls hl
  have hl : lv_has ls 1 [(0, .ref o)] := hl
  refine lv_aload_n hx hb dJxc12de_init_da8c8_0 rfl (lv_at hl 0 rfl) ?_
  refine px_i (As := []) (rest := []) (wr := []) hx hb hml hown hts (k_ac_init l G k o ) 0 (gA idA (ai0 (w := Cond.code yJxa1e45_init_da8c8 cJxa1e45_init_da8c8 1 none) 5 rfl)) rfl (aw (w := Cond.initialized RJxa1e45) hts (ai0 (w := Cond.initialized RJxa1e45) 11 rfl)) (aw (w := Cond.methodLink RJxc12de 1 yJxa1e45_init_da8c8) hts (ai0 (w := Cond.methodLink RJxc12de 1 yJxa1e45_init_da8c8) 9 rfl)) (aw (w := Cond.instanceMethod yJxa1e45_init_da8c8) hts (ai0 (w := Cond.instanceMethod yJxa1e45_init_da8c8) 10 rfl)) rfl (by decide +kernel) ⟨(Nat.le_of_ble_eq_true rfl), (Nat.le_of_ble_eq_true rfl)⟩ hK hP hD hS hA hE [0] [] rfl (by decide) rfl (by decide) (by decide) rfl hl rfl (Nat.le_of_ble_eq_true rfl) ⟨(Nat.le_of_ble_eq_true rfl), (Nat.le_of_ble_eq_true rfl)⟩ dJxc12de_init_da8c8_1 (fun u H locs hP hD hS => ?_)
  have hP : va_P G.1 vwCl [(o, .inr (4, [.int 0, .null, .int 0]))] _ := hP
  have hD : va_D A [(o, .inr (4, [.int 0, .null, .int 0]))] := hD
  refine W.eq (g2 := F0 m _ ls []) rfl ?_
  refine lv_aload_n hx hb dJxc12de_init_da8c8_4 rfl (lv_at hl 0 rfl) ?_
  refine lv_iconst (v := 0) hx hb dJxc12de_init_da8c8_5 (by decide) ?_
  refine va_put (D := G.1) (ci := 4) (v := .int 0) (ty := .int) (C := RJx4a65c) (T := TJx4a65c) (N := 3) hx hb hts oaJx4a65c tyJx4a65c tyJx4a65c_ok nmJx4a65c hown hK.1 hP hD hS 0 rfl rfl 0 (by decide) (aw (w := Cond.fieldLink RJxc12de 7 "java/util/AbstractList" "modCount" "I") hts (ai0 (w := Cond.fieldLink RJxc12de 7 "java/util/AbstractList" "modCount" "I") 8 rfl)) (fun _ h9 => h9) rfl (by decide +kernel) rfl rfl (Nat.le_of_ble_eq_true rfl) dJxc12de_init_da8c8_6 (fun H locs hP hD hS => ?_)
  have hP : va_P G.1 vwCl [(o, .inr (4, [.int 0, .null, .int 0]))] _ := hP
  have hD : va_D A [(o, .inr (4, [.int 0, .null, .int 0]))] := hD
  refine W.widen (k := 0) (n := 0) (Nat.le_of_ble_eq_true rfl) (Nat.le_of_ble_eq_true rfl) ?_
  exact px_rv () hx hb hr hlk (hP.sub [0] rfl) (hD.sub [0] (by decide) rfl) hS rfl dJxc12de_init_da8c8_9

set_option maxHeartbeats 8000000 in
set_option maxRecDepth 100000 in
theorem k_al_init (l : Launch) (G : sxG) (k : pxC) (o : Nat)  : pxM l yJx4a65c_init_da8c8 (Cond.code yJx4a65c_init_da8c8 cJx4a65c_init_da8c8 1 none :: bwA) 3 52 0 0 G k [(o, .inr (4, [.int 0, .null, .int 0]))] [.ref o] (fun u : Unit => none) (fun u : Unit => ([(o, .inr (4, [.int 0, .ref k.1, .int 0]))] : va_W)) := by
  refine pxM.of (cc := cJx4a65c_init_da8c8) (maxL := 1) (by decide) rfl (Nat.le_of_ble_eq_true rfl) ?_
  intro p e s m args below meth c ⟨hx, hb, hr, hml, hown, hlk, hts, hK⟩ hin A hA hP hD hS hE ls hl
  have hl : lv_has ls 1 [(0, .ref o)] := hl
  refine lv_aload_n hx hb dJx4a65c_init_da8c8_0 rfl (lv_at hl 0 rfl) ?_
  refine px_i (As := []) (rest := []) (wr := []) hx hb hml hown hts (k_abl_init l G k o ) 0 (gA idA (ai0 (w := Cond.code yJxc12de_init_da8c8 cJxc12de_init_da8c8 1 none) 7 rfl)) rfl (aw (w := Cond.initialized RJxc12de) hts (ai0 (w := Cond.initialized RJxc12de) 17 rfl)) (aw (w := Cond.methodLink RJx4a65c 1 yJxc12de_init_da8c8) hts (ai0 (w := Cond.methodLink RJx4a65c 1 yJxc12de_init_da8c8) 15 rfl)) (aw (w := Cond.instanceMethod yJxc12de_init_da8c8) hts (ai0 (w := Cond.instanceMethod yJxc12de_init_da8c8) 16 rfl)) rfl (by decide +kernel) ⟨(Nat.le_of_ble_eq_true rfl), (Nat.le_of_ble_eq_true rfl)⟩ hK hP hD hS hA hE [0] [] rfl (by decide) rfl (by decide) (by decide) rfl hl rfl (Nat.le_of_ble_eq_true rfl) ⟨(Nat.le_of_ble_eq_true rfl), (Nat.le_of_ble_eq_true rfl)⟩ dJx4a65c_init_da8c8_1 (fun u H locs hP hD hS => ?_)
  have hP : va_P G.1 vwCl [(o, .inr (4, [.int 0, .null, .int 0]))] _ := hP
  have hD : va_D A [(o, .inr (4, [.int 0, .null, .int 0]))] := hD
  refine W.eq (g2 := F0 m _ ls []) rfl ?_
  refine lv_aload_n hx hb dJx4a65c_init_da8c8_4 rfl (lv_at hl 0 rfl) ?_
  refine va_gets hx hb hE.2.1.1 hS hown (aw (w := Cond.fieldLink RJx4a65c 39 "java/util/ArrayList" "DEFAULTCAPACITY_EMPTY_ELEMENTDATA" "[Ljava/lang/Object;") hts (ai0 (w := Cond.fieldLink RJx4a65c 39 "java/util/ArrayList" "DEFAULTCAPACITY_EMPTY_ELEMENTDATA" "[Ljava/lang/Object;") 13 rfl)) (fun _ h9 => h9) dJx4a65c_init_da8c8_5 ?_
  refine va_put (D := G.1) (ci := 4) (v := .ref k.1) (ty := .array (.object "java/lang/Object")) (C := RJx4a65c) (T := TJx4a65c) (N := 3) hx hb hts oaJx4a65c tyJx4a65c tyJx4a65c_ok nmJx4a65c hown hK.1 hP hD hS 0 rfl rfl 1 (by decide) (aw (w := Cond.fieldLink RJx4a65c 9 "java/util/ArrayList" "elementData" "[Ljava/lang/Object;") hts (ai0 (w := Cond.fieldLink RJx4a65c 9 "java/util/ArrayList" "elementData" "[Ljava/lang/Object;") 14 rfl)) (fun _ h9 => h9) rfl (by decide +kernel) rfl rfl (Nat.le_of_ble_eq_true rfl) dJx4a65c_init_da8c8_8 (fun H locs hP hD hS => ?_)
  have hP : va_P G.1 vwCl [(o, .inr (4, [.int 0, .ref k.1, .int 0]))] _ := hP
  have hD : va_D A [(o, .inr (4, [.int 0, .ref k.1, .int 0]))] := hD
  refine W.widen (k := 0) (n := 0) (Nat.le_of_ble_eq_true rfl) (Nat.le_of_ble_eq_true rfl) ?_
  exact px_rv () hx hb hr hlk (hP.sub [0] rfl) (hD.sub [0] (by decide) rfl) hS rfl dJx4a65c_init_da8c8_11

set_option maxHeartbeats 8000000 in
set_option maxRecDepth 100000 in
theorem k_al_size (l : Launch) (G : sxG) (k : pxC) (o : Nat) (ea : Nat) (mo : Int32) (n : Int32)  : pxM l yJx4a65c_size_8abf5 (Cond.code yJx4a65c_size_8abf5 cJx4a65c_size_8abf5 1 (some .int) :: bwA) 0 12 0 0 G k [(o, .inr (4, [.int mo, .ref ea, .int n]))] [.ref o] (fun u : Unit => some (.int n)) (fun u : Unit => ([(o, .inr (4, [.int mo, .ref ea, .int n]))] : va_W)) := by
  refine pxM.of (cc := cJx4a65c_size_8abf5) (maxL := 1) (by decide) rfl (Nat.le_of_ble_eq_true rfl) ?_
  intro p e s m args below meth c ⟨hx, hb, hr, hml, hown, hlk, hts, hK⟩ hin A hA hP hD hS hE ls hl
  have hl : lv_has ls 1 [(0, .ref o)] := hl
  refine lv_aload_n hx hb dJx4a65c_size_8abf5_0 rfl (lv_at hl 0 rfl) ?_
  refine va_get (D := G.1) (ci := 4) (v := .int n) (C := RJx4a65c) (T := TJx4a65c) (N := 3) hx hb hts oaJx4a65c hown hK.1 hP 0 rfl rfl 2 (by decide) (aw (w := Cond.fieldLink RJx4a65c 48 "java/util/ArrayList" "size" "I") hts (ai0 (w := Cond.fieldLink RJx4a65c 48 "java/util/ArrayList" "size" "I") 4 rfl)) (fun _ h9 => h9) rfl dJx4a65c_size_8abf5_1 ?_
  refine W.widen (k := 0) (n := 0) (Nat.le_of_ble_eq_true rfl) (Nat.le_of_ble_eq_true rfl) ?_
  exact px_ri () hx hb hr hlk (hP.sub [0] rfl) (hD.sub [0] (by decide) rfl) hS rfl (rfl) dJx4a65c_size_8abf5_4

set_option maxHeartbeats 8000000 in
set_option maxRecDepth 100000 in
theorem k_al_isEmpty0 (l : Launch) (G : sxG) (k : pxC) (o : Nat)  : pxM l yJx4a65c_isEmpty_aae02 (Cond.code yJx4a65c_isEmpty_aae02 cJx4a65c_isEmpty_aae02 1 (some .boolean) :: bwA) 0 12 0 0 G k [(o, .inr (4, [.int 0, .ref k.1, .int 0]))] [.ref o] (fun u : Unit => some (.int 1)) (fun u : Unit => ([(o, .inr (4, [.int 0, .ref k.1, .int 0]))] : va_W)) := by
  refine pxM.of (cc := cJx4a65c_isEmpty_aae02) (maxL := 1) (by decide) rfl (Nat.le_of_ble_eq_true rfl) ?_
  intro p e s m args below meth c ⟨hx, hb, hr, hml, hown, hlk, hts, hK⟩ hin A hA hP hD hS hE ls hl
  have hl : lv_has ls 1 [(0, .ref o)] := hl
  refine lv_aload_n hx hb dJx4a65c_isEmpty_aae02_0 rfl (lv_at hl 0 rfl) ?_
  refine va_get (D := G.1) (ci := 4) (v := .int 0) (C := RJx4a65c) (T := TJx4a65c) (N := 3) hx hb hts oaJx4a65c hown hK.1 hP 0 rfl rfl 2 (by decide) (aw (w := Cond.fieldLink RJx4a65c 48 "java/util/ArrayList" "size" "I") hts (ai0 (w := Cond.fieldLink RJx4a65c 48 "java/util/ArrayList" "size" "I") 4 rfl)) (fun _ h9 => h9) rfl dJx4a65c_isEmpty_aae02_1 ?_
  refine lv_if_ne (tgt := 11) hx hb dJx4a65c_isEmpty_aae02_4 (by decide) (fun c1 => absurd c1 (by decide)) (fun c1 => ?_)
  refine lv_iconst (v := 1) hx hb dJx4a65c_isEmpty_aae02_7 (by decide) ?_
  refine lv_goto (tgt := 12) hx hb dJx4a65c_isEmpty_aae02_8 (by decide) ?_
  refine W.widen (k := 0) (n := 0) (Nat.le_of_ble_eq_true rfl) (Nat.le_of_ble_eq_true rfl) ?_
  exact px_ri () hx hb hr hlk (hP.sub [0] rfl) (hD.sub [0] (by decide) rfl) hS rfl (rfl) dJx4a65c_isEmpty_aae02_12

set_option maxHeartbeats 8000000 in
set_option maxRecDepth 100000 in
theorem k_itr_init (l : Launch) (G : sxG) (k : pxC) (o : Nat) (a : Nat)  : pxM l yJx35411_init_45d68 (Cond.code yJx35411_init_45d68 cJx35411_init_45d68 2 none :: bwA) 1 12 0 0 G k [(o, .inr (3, [.int 0, .int 0, .int 0, .null])), (a, .inr (4, [.int 0, .ref k.1, .int 0]))] [.ref o, .ref a] (fun u : Unit => none) (fun u : Unit => ([(o, .inr (3, [.int 0, .int (-1), .int 0, .ref a])), (a, .inr (4, [.int 0, .ref k.1, .int 0]))] : va_W)) := by
  refine pxM.of (cc := cJx35411_init_45d68) (maxL := 2) (by decide) rfl (Nat.le_of_ble_eq_true rfl) ?_
  intro p e s m args below meth c ⟨hx, hb, hr, hml, hown, hlk, hts, hK⟩ hin A hA hP hD hS hE ls hl
  have hl : lv_has ls 2 [(0, .ref o), (1, .ref a)] := hl
  refine lv_aload_n hx hb dJx35411_init_45d68_0 rfl (lv_at hl 0 rfl) ?_
  refine lv_aload_n hx hb dJx35411_init_45d68_1 rfl (lv_at hl 1 rfl) ?_
  refine va_putF (D := G.1) (ci := 3) (v := .ref a) (ty := .object "java/util/ArrayList") (C := RJx35411) (T := TJx35411) (N := 4) hx hb hts oaJx35411 tyJx35411 tyJx35411_ok nmJx35411 hown hK.1 hP hD hS 0 rfl rfl 3 (by decide) (aw (w := Cond.fieldLink RJx35411 1 "java/util/ArrayList$Itr" "this$0" "Ljava/util/ArrayList;") hts (ai4 (w := Cond.fieldLink RJx35411 1 "java/util/ArrayList$Itr" "this$0" "Ljava/util/ArrayList;") 0 rfl)) (fun _ h9 => h9) rfl hin rfl (by decide +kernel) rfl rfl (Nat.le_of_ble_eq_true rfl) dJx35411_init_45d68_2 (fun H locs hP hD hS => ?_)
  have hP : va_P G.1 vwCl [(o, .inr (3, [.int 0, .int 0, .int 0, .ref a])), (a, .inr (4, [.int 0, .ref k.1, .int 0]))] _ := hP
  have hD : va_D A [(o, .inr (3, [.int 0, .int 0, .int 0, .ref a])), (a, .inr (4, [.int 0, .ref k.1, .int 0]))] := hD
  refine lv_aload_n hx hb dJx35411_init_45d68_5 rfl (lv_at hl 0 rfl) ?_
  refine W.objInit hx hb hown (aw (w := Cond.methodLink RJx35411 7 objectInit) hts (ai4 (w := Cond.methodLink RJx35411 7 objectInit) 1 rfl)) (aw (w := Cond.instanceMethod objectInit) hts (ahC (bi0 (w := Cond.instanceMethod objectInit) 2 rfl))) (aw (w := Cond.code objectInit ⟨#[0xb1]⟩ 1 none) hts (ahC (bi0 (w := Cond.code objectInit ⟨#[0xb1]⟩ 1 none) 3 rfl))) rfl (by rw [hml]; exact hl.1) rfl dJx35411_init_45d68_6 (Nat.le_of_ble_eq_true rfl) (Nat.le_of_ble_eq_true rfl) ?_
  refine W.eq (g2 := F0 m 9 ls []) rfl ?_
  refine lv_aload_n hx hb dJx35411_init_45d68_9 rfl (lv_at hl 0 rfl) ?_
  refine lv_iconst (v := (-1)) hx hb dJx35411_init_45d68_10 (by decide) ?_
  refine va_put (D := G.1) (ci := 3) (v := .int (-1)) (ty := .int) (C := RJx35411) (T := TJx35411) (N := 4) hx hb hts oaJx35411 tyJx35411 tyJx35411_ok nmJx35411 hown hK.1 hP hD hS 0 rfl rfl 1 (by decide) (aw (w := Cond.fieldLink RJx35411 13 "java/util/ArrayList$Itr" "lastRet" "I") hts (ai4 (w := Cond.fieldLink RJx35411 13 "java/util/ArrayList$Itr" "lastRet" "I") 2 rfl)) (fun _ h9 => h9) rfl (by decide +kernel) rfl rfl (Nat.le_of_ble_eq_true rfl) dJx35411_init_45d68_11 (fun H locs hP hD hS => ?_)
  have hP : va_P G.1 vwCl [(o, .inr (3, [.int 0, .int (-1), .int 0, .ref a])), (a, .inr (4, [.int 0, .ref k.1, .int 0]))] _ := hP
  have hD : va_D A [(o, .inr (3, [.int 0, .int (-1), .int 0, .ref a])), (a, .inr (4, [.int 0, .ref k.1, .int 0]))] := hD
  refine lv_aload_n hx hb dJx35411_init_45d68_14 rfl (lv_at hl 0 rfl) ?_
  refine lv_aload_n hx hb dJx35411_init_45d68_15 rfl (lv_at hl 0 rfl) ?_
  refine va_get (D := G.1) (ci := 3) (v := .ref a) (C := RJx35411) (T := TJx35411) (N := 4) hx hb hts oaJx35411 hown hK.1 hP 0 rfl rfl 3 (by decide) (aw (w := Cond.fieldLink RJx35411 1 "java/util/ArrayList$Itr" "this$0" "Ljava/util/ArrayList;") hts (ai4 (w := Cond.fieldLink RJx35411 1 "java/util/ArrayList$Itr" "this$0" "Ljava/util/ArrayList;") 0 rfl)) (fun _ h9 => h9) rfl dJx35411_init_45d68_16 ?_
  refine va_get (D := G.1) (ci := 4) (v := .int 0) (C := RJx4a65c) (T := TJx4a65c) (N := 3) hx hb hts oaJx4a65c hown hK.1 hP 1 rfl rfl 0 (by decide) (aw (w := Cond.fieldLink RJx35411 17 "java/util/ArrayList" "modCount" "I") hts (ai4 (w := Cond.fieldLink RJx35411 17 "java/util/ArrayList" "modCount" "I") 3 rfl)) (fun x9 h9 => u_same (aw (w := Cond.sameField "java/util/ArrayList" "java/util/AbstractList" "modCount" "I") hts (ai1 (w := Cond.sameField "java/util/ArrayList" "java/util/AbstractList" "modCount" "I") 23 rfl)) x9 h9) rfl dJx35411_init_45d68_19 ?_
  refine va_put (D := G.1) (ci := 3) (v := .int 0) (ty := .int) (C := RJx35411) (T := TJx35411) (N := 4) hx hb hts oaJx35411 tyJx35411 tyJx35411_ok nmJx35411 hown hK.1 hP hD hS 0 rfl rfl 2 (by decide) (aw (w := Cond.fieldLink RJx35411 22 "java/util/ArrayList$Itr" "expectedModCount" "I") hts (ai4 (w := Cond.fieldLink RJx35411 22 "java/util/ArrayList$Itr" "expectedModCount" "I") 4 rfl)) (fun _ h9 => h9) rfl (by decide +kernel) rfl rfl (Nat.le_of_ble_eq_true rfl) dJx35411_init_45d68_22 (fun H locs hP hD hS => ?_)
  have hP : va_P G.1 vwCl [(o, .inr (3, [.int 0, .int (-1), .int 0, .ref a])), (a, .inr (4, [.int 0, .ref k.1, .int 0]))] _ := hP
  have hD : va_D A [(o, .inr (3, [.int 0, .int (-1), .int 0, .ref a])), (a, .inr (4, [.int 0, .ref k.1, .int 0]))] := hD
  refine W.widen (k := 0) (n := 0) (Nat.le_of_ble_eq_true rfl) (Nat.le_of_ble_eq_true rfl) ?_
  exact px_rv () hx hb hr hlk (hP.sub [0, 1] rfl) (hD.sub [0, 1] (by decide) rfl) hS rfl dJx35411_init_45d68_25

set_option maxHeartbeats 8000000 in
set_option maxRecDepth 100000 in
theorem k_al_iterator0 (l : Launch) (G : sxG) (k : pxC) (a : Nat)  : pxM l yJx4a65c_iterator_32c93 (Cond.code yJx4a65c_iterator_32c93 cJx4a65c_iterator_32c93 1 (some (.object "java/util/Iterator")) :: bwA) 2 33 1 4 G k [(a, .inr (4, [.int 0, .ref k.1, .int 0]))] [.ref a] (fun u : Nat => some (.ref u)) (fun u : Nat => ([(u, .inr (3, [.int 0, .int (-1), .int 0, .ref a])), (a, .inr (4, [.int 0, .ref k.1, .int 0]))] : va_W)) := by
  refine pxM.of (cc := cJx4a65c_iterator_32c93) (maxL := 1) (by decide) rfl (Nat.le_of_ble_eq_true rfl) ?_
  intro p e s m args below meth c ⟨hx, hb, hr, hml, hown, hlk, hts, hK⟩ hin A hA hP hD hS hE ls hl
  have hl : lv_has ls 1 [(0, .ref a)] := hl
  refine va_new (ci := 3) (fs := [.int 0, .int 0, .int 0, .null]) (C := RJx35411) (T := TJx35411) (N := 4) hx hb hts oaJx35411 tyJx35411 tyJx35411_ok hown (aw (w := Cond.classLink RJx4a65c 267 RJx35411) hts (ai4 (w := Cond.classLink RJx4a65c 267 RJx35411) 6 rfl)) (aw (w := Cond.instantiable RJx35411 4) hts (ai4 (w := Cond.instantiable RJx35411 4) 7 rfl)) (aw (w := Cond.initialized RJx35411) hts (ai4 (w := Cond.initialized RJx35411) 8 rfl)) hK.1 hP hD hS hA rfl dvJx35411 (Nat.le_of_ble_eq_true rfl) (Nat.le_of_ble_eq_true rfl) dJx4a65c_iterator_32c93_0 (fun q1 H hP hD hS => ?_)
  have hP : va_P G.1 vwCl [(a, .inr (4, [.int 0, .ref k.1, .int 0])), (q1, .inr (3, [.int 0, .int 0, .int 0, .null]))] _ := hP
  have hD : va_D A [(a, .inr (4, [.int 0, .ref k.1, .int 0])), (q1, .inr (3, [.int 0, .int 0, .int 0, .null]))] := hD
  refine W.widen (k := 1) (n := 4) (Nat.le_of_ble_eq_true rfl) (Nat.le_of_ble_eq_true rfl) ?_
  refine lv_dup hx hb dJx4a65c_iterator_32c93_3 rfl ?_
  refine lv_aload_n hx hb dJx4a65c_iterator_32c93_4 rfl (lv_at hl 0 rfl) ?_
  refine px_i (As := [.ref a]) (rest := [.ref q1]) (wr := []) hx hb hml hown hts (k_itr_init l G k q1 a ) 1 (gA idA (ai3 (w := Cond.code yJx35411_init_45d68 cJx35411_init_45d68 2 none) 59 rfl)) rfl (aw (w := Cond.initialized RJx35411) hts (ai4 (w := Cond.initialized RJx35411) 8 rfl)) (aw (w := Cond.methodLink RJx4a65c 269 yJx35411_init_45d68) hts (ai4 (w := Cond.methodLink RJx4a65c 269 yJx35411_init_45d68) 9 rfl)) (aw (w := Cond.instanceMethod yJx35411_init_45d68) hts (ai4 (w := Cond.instanceMethod yJx35411_init_45d68) 10 rfl)) rfl (by decide +kernel) ⟨(Nat.le_of_ble_eq_true rfl), (Nat.le_of_ble_eq_true rfl)⟩ hK hP hD hS hA hE [1, 0] [] rfl (by decide) rfl (by decide) (by decide) rfl hl rfl (Nat.le_of_ble_eq_true rfl) ⟨(Nat.le_of_ble_eq_true rfl), (Nat.le_of_ble_eq_true rfl)⟩ dJx4a65c_iterator_32c93_5 (fun u H locs hP hD hS => ?_)
  have hP : va_P G.1 vwCl [(q1, .inr (3, [.int 0, .int (-1), .int 0, .ref a])), (a, .inr (4, [.int 0, .ref k.1, .int 0]))] _ := hP
  have hD : va_D A [(q1, .inr (3, [.int 0, .int (-1), .int 0, .ref a])), (a, .inr (4, [.int 0, .ref k.1, .int 0]))] := hD
  refine W.eq (g2 := F0 m _ ls [.ref q1]) rfl ?_
  refine W.widen (k := 1) (n := 4) (Nat.le_of_ble_eq_true rfl) (Nat.le_of_ble_eq_true rfl) ?_
  exact px_ra (q1) hx hb hr (Or.inl ⟨_, rfl⟩) hlk (hP.sub [0, 1] rfl) (hD.sub [0, 1] (by decide) rfl) hS rfl dJx4a65c_iterator_32c93_8

set_option maxHeartbeats 8000000 in
set_option maxRecDepth 100000 in
theorem k_itr_hasNext0 (l : Launch) (G : sxG) (k : pxC) (o : Nat) (a : Nat)  : pxM l yJx35411_hasNext_aae02 (Cond.code yJx35411_hasNext_aae02 cJx35411_hasNext_aae02 1 (some .boolean) :: bwA) 0 12 0 0 G k [(o, .inr (3, [.int 0, .int (-1), .int 0, .ref a])), (a, .inr (4, [.int 0, .ref k.1, .int 0]))] [.ref o] (fun u : Unit => some (.int 0)) (fun u : Unit => ([(o, .inr (3, [.int 0, .int (-1), .int 0, .ref a])), (a, .inr (4, [.int 0, .ref k.1, .int 0]))] : va_W)) := by
  refine pxM.of (cc := cJx35411_hasNext_aae02) (maxL := 1) (by decide) rfl (Nat.le_of_ble_eq_true rfl) ?_
  intro p e s m args below meth c ⟨hx, hb, hr, hml, hown, hlk, hts, hK⟩ hin A hA hP hD hS hE ls hl
  have hl : lv_has ls 1 [(0, .ref o)] := hl
  refine lv_aload_n hx hb dJx35411_hasNext_aae02_0 rfl (lv_at hl 0 rfl) ?_
  refine va_get (D := G.1) (ci := 3) (v := .int 0) (C := RJx35411) (T := TJx35411) (N := 4) hx hb hts oaJx35411 hown hK.1 hP 0 rfl rfl 0 (by decide) (aw (w := Cond.fieldLink RJx35411 25 "java/util/ArrayList$Itr" "cursor" "I") hts (ai4 (w := Cond.fieldLink RJx35411 25 "java/util/ArrayList$Itr" "cursor" "I") 12 rfl)) (fun _ h9 => h9) rfl dJx35411_hasNext_aae02_1 ?_
  refine lv_aload_n hx hb dJx35411_hasNext_aae02_4 rfl (lv_at hl 0 rfl) ?_
  refine va_get (D := G.1) (ci := 3) (v := .ref a) (C := RJx35411) (T := TJx35411) (N := 4) hx hb hts oaJx35411 hown hK.1 hP 0 rfl rfl 3 (by decide) (aw (w := Cond.fieldLink RJx35411 1 "java/util/ArrayList$Itr" "this$0" "Ljava/util/ArrayList;") hts (ai4 (w := Cond.fieldLink RJx35411 1 "java/util/ArrayList$Itr" "this$0" "Ljava/util/ArrayList;") 0 rfl)) (fun _ h9 => h9) rfl dJx35411_hasNext_aae02_5 ?_
  refine va_getN (D := G.1) (ci := 4) (v := .int 0) (C := RJx4a65c) (T := TJx4a65c) (N := 3) (host := RJx4a65c) hx hb hts oaJx4a65c hown hK.1 hP 1 rfl rfl 2 (by decide) (va_Nw.use rfl (hE.1.1 (.fieldLinkNest RJx35411 28 RJx4a65c "size" "I" RJx4a65c) (by simp [pxNl]))) (fun _ h9 => h9) rfl dJx35411_hasNext_aae02_8 ?_
  refine lv_icmp_eq (tgt := 18) hx hb dJx35411_hasNext_aae02_11 (by decide) (fun c1 => ?_) (fun c1 => absurd c1 (by decide))
  refine lv_iconst (v := 0) hx hb dJx35411_hasNext_aae02_18 (by decide) ?_
  refine W.widen (k := 0) (n := 0) (Nat.le_of_ble_eq_true rfl) (Nat.le_of_ble_eq_true rfl) ?_
  exact px_ri () hx hb hr hlk (hP.sub [0, 1] rfl) (hD.sub [0, 1] (by decide) rfl) hS rfl (rfl) dJx35411_hasNext_aae02_19

set_option maxHeartbeats 8000000 in
set_option maxRecDepth 100000 in
theorem k_intOf (l : Launch) (G : sxG) (k : pxC) (v : Int32) (hv1 : ¬ v < (-128)) (hv2 : ¬ 127 < v) : pxM l yJ6_valueOf_2dffe (Cond.code yJ6_valueOf_2dffe cJ6_valueOf_2dffe 1 (some (.object "java/lang/Integer")) :: bwA) 0 12 0 0 G k [] [.int v] (fun u : Unit => some (.ref (k.2.2.1 (v + 128 : Int32).toNatClampNeg))) (fun u : Unit => ([] : va_W)) := by
  refine pxM.of (cc := cJ6_valueOf_2dffe) (maxL := 1) (by decide) rfl (Nat.le_of_ble_eq_true rfl) ?_
  intro p e s m args below meth c ⟨hx, hb, hr, hml, hown, hlk, hts, hK⟩ hin A hA hP hD hS hE ls hl
  have hl : lv_has ls 1 [(0, .int v)] := hl
  refine lv_iload_n hx hb dJ6_valueOf_2dffe_0 rfl (lv_at hl 0 rfl) ?_
  refine lv_bipush (v := (-128)) hx hb dJ6_valueOf_2dffe_1 (by decide) ?_
  refine lv_icmp_lt (tgt := 23) hx hb dJ6_valueOf_2dffe_3 (by decide) (fun c1 => absurd c1 hv1) (fun c1 => ?_)
  refine lv_iload_n hx hb dJ6_valueOf_2dffe_6 rfl (lv_at hl 0 rfl) ?_
  refine va_gets hx hb hE.2.1.2.2.1 hS hown (aw (w := Cond.fieldLink RJ6 191 "java/lang/Integer$IntegerCache" "high" "I") hts (ai0 (w := Cond.fieldLink RJ6 191 "java/lang/Integer$IntegerCache" "high" "I") 42 rfl)) (fun _ h9 => h9) dJ6_valueOf_2dffe_7 ?_
  refine lv_icmp_gt (tgt := 23) hx hb dJ6_valueOf_2dffe_10 (by decide) (fun c2 => absurd c2 hv2) (fun c2 => ?_)
  refine va_gets hx hb hE.2.1.2.2.2.1 hS hown (aw (w := Cond.fieldLink RJ6 195 "java/lang/Integer$IntegerCache" "cache" "[Ljava/lang/Integer;") hts (ai0 (w := Cond.fieldLink RJ6 195 "java/lang/Integer$IntegerCache" "cache" "[Ljava/lang/Integer;") 43 rfl)) (fun _ h9 => h9) dJ6_valueOf_2dffe_13 ?_
  refine lv_iload_n hx hb dJ6_valueOf_2dffe_16 rfl (lv_at hl 0 rfl) ?_
  refine lv_sipush (v := 128) hx hb dJ6_valueOf_2dffe_17 (by decide) ?_
  refine lv_iadd hx hb dJ6_valueOf_2dffe_20 ?_
  refine vb_tq hx hb hE.2.1.2.2.2.2.1 hS (i := v + 128) (px_cin hv1 hv2) (v := .ref (k.2.2.1 (v + 128 : Int32).toNatClampNeg)) rfl dJ6_valueOf_2dffe_21 ?_
  refine W.widen (k := 0) (n := 0) (Nat.le_of_ble_eq_true rfl) (Nat.le_of_ble_eq_true rfl) ?_
  exact px_ra () hx hb hr (Or.inl ⟨_, rfl⟩) hlk (hP.sub [] rfl) (hD.sub [] (by decide) rfl) hS rfl dJ6_valueOf_2dffe_22

set_option maxHeartbeats 8000000 in
set_option maxRecDepth 100000 in
theorem k_grow_n (l : Launch) (G : sxG) (k : pxC) (o : Nat) (mo : Int32)  : pxM l yJx4a65c_grow_92f84 (Cond.code yJx4a65c_grow_92f84 cJx4a65c_grow_92f84 4 (some (.array (.object "java/lang/Object"))) :: bwA) 1 60 1 10 G k [(o, .inr (4, [.int mo, .ref k.1, .int 0]))] [.ref o, .int 1] (fun u : Nat => some (.ref u)) (fun u : Nat => ([(o, .inr (4, [.int mo, .ref u, .int 0])), (u, .inl (k.2.2.2.2.2.1, 10, .inr (.inr (.inr (.inr (fun _ => none))))))] : va_W)) := by
  refine pxM.of (cc := cJx4a65c_grow_92f84) (maxL := 4) (by decide) rfl (Nat.le_of_ble_eq_true rfl) ?_
  intro p e s m args below meth c ⟨hx, hb, hr, hml, hown, hlk, hts, hK⟩ hin A hA hP hD hS hE ls hl
  have hl : lv_has ls 4 [(0, .ref o), (1, .int 1)] := hl
  refine lv_aload_n hx hb dJx4a65c_grow_92f84_0 rfl (lv_at hl 0 rfl) ?_
  refine va_get (D := G.1) (ci := 4) (v := .ref k.1) (C := RJx4a65c) (T := TJx4a65c) (N := 3) hx hb hts oaJx4a65c hown hK.1 hP 0 rfl rfl 1 (by decide) (aw (w := Cond.fieldLink RJx4a65c 9 "java/util/ArrayList" "elementData" "[Ljava/lang/Object;") hts (ai0 (w := Cond.fieldLink RJx4a65c 9 "java/util/ArrayList" "elementData" "[Ljava/lang/Object;") 14 rfl)) (fun _ h9 => h9) rfl dJx4a65c_grow_92f84_1 ?_
  refine va_tlen (v := 0) hx hb hE.2.1.2.1 hS (by decide) dJx4a65c_grow_92f84_4 ?_
  refine lv_istore_n (lv' := [(2, .int 0), (0, .ref o), (1, .int 1)]) hx hb dJx4a65c_grow_92f84_5 rfl hl (by decide) rfl (fun ls hl => ?_)
  refine lv_iload_n hx hb dJx4a65c_grow_92f84_6 rfl (lv_at hl 0 rfl) ?_
  refine lv_if_gt (tgt := 20) hx hb dJx4a65c_grow_92f84_7 (by decide) (fun c1 => absurd c1 (by decide)) (fun c1 => ?_)
  refine lv_aload_n hx hb dJx4a65c_grow_92f84_10 rfl (lv_at hl 1 rfl) ?_
  refine va_get (D := G.1) (ci := 4) (v := .ref k.1) (C := RJx4a65c) (T := TJx4a65c) (N := 3) hx hb hts oaJx4a65c hown hK.1 hP 0 rfl rfl 1 (by decide) (aw (w := Cond.fieldLink RJx4a65c 9 "java/util/ArrayList" "elementData" "[Ljava/lang/Object;") hts (ai0 (w := Cond.fieldLink RJx4a65c 9 "java/util/ArrayList" "elementData" "[Ljava/lang/Object;") 14 rfl)) (fun _ h9 => h9) rfl dJx4a65c_grow_92f84_11 ?_
  refine va_gets hx hb hE.2.1.1 hS hown (aw (w := Cond.fieldLink RJx4a65c 39 "java/util/ArrayList" "DEFAULTCAPACITY_EMPTY_ELEMENTDATA" "[Ljava/lang/Object;") hts (ai0 (w := Cond.fieldLink RJx4a65c 39 "java/util/ArrayList" "DEFAULTCAPACITY_EMPTY_ELEMENTDATA" "[Ljava/lang/Object;") 13 rfl)) (fun _ h9 => h9) dJx4a65c_grow_92f84_14 ?_
  refine lv_acmp_eq (rx := some (k.1)) (ry := some (k.1)) (tgt := 45) hx hb dJx4a65c_grow_92f84_17 (by decide) (fun _ => ?_) (fun h9 => absurd rfl h9)
  refine lv_aload_n hx hb dJx4a65c_grow_92f84_45 rfl (lv_at hl 1 rfl) ?_
  refine lv_bipush (v := 10) hx hb dJx4a65c_grow_92f84_46 (by decide) ?_
  refine lv_iload_n hx hb dJx4a65c_grow_92f84_48 rfl (lv_at hl 2 rfl) ?_
  refine sx_mmax hx hb (hml.trans hl.1.symm) hown (aw (w := Cond.methodLink RJx4a65c 79 Lib.Math.max.name) hts (ai1 (w := Cond.methodLink RJx4a65c 79 Lib.Math.max.name) 7 rfl)) (aw (w := Cond.static Lib.Math.max.name) hts (ahC (bi5 (w := Cond.static Lib.Math.max.name) 15 rfl))) (aw (w := Cond.initialized "java/lang/Math") hts (ahC (bi5 (w := Cond.initialized "java/lang/Math") 16 rfl))) (aw (w := Cond.code Lib.Math.max.name Lib.Math.max.code 2 (some .int)) hts (ahC (bi5 (w := Cond.code Lib.Math.max.name Lib.Math.max.code 2 (some .int)) 17 rfl))) (Nat.le_of_ble_eq_true rfl) (Nat.le_of_ble_eq_true rfl) (Nat.le_of_ble_eq_true rfl) (Nat.le_of_ble_eq_true rfl) (x := 10) (y := 1) dJx4a65c_grow_92f84_49 ?_
  rw [show s_mmax 10 1 = 10 from by decide]
  refine px_anewO hx hb hown (aw (w := Cond.classLink RJx4a65c 7 "java/lang/Object") hts (ai1 (w := Cond.classLink RJx4a65c 7 "java/lang/Object") 8 rfl)) hK hE hP hD hS hA (n := 10) (by decide) 10 (by decide) (Nat.le_of_ble_eq_true rfl) (Nat.le_of_ble_eq_true rfl) (Nat.le_of_ble_eq_true rfl) dJx4a65c_grow_92f84_52 (fun q2 H hP hD hS => ?_)
  have hP : va_P G.1 vwCl [(o, .inr (4, [.int mo, .ref k.1, .int 0])), (q2, .inl (k.2.2.2.2.2.1, 10, .inr (.inr (.inr (.inr (fun _ => none))))))] _ := hP
  have hD : va_D A [(o, .inr (4, [.int mo, .ref k.1, .int 0])), (q2, .inl (k.2.2.2.2.2.1, 10, .inr (.inr (.inr (.inr (fun _ => none))))))] := hD
  refine W.widen (k := 1) (n := 10) (Nat.le_of_ble_eq_true rfl) (Nat.le_of_ble_eq_true rfl) ?_
  refine lv_dup_x1 hx hb dJx4a65c_grow_92f84_55 rfl rfl ?_
  refine va_put (D := G.1) (ci := 4) (v := .ref q2) (ty := .array (.object "java/lang/Object")) (C := RJx4a65c) (T := TJx4a65c) (N := 3) hx hb hts oaJx4a65c tyJx4a65c tyJx4a65c_ok nmJx4a65c hown hK.1 hP hD hS 0 rfl rfl 1 (by decide) (aw (w := Cond.fieldLink RJx4a65c 9 "java/util/ArrayList" "elementData" "[Ljava/lang/Object;") hts (ai0 (w := Cond.fieldLink RJx4a65c 9 "java/util/ArrayList" "elementData" "[Ljava/lang/Object;") 14 rfl)) (fun _ h9 => h9) rfl (by decide +kernel) rfl rfl (Nat.le_of_ble_eq_true rfl) dJx4a65c_grow_92f84_56 (fun H locs hP hD hS => ?_)
  have hP : va_P G.1 vwCl [(o, .inr (4, [.int mo, .ref q2, .int 0])), (q2, .inl (k.2.2.2.2.2.1, 10, .inr (.inr (.inr (.inr (fun _ => none))))))] _ := hP
  have hD : va_D A [(o, .inr (4, [.int mo, .ref q2, .int 0])), (q2, .inl (k.2.2.2.2.2.1, 10, .inr (.inr (.inr (.inr (fun _ => none))))))] := hD
  refine W.widen (k := 1) (n := 10) (Nat.le_of_ble_eq_true rfl) (Nat.le_of_ble_eq_true rfl) ?_
  exact px_ra (q2) hx hb hr (Or.inr ⟨_, rfl⟩) hlk (hP.sub [0, 1] rfl) (hD.sub [0, 1] (by decide) rfl) hS rfl dJx4a65c_grow_92f84_59

set_option maxHeartbeats 8000000 in
set_option maxRecDepth 100000 in
theorem k_grow (l : Launch) (G : sxG) (k : pxC) (o : Nat) (mo : Int32)  : pxM l yJx4a65c_grow_d5877 (Cond.code yJx4a65c_grow_d5877 cJx4a65c_grow_d5877 1 (some (.array (.object "java/lang/Object"))) :: bwA) 2 83 1 10 G k [(o, .inr (4, [.int mo, .ref k.1, .int 0]))] [.ref o] (fun u : Nat => some (.ref u)) (fun u : Nat => ([(o, .inr (4, [.int mo, .ref u, .int 0])), (u, .inl (k.2.2.2.2.2.1, 10, .inr (.inr (.inr (.inr (fun _ => none))))))] : va_W)) := by
  refine pxM.of (cc := cJx4a65c_grow_d5877) (maxL := 1) (by decide) rfl (Nat.le_of_ble_eq_true rfl) ?_
  intro p e s m args below meth c ⟨hx, hb, hr, hml, hown, hlk, hts, hK⟩ hin A hA hP hD hS hE ls hl
  have hl : lv_has ls 1 [(0, .ref o)] := hl
  refine lv_aload_n hx hb dJx4a65c_grow_d5877_0 rfl (lv_at hl 0 rfl) ?_
  refine lv_aload_n hx hb dJx4a65c_grow_d5877_1 rfl (lv_at hl 0 rfl) ?_
  refine va_get (D := G.1) (ci := 4) (v := .int 0) (C := RJx4a65c) (T := TJx4a65c) (N := 3) hx hb hts oaJx4a65c hown hK.1 hP 0 rfl rfl 2 (by decide) (aw (w := Cond.fieldLink RJx4a65c 48 "java/util/ArrayList" "size" "I") hts (ai0 (w := Cond.fieldLink RJx4a65c 48 "java/util/ArrayList" "size" "I") 4 rfl)) (fun _ h9 => h9) rfl dJx4a65c_grow_d5877_2 ?_
  refine lv_iconst (v := 1) hx hb dJx4a65c_grow_d5877_5 (by decide) ?_
  refine lv_iadd hx hb dJx4a65c_grow_d5877_6 ?_
  rw [show ((0 : Int32) + 1) = 1 from by decide]
  refine px_v (As := [.int 1]) (rest := []) (wr := []) hx hb hml hown hts (k_grow_n l G k o mo ) 1 (gAV idA (ai1 (w := Cond.methodLink RJx4a65c 69 yJx4a65c_grow_92f84) 14 rfl) (ai1 (w := Cond.instanceMethod yJx4a65c_grow_92f84) 15 rfl) (ai1 (w := Cond.selects RJx4a65c yJx4a65c_grow_92f84 yJx4a65c_grow_92f84) 16 rfl) (ai0 (w := Cond.initialized RJx4a65c) 31 rfl) (ai1 (w := Cond.code yJx4a65c_grow_92f84 cJx4a65c_grow_92f84 4 (some (.array (.object "java/lang/Object")))) 13 rfl)) rfl (by decide +kernel) ⟨(Nat.le_of_ble_eq_true rfl), (Nat.le_of_ble_eq_true rfl)⟩ hK hP hD hS hA hE [0] [] rfl (by decide) rfl (by decide) (by decide) 0 rfl rfl rfl hl rfl (Nat.le_of_ble_eq_true rfl) ⟨(Nat.le_of_ble_eq_true rfl), (Nat.le_of_ble_eq_true rfl)⟩ dJx4a65c_grow_d5877_7 (fun q1 H locs hP hD hS => ?_)
  have hP : va_P G.1 vwCl [(o, .inr (4, [.int mo, .ref q1, .int 0])), (q1, .inl (k.2.2.2.2.2.1, 10, .inr (.inr (.inr (.inr (fun _ => none))))))] _ := hP
  have hD : va_D A [(o, .inr (4, [.int mo, .ref q1, .int 0])), (q1, .inl (k.2.2.2.2.2.1, 10, .inr (.inr (.inr (.inr (fun _ => none))))))] := hD
  refine W.eq (g2 := F0 m _ ls [.ref q1]) rfl ?_
  refine W.widen (k := 1) (n := 10) (Nat.le_of_ble_eq_true rfl) (Nat.le_of_ble_eq_true rfl) ?_
  refine W.widen (k := 1) (n := 10) (Nat.le_of_ble_eq_true rfl) (Nat.le_of_ble_eq_true rfl) ?_
  exact px_ra (q1) hx hb hr (Or.inr ⟨_, rfl⟩) hlk (hP.sub [0, 1] rfl) (hD.sub [0, 1] (by decide) rfl) hS rfl dJx4a65c_grow_d5877_10

set_option maxHeartbeats 8000000 in
set_option maxRecDepth 100000 in
theorem k_addI_n (l : Launch) (G : sxG) (k : pxC) (o : Nat) (jj : Nat) (mo : Int32) (hjj : jj < 256) : pxM l yJx4a65c_add_72be8 (Cond.code yJx4a65c_add_72be8 cJx4a65c_add_72be8 4 none :: bwA) 3 103 1 10 G k [(o, .inr (4, [.int mo, .ref k.1, .int 0]))] [.ref o, .ref (k.2.2.1 jj), .ref k.1, .int 0] (fun u : Nat => none) (fun u : Nat => ([(o, .inr (4, [.int mo, .ref u, .int 1]))] : va_W)) := by
  refine pxM.of (cc := cJx4a65c_add_72be8) (maxL := 4) (by decide) rfl (Nat.le_of_ble_eq_true rfl) ?_
  intro p e s m args below meth c ⟨hx, hb, hr, hml, hown, hlk, hts, hK⟩ hin A hA hP hD hS hE ls hl
  have hl : lv_has ls 4 [(0, .ref o), (1, .ref (k.2.2.1 jj)), (2, .ref k.1), (3, .int 0)] := hl
  refine lv_iload_n hx hb dJx4a65c_add_72be8_0 rfl (lv_at hl 3 rfl) ?_
  refine lv_aload_n hx hb dJx4a65c_add_72be8_1 rfl (lv_at hl 2 rfl) ?_
  refine va_tlen (v := 0) hx hb hE.2.1.2.1 hS (by decide) dJx4a65c_add_72be8_2 ?_
  refine lv_icmp_ne (tgt := 11) hx hb dJx4a65c_add_72be8_3 (by decide) (fun c1 => absurd c1 (by decide)) (fun c1 => ?_)
  refine lv_aload_n hx hb dJx4a65c_add_72be8_6 rfl (lv_at hl 0 rfl) ?_
  refine px_v (As := []) (rest := []) (wr := []) hx hb hml hown hts (k_grow l G k o mo ) 0 (gAV idA (ai1 (w := Cond.methodLink RJx4a65c 129 yJx4a65c_grow_d5877) 18 rfl) (ai1 (w := Cond.instanceMethod yJx4a65c_grow_d5877) 19 rfl) (ai1 (w := Cond.selects RJx4a65c yJx4a65c_grow_d5877 yJx4a65c_grow_d5877) 20 rfl) (ai0 (w := Cond.initialized RJx4a65c) 31 rfl) (ai1 (w := Cond.code yJx4a65c_grow_d5877 cJx4a65c_grow_d5877 1 (some (.array (.object "java/lang/Object")))) 17 rfl)) rfl (by decide +kernel) ⟨(Nat.le_of_ble_eq_true rfl), (Nat.le_of_ble_eq_true rfl)⟩ hK hP hD hS hA hE [0] [] rfl (by decide) rfl (by decide) (by decide) 0 rfl rfl rfl hl rfl (Nat.le_of_ble_eq_true rfl) ⟨(Nat.le_of_ble_eq_true rfl), (Nat.le_of_ble_eq_true rfl)⟩ dJx4a65c_add_72be8_7 (fun q2 H locs hP hD hS => ?_)
  have hP : va_P G.1 vwCl [(o, .inr (4, [.int mo, .ref q2, .int 0])), (q2, .inl (k.2.2.2.2.2.1, 10, .inr (.inr (.inr (.inr (fun _ => none))))))] _ := hP
  have hD : va_D A [(o, .inr (4, [.int mo, .ref q2, .int 0])), (q2, .inl (k.2.2.2.2.2.1, 10, .inr (.inr (.inr (.inr (fun _ => none))))))] := hD
  refine W.eq (g2 := F0 m _ ls [.ref q2]) rfl ?_
  refine W.widen (k := 1) (n := 10) (Nat.le_of_ble_eq_true rfl) (Nat.le_of_ble_eq_true rfl) ?_
  refine lv_astore_n (lv' := [(2, .ref q2), (0, .ref o), (1, .ref (k.2.2.1 jj)), (3, .int 0)]) hx hb dJx4a65c_add_72be8_10 rfl hl (by decide) rfl (fun ls hl => ?_)
  refine lv_aload_n hx hb dJx4a65c_add_72be8_11 rfl (lv_at hl 0 rfl) ?_
  refine lv_iload_n hx hb dJx4a65c_add_72be8_12 rfl (lv_at hl 3 rfl) ?_
  refine lv_aload_n hx hb dJx4a65c_add_72be8_13 rfl (lv_at hl 2 rfl) ?_
  refine vb_astq (C := RJ6) hx hb (px_K hK hE) hP hD hS 1 3 rfl rfl (px_intAt hE hS hjj) (px_asg hE) (i := 0) (by unfold vp_in; decide) dJx4a65c_add_72be8_14 (fun H locs hP hD hS => ?_)
  have hP : va_P G.1 vwCl [(o, .inr (4, [.int mo, .ref q2, .int 0])), (q2, .inl (k.2.2.2.2.2.1, 10, .inr (.inr (.inr (.inr (va_up (fun _ => none) 0 (some (k.2.2.1 jj))))))))] _ := hP
  have hD : va_D A [(o, .inr (4, [.int mo, .ref q2, .int 0])), (q2, .inl (k.2.2.2.2.2.1, 10, .inr (.inr (.inr (.inr (va_up (fun _ => none) 0 (some (k.2.2.1 jj))))))))] := hD
  refine lv_aload_n hx hb dJx4a65c_add_72be8_15 rfl (lv_at hl 1 rfl) ?_
  refine lv_iload_n hx hb dJx4a65c_add_72be8_16 rfl (lv_at hl 3 rfl) ?_
  refine lv_iconst (v := 1) hx hb dJx4a65c_add_72be8_17 (by decide) ?_
  refine lv_iadd hx hb dJx4a65c_add_72be8_18 ?_
  rw [show ((0 : Int32) + 1) = 1 from by decide]
  refine va_put (D := G.1) (ci := 4) (v := .int 1) (ty := .int) (C := RJx4a65c) (T := TJx4a65c) (N := 3) hx hb hts oaJx4a65c tyJx4a65c tyJx4a65c_ok nmJx4a65c hown hK.1 hP hD hS 0 rfl rfl 2 (by decide) (aw (w := Cond.fieldLink RJx4a65c 48 "java/util/ArrayList" "size" "I") hts (ai0 (w := Cond.fieldLink RJx4a65c 48 "java/util/ArrayList" "size" "I") 4 rfl)) (fun _ h9 => h9) rfl (by decide +kernel) rfl rfl (Nat.le_of_ble_eq_true rfl) dJx4a65c_add_72be8_19 (fun H locs hP hD hS => ?_)
  have hP : va_P G.1 vwCl [(o, .inr (4, [.int mo, .ref q2, .int 1])), (q2, .inl (k.2.2.2.2.2.1, 10, .inr (.inr (.inr (.inr (va_up (fun _ => none) 0 (some (k.2.2.1 jj))))))))] _ := hP
  have hD : va_D A [(o, .inr (4, [.int mo, .ref q2, .int 1])), (q2, .inl (k.2.2.2.2.2.1, 10, .inr (.inr (.inr (.inr (va_up (fun _ => none) 0 (some (k.2.2.1 jj))))))))] := hD
  refine W.widen (k := 1) (n := 10) (Nat.le_of_ble_eq_true rfl) (Nat.le_of_ble_eq_true rfl) ?_
  exact px_rv (q2) hx hb hr hlk (hP.sub [0] rfl) (hD.sub [0] (by decide) rfl) hS rfl dJx4a65c_add_72be8_22

set_option maxHeartbeats 8000000 in
set_option maxRecDepth 100000 in
theorem k_addI (l : Launch) (G : sxG) (k : pxC) (o : Nat) (jj : Nat) (hjj : jj < 256) : pxM l yJx4a65c_add_9ea2d (Cond.code yJx4a65c_add_9ea2d cJx4a65c_add_9ea2d 2 (some .boolean) :: bwA) 4 126 1 10 G k [(o, .inr (4, [.int 0, .ref k.1, .int 0]))] [.ref o, .ref (k.2.2.1 jj)] (fun u : Nat => some (.int 1)) (fun u : Nat => ([(o, .inr (4, [.int 1, .ref u, .int 1]))] : va_W)) := by
  refine pxM.of (cc := cJx4a65c_add_9ea2d) (maxL := 2) (by decide) rfl (Nat.le_of_ble_eq_true rfl) ?_
  intro p e s m args below meth c ⟨hx, hb, hr, hml, hown, hlk, hts, hK⟩ hin A hA hP hD hS hE ls hl
  have hl : lv_has ls 2 [(0, .ref o), (1, .ref (k.2.2.1 jj))] := hl
  refine lv_aload_n hx hb dJx4a65c_add_9ea2d_0 rfl (lv_at hl 0 rfl) ?_
  refine lv_dup hx hb dJx4a65c_add_9ea2d_1 rfl ?_
  refine va_get (D := G.1) (ci := 4) (v := .int 0) (C := RJx4a65c) (T := TJx4a65c) (N := 3) hx hb hts oaJx4a65c hown hK.1 hP 0 rfl rfl 0 (by decide) (aw (w := Cond.fieldLink RJx4a65c 63 "java/util/ArrayList" "modCount" "I") hts (ai1 (w := Cond.fieldLink RJx4a65c 63 "java/util/ArrayList" "modCount" "I") 22 rfl)) (fun x9 h9 => u_same (aw (w := Cond.sameField "java/util/ArrayList" "java/util/AbstractList" "modCount" "I") hts (ai1 (w := Cond.sameField "java/util/ArrayList" "java/util/AbstractList" "modCount" "I") 23 rfl)) x9 h9) rfl dJx4a65c_add_9ea2d_2 ?_
  refine lv_iconst (v := 1) hx hb dJx4a65c_add_9ea2d_5 (by decide) ?_
  refine lv_iadd hx hb dJx4a65c_add_9ea2d_6 ?_
  rw [show ((0 : Int32) + 1) = 1 from by decide]
  refine va_put (D := G.1) (ci := 4) (v := .int 1) (ty := .int) (C := RJx4a65c) (T := TJx4a65c) (N := 3) hx hb hts oaJx4a65c tyJx4a65c tyJx4a65c_ok nmJx4a65c hown hK.1 hP hD hS 0 rfl rfl 0 (by decide) (aw (w := Cond.fieldLink RJx4a65c 63 "java/util/ArrayList" "modCount" "I") hts (ai1 (w := Cond.fieldLink RJx4a65c 63 "java/util/ArrayList" "modCount" "I") 22 rfl)) (fun x9 h9 => u_same (aw (w := Cond.sameField "java/util/ArrayList" "java/util/AbstractList" "modCount" "I") hts (ai1 (w := Cond.sameField "java/util/ArrayList" "java/util/AbstractList" "modCount" "I") 23 rfl)) x9 h9) rfl (by decide +kernel) rfl rfl (Nat.le_of_ble_eq_true rfl) dJx4a65c_add_9ea2d_7 (fun H locs hP hD hS => ?_)
  have hP : va_P G.1 vwCl [(o, .inr (4, [.int 1, .ref k.1, .int 0]))] _ := hP
  have hD : va_D A [(o, .inr (4, [.int 1, .ref k.1, .int 0]))] := hD
  refine lv_aload_n hx hb dJx4a65c_add_9ea2d_10 rfl (lv_at hl 0 rfl) ?_
  refine lv_aload_n hx hb dJx4a65c_add_9ea2d_11 rfl (lv_at hl 1 rfl) ?_
  refine lv_aload_n hx hb dJx4a65c_add_9ea2d_12 rfl (lv_at hl 0 rfl) ?_
  refine va_get (D := G.1) (ci := 4) (v := .ref k.1) (C := RJx4a65c) (T := TJx4a65c) (N := 3) hx hb hts oaJx4a65c hown hK.1 hP 0 rfl rfl 1 (by decide) (aw (w := Cond.fieldLink RJx4a65c 9 "java/util/ArrayList" "elementData" "[Ljava/lang/Object;") hts (ai0 (w := Cond.fieldLink RJx4a65c 9 "java/util/ArrayList" "elementData" "[Ljava/lang/Object;") 14 rfl)) (fun _ h9 => h9) rfl dJx4a65c_add_9ea2d_13 ?_
  refine lv_aload_n hx hb dJx4a65c_add_9ea2d_16 rfl (lv_at hl 0 rfl) ?_
  refine va_get (D := G.1) (ci := 4) (v := .int 0) (C := RJx4a65c) (T := TJx4a65c) (N := 3) hx hb hts oaJx4a65c hown hK.1 hP 0 rfl rfl 2 (by decide) (aw (w := Cond.fieldLink RJx4a65c 48 "java/util/ArrayList" "size" "I") hts (ai0 (w := Cond.fieldLink RJx4a65c 48 "java/util/ArrayList" "size" "I") 4 rfl)) (fun _ h9 => h9) rfl dJx4a65c_add_9ea2d_17 ?_
  refine px_v (As := [.ref (k.2.2.1 jj), .ref k.1, .int 0]) (rest := []) (wr := []) hx hb hml hown hts (k_addI_n l G k o jj 1 (hjj)) 3 (gAV idA (ai1 (w := Cond.methodLink RJx4a65c 131 yJx4a65c_add_72be8) 24 rfl) (ai1 (w := Cond.instanceMethod yJx4a65c_add_72be8) 25 rfl) (ai1 (w := Cond.selects RJx4a65c yJx4a65c_add_72be8 yJx4a65c_add_72be8) 26 rfl) (ai0 (w := Cond.initialized RJx4a65c) 31 rfl) (ai1 (w := Cond.code yJx4a65c_add_72be8 cJx4a65c_add_72be8 4 none) 21 rfl)) rfl (by decide +kernel) ⟨(Nat.le_of_ble_eq_true rfl), (Nat.le_of_ble_eq_true rfl)⟩ hK hP hD hS hA hE [0] [] rfl (by decide) rfl (by decide) (by decide) 0 rfl rfl rfl hl rfl (Nat.le_of_ble_eq_true rfl) ⟨(Nat.le_of_ble_eq_true rfl), (Nat.le_of_ble_eq_true rfl)⟩ dJx4a65c_add_9ea2d_20 (fun q1 H locs hP hD hS => ?_)
  have hP : va_P G.1 vwCl [(o, .inr (4, [.int 1, .ref q1, .int 1]))] _ := hP
  have hD : va_D A [(o, .inr (4, [.int 1, .ref q1, .int 1]))] := hD
  refine W.eq (g2 := F0 m _ ls []) rfl ?_
  refine W.widen (k := 1) (n := 10) (Nat.le_of_ble_eq_true rfl) (Nat.le_of_ble_eq_true rfl) ?_
  refine lv_iconst (v := 1) hx hb dJx4a65c_add_9ea2d_23 (by decide) ?_
  refine W.widen (k := 1) (n := 10) (Nat.le_of_ble_eq_true rfl) (Nat.le_of_ble_eq_true rfl) ?_
  exact px_ri (q1) hx hb hr hlk (hP.sub [0] rfl) (hD.sub [0] (by decide) rfl) hS rfl (rfl) dJx4a65c_add_9ea2d_24

set_option maxHeartbeats 8000000 in
set_option maxRecDepth 100000 in
theorem k_addL_n (l : Launch) (G : sxG) (k : pxC) (o : Nat) (x : Nat) (mo : Int32) (f0 : Int32) (f1 : Int32) (f2 : Int32)  : pxM l yJx4a65c_add_72be8 (Cond.code yJx4a65c_add_72be8 cJx4a65c_add_72be8 4 none :: bwA) 3 103 1 10 G k [(o, .inr (4, [.int mo, .ref k.1, .int 0])), (x, .inr (17, [.int f0, .int f1, .int f2]))] [.ref o, .ref x, .ref k.1, .int 0] (fun u : Nat => none) (fun u : Nat => ([(o, .inr (4, [.int mo, .ref u, .int 1])), (x, .inr (17, [.int f0, .int f1, .int f2]))] : va_W)) := by
  refine pxM.of (cc := cJx4a65c_add_72be8) (maxL := 4) (by decide) rfl (Nat.le_of_ble_eq_true rfl) ?_
  intro p e s m args below meth c ⟨hx, hb, hr, hml, hown, hlk, hts, hK⟩ hin A hA hP hD hS hE ls hl
  have hl : lv_has ls 4 [(0, .ref o), (1, .ref x), (2, .ref k.1), (3, .int 0)] := hl
  refine lv_iload_n hx hb dJx4a65c_add_72be8_0 rfl (lv_at hl 3 rfl) ?_
  refine lv_aload_n hx hb dJx4a65c_add_72be8_1 rfl (lv_at hl 2 rfl) ?_
  refine va_tlen (v := 0) hx hb hE.2.1.2.1 hS (by decide) dJx4a65c_add_72be8_2 ?_
  refine lv_icmp_ne (tgt := 11) hx hb dJx4a65c_add_72be8_3 (by decide) (fun c1 => absurd c1 (by decide)) (fun c1 => ?_)
  refine lv_aload_n hx hb dJx4a65c_add_72be8_6 rfl (lv_at hl 0 rfl) ?_
  refine px_v (As := []) (rest := []) (wr := [(x, .inr (17, [.int f0, .int f1, .int f2]))]) hx hb hml hown hts (k_grow l G k o mo ) 0 (gAV idA (ai1 (w := Cond.methodLink RJx4a65c 129 yJx4a65c_grow_d5877) 18 rfl) (ai1 (w := Cond.instanceMethod yJx4a65c_grow_d5877) 19 rfl) (ai1 (w := Cond.selects RJx4a65c yJx4a65c_grow_d5877 yJx4a65c_grow_d5877) 20 rfl) (ai0 (w := Cond.initialized RJx4a65c) 31 rfl) (ai1 (w := Cond.code yJx4a65c_grow_d5877 cJx4a65c_grow_d5877 1 (some (.array (.object "java/lang/Object")))) 17 rfl)) rfl (by decide +kernel) ⟨(Nat.le_of_ble_eq_true rfl), (Nat.le_of_ble_eq_true rfl)⟩ hK hP hD hS hA hE [0] [1] rfl (by decide) rfl (by decide) (by decide) 0 rfl rfl rfl hl rfl (Nat.le_of_ble_eq_true rfl) ⟨(Nat.le_of_ble_eq_true rfl), (Nat.le_of_ble_eq_true rfl)⟩ dJx4a65c_add_72be8_7 (fun q2 H locs hP hD hS => ?_)
  have hP : va_P G.1 vwCl [(x, .inr (17, [.int f0, .int f1, .int f2])), (o, .inr (4, [.int mo, .ref q2, .int 0])), (q2, .inl (k.2.2.2.2.2.1, 10, .inr (.inr (.inr (.inr (fun _ => none))))))] _ := hP
  have hD : va_D A [(x, .inr (17, [.int f0, .int f1, .int f2])), (o, .inr (4, [.int mo, .ref q2, .int 0])), (q2, .inl (k.2.2.2.2.2.1, 10, .inr (.inr (.inr (.inr (fun _ => none))))))] := hD
  refine W.eq (g2 := F0 m _ ls [.ref q2]) rfl ?_
  refine W.widen (k := 1) (n := 10) (Nat.le_of_ble_eq_true rfl) (Nat.le_of_ble_eq_true rfl) ?_
  refine lv_astore_n (lv' := [(2, .ref q2), (0, .ref o), (1, .ref x), (3, .int 0)]) hx hb dJx4a65c_add_72be8_10 rfl hl (by decide) rfl (fun ls hl => ?_)
  refine lv_aload_n hx hb dJx4a65c_add_72be8_11 rfl (lv_at hl 0 rfl) ?_
  refine lv_iload_n hx hb dJx4a65c_add_72be8_12 rfl (lv_at hl 3 rfl) ?_
  refine lv_aload_n hx hb dJx4a65c_add_72be8_13 rfl (lv_at hl 2 rfl) ?_
  refine va_astqO hx hb (px_K hK hE) hP hD hS 2 3 0 17 rfl rfl (hE.1.1 (.castable RX12 "java/lang/Object") (by simp [pxNl])) rfl rfl (i := 0) (by unfold vp_in; decide) dJx4a65c_add_72be8_14 (fun H locs hP hD hS => ?_)
  have hP : va_P G.1 vwCl [(x, .inr (17, [.int f0, .int f1, .int f2])), (o, .inr (4, [.int mo, .ref q2, .int 0])), (q2, .inl (k.2.2.2.2.2.1, 10, .inr (.inr (.inr (.inr (va_up (fun _ => none) 0 (some x)))))))] _ := hP
  have hD : va_D A [(x, .inr (17, [.int f0, .int f1, .int f2])), (o, .inr (4, [.int mo, .ref q2, .int 0])), (q2, .inl (k.2.2.2.2.2.1, 10, .inr (.inr (.inr (.inr (va_up (fun _ => none) 0 (some x)))))))] := hD
  refine lv_aload_n hx hb dJx4a65c_add_72be8_15 rfl (lv_at hl 1 rfl) ?_
  refine lv_iload_n hx hb dJx4a65c_add_72be8_16 rfl (lv_at hl 3 rfl) ?_
  refine lv_iconst (v := 1) hx hb dJx4a65c_add_72be8_17 (by decide) ?_
  refine lv_iadd hx hb dJx4a65c_add_72be8_18 ?_
  rw [show ((0 : Int32) + 1) = 1 from by decide]
  refine va_put (D := G.1) (ci := 4) (v := .int 1) (ty := .int) (C := RJx4a65c) (T := TJx4a65c) (N := 3) hx hb hts oaJx4a65c tyJx4a65c tyJx4a65c_ok nmJx4a65c hown hK.1 hP hD hS 1 rfl rfl 2 (by decide) (aw (w := Cond.fieldLink RJx4a65c 48 "java/util/ArrayList" "size" "I") hts (ai0 (w := Cond.fieldLink RJx4a65c 48 "java/util/ArrayList" "size" "I") 4 rfl)) (fun _ h9 => h9) rfl (by decide +kernel) rfl rfl (Nat.le_of_ble_eq_true rfl) dJx4a65c_add_72be8_19 (fun H locs hP hD hS => ?_)
  have hP : va_P G.1 vwCl [(x, .inr (17, [.int f0, .int f1, .int f2])), (o, .inr (4, [.int mo, .ref q2, .int 1])), (q2, .inl (k.2.2.2.2.2.1, 10, .inr (.inr (.inr (.inr (va_up (fun _ => none) 0 (some x)))))))] _ := hP
  have hD : va_D A [(x, .inr (17, [.int f0, .int f1, .int f2])), (o, .inr (4, [.int mo, .ref q2, .int 1])), (q2, .inl (k.2.2.2.2.2.1, 10, .inr (.inr (.inr (.inr (va_up (fun _ => none) 0 (some x)))))))] := hD
  refine W.widen (k := 1) (n := 10) (Nat.le_of_ble_eq_true rfl) (Nat.le_of_ble_eq_true rfl) ?_
  exact px_rv (q2) hx hb hr hlk (hP.sub [1, 0] rfl) (hD.sub [1, 0] (by decide) rfl) hS rfl dJx4a65c_add_72be8_22

set_option maxHeartbeats 8000000 in
set_option maxRecDepth 100000 in
theorem k_addL (l : Launch) (G : sxG) (k : pxC) (o : Nat) (x : Nat) (f0 : Int32) (f1 : Int32) (f2 : Int32)  : pxM l yJx4a65c_add_9ea2d (Cond.code yJx4a65c_add_9ea2d cJx4a65c_add_9ea2d 2 (some .boolean) :: bwA) 4 126 1 10 G k [(o, .inr (4, [.int 0, .ref k.1, .int 0])), (x, .inr (17, [.int f0, .int f1, .int f2]))] [.ref o, .ref x] (fun u : Nat => some (.int 1)) (fun u : Nat => ([(o, .inr (4, [.int 1, .ref u, .int 1])), (x, .inr (17, [.int f0, .int f1, .int f2]))] : va_W)) := by
  refine pxM.of (cc := cJx4a65c_add_9ea2d) (maxL := 2) (by decide) rfl (Nat.le_of_ble_eq_true rfl) ?_
  intro p e s m args below meth c ⟨hx, hb, hr, hml, hown, hlk, hts, hK⟩ hin A hA hP hD hS hE ls hl
  have hl : lv_has ls 2 [(0, .ref o), (1, .ref x)] := hl
  refine lv_aload_n hx hb dJx4a65c_add_9ea2d_0 rfl (lv_at hl 0 rfl) ?_
  refine lv_dup hx hb dJx4a65c_add_9ea2d_1 rfl ?_
  refine va_get (D := G.1) (ci := 4) (v := .int 0) (C := RJx4a65c) (T := TJx4a65c) (N := 3) hx hb hts oaJx4a65c hown hK.1 hP 0 rfl rfl 0 (by decide) (aw (w := Cond.fieldLink RJx4a65c 63 "java/util/ArrayList" "modCount" "I") hts (ai1 (w := Cond.fieldLink RJx4a65c 63 "java/util/ArrayList" "modCount" "I") 22 rfl)) (fun x9 h9 => u_same (aw (w := Cond.sameField "java/util/ArrayList" "java/util/AbstractList" "modCount" "I") hts (ai1 (w := Cond.sameField "java/util/ArrayList" "java/util/AbstractList" "modCount" "I") 23 rfl)) x9 h9) rfl dJx4a65c_add_9ea2d_2 ?_
  refine lv_iconst (v := 1) hx hb dJx4a65c_add_9ea2d_5 (by decide) ?_
  refine lv_iadd hx hb dJx4a65c_add_9ea2d_6 ?_
  rw [show ((0 : Int32) + 1) = 1 from by decide]
  refine va_put (D := G.1) (ci := 4) (v := .int 1) (ty := .int) (C := RJx4a65c) (T := TJx4a65c) (N := 3) hx hb hts oaJx4a65c tyJx4a65c tyJx4a65c_ok nmJx4a65c hown hK.1 hP hD hS 0 rfl rfl 0 (by decide) (aw (w := Cond.fieldLink RJx4a65c 63 "java/util/ArrayList" "modCount" "I") hts (ai1 (w := Cond.fieldLink RJx4a65c 63 "java/util/ArrayList" "modCount" "I") 22 rfl)) (fun x9 h9 => u_same (aw (w := Cond.sameField "java/util/ArrayList" "java/util/AbstractList" "modCount" "I") hts (ai1 (w := Cond.sameField "java/util/ArrayList" "java/util/AbstractList" "modCount" "I") 23 rfl)) x9 h9) rfl (by decide +kernel) rfl rfl (Nat.le_of_ble_eq_true rfl) dJx4a65c_add_9ea2d_7 (fun H locs hP hD hS => ?_)
  have hP : va_P G.1 vwCl [(o, .inr (4, [.int 1, .ref k.1, .int 0])), (x, .inr (17, [.int f0, .int f1, .int f2]))] _ := hP
  have hD : va_D A [(o, .inr (4, [.int 1, .ref k.1, .int 0])), (x, .inr (17, [.int f0, .int f1, .int f2]))] := hD
  refine lv_aload_n hx hb dJx4a65c_add_9ea2d_10 rfl (lv_at hl 0 rfl) ?_
  refine lv_aload_n hx hb dJx4a65c_add_9ea2d_11 rfl (lv_at hl 1 rfl) ?_
  refine lv_aload_n hx hb dJx4a65c_add_9ea2d_12 rfl (lv_at hl 0 rfl) ?_
  refine va_get (D := G.1) (ci := 4) (v := .ref k.1) (C := RJx4a65c) (T := TJx4a65c) (N := 3) hx hb hts oaJx4a65c hown hK.1 hP 0 rfl rfl 1 (by decide) (aw (w := Cond.fieldLink RJx4a65c 9 "java/util/ArrayList" "elementData" "[Ljava/lang/Object;") hts (ai0 (w := Cond.fieldLink RJx4a65c 9 "java/util/ArrayList" "elementData" "[Ljava/lang/Object;") 14 rfl)) (fun _ h9 => h9) rfl dJx4a65c_add_9ea2d_13 ?_
  refine lv_aload_n hx hb dJx4a65c_add_9ea2d_16 rfl (lv_at hl 0 rfl) ?_
  refine va_get (D := G.1) (ci := 4) (v := .int 0) (C := RJx4a65c) (T := TJx4a65c) (N := 3) hx hb hts oaJx4a65c hown hK.1 hP 0 rfl rfl 2 (by decide) (aw (w := Cond.fieldLink RJx4a65c 48 "java/util/ArrayList" "size" "I") hts (ai0 (w := Cond.fieldLink RJx4a65c 48 "java/util/ArrayList" "size" "I") 4 rfl)) (fun _ h9 => h9) rfl dJx4a65c_add_9ea2d_17 ?_
  refine px_v (As := [.ref x, .ref k.1, .int 0]) (rest := []) (wr := []) hx hb hml hown hts (k_addL_n l G k o x 1 f0 f1 f2 ) 3 (gAV idA (ai1 (w := Cond.methodLink RJx4a65c 131 yJx4a65c_add_72be8) 24 rfl) (ai1 (w := Cond.instanceMethod yJx4a65c_add_72be8) 25 rfl) (ai1 (w := Cond.selects RJx4a65c yJx4a65c_add_72be8 yJx4a65c_add_72be8) 26 rfl) (ai0 (w := Cond.initialized RJx4a65c) 31 rfl) (ai1 (w := Cond.code yJx4a65c_add_72be8 cJx4a65c_add_72be8 4 none) 21 rfl)) rfl (by decide +kernel) ⟨(Nat.le_of_ble_eq_true rfl), (Nat.le_of_ble_eq_true rfl)⟩ hK hP hD hS hA hE [0, 1] [] rfl (by decide) rfl (by decide) (by decide) 0 rfl rfl rfl hl rfl (Nat.le_of_ble_eq_true rfl) ⟨(Nat.le_of_ble_eq_true rfl), (Nat.le_of_ble_eq_true rfl)⟩ dJx4a65c_add_9ea2d_20 (fun q1 H locs hP hD hS => ?_)
  have hP : va_P G.1 vwCl [(o, .inr (4, [.int 1, .ref q1, .int 1])), (x, .inr (17, [.int f0, .int f1, .int f2]))] _ := hP
  have hD : va_D A [(o, .inr (4, [.int 1, .ref q1, .int 1])), (x, .inr (17, [.int f0, .int f1, .int f2]))] := hD
  refine W.eq (g2 := F0 m _ ls []) rfl ?_
  refine W.widen (k := 1) (n := 10) (Nat.le_of_ble_eq_true rfl) (Nat.le_of_ble_eq_true rfl) ?_
  refine lv_iconst (v := 1) hx hb dJx4a65c_add_9ea2d_23 (by decide) ?_
  refine W.widen (k := 1) (n := 10) (Nat.le_of_ble_eq_true rfl) (Nat.le_of_ble_eq_true rfl) ?_
  exact px_ri (q1) hx hb hr hlk (hP.sub [0, 1] rfl) (hD.sub [0, 1] (by decide) rfl) hS rfl (rfl) dJx4a65c_add_9ea2d_24

set_option maxHeartbeats 8000000 in
set_option maxRecDepth 100000 in
theorem k_copyOfC0 (l : Launch) (G : sxG) (k : pxC)   : pxM l yJ7_copyOf_6403c (Cond.code yJ7_copyOf_6403c cJ7_copyOf_6403c 4 (some (.array (.object "java/lang/Object"))) :: bwA) 1 60 1 0 G k [] [.ref k.1, .int 0, .ref k.2.2.2.1] (fun u : Nat => some (.ref u)) (fun u : Nat => ([(u, .inl (k.2.2.2.2.2.1, 0, .inr (.inr (.inr (.inr (va_cpy (fun _ => none) (fun _ => none) (0 : Int32).toNatClampNeg (0 : Int32).toNatClampNeg (0 : Int32).toNatClampNeg))))))] : va_W)) := by
  refine pxM.of (cc := cJ7_copyOf_6403c) (maxL := 4) (by decide) rfl (Nat.le_of_ble_eq_true rfl) ?_
  intro p e s m args below meth c ⟨hx, hb, hr, hml, hown, hlk, hts, hK⟩ hin A hA hP hD hS hE ls hl
  have hl : lv_has ls 4 [(0, .ref k.1), (1, .int 0), (2, .ref k.2.2.2.1)] := hl
  refine lv_aload_n hx hb dJ7_copyOf_6403c_0 rfl (lv_at hl 2 rfl) ?_
  refine va_ldcM (mi := k.2.2.2.1) hx hb hown (aw (w := Cond.classLink RJ7 110 "[Ljava/lang/Object;") hts (ai0 (w := Cond.classLink RJ7 110 "[Ljava/lang/Object;") 56 rfl)) hE.2.1.2.2.2.2.2.2.1 dJ7_copyOf_6403c_1 ?_
  refine lv_acmp_ne (rx := some (k.2.2.2.1)) (ry := some (k.2.2.2.1)) (tgt := 13) hx hb dJ7_copyOf_6403c_3 (by decide) (fun h9 => absurd rfl h9) (fun _ => ?_)
  refine lv_iload_n hx hb dJ7_copyOf_6403c_6 rfl (lv_at hl 1 rfl) ?_
  refine px_anewO hx hb hown (aw (w := Cond.classLink RJ7 2 "java/lang/Object") hts (ai0 (w := Cond.classLink RJ7 2 "java/lang/Object") 57 rfl)) hK hE hP hD hS hA (n := 0) (by decide) 0 (by decide) (Nat.le_of_ble_eq_true rfl) (Nat.le_of_ble_eq_true rfl) (Nat.le_of_ble_eq_true rfl) dJ7_copyOf_6403c_7 (fun q1 H hP hD hS => ?_)
  have hP : va_P G.1 vwCl [(q1, .inl (k.2.2.2.2.2.1, 0, .inr (.inr (.inr (.inr (fun _ => none))))))] _ := hP
  have hD : va_D A [(q1, .inl (k.2.2.2.2.2.1, 0, .inr (.inr (.inr (.inr (fun _ => none))))))] := hD
  refine W.widen (k := 1) (n := 0) (Nat.le_of_ble_eq_true rfl) (Nat.le_of_ble_eq_true rfl) ?_
  refine lv_goto (tgt := 24) hx hb dJ7_copyOf_6403c_10 (by decide) ?_
  refine lv_astore_n (lv' := [(3, .ref q1), (0, .ref k.1), (1, .int 0), (2, .ref k.2.2.2.1)]) hx hb dJ7_copyOf_6403c_24 rfl hl (by decide) rfl (fun ls hl => ?_)
  refine lv_aload_n hx hb dJ7_copyOf_6403c_25 rfl (lv_at hl 1 rfl) ?_
  refine lv_iconst (v := 0) hx hb dJ7_copyOf_6403c_26 (by decide) ?_
  refine lv_aload_n hx hb dJ7_copyOf_6403c_27 rfl (lv_at hl 0 rfl) ?_
  refine lv_iconst (v := 0) hx hb dJ7_copyOf_6403c_28 (by decide) ?_
  refine lv_aload_n hx hb dJ7_copyOf_6403c_29 rfl (lv_at hl 1 rfl) ?_
  refine va_tlen (v := 0) hx hb hE.2.1.2.1 hS (by decide) dJ7_copyOf_6403c_30 ?_
  refine lv_iload_n hx hb dJ7_copyOf_6403c_31 rfl (lv_at hl 2 rfl) ?_
  refine sx_mmin hx hb (hml.trans hl.1.symm) hown (aw (w := Cond.methodLink RJ7 304 Lib.Math.min.name) hts (ai0 (w := Cond.methodLink RJ7 304 Lib.Math.min.name) 58 rfl)) (aw (w := Cond.static Lib.Math.min.name) hts (ahC (bi9 (w := Cond.static Lib.Math.min.name) 31 rfl))) (aw (w := Cond.initialized "java/lang/Math") hts (ahC (bi5 (w := Cond.initialized "java/lang/Math") 16 rfl))) (aw (w := Cond.code Lib.Math.min.name Lib.Math.min.code 2 (some .int)) hts (ahC (bi9 (w := Cond.code Lib.Math.min.name Lib.Math.min.code 2 (some .int)) 32 rfl))) (Nat.le_of_ble_eq_true rfl) (Nat.le_of_ble_eq_true rfl) (Nat.le_of_ble_eq_true rfl) (Nat.le_of_ble_eq_true rfl) (x := 0) (y := 0) dJ7_copyOf_6403c_32 ?_
  rw [show s_mmin 0 0 = 0 from by decide]
  refine va_copyg hx hb (hml.trans hl.1.symm) hown (aw (w := Cond.methodLink RJ7 150 arraycopyName) hts (ai0 (w := Cond.methodLink RJ7 150 arraycopyName) 59 rfl)) (aw (w := Cond.native arraycopyName) hts (ahC (bi6 (w := Cond.native arraycopyName) 3 rfl))) (aw (w := Cond.static arraycopyName) hts (ahC (bi6 (w := Cond.static arraycopyName) 4 rfl))) (aw (w := Cond.initialized "java/lang/System") hts (ahC (bi6 (w := Cond.initialized "java/lang/System") 5 rfl))) (px_K hK hE) hP hD hS 0 3 hE.2.1.2.1 rfl rfl (by decide) (by decide) (by decide) (by decide) (by decide) (Nat.le_of_ble_eq_true rfl) (Nat.le_of_ble_eq_true rfl) dJ7_copyOf_6403c_35 (fun H locs hP hD hS => ?_)
  have hP : va_P G.1 vwCl [(q1, .inl (k.2.2.2.2.2.1, 0, .inr (.inr (.inr (.inr (fun _ => none))))))] _ := hP
  have hD : va_D A [(q1, .inl (k.2.2.2.2.2.1, 0, .inr (.inr (.inr (.inr (fun _ => none))))))] := hD
  refine lv_aload_n hx hb dJ7_copyOf_6403c_38 rfl (lv_at hl 0 rfl) ?_
  refine W.widen (k := 1) (n := 0) (Nat.le_of_ble_eq_true rfl) (Nat.le_of_ble_eq_true rfl) ?_
  exact px_ra (q1) hx hb hr (Or.inr ⟨_, rfl⟩) hlk (hP.sub [0] rfl) (hD.sub [0] (by decide) rfl) hS rfl dJ7_copyOf_6403c_39

set_option maxHeartbeats 8000000 in
set_option maxRecDepth 100000 in
theorem k_copyOf0 (l : Launch) (G : sxG) (k : pxC)   : pxM l yJ7_copyOf_1904c (Cond.code yJ7_copyOf_1904c cJ7_copyOf_1904c 2 (some (.array (.object "java/lang/Object"))) :: bwA) 2 83 1 0 G k [] [.ref k.1, .int 0] (fun u : Nat => some (.ref u)) (fun u : Nat => ([(u, .inl (k.2.2.2.2.2.1, 0, .inr (.inr (.inr (.inr (va_cpy (fun _ => none) (fun _ => none) (0 : Int32).toNatClampNeg (0 : Int32).toNatClampNeg (0 : Int32).toNatClampNeg))))))] : va_W)) := by
  refine pxM.of (cc := cJ7_copyOf_1904c) (maxL := 2) (by decide) rfl (Nat.le_of_ble_eq_true rfl) ?_
  intro p e s m args below meth c ⟨hx, hb, hr, hml, hown, hlk, hts, hK⟩ hin A hA hP hD hS hE ls hl
  have hl : lv_has ls 2 [(0, .ref k.1), (1, .int 0)] := hl
  refine lv_aload_n hx hb dJ7_copyOf_1904c_0 rfl (lv_at hl 0 rfl) ?_
  refine lv_iload_n hx hb dJ7_copyOf_1904c_1 rfl (lv_at hl 1 rfl) ?_
  refine lv_aload_n hx hb dJ7_copyOf_1904c_2 rfl (lv_at hl 0 rfl) ?_
  refine va_getC (C := "[Ljava/lang/Object;") (mi := k.2.2.2.1) hx hb (hml.trans hl.1.symm) hown (aw (w := Cond.methodLink RJ7 86 ⟨"java/lang/Object", "getClass", "()Ljava/lang/Class;"⟩) hts (ai1 (w := Cond.methodLink RJ7 86 ⟨"java/lang/Object", "getClass", "()Ljava/lang/Class;"⟩) 1 rfl)) (va_Nw.use rfl (hE.1.1 (.declares ⟨"java/lang/Object", "getClass", "()Ljava/lang/Class;"⟩) (by simp [pxNl]))) (aw (w := Cond.selects "[Ljava/lang/Object;" ⟨"java/lang/Object", "getClass", "()Ljava/lang/Class;"⟩ ⟨"java/lang/Object", "getClass", "()Ljava/lang/Class;"⟩) hts (ai1 (w := Cond.selects "[Ljava/lang/Object;" ⟨"java/lang/Object", "getClass", "()Ljava/lang/Class;"⟩ ⟨"java/lang/Object", "getClass", "()Ljava/lang/Class;"⟩) 2 rfl)) (aw (w := Cond.instanceMethod ⟨"java/lang/Object", "getClass", "()Ljava/lang/Class;"⟩) hts (ai1 (w := Cond.instanceMethod ⟨"java/lang/Object", "getClass", "()Ljava/lang/Class;"⟩) 3 rfl)) (aw (w := Cond.native ⟨"java/lang/Object", "getClass", "()Ljava/lang/Class;"⟩) hts (ai1 (w := Cond.native ⟨"java/lang/Object", "getClass", "()Ljava/lang/Class;"⟩) 4 rfl)) hE.2.1.2.2.2.2.2.2.1 (px_dE hE hS) (Nat.le_of_ble_eq_true rfl) (Nat.le_of_ble_eq_true rfl) dJ7_copyOf_1904c_3 ?_
  refine px_s (As := [.ref k.1, .int 0, .ref k.2.2.2.1]) (rest := []) (wr := []) hx hb hml hown hts (k_copyOfC0 l G k  ) 3 (gAS idA (ai1 (w := Cond.methodLink RJ7 300 yJ7_copyOf_6403c) 5 rfl) (ai1 (w := Cond.static yJ7_copyOf_6403c) 6 rfl) (ahC (bi1 (w := Cond.initialized RJ7) 21 rfl)) (ai0 (w := Cond.code yJ7_copyOf_6403c cJ7_copyOf_6403c 4 (some (.array (.object "java/lang/Object")))) 55 rfl)) rfl (by decide +kernel) ⟨(Nat.le_of_ble_eq_true rfl), (Nat.le_of_ble_eq_true rfl)⟩ hK hP hD hS hA hE [] [] rfl (by decide) rfl (by decide) (by decide) rfl hl rfl (Nat.le_of_ble_eq_true rfl) ⟨(Nat.le_of_ble_eq_true rfl), (Nat.le_of_ble_eq_true rfl)⟩ dJ7_copyOf_1904c_6 (fun q1 H locs hP hD hS => ?_)
  have hP : va_P G.1 vwCl [(q1, .inl (k.2.2.2.2.2.1, 0, .inr (.inr (.inr (.inr (va_cpy (fun _ => none) (fun _ => none) (0 : Int32).toNatClampNeg (0 : Int32).toNatClampNeg (0 : Int32).toNatClampNeg))))))] _ := hP
  have hD : va_D A [(q1, .inl (k.2.2.2.2.2.1, 0, .inr (.inr (.inr (.inr (va_cpy (fun _ => none) (fun _ => none) (0 : Int32).toNatClampNeg (0 : Int32).toNatClampNeg (0 : Int32).toNatClampNeg))))))] := hD
  refine W.eq (g2 := F0 m _ ls [.ref q1]) rfl ?_
  refine W.widen (k := 1) (n := 0) (Nat.le_of_ble_eq_true rfl) (Nat.le_of_ble_eq_true rfl) ?_
  refine W.widen (k := 1) (n := 0) (Nat.le_of_ble_eq_true rfl) (Nat.le_of_ble_eq_true rfl) ?_
  exact px_ra (q1) hx hb hr (Or.inr ⟨_, rfl⟩) hlk (hP.sub [0] rfl) (hD.sub [0] (by decide) rfl) hS rfl dJ7_copyOf_1904c_9

set_option maxHeartbeats 8000000 in
set_option maxRecDepth 100000 in
theorem k_toArray0 (l : Launch) (G : sxG) (k : pxC) (o : Nat)  : pxM l yJx4a65c_toArray_d5877 (Cond.code yJx4a65c_toArray_d5877 cJx4a65c_toArray_d5877 1 (some (.array (.object "java/lang/Object"))) :: bwA) 3 104 1 0 G k [(o, .inr (4, [.int 0, .ref k.1, .int 0]))] [.ref o] (fun u : Nat => some (.ref u)) (fun u : Nat => ([(o, .inr (4, [.int 0, .ref k.1, .int 0])), (u, .inl (k.2.2.2.2.2.1, 0, .inr (.inr (.inr (.inr (va_cpy (fun _ => none) (fun _ => none) (0 : Int32).toNatClampNeg (0 : Int32).toNatClampNeg (0 : Int32).toNatClampNeg))))))] : va_W)) := by
  refine pxM.of (cc := cJx4a65c_toArray_d5877) (maxL := 1) (by decide) rfl (Nat.le_of_ble_eq_true rfl) ?_
  intro p e s m args below meth c ⟨hx, hb, hr, hml, hown, hlk, hts, hK⟩ hin A hA hP hD hS hE ls hl
  have hl : lv_has ls 1 [(0, .ref o)] := hl
  refine lv_aload_n hx hb dJx4a65c_toArray_d5877_0 rfl (lv_at hl 0 rfl) ?_
  refine va_get (D := G.1) (ci := 4) (v := .ref k.1) (C := RJx4a65c) (T := TJx4a65c) (N := 3) hx hb hts oaJx4a65c hown hK.1 hP 0 rfl rfl 1 (by decide) (aw (w := Cond.fieldLink RJx4a65c 9 "java/util/ArrayList" "elementData" "[Ljava/lang/Object;") hts (ai0 (w := Cond.fieldLink RJx4a65c 9 "java/util/ArrayList" "elementData" "[Ljava/lang/Object;") 14 rfl)) (fun _ h9 => h9) rfl dJx4a65c_toArray_d5877_1 ?_
  refine lv_aload_n hx hb dJx4a65c_toArray_d5877_4 rfl (lv_at hl 0 rfl) ?_
  refine va_get (D := G.1) (ci := 4) (v := .int 0) (C := RJx4a65c) (T := TJx4a65c) (N := 3) hx hb hts oaJx4a65c hown hK.1 hP 0 rfl rfl 2 (by decide) (aw (w := Cond.fieldLink RJx4a65c 48 "java/util/ArrayList" "size" "I") hts (ai0 (w := Cond.fieldLink RJx4a65c 48 "java/util/ArrayList" "size" "I") 4 rfl)) (fun _ h9 => h9) rfl dJx4a65c_toArray_d5877_5 ?_
  refine px_s (As := [.ref k.1, .int 0]) (rest := []) (wr := [(o, .inr (4, [.int 0, .ref k.1, .int 0]))]) hx hb hml hown hts (k_copyOf0 l G k  ) 2 (gAS idA (ai1 (w := Cond.methodLink RJx4a65c 66 yJ7_copyOf_1904c) 11 rfl) (ai1 (w := Cond.static yJ7_copyOf_1904c) 12 rfl) (ahC (bi1 (w := Cond.initialized RJ7) 21 rfl)) (ai1 (w := Cond.code yJ7_copyOf_1904c cJ7_copyOf_1904c 2 (some (.array (.object "java/lang/Object")))) 0 rfl)) rfl (by decide +kernel) ⟨(Nat.le_of_ble_eq_true rfl), (Nat.le_of_ble_eq_true rfl)⟩ hK hP hD hS hA hE [] [0] rfl (by decide) rfl (by decide) (by decide) rfl hl rfl (Nat.le_of_ble_eq_true rfl) ⟨(Nat.le_of_ble_eq_true rfl), (Nat.le_of_ble_eq_true rfl)⟩ dJx4a65c_toArray_d5877_8 (fun q1 H locs hP hD hS => ?_)
  have hP : va_P G.1 vwCl [(o, .inr (4, [.int 0, .ref k.1, .int 0])), (q1, .inl (k.2.2.2.2.2.1, 0, .inr (.inr (.inr (.inr (va_cpy (fun _ => none) (fun _ => none) (0 : Int32).toNatClampNeg (0 : Int32).toNatClampNeg (0 : Int32).toNatClampNeg))))))] _ := hP
  have hD : va_D A [(o, .inr (4, [.int 0, .ref k.1, .int 0])), (q1, .inl (k.2.2.2.2.2.1, 0, .inr (.inr (.inr (.inr (va_cpy (fun _ => none) (fun _ => none) (0 : Int32).toNatClampNeg (0 : Int32).toNatClampNeg (0 : Int32).toNatClampNeg))))))] := hD
  refine W.eq (g2 := F0 m _ ls [.ref q1]) rfl ?_
  refine W.widen (k := 1) (n := 0) (Nat.le_of_ble_eq_true rfl) (Nat.le_of_ble_eq_true rfl) ?_
  refine W.widen (k := 1) (n := 0) (Nat.le_of_ble_eq_true rfl) (Nat.le_of_ble_eq_true rfl) ?_
  exact px_ra (q1) hx hb hr (Or.inr ⟨_, rfl⟩) hlk (hP.sub [0, 1] rfl) (hD.sub [0, 1] (by decide) rfl) hS rfl dJx4a65c_toArray_d5877_11

set_option maxHeartbeats 8000000 in
set_option maxRecDepth 100000 in
theorem k_addAll0 (l : Launch) (G : sxG) (k : pxC) (o : Nat) (oo : Nat)  : pxM l yJx4a65c_addAll_f0b43 (Cond.code yJx4a65c_addAll_f0b43 cJx4a65c_addAll_f0b43 6 (some .boolean) :: bwA) 4 124 1 0 G k [(o, .inr (4, [.int 0, .ref k.1, .int 0])), (oo, .inr (4, [.int 0, .ref k.1, .int 0]))] [.ref o, .ref oo] (fun u : Unit => some (.int 0)) (fun u : Unit => ([(o, .inr (4, [.int 1, .ref k.1, .int 0])), (oo, .inr (4, [.int 0, .ref k.1, .int 0]))] : va_W)) := by
  refine pxM.of (cc := cJx4a65c_addAll_f0b43) (maxL := 6) (by decide) rfl (Nat.le_of_ble_eq_true rfl) ?_
  intro p e s m args below meth c ⟨hx, hb, hr, hml, hown, hlk, hts, hK⟩ hin A hA hP hD hS hE ls hl
  have hl : lv_has ls 6 [(0, .ref o), (1, .ref oo)] := hl
  refine lv_aload_n hx hb dJx4a65c_addAll_f0b43_0 rfl (lv_at hl 1 rfl) ?_
  refine px_f (As := []) (rest := []) (wr := [(o, .inr (4, [.int 0, .ref k.1, .int 0]))]) hx hb hml hown hts (k_toArray0 l G k oo ) 0 (gAF idA (x := yCol_toArray) (ai5 (w := Cond.methodLink RJx4a65c 42 ⟨"java/util/Collection", "toArray", "()[Ljava/lang/Object;"⟩) 18 rfl) (ai5 (w := Cond.selects RJx4a65c ⟨"java/util/Collection", "toArray", "()[Ljava/lang/Object;"⟩ yJx4a65c_toArray_d5877) 19 rfl) (ai5 (w := Cond.instanceMethod yJx4a65c_toArray_d5877) 20 rfl) (ai0 (w := Cond.initialized RJx4a65c) 31 rfl) (ai5 (w := Cond.code yJx4a65c_toArray_d5877 cJx4a65c_toArray_d5877 1 (some (.array (.object "java/lang/Object")))) 17 rfl)) rfl hE.1.2.2.2.2.2.2.2 (by decide +kernel) ⟨(Nat.le_of_ble_eq_true rfl), (Nat.le_of_ble_eq_true rfl)⟩ hK hP hD hS hA hE [1] [0] rfl (by decide) rfl (by decide) (by decide) 0 rfl rfl rfl hl rfl (Nat.le_of_ble_eq_true rfl) ⟨(Nat.le_of_ble_eq_true rfl), (Nat.le_of_ble_eq_true rfl)⟩ dJx4a65c_addAll_f0b43_1 (fun q1 H locs hP hD hS => ?_)
  have hP : va_P G.1 vwCl [(o, .inr (4, [.int 0, .ref k.1, .int 0])), (oo, .inr (4, [.int 0, .ref k.1, .int 0])), (q1, .inl (k.2.2.2.2.2.1, 0, .inr (.inr (.inr (.inr (va_cpy (fun _ => none) (fun _ => none) (0 : Int32).toNatClampNeg (0 : Int32).toNatClampNeg (0 : Int32).toNatClampNeg))))))] _ := hP
  have hD : va_D A [(o, .inr (4, [.int 0, .ref k.1, .int 0])), (oo, .inr (4, [.int 0, .ref k.1, .int 0])), (q1, .inl (k.2.2.2.2.2.1, 0, .inr (.inr (.inr (.inr (va_cpy (fun _ => none) (fun _ => none) (0 : Int32).toNatClampNeg (0 : Int32).toNatClampNeg (0 : Int32).toNatClampNeg))))))] := hD
  refine W.eq (g2 := F0 m _ ls [.ref q1]) rfl ?_
  refine W.widen (k := 1) (n := 0) (Nat.le_of_ble_eq_true rfl) (Nat.le_of_ble_eq_true rfl) ?_
  refine lv_astore_n (lv' := [(2, .ref q1), (0, .ref o), (1, .ref oo)]) hx hb dJx4a65c_addAll_f0b43_6 rfl hl (by decide) rfl (fun ls hl => ?_)
  refine lv_aload_n hx hb dJx4a65c_addAll_f0b43_7 rfl (lv_at hl 1 rfl) ?_
  refine lv_dup hx hb dJx4a65c_addAll_f0b43_8 rfl ?_
  refine va_get (D := G.1) (ci := 4) (v := .int 0) (C := RJx4a65c) (T := TJx4a65c) (N := 3) hx hb hts oaJx4a65c hown hK.1 hP 0 rfl rfl 0 (by decide) (aw (w := Cond.fieldLink RJx4a65c 63 "java/util/ArrayList" "modCount" "I") hts (ai1 (w := Cond.fieldLink RJx4a65c 63 "java/util/ArrayList" "modCount" "I") 22 rfl)) (fun x9 h9 => u_same (aw (w := Cond.sameField "java/util/ArrayList" "java/util/AbstractList" "modCount" "I") hts (ai1 (w := Cond.sameField "java/util/ArrayList" "java/util/AbstractList" "modCount" "I") 23 rfl)) x9 h9) rfl dJx4a65c_addAll_f0b43_9 ?_
  refine lv_iconst (v := 1) hx hb dJx4a65c_addAll_f0b43_12 (by decide) ?_
  refine lv_iadd hx hb dJx4a65c_addAll_f0b43_13 ?_
  rw [show ((0 : Int32) + 1) = 1 from by decide]
  refine va_put (D := G.1) (ci := 4) (v := .int 1) (ty := .int) (C := RJx4a65c) (T := TJx4a65c) (N := 3) hx hb hts oaJx4a65c tyJx4a65c tyJx4a65c_ok nmJx4a65c hown hK.1 hP hD hS 0 rfl rfl 0 (by decide) (aw (w := Cond.fieldLink RJx4a65c 63 "java/util/ArrayList" "modCount" "I") hts (ai1 (w := Cond.fieldLink RJx4a65c 63 "java/util/ArrayList" "modCount" "I") 22 rfl)) (fun x9 h9 => u_same (aw (w := Cond.sameField "java/util/ArrayList" "java/util/AbstractList" "modCount" "I") hts (ai1 (w := Cond.sameField "java/util/ArrayList" "java/util/AbstractList" "modCount" "I") 23 rfl)) x9 h9) rfl (by decide +kernel) rfl rfl (Nat.le_of_ble_eq_true rfl) dJx4a65c_addAll_f0b43_14 (fun H locs hP hD hS => ?_)
  have hP : va_P G.1 vwCl [(o, .inr (4, [.int 1, .ref k.1, .int 0])), (oo, .inr (4, [.int 0, .ref k.1, .int 0])), (q1, .inl (k.2.2.2.2.2.1, 0, .inr (.inr (.inr (.inr (va_cpy (fun _ => none) (fun _ => none) (0 : Int32).toNatClampNeg (0 : Int32).toNatClampNeg (0 : Int32).toNatClampNeg))))))] _ := hP
  have hD : va_D A [(o, .inr (4, [.int 1, .ref k.1, .int 0])), (oo, .inr (4, [.int 0, .ref k.1, .int 0])), (q1, .inl (k.2.2.2.2.2.1, 0, .inr (.inr (.inr (.inr (va_cpy (fun _ => none) (fun _ => none) (0 : Int32).toNatClampNeg (0 : Int32).toNatClampNeg (0 : Int32).toNatClampNeg))))))] := hD
  refine lv_aload_n hx hb dJx4a65c_addAll_f0b43_17 rfl (lv_at hl 0 rfl) ?_
  refine va_alen (v := 0) hx hb (px_K hK hE) hP 2 3 rfl rfl rfl dJx4a65c_addAll_f0b43_18 ?_
  refine lv_istore_n (lv' := [(3, .int 0), (2, .ref q1), (0, .ref o), (1, .ref oo)]) hx hb dJx4a65c_addAll_f0b43_19 rfl hl (by decide) rfl (fun ls hl => ?_)
  refine lv_iload_n hx hb dJx4a65c_addAll_f0b43_20 rfl (lv_at hl 0 rfl) ?_
  refine lv_if_ne (tgt := 26) hx hb dJx4a65c_addAll_f0b43_21 (by decide) (fun c2 => absurd c2 (by decide)) (fun c2 => ?_)
  refine lv_iconst (v := 0) hx hb dJx4a65c_addAll_f0b43_24 (by decide) ?_
  refine W.widen (k := 1) (n := 0) (Nat.le_of_ble_eq_true rfl) (Nat.le_of_ble_eq_true rfl) ?_
  exact px_ri () hx hb hr hlk (hP.sub [0, 1] rfl) (hD.sub [0, 1] (by decide) rfl) hS rfl (rfl) dJx4a65c_addAll_f0b43_25
