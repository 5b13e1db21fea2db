theorem dvX0 : ∀ j, j < 13 → defaultValue (tyX0 j) = vp_V [.null, .null, .null, .null, .null, .null, .null, .null, .null, .null, .null, .null, .int 0] j := by
  intro j hj
  rcases (show j = 0 ∨ j = 1 ∨ j = 2 ∨ j = 3 ∨ j = 4 ∨ j = 5 ∨ j = 6 ∨ j = 7 ∨ j = 8 ∨ j = 9 ∨ j = 10 ∨ j = 11 ∨ j = 12 by omega) with rfl | rfl | rfl | rfl | rfl | rfl | rfl | rfl | rfl | rfl | rfl | rfl | rfl <;> rfl
theorem dvX1 : ∀ j, j < 10 → defaultValue (tyX1 j) = vp_V [.null, .null, .null, .null, .null, .null, .null, .null, .null, .null] j := by
  intro j hj
  rcases (show j = 0 ∨ j = 1 ∨ j = 2 ∨ j = 3 ∨ j = 4 ∨ j = 5 ∨ j = 6 ∨ j = 7 ∨ j = 8 ∨ j = 9 by omega) with rfl | rfl | rfl | rfl | rfl | rfl | rfl | rfl | rfl | rfl <;> rfl
theorem dvX2 : ∀ j, j < 5 → defaultValue (tyX2 j) = vp_V [.null, .null, .null, .null, .int 0] j := by
  intro j hj
  rcases (show j = 0 ∨ j = 1 ∨ j = 2 ∨ j = 3 ∨ j = 4 by omega) with rfl | rfl | rfl | rfl | rfl <;> rfl
theorem dvX3 : ∀ j, j < 6 → defaultValue (tyX3 j) = vp_V [.null, .null, .null, .null, .null, .int 0] j := by
  intro j hj
  rcases (show j = 0 ∨ j = 1 ∨ j = 2 ∨ j = 3 ∨ j = 4 ∨ j = 5 by omega) with rfl | rfl | rfl | rfl | rfl | rfl <;> rfl
theorem dvX4 : ∀ j, j < 6 → defaultValue (tyX4 j) = vp_V [.null, .null, .null, .null, .int 0, .int 0] j := by
  intro j hj
  rcases (show j = 0 ∨ j = 1 ∨ j = 2 ∨ j = 3 ∨ j = 4 ∨ j = 5 by omega) with rfl | rfl | rfl | rfl | rfl | rfl <;> rfl
theorem dvX5 : ∀ j, j < 6 → defaultValue (tyX5 j) = vp_V [.null, .null, .null, .null, .int 0, .int 0] j := by
  intro j hj
  rcases (show j = 0 ∨ j = 1 ∨ j = 2 ∨ j = 3 ∨ j = 4 ∨ j = 5 by omega) with rfl | rfl | rfl | rfl | rfl | rfl <;> rfl
theorem dvX6 : ∀ j, j < 17 → defaultValue (tyX6 j) = vp_V [.null, .null, .null, .null, .null, .null, .null, .null, .int 0, .int 0, .int 0, .int 0, .int 0, .int 0, .int 0, .int 0, .int 0] j := by
  intro j hj
  rcases (show j = 0 ∨ j = 1 ∨ j = 2 ∨ j = 3 ∨ j = 4 ∨ j = 5 ∨ j = 6 ∨ j = 7 ∨ j = 8 ∨ j = 9 ∨ j = 10 ∨ j = 11 ∨ j = 12 ∨ j = 13 ∨ j = 14 ∨ j = 15 ∨ j = 16 by omega) with rfl | rfl | rfl | rfl | rfl | rfl | rfl | rfl | rfl | rfl | rfl | rfl | rfl | rfl | rfl | rfl | rfl <;> rfl
theorem dvX7 : ∀ j, j < 4 → defaultValue (tyX7 j) = vp_V [.null, .null, .null, .int 0] j := by
  intro j hj
  rcases (show j = 0 ∨ j = 1 ∨ j = 2 ∨ j = 3 by omega) with rfl | rfl | rfl | rfl <;> rfl
theorem dvX8 : ∀ j, j < 9 → defaultValue (tyX8 j) = vp_V [.null, .null, .null, .null, .null, .null, .null, .int 0, .int 0] j := by
  intro j hj
  rcases (show j = 0 ∨ j = 1 ∨ j = 2 ∨ j = 3 ∨ j = 4 ∨ j = 5 ∨ j = 6 ∨ j = 7 ∨ j = 8 by omega) with rfl | rfl | rfl | rfl | rfl | rfl | rfl | rfl | rfl <;> rfl
theorem dvX9 : ∀ j, j < 7 → defaultValue (tyX9 j) = vp_V [.null, .null, .null, .null, .null, .null, .int 0] j := by
  intro j hj
  rcases (show j = 0 ∨ j = 1 ∨ j = 2 ∨ j = 3 ∨ j = 4 ∨ j = 5 ∨ j = 6 by omega) with rfl | rfl | rfl | rfl | rfl | rfl | rfl <;> rfl

abbrev wdX5_init : List Cond := Cond.code yX5_init cX5_init 1 none :: bwC
set_option maxHeartbeats 8000000 in
set_option maxRecDepth 100000 in
theorem c_X5_init (l : Launch) (G : sxG) (o : Nat) : sxI l yX5_init wdX5_init 1 12 4 110 G [(o, .inr (5, [.null, .null, .null, .null, .int 0, .int 0]))] [.ref o] (fun u : Nat × Nat × Nat × Nat => ([(o, .inr (5, [.ref u.1, .ref u.2.1, .ref u.2.2.1, .ref u.2.2.2, .int 0, .int 0])), (u.1, .inl (G.2.1, 8, .inl (fun _ => 0))), (u.2.1, .inl (G.2.1, 34, .inl (fun _ => 0))), (u.2.2.1, .inl (G.2.1, 34, .inl (fun _ => 0))), (u.2.2.2, .inl (G.2.1, 34, .inl (fun _ => 0)))] : va_W)) := by
  refine sxI.of (cc := cX5_init) (maxL := 1) (by decide) rfl (Nat.le_of_ble_eq_true rfl) ?_
  intro p e s m args below meth c ⟨hx, hb, hr, hml, hown, hlk, hts, hK⟩ hin A hA hP hD hS ls hl
  have hl : lv_has ls 1 [(0, .ref o)] := hl
  refine lv_aload_n hx hb dX5_init_0 rfl (lv_at hl 0 rfl) ?_
  refine W.objInit hx hb hown (bw6 (w := Cond.methodLink RX5 3 objectInit) hts 0 rfl) (bw0 (w := Cond.instanceMethod objectInit) hts 2 rfl) (bw0 (w := Cond.code objectInit ⟨#[0xb1]⟩ 1 none) hts 3 rfl) rfl (by rw [hml]; exact hl.1) rfl dX5_init_1 (Nat.le_of_ble_eq_true rfl) (Nat.le_of_ble_eq_true rfl) ?_
  refine W.eq (g2 := F0 m 4 ls []) rfl ?_
  refine lv_aload_n hx hb dX5_init_4 rfl (lv_at hl 0 rfl) ?_
  refine lv_bipush (v := 8) hx hb dX5_init_5 (by decide) ?_
  refine sx_newi hx hb (bw0 (w := Cond.arrayClass .int) hts 5 rfl) hK hP hD hS hA 8 (by decide) (by decide) (Nat.le_of_ble_eq_true rfl) (Nat.le_of_ble_eq_true rfl) (Nat.le_of_ble_eq_true rfl) dX5_init_7 (fun q1 H hP hD hS => ?_)
  have hP : va_P G.1 vwCl [(o, .inr (5, [.null, .null, .null, .null, .int 0, .int 0])), (q1, .inl (G.2.1, 8, .inl (fun _ => 0)))] H := hP
  have hD : va_D A [(o, .inr (5, [.null, .null, .null, .null, .int 0, .int 0])), (q1, .inl (G.2.1, 8, .inl (fun _ => 0)))] := hD
  refine W.widen (k := 1) (n := 8) (Nat.le_of_ble_eq_true rfl) (Nat.le_of_ble_eq_true rfl) ?_
  refine va_putF (D := G.1) (ci := 5) (v := .ref q1) (ty := .array .int) (C := RX5) (T := TX5) (N := 6) hx hb hts owX5 tyX5 tyX5_ok nmX5 hown hK.1 hP hD hS 0 rfl rfl 0 (by decide) (bw1 (w := Cond.fieldLink RX5 9 "DropflagMill$Program" "kinds" "[I") hts 48 rfl) (fun _ h9 => h9) rfl hin rfl (by decide +kernel) rfl rfl (Nat.le_of_ble_eq_true rfl) dX5_init_9 (fun H locs hP hD hS => ?_)
  have hP : va_P G.1 vwCl [(o, .inr (5, [.ref q1, .null, .null, .null, .int 0, .int 0])), (q1, .inl (G.2.1, 8, .inl (fun _ => 0)))] H := hP
  have hD : va_D A [(o, .inr (5, [.ref q1, .null, .null, .null, .int 0, .int 0])), (q1, .inl (G.2.1, 8, .inl (fun _ => 0)))] := hD
  refine lv_aload_n hx hb dX5_init_12 rfl (lv_at hl 0 rfl) ?_
  refine lv_bipush (v := 34) hx hb dX5_init_13 (by decide) ?_
  refine sx_newi hx hb (bw0 (w := Cond.arrayClass .int) hts 5 rfl) hK hP hD hS hA 34 (by decide) (by decide) (Nat.le_of_ble_eq_true rfl) (Nat.le_of_ble_eq_true rfl) (Nat.le_of_ble_eq_true rfl) dX5_init_15 (fun q2 H hP hD hS => ?_)
  have hP : va_P G.1 vwCl [(o, .inr (5, [.ref q1, .null, .null, .null, .int 0, .int 0])), (q1, .inl (G.2.1, 8, .inl (fun _ => 0))), (q2, .inl (G.2.1, 34, .inl (fun _ => 0)))] H := hP
  have hD : va_D A [(o, .inr (5, [.ref q1, .null, .null, .null, .int 0, .int 0])), (q1, .inl (G.2.1, 8, .inl (fun _ => 0))), (q2, .inl (G.2.1, 34, .inl (fun _ => 0)))] := hD
  refine W.widen (k := 2) (n := 42) (Nat.le_of_ble_eq_true rfl) (Nat.le_of_ble_eq_true rfl) ?_
  refine va_putF (D := G.1) (ci := 5) (v := .ref q2) (ty := .array .int) (C := RX5) (T := TX5) (N := 6) hx hb hts owX5 tyX5 tyX5_ok nmX5 hown hK.1 hP hD hS 0 rfl rfl 1 (by decide) (bw1 (w := Cond.fieldLink RX5 15 "DropflagMill$Program" "sorts" "[I") hts 26 rfl) (fun _ h9 => h9) rfl hin rfl (by decide +kernel) rfl rfl (Nat.le_of_ble_eq_true rfl) dX5_init_17 (fun H locs hP hD hS => ?_)
  have hP : va_P G.1 vwCl [(o, .inr (5, [.ref q1, .ref q2, .null, .null, .int 0, .int 0])), (q1, .inl (G.2.1, 8, .inl (fun _ => 0))), (q2, .inl (G.2.1, 34, .inl (fun _ => 0)))] H := hP
  have hD : va_D A [(o, .inr (5, [.ref q1, .ref q2, .null, .null, .int 0, .int 0])), (q1, .inl (G.2.1, 8, .inl (fun _ => 0))), (q2, .inl (G.2.1, 34, .inl (fun _ => 0)))] := hD
  refine lv_aload_n hx hb dX5_init_20 rfl (lv_at hl 0 rfl) ?_
  refine lv_bipush (v := 34) hx hb dX5_init_21 (by decide) ?_
  refine sx_newi hx hb (bw0 (w := Cond.arrayClass .int) hts 5 rfl) hK hP hD hS hA 34 (by decide) (by decide) (Nat.le_of_ble_eq_true rfl) (Nat.le_of_ble_eq_true rfl) (Nat.le_of_ble_eq_true rfl) dX5_init_23 (fun q3 H hP hD hS => ?_)
  have hP : va_P G.1 vwCl [(o, .inr (5, [.ref q1, .ref q2, .null, .null, .int 0, .int 0])), (q1, .inl (G.2.1, 8, .inl (fun _ => 0))), (q2, .inl (G.2.1, 34, .inl (fun _ => 0))), (q3, .inl (G.2.1, 34, .inl (fun _ => 0)))] H := hP
  have hD : va_D A [(o, .inr (5, [.ref q1, .ref q2, .null, .null, .int 0, .int 0])), (q1, .inl (G.2.1, 8, .inl (fun _ => 0))), (q2, .inl (G.2.1, 34, .inl (fun _ => 0))), (q3, .inl (G.2.1, 34, .inl (fun _ => 0)))] := hD
  refine W.widen (k := 3) (n := 76) (Nat.le_of_ble_eq_true rfl) (Nat.le_of_ble_eq_true rfl) ?_
  refine va_putF (D := G.1) (ci := 5) (v := .ref q3) (ty := .array .int) (C := RX5) (T := TX5) (N := 6) hx hb hts owX5 tyX5 tyX5_ok nmX5 hown hK.1 hP hD hS 0 rfl rfl 2 (by decide) (bw1 (w := Cond.fieldLink RX5 18 "DropflagMill$Program" "as" "[I") hts 34 rfl) (fun _ h9 => h9) rfl hin rfl (by decide +kernel) rfl rfl (Nat.le_of_ble_eq_true rfl) dX5_init_25 (fun H locs hP hD hS => ?_)
  have hP : va_P G.1 vwCl [(o, .inr (5, [.ref q1, .ref q2, .ref q3, .null, .int 0, .int 0])), (q1, .inl (G.2.1, 8, .inl (fun _ => 0))), (q2, .inl (G.2.1, 34, .inl (fun _ => 0))), (q3, .inl (G.2.1, 34, .inl (fun _ => 0)))] H := hP
  have hD : va_D A [(o, .inr (5, [.ref q1, .ref q2, .ref q3, .null, .int 0, .int 0])), (q1, .inl (G.2.1, 8, .inl (fun _ => 0))), (q2, .inl (G.2.1, 34, .inl (fun _ => 0))), (q3, .inl (G.2.1, 34, .inl (fun _ => 0)))] := hD
  refine lv_aload_n hx hb dX5_init_28 rfl (lv_at hl 0 rfl) ?_
  refine lv_bipush (v := 34) hx hb dX5_init_29 (by decide) ?_
  refine sx_newi hx hb (bw0 (w := Cond.arrayClass .int) hts 5 rfl) hK hP hD hS hA 34 (by decide) (by decide) (Nat.le_of_ble_eq_true rfl) (Nat.le_of_ble_eq_true rfl) (Nat.le_of_ble_eq_true rfl) dX5_init_31 (fun q4 H hP hD hS => ?_)
  have hP : va_P G.1 vwCl [(o, .inr (5, [.ref q1, .ref q2, .ref q3, .null, .int 0, .int 0])), (q1, .inl (G.2.1, 8, .inl (fun _ => 0))), (q2, .inl (G.2.1, 34, .inl (fun _ => 0))), (q3, .inl (G.2.1, 34, .inl (fun _ => 0))), (q4, .inl (G.2.1, 34, .inl (fun _ => 0)))] H := hP
  have hD : va_D A [(o, .inr (5, [.ref q1, .ref q2, .ref q3, .null, .int 0, .int 0])), (q1, .inl (G.2.1, 8, .inl (fun _ => 0))), (q2, .inl (G.2.1, 34, .inl (fun _ => 0))), (q3, .inl (G.2.1, 34, .inl (fun _ => 0))), (q4, .inl (G.2.1, 34, .inl (fun _ => 0)))] := hD
  refine W.widen (k := 4) (n := 110) (Nat.le_of_ble_eq_true rfl) (Nat.le_of_ble_eq_true rfl) ?_
  refine va_putF (D := G.1) (ci := 5) (v := .ref q4) (ty := .array .int) (C := RX5) (T := TX5) (N := 6) hx hb hts owX5 tyX5 tyX5_ok nmX5 hown hK.1 hP hD hS 0 rfl rfl 3 (by decide) (bw1 (w := Cond.fieldLink RX5 21 "DropflagMill$Program" "bs" "[I") hts 32 rfl) (fun _ h9 => h9) rfl hin rfl (by decide +kernel) rfl rfl (Nat.le_of_ble_eq_true rfl) dX5_init_33 (fun H locs hP hD hS => ?_)
  have hP : va_P G.1 vwCl [(o, .inr (5, [.ref q1, .ref q2, .ref q3, .ref q4, .int 0, .int 0])), (q1, .inl (G.2.1, 8, .inl (fun _ => 0))), (q2, .inl (G.2.1, 34, .inl (fun _ => 0))), (q3, .inl (G.2.1, 34, .inl (fun _ => 0))), (q4, .inl (G.2.1, 34, .inl (fun _ => 0)))] H := hP
  have hD : va_D A [(o, .inr (5, [.ref q1, .ref q2, .ref q3, .ref q4, .int 0, .int 0])), (q1, .inl (G.2.1, 8, .inl (fun _ => 0))), (q2, .inl (G.2.1, 34, .inl (fun _ => 0))), (q3, .inl (G.2.1, 34, .inl (fun _ => 0))), (q4, .inl (G.2.1, 34, .inl (fun _ => 0)))] := hD
  refine lv_aload_n hx hb dX5_init_36 rfl (lv_at hl 0 rfl) ?_
  refine lv_iconst (v := 0) hx hb dX5_init_37 (by decide) ?_
  refine va_put (D := G.1) (ci := 5) (v := .int 0) (ty := .int) (C := RX5) (T := TX5) (N := 6) hx hb hts owX5 tyX5 tyX5_ok nmX5 hown hK.1 hP hD hS 0 rfl rfl 4 (by decide) (bw1 (w := Cond.fieldLink RX5 24 "DropflagMill$Program" "variables" "I") hts 47 rfl) (fun _ h9 => h9) rfl (by decide +kernel) rfl rfl (Nat.le_of_ble_eq_true rfl) dX5_init_38 (fun H locs hP hD hS => ?_)
  have hP : va_P G.1 vwCl [(o, .inr (5, [.ref q1, .ref q2, .ref q3, .ref q4, .int 0, .int 0])), (q1, .inl (G.2.1, 8, .inl (fun _ => 0))), (q2, .inl (G.2.1, 34, .inl (fun _ => 0))), (q3, .inl (G.2.1, 34, .inl (fun _ => 0))), (q4, .inl (G.2.1, 34, .inl (fun _ => 0)))] H := hP
  have hD : va_D A [(o, .inr (5, [.ref q1, .ref q2, .ref q3, .ref q4, .int 0, .int 0])), (q1, .inl (G.2.1, 8, .inl (fun _ => 0))), (q2, .inl (G.2.1, 34, .inl (fun _ => 0))), (q3, .inl (G.2.1, 34, .inl (fun _ => 0))), (q4, .inl (G.2.1, 34, .inl (fun _ => 0)))] := hD
  refine lv_aload_n hx hb dX5_init_41 rfl (lv_at hl 0 rfl) ?_
  refine lv_iconst (v := 0) hx hb dX5_init_42 (by decide) ?_
  refine va_put (D := G.1) (ci := 5) (v := .int 0) (ty := .int) (C := RX5) (T := TX5) (N := 6) hx hb hts owX5 tyX5 tyX5_ok nmX5 hown hK.1 hP hD hS 0 rfl rfl 5 (by decide) (bw1 (w := Cond.fieldLink RX5 28 "DropflagMill$Program" "lines" "I") hts 24 rfl) (fun _ h9 => h9) rfl (by decide +kernel) rfl rfl (Nat.le_of_ble_eq_true rfl) dX5_init_43 (fun H locs hP hD hS => ?_)
  have hP : va_P G.1 vwCl [(o, .inr (5, [.ref q1, .ref q2, .ref q3, .ref q4, .int 0, .int 0])), (q1, .inl (G.2.1, 8, .inl (fun _ => 0))), (q2, .inl (G.2.1, 34, .inl (fun _ => 0))), (q3, .inl (G.2.1, 34, .inl (fun _ => 0))), (q4, .inl (G.2.1, 34, .inl (fun _ => 0)))] H := hP
  have hD : va_D A [(o, .inr (5, [.ref q1, .ref q2, .ref q3, .ref q4, .int 0, .int 0])), (q1, .inl (G.2.1, 8, .inl (fun _ => 0))), (q2, .inl (G.2.1, 34, .inl (fun _ => 0))), (q3, .inl (G.2.1, 34, .inl (fun _ => 0))), (q4, .inl (G.2.1, 34, .inl (fun _ => 0)))] := hD
  exact sx_retN (q1, q2, q3, q4) hx hb hr hlk hP hD hS dX5_init_46

abbrev wdX2_init : List Cond := Cond.code yX2_init cX2_init 1 none :: bwC
set_option maxHeartbeats 8000000 in
set_option maxRecDepth 100000 in
theorem c_X2_init (l : Launch) (G : sxG) (o : Nat) : sxI l yX2_init wdX2_init 1 12 4 136 G [(o, .inr (2, [.null, .null, .null, .null, .int 0]))] [.ref o] (fun u : Nat × Nat × Nat × Nat => ([(o, .inr (2, [.ref u.1, .ref u.2.1, .ref u.2.2.1, .ref u.2.2.2, .int 0])), (u.1, .inl (G.2.1, 34, .inl (fun _ => 0))), (u.2.1, .inl (G.2.1, 34, .inl (fun _ => 0))), (u.2.2.1, .inl (G.2.1, 34, .inl (fun _ => 0))), (u.2.2.2, .inl (G.2.1, 34, .inl (fun _ => 0)))] : va_W)) := by
  refine sxI.of (cc := cX2_init) (maxL := 1) (by decide) rfl (Nat.le_of_ble_eq_true rfl) ?_
  intro p e s m args below meth c ⟨hx, hb, hr, hml, hown, hlk, hts, hK⟩ hin A hA hP hD hS ls hl
  have hl : lv_has ls 1 [(0, .ref o)] := hl
  refine lv_aload_n hx hb dX2_init_0 rfl (lv_at hl 0 rfl) ?_
  refine W.objInit hx hb hown (bw0 (w := Cond.methodLink RX2 3 objectInit) hts 36 rfl) (bw0 (w := Cond.instanceMethod objectInit) hts 2 rfl) (bw0 (w := Cond.code objectInit ⟨#[0xb1]⟩ 1 none) hts 3 rfl) rfl (by rw [hml]; exact hl.1) rfl dX2_init_1 (Nat.le_of_ble_eq_true rfl) (Nat.le_of_ble_eq_true rfl) ?_
  refine W.eq (g2 := F0 m 4 ls []) rfl ?_
  refine lv_aload_n hx hb dX2_init_4 rfl (lv_at hl 0 rfl) ?_
  refine lv_bipush (v := 34) hx hb dX2_init_5 (by decide) ?_
  refine sx_newi hx hb (bw0 (w := Cond.arrayClass .int) hts 5 rfl) hK hP hD hS hA 34 (by decide) (by decide) (Nat.le_of_ble_eq_true rfl) (Nat.le_of_ble_eq_true rfl) (Nat.le_of_ble_eq_true rfl) dX2_init_7 (fun q1 H hP hD hS => ?_)
  have hP : va_P G.1 vwCl [(o, .inr (2, [.null, .null, .null, .null, .int 0])), (q1, .inl (G.2.1, 34, .inl (fun _ => 0)))] H := hP
  have hD : va_D A [(o, .inr (2, [.null, .null, .null, .null, .int 0])), (q1, .inl (G.2.1, 34, .inl (fun _ => 0)))] := hD
  refine W.widen (k := 1) (n := 34) (Nat.le_of_ble_eq_true rfl) (Nat.le_of_ble_eq_true rfl) ?_
  refine va_putF (D := G.1) (ci := 2) (v := .ref q1) (ty := .array .int) (C := RX2) (T := TX2) (N := 5) hx hb hts owX2 tyX2 tyX2_ok nmX2 hown hK.1 hP hD hS 0 rfl rfl 0 (by decide) (bw0 (w := Cond.fieldLink RX2 9 "DropflagMill$Faults" "numbers" "[I") hts 37 rfl) (fun _ h9 => h9) rfl hin rfl (by decide +kernel) rfl rfl (Nat.le_of_ble_eq_true rfl) dX2_init_9 (fun H locs hP hD hS => ?_)
  have hP : va_P G.1 vwCl [(o, .inr (2, [.ref q1, .null, .null, .null, .int 0])), (q1, .inl (G.2.1, 34, .inl (fun _ => 0)))] H := hP
  have hD : va_D A [(o, .inr (2, [.ref q1, .null, .null, .null, .int 0])), (q1, .inl (G.2.1, 34, .inl (fun _ => 0)))] := hD
  refine lv_aload_n hx hb dX2_init_12 rfl (lv_at hl 0 rfl) ?_
  refine lv_bipush (v := 34) hx hb dX2_init_13 (by decide) ?_
  refine sx_newi hx hb (bw0 (w := Cond.arrayClass .int) hts 5 rfl) hK hP hD hS hA 34 (by decide) (by decide) (Nat.le_of_ble_eq_true rfl) (Nat.le_of_ble_eq_true rfl) (Nat.le_of_ble_eq_true rfl) dX2_init_15 (fun q2 H hP hD hS => ?_)
  have hP : va_P G.1 vwCl [(o, .inr (2, [.ref q1, .null, .null, .null, .int 0])), (q1, .inl (G.2.1, 34, .inl (fun _ => 0))), (q2, .inl (G.2.1, 34, .inl (fun _ => 0)))] H := hP
  have hD : va_D A [(o, .inr (2, [.ref q1, .null, .null, .null, .int 0])), (q1, .inl (G.2.1, 34, .inl (fun _ => 0))), (q2, .inl (G.2.1, 34, .inl (fun _ => 0)))] := hD
  refine W.widen (k := 2) (n := 68) (Nat.le_of_ble_eq_true rfl) (Nat.le_of_ble_eq_true rfl) ?_
  refine va_putF (D := G.1) (ci := 2) (v := .ref q2) (ty := .array .int) (C := RX2) (T := TX2) (N := 5) hx hb hts owX2 tyX2 tyX2_ok nmX2 hown hK.1 hP hD hS 0 rfl rfl 1 (by decide) (bw0 (w := Cond.fieldLink RX2 15 "DropflagMill$Faults" "lines" "[I") hts 38 rfl) (fun _ h9 => h9) rfl hin rfl (by decide +kernel) rfl rfl (Nat.le_of_ble_eq_true rfl) dX2_init_17 (fun H locs hP hD hS => ?_)
  have hP : va_P G.1 vwCl [(o, .inr (2, [.ref q1, .ref q2, .null, .null, .int 0])), (q1, .inl (G.2.1, 34, .inl (fun _ => 0))), (q2, .inl (G.2.1, 34, .inl (fun _ => 0)))] H := hP
  have hD : va_D A [(o, .inr (2, [.ref q1, .ref q2, .null, .null, .int 0])), (q1, .inl (G.2.1, 34, .inl (fun _ => 0))), (q2, .inl (G.2.1, 34, .inl (fun _ => 0)))] := hD
  refine lv_aload_n hx hb dX2_init_20 rfl (lv_at hl 0 rfl) ?_
  refine lv_bipush (v := 34) hx hb dX2_init_21 (by decide) ?_
  refine sx_newi hx hb (bw0 (w := Cond.arrayClass .int) hts 5 rfl) hK hP hD hS hA 34 (by decide) (by decide) (Nat.le_of_ble_eq_true rfl) (Nat.le_of_ble_eq_true rfl) (Nat.le_of_ble_eq_true rfl) dX2_init_23 (fun q3 H hP hD hS => ?_)
  have hP : va_P G.1 vwCl [(o, .inr (2, [.ref q1, .ref q2, .null, .null, .int 0])), (q1, .inl (G.2.1, 34, .inl (fun _ => 0))), (q2, .inl (G.2.1, 34, .inl (fun _ => 0))), (q3, .inl (G.2.1, 34, .inl (fun _ => 0)))] H := hP
  have hD : va_D A [(o, .inr (2, [.ref q1, .ref q2, .null, .null, .int 0])), (q1, .inl (G.2.1, 34, .inl (fun _ => 0))), (q2, .inl (G.2.1, 34, .inl (fun _ => 0))), (q3, .inl (G.2.1, 34, .inl (fun _ => 0)))] := hD
  refine W.widen (k := 3) (n := 102) (Nat.le_of_ble_eq_true rfl) (Nat.le_of_ble_eq_true rfl) ?_
  refine va_putF (D := G.1) (ci := 2) (v := .ref q3) (ty := .array .int) (C := RX2) (T := TX2) (N := 5) hx hb hts owX2 tyX2 tyX2_ok nmX2 hown hK.1 hP hD hS 0 rfl rfl 2 (by decide) (bw0 (w := Cond.fieldLink RX2 18 "DropflagMill$Faults" "places" "[I") hts 39 rfl) (fun _ h9 => h9) rfl hin rfl (by decide +kernel) rfl rfl (Nat.le_of_ble_eq_true rfl) dX2_init_25 (fun H locs hP hD hS => ?_)
  have hP : va_P G.1 vwCl [(o, .inr (2, [.ref q1, .ref q2, .ref q3, .null, .int 0])), (q1, .inl (G.2.1, 34, .inl (fun _ => 0))), (q2, .inl (G.2.1, 34, .inl (fun _ => 0))), (q3, .inl (G.2.1, 34, .inl (fun _ => 0)))] H := hP
  have hD : va_D A [(o, .inr (2, [.ref q1, .ref q2, .ref q3, .null, .int 0])), (q1, .inl (G.2.1, 34, .inl (fun _ => 0))), (q2, .inl (G.2.1, 34, .inl (fun _ => 0))), (q3, .inl (G.2.1, 34, .inl (fun _ => 0)))] := hD
  refine lv_aload_n hx hb dX2_init_28 rfl (lv_at hl 0 rfl) ?_
  refine lv_bipush (v := 34) hx hb dX2_init_29 (by decide) ?_
  refine sx_newi hx hb (bw0 (w := Cond.arrayClass .int) hts 5 rfl) hK hP hD hS hA 34 (by decide) (by decide) (Nat.le_of_ble_eq_true rfl) (Nat.le_of_ble_eq_true rfl) (Nat.le_of_ble_eq_true rfl) dX2_init_31 (fun q4 H hP hD hS => ?_)
  have hP : va_P G.1 vwCl [(o, .inr (2, [.ref q1, .ref q2, .ref q3, .null, .int 0])), (q1, .inl (G.2.1, 34, .inl (fun _ => 0))), (q2, .inl (G.2.1, 34, .inl (fun _ => 0))), (q3, .inl (G.2.1, 34, .inl (fun _ => 0))), (q4, .inl (G.2.1, 34, .inl (fun _ => 0)))] H := hP
  have hD : va_D A [(o, .inr (2, [.ref q1, .ref q2, .ref q3, .null, .int 0])), (q1, .inl (G.2.1, 34, .inl (fun _ => 0))), (q2, .inl (G.2.1, 34, .inl (fun _ => 0))), (q3, .inl (G.2.1, 34, .inl (fun _ => 0))), (q4, .inl (G.2.1, 34, .inl (fun _ => 0)))] := hD
  refine W.widen (k := 4) (n := 136) (Nat.le_of_ble_eq_true rfl) (Nat.le_of_ble_eq_true rfl) ?_
  refine va_putF (D := G.1) (ci := 2) (v := .ref q4) (ty := .array .int) (C := RX2) (T := TX2) (N := 5) hx hb hts owX2 tyX2 tyX2_ok nmX2 hown hK.1 hP hD hS 0 rfl rfl 3 (by decide) (bw0 (w := Cond.fieldLink RX2 21 "DropflagMill$Faults" "loans" "[I") hts 40 rfl) (fun _ h9 => h9) rfl hin rfl (by decide +kernel) rfl rfl (Nat.le_of_ble_eq_true rfl) dX2_init_33 (fun H locs hP hD hS => ?_)
  have hP : va_P G.1 vwCl [(o, .inr (2, [.ref q1, .ref q2, .ref q3, .ref q4, .int 0])), (q1, .inl (G.2.1, 34, .inl (fun _ => 0))), (q2, .inl (G.2.1, 34, .inl (fun _ => 0))), (q3, .inl (G.2.1, 34, .inl (fun _ => 0))), (q4, .inl (G.2.1, 34, .inl (fun _ => 0)))] H := hP
  have hD : va_D A [(o, .inr (2, [.ref q1, .ref q2, .ref q3, .ref q4, .int 0])), (q1, .inl (G.2.1, 34, .inl (fun _ => 0))), (q2, .inl (G.2.1, 34, .inl (fun _ => 0))), (q3, .inl (G.2.1, 34, .inl (fun _ => 0))), (q4, .inl (G.2.1, 34, .inl (fun _ => 0)))] := hD
  refine lv_aload_n hx hb dX2_init_36 rfl (lv_at hl 0 rfl) ?_
  refine lv_iconst (v := 0) hx hb dX2_init_37 (by decide) ?_
  refine va_put (D := G.1) (ci := 2) (v := .int 0) (ty := .int) (C := RX2) (T := TX2) (N := 5) hx hb hts owX2 tyX2 tyX2_ok nmX2 hown hK.1 hP hD hS 0 rfl rfl 4 (by decide) (bw0 (w := Cond.fieldLink RX2 24 "DropflagMill$Faults" "count" "I") hts 41 rfl) (fun _ h9 => h9) rfl (by decide +kernel) rfl rfl (Nat.le_of_ble_eq_true rfl) dX2_init_38 (fun H locs hP hD hS => ?_)
  have hP : va_P G.1 vwCl [(o, .inr (2, [.ref q1, .ref q2, .ref q3, .ref q4, .int 0])), (q1, .inl (G.2.1, 34, .inl (fun _ => 0))), (q2, .inl (G.2.1, 34, .inl (fun _ => 0))), (q3, .inl (G.2.1, 34, .inl (fun _ => 0))), (q4, .inl (G.2.1, 34, .inl (fun _ => 0)))] H := hP
  have hD : va_D A [(o, .inr (2, [.ref q1, .ref q2, .ref q3, .ref q4, .int 0])), (q1, .inl (G.2.1, 34, .inl (fun _ => 0))), (q2, .inl (G.2.1, 34, .inl (fun _ => 0))), (q3, .inl (G.2.1, 34, .inl (fun _ => 0))), (q4, .inl (G.2.1, 34, .inl (fun _ => 0)))] := hD
  exact sx_retN (q1, q2, q3, q4) hx hb hr hlk hP hD hS dX2_init_41

abbrev wdX7_init : List Cond := Cond.code yX7_init cX7_init 1 none :: bwC
set_option maxHeartbeats 8000000 in
set_option maxRecDepth 100000 in
theorem c_X7_init (l : Launch) (G : sxG) (o : Nat) : sxI l yX7_init wdX7_init 1 12 3 180 G [(o, .inr (7, [.null, .null, .null, .int 0]))] [.ref o] (fun u : Nat × Nat × Nat => ([(o, .inr (7, [.ref u.1, .ref u.2.1, .ref u.2.2, .int 0])), (u.1, .inl (G.2.1, 60, .inl (fun _ => 0))), (u.2.1, .inl (G.2.1, 60, .inl (fun _ => 0))), (u.2.2, .inl (G.2.1, 60, .inl (fun _ => 0)))] : va_W)) := by
  refine sxI.of (cc := cX7_init) (maxL := 1) (by decide) rfl (Nat.le_of_ble_eq_true rfl) ?_
  intro p e s m args below meth c ⟨hx, hb, hr, hml, hown, hlk, hts, hK⟩ hin A hA hP hD hS ls hl
  have hl : lv_has ls 1 [(0, .ref o)] := hl
  refine lv_aload_n hx hb dX7_init_0 rfl (lv_at hl 0 rfl) ?_
  refine W.objInit hx hb hown (bw6 (w := Cond.methodLink RX7 3 objectInit) hts 26 rfl) (bw0 (w := Cond.instanceMethod objectInit) hts 2 rfl) (bw0 (w := Cond.code objectInit ⟨#[0xb1]⟩ 1 none) hts 3 rfl) rfl (by rw [hml]; exact hl.1) rfl dX7_init_1 (Nat.le_of_ble_eq_true rfl) (Nat.le_of_ble_eq_true rfl) ?_
  refine W.eq (g2 := F0 m 4 ls []) rfl ?_
  refine lv_aload_n hx hb dX7_init_4 rfl (lv_at hl 0 rfl) ?_
  refine lv_bipush (v := 60) hx hb dX7_init_5 (by decide) ?_
  refine sx_newi hx hb (bw0 (w := Cond.arrayClass .int) hts 5 rfl) hK hP hD hS hA 60 (by decide) (by decide) (Nat.le_of_ble_eq_true rfl) (Nat.le_of_ble_eq_true rfl) (Nat.le_of_ble_eq_true rfl) dX7_init_7 (fun q1 H hP hD hS => ?_)
  have hP : va_P G.1 vwCl [(o, .inr (7, [.null, .null, .null, .int 0])), (q1, .inl (G.2.1, 60, .inl (fun _ => 0)))] H := hP
  have hD : va_D A [(o, .inr (7, [.null, .null, .null, .int 0])), (q1, .inl (G.2.1, 60, .inl (fun _ => 0)))] := hD
  refine W.widen (k := 1) (n := 60) (Nat.le_of_ble_eq_true rfl) (Nat.le_of_ble_eq_true rfl) ?_
  refine va_putF (D := G.1) (ci := 7) (v := .ref q1) (ty := .array .int) (C := RX7) (T := TX7) (N := 4) hx hb hts owX7 tyX7 tyX7_ok nmX7 hown hK.1 hP hD hS 0 rfl rfl 0 (by decide) (bw6 (w := Cond.fieldLink RX7 9 "DropflagMill$Story" "sorts" "[I") hts 27 rfl) (fun _ h9 => h9) rfl hin rfl (by decide +kernel) rfl rfl (Nat.le_of_ble_eq_true rfl) dX7_init_9 (fun H locs hP hD hS => ?_)
  have hP : va_P G.1 vwCl [(o, .inr (7, [.ref q1, .null, .null, .int 0])), (q1, .inl (G.2.1, 60, .inl (fun _ => 0)))] H := hP
  have hD : va_D A [(o, .inr (7, [.ref q1, .null, .null, .int 0])), (q1, .inl (G.2.1, 60, .inl (fun _ => 0)))] := hD
  refine lv_aload_n hx hb dX7_init_12 rfl (lv_at hl 0 rfl) ?_
  refine lv_bipush (v := 60) hx hb dX7_init_13 (by decide) ?_
  refine sx_newi hx hb (bw0 (w := Cond.arrayClass .int) hts 5 rfl) hK hP hD hS hA 60 (by decide) (by decide) (Nat.le_of_ble_eq_true rfl) (Nat.le_of_ble_eq_true rfl) (Nat.le_of_ble_eq_true rfl) dX7_init_15 (fun q2 H hP hD hS => ?_)
  have hP : va_P G.1 vwCl [(o, .inr (7, [.ref q1, .null, .null, .int 0])), (q1, .inl (G.2.1, 60, .inl (fun _ => 0))), (q2, .inl (G.2.1, 60, .inl (fun _ => 0)))] H := hP
  have hD : va_D A [(o, .inr (7, [.ref q1, .null, .null, .int 0])), (q1, .inl (G.2.1, 60, .inl (fun _ => 0))), (q2, .inl (G.2.1, 60, .inl (fun _ => 0)))] := hD
  refine W.widen (k := 2) (n := 120) (Nat.le_of_ble_eq_true rfl) (Nat.le_of_ble_eq_true rfl) ?_
  refine va_putF (D := G.1) (ci := 7) (v := .ref q2) (ty := .array .int) (C := RX7) (T := TX7) (N := 4) hx hb hts owX7 tyX7 tyX7_ok nmX7 hown hK.1 hP hD hS 0 rfl rfl 1 (by decide) (bw6 (w := Cond.fieldLink RX7 15 "DropflagMill$Story" "numbers" "[I") hts 28 rfl) (fun _ h9 => h9) rfl hin rfl (by decide +kernel) rfl rfl (Nat.le_of_ble_eq_true rfl) dX7_init_17 (fun H locs hP hD hS => ?_)
  have hP : va_P G.1 vwCl [(o, .inr (7, [.ref q1, .ref q2, .null, .int 0])), (q1, .inl (G.2.1, 60, .inl (fun _ => 0))), (q2, .inl (G.2.1, 60, .inl (fun _ => 0)))] H := hP
  have hD : va_D A [(o, .inr (7, [.ref q1, .ref q2, .null, .int 0])), (q1, .inl (G.2.1, 60, .inl (fun _ => 0))), (q2, .inl (G.2.1, 60, .inl (fun _ => 0)))] := hD
  refine lv_aload_n hx hb dX7_init_20 rfl (lv_at hl 0 rfl) ?_
  refine lv_bipush (v := 60) hx hb dX7_init_21 (by decide) ?_
  refine sx_newi hx hb (bw0 (w := Cond.arrayClass .int) hts 5 rfl) hK hP hD hS hA 60 (by decide) (by decide) (Nat.le_of_ble_eq_true rfl) (Nat.le_of_ble_eq_true rfl) (Nat.le_of_ble_eq_true rfl) dX7_init_23 (fun q3 H hP hD hS => ?_)
  have hP : va_P G.1 vwCl [(o, .inr (7, [.ref q1, .ref q2, .null, .int 0])), (q1, .inl (G.2.1, 60, .inl (fun _ => 0))), (q2, .inl (G.2.1, 60, .inl (fun _ => 0))), (q3, .inl (G.2.1, 60, .inl (fun _ => 0)))] H := hP
  have hD : va_D A [(o, .inr (7, [.ref q1, .ref q2, .null, .int 0])), (q1, .inl (G.2.1, 60, .inl (fun _ => 0))), (q2, .inl (G.2.1, 60, .inl (fun _ => 0))), (q3, .inl (G.2.1, 60, .inl (fun _ => 0)))] := hD
  refine W.widen (k := 3) (n := 180) (Nat.le_of_ble_eq_true rfl) (Nat.le_of_ble_eq_true rfl) ?_
  refine va_putF (D := G.1) (ci := 7) (v := .ref q3) (ty := .array .int) (C := RX7) (T := TX7) (N := 4) hx hb hts owX7 tyX7 tyX7_ok nmX7 hown hK.1 hP hD hS 0 rfl rfl 2 (by decide) (bw6 (w := Cond.fieldLink RX7 18 "DropflagMill$Story" "lines" "[I") hts 29 rfl) (fun _ h9 => h9) rfl hin rfl (by decide +kernel) rfl rfl (Nat.le_of_ble_eq_true rfl) dX7_init_25 (fun H locs hP hD hS => ?_)
  have hP : va_P G.1 vwCl [(o, .inr (7, [.ref q1, .ref q2, .ref q3, .int 0])), (q1, .inl (G.2.1, 60, .inl (fun _ => 0))), (q2, .inl (G.2.1, 60, .inl (fun _ => 0))), (q3, .inl (G.2.1, 60, .inl (fun _ => 0)))] H := hP
  have hD : va_D A [(o, .inr (7, [.ref q1, .ref q2, .ref q3, .int 0])), (q1, .inl (G.2.1, 60, .inl (fun _ => 0))), (q2, .inl (G.2.1, 60, .inl (fun _ => 0))), (q3, .inl (G.2.1, 60, .inl (fun _ => 0)))] := hD
  refine lv_aload_n hx hb dX7_init_28 rfl (lv_at hl 0 rfl) ?_
  refine lv_iconst (v := 0) hx hb dX7_init_29 (by decide) ?_
  refine va_put (D := G.1) (ci := 7) (v := .int 0) (ty := .int) (C := RX7) (T := TX7) (N := 4) hx hb hts owX7 tyX7 tyX7_ok nmX7 hown hK.1 hP hD hS 0 rfl rfl 3 (by decide) (bw6 (w := Cond.fieldLink RX7 21 "DropflagMill$Story" "count" "I") hts 30 rfl) (fun _ h9 => h9) rfl (by decide +kernel) rfl rfl (Nat.le_of_ble_eq_true rfl) dX7_init_30 (fun H locs hP hD hS => ?_)
  have hP : va_P G.1 vwCl [(o, .inr (7, [.ref q1, .ref q2, .ref q3, .int 0])), (q1, .inl (G.2.1, 60, .inl (fun _ => 0))), (q2, .inl (G.2.1, 60, .inl (fun _ => 0))), (q3, .inl (G.2.1, 60, .inl (fun _ => 0)))] H := hP
  have hD : va_D A [(o, .inr (7, [.ref q1, .ref q2, .ref q3, .int 0])), (q1, .inl (G.2.1, 60, .inl (fun _ => 0))), (q2, .inl (G.2.1, 60, .inl (fun _ => 0))), (q3, .inl (G.2.1, 60, .inl (fun _ => 0)))] := hD
  exact sx_retN (q1, q2, q3) hx hb hr hlk hP hD hS dX7_init_33

abbrev wdX4_init : List Cond := Cond.code yX4_init cX4_init 1 none :: bwC
set_option maxHeartbeats 8000000 in
set_option maxRecDepth 100000 in
theorem c_X4_init (l : Launch) (G : sxG) (o : Nat) : sxI l yX4_init wdX4_init 1 12 4 2000 G [(o, .inr (4, [.null, .null, .null, .null, .int 0, .int 0]))] [.ref o] (fun u : Nat × Nat × Nat × Nat => ([(o, .inr (4, [.ref u.1, .ref u.2.1, .ref u.2.2.1, .ref u.2.2.2, .int 0, .int 0])), (u.1, .inl (G.2.1, 500, .inl (fun _ => 0))), (u.2.1, .inl (G.2.1, 500, .inl (fun _ => 0))), (u.2.2.1, .inl (G.2.1, 500, .inl (fun _ => 0))), (u.2.2.2, .inl (G.2.2, 500, .inl (fun _ => 0)))] : va_W)) := by
  refine sxI.of (cc := cX4_init) (maxL := 1) (by decide) rfl (Nat.le_of_ble_eq_true rfl) ?_
  intro p e s m args below meth c ⟨hx, hb, hr, hml, hown, hlk, hts, hK⟩ hin A hA hP hD hS ls hl
  have hl : lv_has ls 1 [(0, .ref o)] := hl
  refine lv_aload_n hx hb dX4_init_0 rfl (lv_at hl 0 rfl) ?_
  refine W.objInit hx hb hown (bw5 (w := Cond.methodLink RX4 3 objectInit) hts 37 rfl) (bw0 (w := Cond.instanceMethod objectInit) hts 2 rfl) (bw0 (w := Cond.code objectInit ⟨#[0xb1]⟩ 1 none) hts 3 rfl) rfl (by rw [hml]; exact hl.1) rfl dX4_init_1 (Nat.le_of_ble_eq_true rfl) (Nat.le_of_ble_eq_true rfl) ?_
  refine W.eq (g2 := F0 m 4 ls []) rfl ?_
  refine lv_aload_n hx hb dX4_init_4 rfl (lv_at hl 0 rfl) ?_
  refine lv_sipush (v := 500) hx hb dX4_init_5 (by decide) ?_
  refine sx_newi hx hb (bw0 (w := Cond.arrayClass .int) hts 5 rfl) hK hP hD hS hA 500 (by decide) (by decide) (Nat.le_of_ble_eq_true rfl) (Nat.le_of_ble_eq_true rfl) (Nat.le_of_ble_eq_true rfl) dX4_init_8 (fun q1 H hP hD hS => ?_)
  have hP : va_P G.1 vwCl [(o, .inr (4, [.null, .null, .null, .null, .int 0, .int 0])), (q1, .inl (G.2.1, 500, .inl (fun _ => 0)))] H := hP
  have hD : va_D A [(o, .inr (4, [.null, .null, .null, .null, .int 0, .int 0])), (q1, .inl (G.2.1, 500, .inl (fun _ => 0)))] := hD
  refine W.widen (k := 1) (n := 500) (Nat.le_of_ble_eq_true rfl) (Nat.le_of_ble_eq_true rfl) ?_
  refine va_putF (D := G.1) (ci := 4) (v := .ref q1) (ty := .array .int) (C := RX4) (T := TX4) (N := 6) hx hb hts owX4 tyX4 tyX4_ok nmX4 hown hK.1 hP hD hS 0 rfl rfl 0 (by decide) (bw5 (w := Cond.fieldLink RX4 9 "DropflagMill$Nodes" "numbers" "[I") hts 38 rfl) (fun _ h9 => h9) rfl hin rfl (by decide +kernel) rfl rfl (Nat.le_of_ble_eq_true rfl) dX4_init_10 (fun H locs hP hD hS => ?_)
  have hP : va_P G.1 vwCl [(o, .inr (4, [.ref q1, .null, .null, .null, .int 0, .int 0])), (q1, .inl (G.2.1, 500, .inl (fun _ => 0)))] H := hP
  have hD : va_D A [(o, .inr (4, [.ref q1, .null, .null, .null, .int 0, .int 0])), (q1, .inl (G.2.1, 500, .inl (fun _ => 0)))] := hD
  refine lv_aload_n hx hb dX4_init_13 rfl (lv_at hl 0 rfl) ?_
  refine lv_sipush (v := 500) hx hb dX4_init_14 (by decide) ?_
  refine sx_newi hx hb (bw0 (w := Cond.arrayClass .int) hts 5 rfl) hK hP hD hS hA 500 (by decide) (by decide) (Nat.le_of_ble_eq_true rfl) (Nat.le_of_ble_eq_true rfl) (Nat.le_of_ble_eq_true rfl) dX4_init_17 (fun q2 H hP hD hS => ?_)
  have hP : va_P G.1 vwCl [(o, .inr (4, [.ref q1, .null, .null, .null, .int 0, .int 0])), (q1, .inl (G.2.1, 500, .inl (fun _ => 0))), (q2, .inl (G.2.1, 500, .inl (fun _ => 0)))] H := hP
  have hD : va_D A [(o, .inr (4, [.ref q1, .null, .null, .null, .int 0, .int 0])), (q1, .inl (G.2.1, 500, .inl (fun _ => 0))), (q2, .inl (G.2.1, 500, .inl (fun _ => 0)))] := hD
  refine W.widen (k := 2) (n := 1000) (Nat.le_of_ble_eq_true rfl) (Nat.le_of_ble_eq_true rfl) ?_
  refine va_putF (D := G.1) (ci := 4) (v := .ref q2) (ty := .array .int) (C := RX4) (T := TX4) (N := 6) hx hb hts owX4 tyX4 tyX4_ok nmX4 hown hK.1 hP hD hS 0 rfl rfl 1 (by decide) (bw5 (w := Cond.fieldLink RX4 15 "DropflagMill$Nodes" "counts" "[I") hts 39 rfl) (fun _ h9 => h9) rfl hin rfl (by decide +kernel) rfl rfl (Nat.le_of_ble_eq_true rfl) dX4_init_19 (fun H locs hP hD hS => ?_)
  have hP : va_P G.1 vwCl [(o, .inr (4, [.ref q1, .ref q2, .null, .null, .int 0, .int 0])), (q1, .inl (G.2.1, 500, .inl (fun _ => 0))), (q2, .inl (G.2.1, 500, .inl (fun _ => 0)))] H := hP
  have hD : va_D A [(o, .inr (4, [.ref q1, .ref q2, .null, .null, .int 0, .int 0])), (q1, .inl (G.2.1, 500, .inl (fun _ => 0))), (q2, .inl (G.2.1, 500, .inl (fun _ => 0)))] := hD
  refine lv_aload_n hx hb dX4_init_22 rfl (lv_at hl 0 rfl) ?_
  refine lv_sipush (v := 500) hx hb dX4_init_23 (by decide) ?_
  refine sx_newi hx hb (bw0 (w := Cond.arrayClass .int) hts 5 rfl) hK hP hD hS hA 500 (by decide) (by decide) (Nat.le_of_ble_eq_true rfl) (Nat.le_of_ble_eq_true rfl) (Nat.le_of_ble_eq_true rfl) dX4_init_26 (fun q3 H hP hD hS => ?_)
  have hP : va_P G.1 vwCl [(o, .inr (4, [.ref q1, .ref q2, .null, .null, .int 0, .int 0])), (q1, .inl (G.2.1, 500, .inl (fun _ => 0))), (q2, .inl (G.2.1, 500, .inl (fun _ => 0))), (q3, .inl (G.2.1, 500, .inl (fun _ => 0)))] H := hP
  have hD : va_D A [(o, .inr (4, [.ref q1, .ref q2, .null, .null, .int 0, .int 0])), (q1, .inl (G.2.1, 500, .inl (fun _ => 0))), (q2, .inl (G.2.1, 500, .inl (fun _ => 0))), (q3, .inl (G.2.1, 500, .inl (fun _ => 0)))] := hD
  refine W.widen (k := 3) (n := 1500) (Nat.le_of_ble_eq_true rfl) (Nat.le_of_ble_eq_true rfl) ?_
  refine va_putF (D := G.1) (ci := 4) (v := .ref q3) (ty := .array .int) (C := RX4) (T := TX4) (N := 6) hx hb hts owX4 tyX4 tyX4_ok nmX4 hown hK.1 hP hD hS 0 rfl rfl 2 (by decide) (bw5 (w := Cond.fieldLink RX4 18 "DropflagMill$Nodes" "links" "[I") hts 40 rfl) (fun _ h9 => h9) rfl hin rfl (by decide +kernel) rfl rfl (Nat.le_of_ble_eq_true rfl) dX4_init_28 (fun H locs hP hD hS => ?_)
  have hP : va_P G.1 vwCl [(o, .inr (4, [.ref q1, .ref q2, .ref q3, .null, .int 0, .int 0])), (q1, .inl (G.2.1, 500, .inl (fun _ => 0))), (q2, .inl (G.2.1, 500, .inl (fun _ => 0))), (q3, .inl (G.2.1, 500, .inl (fun _ => 0)))] H := hP
  have hD : va_D A [(o, .inr (4, [.ref q1, .ref q2, .ref q3, .null, .int 0, .int 0])), (q1, .inl (G.2.1, 500, .inl (fun _ => 0))), (q2, .inl (G.2.1, 500, .inl (fun _ => 0))), (q3, .inl (G.2.1, 500, .inl (fun _ => 0)))] := hD
  refine lv_aload_n hx hb dX4_init_31 rfl (lv_at hl 0 rfl) ?_
  refine lv_sipush (v := 500) hx hb dX4_init_32 (by decide) ?_
  refine sx_newz hx hb (bw0 (w := Cond.arrayClass .boolean) hts 31 rfl) hK hP hD hS hA 500 (by decide) (by decide) (Nat.le_of_ble_eq_true rfl) (Nat.le_of_ble_eq_true rfl) (Nat.le_of_ble_eq_true rfl) dX4_init_35 (fun q4 H hP hD hS => ?_)
  have hP : va_P G.1 vwCl [(o, .inr (4, [.ref q1, .ref q2, .ref q3, .null, .int 0, .int 0])), (q1, .inl (G.2.1, 500, .inl (fun _ => 0))), (q2, .inl (G.2.1, 500, .inl (fun _ => 0))), (q3, .inl (G.2.1, 500, .inl (fun _ => 0))), (q4, .inl (G.2.2, 500, .inl (fun _ => 0)))] H := hP
  have hD : va_D A [(o, .inr (4, [.ref q1, .ref q2, .ref q3, .null, .int 0, .int 0])), (q1, .inl (G.2.1, 500, .inl (fun _ => 0))), (q2, .inl (G.2.1, 500, .inl (fun _ => 0))), (q3, .inl (G.2.1, 500, .inl (fun _ => 0))), (q4, .inl (G.2.2, 500, .inl (fun _ => 0)))] := hD
  refine W.widen (k := 4) (n := 2000) (Nat.le_of_ble_eq_true rfl) (Nat.le_of_ble_eq_true rfl) ?_
  refine va_putF (D := G.1) (ci := 4) (v := .ref q4) (ty := .array .boolean) (C := RX4) (T := TX4) (N := 6) hx hb hts owX4 tyX4 tyX4_ok nmX4 hown hK.1 hP hD hS 0 rfl rfl 3 (by decide) (bw5 (w := Cond.fieldLink RX4 21 "DropflagMill$Nodes" "isHeld" "[Z") hts 41 rfl) (fun _ h9 => h9) rfl hin rfl (by decide +kernel) rfl rfl (Nat.le_of_ble_eq_true rfl) dX4_init_37 (fun H locs hP hD hS => ?_)
  have hP : va_P G.1 vwCl [(o, .inr (4, [.ref q1, .ref q2, .ref q3, .ref q4, .int 0, .int 0])), (q1, .inl (G.2.1, 500, .inl (fun _ => 0))), (q2, .inl (G.2.1, 500, .inl (fun _ => 0))), (q3, .inl (G.2.1, 500, .inl (fun _ => 0))), (q4, .inl (G.2.2, 500, .inl (fun _ => 0)))] H := hP
  have hD : va_D A [(o, .inr (4, [.ref q1, .ref q2, .ref q3, .ref q4, .int 0, .int 0])), (q1, .inl (G.2.1, 500, .inl (fun _ => 0))), (q2, .inl (G.2.1, 500, .inl (fun _ => 0))), (q3, .inl (G.2.1, 500, .inl (fun _ => 0))), (q4, .inl (G.2.2, 500, .inl (fun _ => 0)))] := hD
  refine lv_aload_n hx hb dX4_init_40 rfl (lv_at hl 0 rfl) ?_
  refine lv_iconst (v := 0) hx hb dX4_init_41 (by decide) ?_
  refine va_put (D := G.1) (ci := 4) (v := .int 0) (ty := .int) (C := RX4) (T := TX4) (N := 6) hx hb hts owX4 tyX4 tyX4_ok nmX4 hown hK.1 hP hD hS 0 rfl rfl 4 (by decide) (bw5 (w := Cond.fieldLink RX4 25 "DropflagMill$Nodes" "made" "I") hts 42 rfl) (fun _ h9 => h9) rfl (by decide +kernel) rfl rfl (Nat.le_of_ble_eq_true rfl) dX4_init_42 (fun H locs hP hD hS => ?_)
  have hP : va_P G.1 vwCl [(o, .inr (4, [.ref q1, .ref q2, .ref q3, .ref q4, .int 0, .int 0])), (q1, .inl (G.2.1, 500, .inl (fun _ => 0))), (q2, .inl (G.2.1, 500, .inl (fun _ => 0))), (q3, .inl (G.2.1, 500, .inl (fun _ => 0))), (q4, .inl (G.2.2, 500, .inl (fun _ => 0)))] H := hP
  have hD : va_D A [(o, .inr (4, [.ref q1, .ref q2, .ref q3, .ref q4, .int 0, .int 0])), (q1, .inl (G.2.1, 500, .inl (fun _ => 0))), (q2, .inl (G.2.1, 500, .inl (fun _ => 0))), (q3, .inl (G.2.1, 500, .inl (fun _ => 0))), (q4, .inl (G.2.2, 500, .inl (fun _ => 0)))] := hD
  refine lv_aload_n hx hb dX4_init_45 rfl (lv_at hl 0 rfl) ?_
  refine lv_iconst (v := 0) hx hb dX4_init_46 (by decide) ?_
  refine va_put (D := G.1) (ci := 4) (v := .int 0) (ty := .int) (C := RX4) (T := TX4) (N := 6) hx hb hts owX4 tyX4 tyX4_ok nmX4 hown hK.1 hP hD hS 0 rfl rfl 5 (by decide) (bw5 (w := Cond.fieldLink RX4 29 "DropflagMill$Nodes" "gone" "I") hts 43 rfl) (fun _ h9 => h9) rfl (by decide +kernel) rfl rfl (Nat.le_of_ble_eq_true rfl) dX4_init_47 (fun H locs hP hD hS => ?_)
  have hP : va_P G.1 vwCl [(o, .inr (4, [.ref q1, .ref q2, .ref q3, .ref q4, .int 0, .int 0])), (q1, .inl (G.2.1, 500, .inl (fun _ => 0))), (q2, .inl (G.2.1, 500, .inl (fun _ => 0))), (q3, .inl (G.2.1, 500, .inl (fun _ => 0))), (q4, .inl (G.2.2, 500, .inl (fun _ => 0)))] H := hP
  have hD : va_D A [(o, .inr (4, [.ref q1, .ref q2, .ref q3, .ref q4, .int 0, .int 0])), (q1, .inl (G.2.1, 500, .inl (fun _ => 0))), (q2, .inl (G.2.1, 500, .inl (fun _ => 0))), (q3, .inl (G.2.1, 500, .inl (fun _ => 0))), (q4, .inl (G.2.2, 500, .inl (fun _ => 0)))] := hD
  exact sx_retN (q1, q2, q3, q4) hx hb hr hlk hP hD hS dX4_init_50

abbrev wdX1_init : List Cond := Cond.code yX1_init cX1_init 2 none :: bwC
set_option maxHeartbeats 8000000 in
set_option maxRecDepth 100000 in
theorem c_X1_init (l : Launch) (G : sxG) (o : Nat) (h : Nat) : sxI l yX1_init wdX1_init 1 12 9 306 G [(o, .inr (1, [.null, .null, .null, .null, .null, .null, .null, .null, .null, .null]))] [.ref o, .ref h] (fun u : Nat × Nat × Nat × Nat × Nat × Nat × Nat × Nat × Nat => ([(o, .inr (1, [.ref h, .ref u.1, .ref u.2.1, .ref u.2.2.1, .ref u.2.2.2.1, .ref u.2.2.2.2.1, .ref u.2.2.2.2.2.1, .ref u.2.2.2.2.2.2.1, .ref u.2.2.2.2.2.2.2.1, .ref u.2.2.2.2.2.2.2.2])), (u.1, .inl (G.2.1, 34, .inl (fun _ => 0))), (u.2.1, .inl (G.2.1, 34, .inl (fun _ => 0))), (u.2.2.1, .inl (G.2.1, 34, .inl (fun _ => 0))), (u.2.2.2.1, .inl (G.2.1, 34, .inl (fun _ => 0))), (u.2.2.2.2.1, .inl (G.2.1, 34, .inl (fun _ => 0))), (u.2.2.2.2.2.1, .inl (G.2.1, 34, .inl (fun _ => 0))), (u.2.2.2.2.2.2.1, .inl (G.2.1, 34, .inl (fun _ => 0))), (u.2.2.2.2.2.2.2.1, .inl (G.2.1, 34, .inl (fun _ => 0))), (u.2.2.2.2.2.2.2.2, .inl (G.2.1, 34, .inl (fun _ => 0)))] : va_W)) := by
  refine sxI.of (cc := cX1_init) (maxL := 2) (by decide) rfl (Nat.le_of_ble_eq_true rfl) ?_
  intro p e s m args below meth c ⟨hx, hb, hr, hml, hown, hlk, hts, hK⟩ hin A hA hP hD hS ls hl
  have hl : lv_has ls 2 [(0, .ref o), (1, .ref h)] := hl
  refine lv_aload_n hx hb dX1_init_0 rfl (lv_at hl 0 rfl) ?_
  refine W.objInit hx hb hown (bw0 (w := Cond.methodLink RX1 3 objectInit) hts 1 rfl) (bw0 (w := Cond.instanceMethod objectInit) hts 2 rfl) (bw0 (w := Cond.code objectInit ⟨#[0xb1]⟩ 1 none) hts 3 rfl) rfl (by rw [hml]; exact hl.1) rfl dX1_init_1 (Nat.le_of_ble_eq_true rfl) (Nat.le_of_ble_eq_true rfl) ?_
  refine W.eq (g2 := F0 m 4 ls []) rfl ?_
  refine lv_aload_n hx hb dX1_init_4 rfl (lv_at hl 0 rfl) ?_
  refine lv_aload_n hx hb dX1_init_5 rfl (lv_at hl 1 rfl) ?_
  refine va_putF (D := G.1) (ci := 1) (v := .ref h) (ty := .object "DropflagMill$Program") (C := RX1) (T := TX1) (N := 10) hx hb hts owX1 tyX1 tyX1_ok nmX1 hown hK.1 hP hD hS 0 rfl rfl 0 (by decide) (bw0 (w := Cond.fieldLink RX1 9 "DropflagMill$Deeds" "program" "LDropflagMill$Program;") hts 4 rfl) (fun _ h9 => h9) rfl hin rfl (by decide +kernel) rfl rfl (Nat.le_of_ble_eq_true rfl) dX1_init_6 (fun H locs hP hD hS => ?_)
  have hP : va_P G.1 vwCl [(o, .inr (1, [.ref h, .null, .null, .null, .null, .null, .null, .null, .null, .null]))] H := hP
  have hD : va_D A [(o, .inr (1, [.ref h, .null, .null, .null, .null, .null, .null, .null, .null, .null]))] := hD
  refine lv_aload_n hx hb dX1_init_9 rfl (lv_at hl 0 rfl) ?_
  refine lv_bipush (v := 34) hx hb dX1_init_10 (by decide) ?_
  refine sx_newi hx hb (bw0 (w := Cond.arrayClass .int) hts 5 rfl) hK hP hD hS hA 34 (by decide) (by decide) (Nat.le_of_ble_eq_true rfl) (Nat.le_of_ble_eq_true rfl) (Nat.le_of_ble_eq_true rfl) dX1_init_12 (fun q1 H hP hD hS => ?_)
  have hP : va_P G.1 vwCl [(o, .inr (1, [.ref h, .null, .null, .null, .null, .null, .null, .null, .null, .null])), (q1, .inl (G.2.1, 34, .inl (fun _ => 0)))] H := hP
  have hD : va_D A [(o, .inr (1, [.ref h, .null, .null, .null, .null, .null, .null, .null, .null, .null])), (q1, .inl (G.2.1, 34, .inl (fun _ => 0)))] := hD
  refine W.widen (k := 1) (n := 34) (Nat.le_of_ble_eq_true rfl) (Nat.le_of_ble_eq_true rfl) ?_
  refine va_putF (D := G.1) (ci := 1) (v := .ref q1) (ty := .array .int) (C := RX1) (T := TX1) (N := 10) hx hb hts owX1 tyX1 tyX1_ok nmX1 hown hK.1 hP hD hS 0 rfl rfl 1 (by decide) (bw0 (w := Cond.fieldLink RX1 15 "DropflagMill$Deeds" "used" "[I") hts 6 rfl) (fun _ h9 => h9) rfl hin rfl (by decide +kernel) rfl rfl (Nat.le_of_ble_eq_true rfl) dX1_init_14 (fun H locs hP hD hS => ?_)
  have hP : va_P G.1 vwCl [(o, .inr (1, [.ref h, .ref q1, .null, .null, .null, .null, .null, .null, .null, .null])), (q1, .inl (G.2.1, 34, .inl (fun _ => 0)))] H := hP
  have hD : va_D A [(o, .inr (1, [.ref h, .ref q1, .null, .null, .null, .null, .null, .null, .null, .null])), (q1, .inl (G.2.1, 34, .inl (fun _ => 0)))] := hD
  refine lv_aload_n hx hb dX1_init_17 rfl (lv_at hl 0 rfl) ?_
  refine lv_bipush (v := 34) hx hb dX1_init_18 (by decide) ?_
  refine sx_newi hx hb (bw0 (w := Cond.arrayClass .int) hts 5 rfl) hK hP hD hS hA 34 (by decide) (by decide) (Nat.le_of_ble_eq_true rfl) (Nat.le_of_ble_eq_true rfl) (Nat.le_of_ble_eq_true rfl) dX1_init_20 (fun q2 H hP hD hS => ?_)
  have hP : va_P G.1 vwCl [(o, .inr (1, [.ref h, .ref q1, .null, .null, .null, .null, .null, .null, .null, .null])), (q1, .inl (G.2.1, 34, .inl (fun _ => 0))), (q2, .inl (G.2.1, 34, .inl (fun _ => 0)))] H := hP
  have hD : va_D A [(o, .inr (1, [.ref h, .ref q1, .null, .null, .null, .null, .null, .null, .null, .null])), (q1, .inl (G.2.1, 34, .inl (fun _ => 0))), (q2, .inl (G.2.1, 34, .inl (fun _ => 0)))] := hD
  refine W.widen (k := 2) (n := 68) (Nat.le_of_ble_eq_true rfl) (Nat.le_of_ble_eq_true rfl) ?_
  refine va_putF (D := G.1) (ci := 1) (v := .ref q2) (ty := .array .int) (C := RX1) (T := TX1) (N := 10) hx hb hts owX1 tyX1 tyX1_ok nmX1 hown hK.1 hP hD hS 0 rfl rfl 2 (by decide) (bw0 (w := Cond.fieldLink RX1 19 "DropflagMill$Deeds" "usedThen" "[I") hts 7 rfl) (fun _ h9 => h9) rfl hin rfl (by decide +kernel) rfl rfl (Nat.le_of_ble_eq_true rfl) dX1_init_22 (fun H locs hP hD hS => ?_)
  have hP : va_P G.1 vwCl [(o, .inr (1, [.ref h, .ref q1, .ref q2, .null, .null, .null, .null, .null, .null, .null])), (q1, .inl (G.2.1, 34, .inl (fun _ => 0))), (q2, .inl (G.2.1, 34, .inl (fun _ => 0)))] H := hP
  have hD : va_D A [(o, .inr (1, [.ref h, .ref q1, .ref q2, .null, .null, .null, .null, .null, .null, .null])), (q1, .inl (G.2.1, 34, .inl (fun _ => 0))), (q2, .inl (G.2.1, 34, .inl (fun _ => 0)))] := hD
  refine lv_aload_n hx hb dX1_init_25 rfl (lv_at hl 0 rfl) ?_
  refine lv_bipush (v := 34) hx hb dX1_init_26 (by decide) ?_
  refine sx_newi hx hb (bw0 (w := Cond.arrayClass .int) hts 5 rfl) hK hP hD hS hA 34 (by decide) (by decide) (Nat.le_of_ble_eq_true rfl) (Nat.le_of_ble_eq_true rfl) (Nat.le_of_ble_eq_true rfl) dX1_init_28 (fun q3 H hP hD hS => ?_)
  have hP : va_P G.1 vwCl [(o, .inr (1, [.ref h, .ref q1, .ref q2, .null, .null, .null, .null, .null, .null, .null])), (q1, .inl (G.2.1, 34, .inl (fun _ => 0))), (q2, .inl (G.2.1, 34, .inl (fun _ => 0))), (q3, .inl (G.2.1, 34, .inl (fun _ => 0)))] H := hP
  have hD : va_D A [(o, .inr (1, [.ref h, .ref q1, .ref q2, .null, .null, .null, .null, .null, .null, .null])), (q1, .inl (G.2.1, 34, .inl (fun _ => 0))), (q2, .inl (G.2.1, 34, .inl (fun _ => 0))), (q3, .inl (G.2.1, 34, .inl (fun _ => 0)))] := hD
  refine W.widen (k := 3) (n := 102) (Nat.le_of_ble_eq_true rfl) (Nat.le_of_ble_eq_true rfl) ?_
  refine va_putF (D := G.1) (ci := 1) (v := .ref q3) (ty := .array .int) (C := RX1) (T := TX1) (N := 10) hx hb hts owX1 tyX1 tyX1_ok nmX1 hown hK.1 hP hD hS 0 rfl rfl 3 (by decide) (bw0 (w := Cond.fieldLink RX1 22 "DropflagMill$Deeds" "given" "[I") hts 8 rfl) (fun _ h9 => h9) rfl hin rfl (by decide +kernel) rfl rfl (Nat.le_of_ble_eq_true rfl) dX1_init_30 (fun H locs hP hD hS => ?_)
  have hP : va_P G.1 vwCl [(o, .inr (1, [.ref h, .ref q1, .ref q2, .ref q3, .null, .null, .null, .null, .null, .null])), (q1, .inl (G.2.1, 34, .inl (fun _ => 0))), (q2, .inl (G.2.1, 34, .inl (fun _ => 0))), (q3, .inl (G.2.1, 34, .inl (fun _ => 0)))] H := hP
  have hD : va_D A [(o, .inr (1, [.ref h, .ref q1, .ref q2, .ref q3, .null, .null, .null, .null, .null, .null])), (q1, .inl (G.2.1, 34, .inl (fun _ => 0))), (q2, .inl (G.2.1, 34, .inl (fun _ => 0))), (q3, .inl (G.2.1, 34, .inl (fun _ => 0)))] := hD
  refine lv_aload_n hx hb dX1_init_33 rfl (lv_at hl 0 rfl) ?_
  refine lv_bipush (v := 34) hx hb dX1_init_34 (by decide) ?_
  refine sx_newi hx hb (bw0 (w := Cond.arrayClass .int) hts 5 rfl) hK hP hD hS hA 34 (by decide) (by decide) (Nat.le_of_ble_eq_true rfl) (Nat.le_of_ble_eq_true rfl) (Nat.le_of_ble_eq_true rfl) dX1_init_36 (fun q4 H hP hD hS => ?_)
  have hP : va_P G.1 vwCl [(o, .inr (1, [.ref h, .ref q1, .ref q2, .ref q3, .null, .null, .null, .null, .null, .null])), (q1, .inl (G.2.1, 34, .inl (fun _ => 0))), (q2, .inl (G.2.1, 34, .inl (fun _ => 0))), (q3, .inl (G.2.1, 34, .inl (fun _ => 0))), (q4, .inl (G.2.1, 34, .inl (fun _ => 0)))] H := hP
  have hD : va_D A [(o, .inr (1, [.ref h, .ref q1, .ref q2, .ref q3, .null, .null, .null, .null, .null, .null])), (q1, .inl (G.2.1, 34, .inl (fun _ => 0))), (q2, .inl (G.2.1, 34, .inl (fun _ => 0))), (q3, .inl (G.2.1, 34, .inl (fun _ => 0))), (q4, .inl (G.2.1, 34, .inl (fun _ => 0)))] := hD
  refine W.widen (k := 4) (n := 136) (Nat.le_of_ble_eq_true rfl) (Nat.le_of_ble_eq_true rfl) ?_
  refine va_putF (D := G.1) (ci := 1) (v := .ref q4) (ty := .array .int) (C := RX1) (T := TX1) (N := 10) hx hb hts owX1 tyX1 tyX1_ok nmX1 hown hK.1 hP hD hS 0 rfl rfl 4 (by decide) (bw0 (w := Cond.fieldLink RX1 25 "DropflagMill$Deeds" "usedLeaves" "[I") hts 9 rfl) (fun _ h9 => h9) rfl hin rfl (by decide +kernel) rfl rfl (Nat.le_of_ble_eq_true rfl) dX1_init_38 (fun H locs hP hD hS => ?_)
  have hP : va_P G.1 vwCl [(o, .inr (1, [.ref h, .ref q1, .ref q2, .ref q3, .ref q4, .null, .null, .null, .null, .null])), (q1, .inl (G.2.1, 34, .inl (fun _ => 0))), (q2, .inl (G.2.1, 34, .inl (fun _ => 0))), (q3, .inl (G.2.1, 34, .inl (fun _ => 0))), (q4, .inl (G.2.1, 34, .inl (fun _ => 0)))] H := hP
  have hD : va_D A [(o, .inr (1, [.ref h, .ref q1, .ref q2, .ref q3, .ref q4, .null, .null, .null, .null, .null])), (q1, .inl (G.2.1, 34, .inl (fun _ => 0))), (q2, .inl (G.2.1, 34, .inl (fun _ => 0))), (q3, .inl (G.2.1, 34, .inl (fun _ => 0))), (q4, .inl (G.2.1, 34, .inl (fun _ => 0)))] := hD
  refine lv_aload_n hx hb dX1_init_41 rfl (lv_at hl 0 rfl) ?_
  refine lv_bipush (v := 34) hx hb dX1_init_42 (by decide) ?_
  refine sx_newi hx hb (bw0 (w := Cond.arrayClass .int) hts 5 rfl) hK hP hD hS hA 34 (by decide) (by decide) (Nat.le_of_ble_eq_true rfl) (Nat.le_of_ble_eq_true rfl) (Nat.le_of_ble_eq_true rfl) dX1_init_44 (fun q5 H hP hD hS => ?_)
  have hP : va_P G.1 vwCl [(o, .inr (1, [.ref h, .ref q1, .ref q2, .ref q3, .ref q4, .null, .null, .null, .null, .null])), (q1, .inl (G.2.1, 34, .inl (fun _ => 0))), (q2, .inl (G.2.1, 34, .inl (fun _ => 0))), (q3, .inl (G.2.1, 34, .inl (fun _ => 0))), (q4, .inl (G.2.1, 34, .inl (fun _ => 0))), (q5, .inl (G.2.1, 34, .inl (fun _ => 0)))] H := hP
  have hD : va_D A [(o, .inr (1, [.ref h, .ref q1, .ref q2, .ref q3, .ref q4, .null, .null, .null, .null, .null])), (q1, .inl (G.2.1, 34, .inl (fun _ => 0))), (q2, .inl (G.2.1, 34, .inl (fun _ => 0))), (q3, .inl (G.2.1, 34, .inl (fun _ => 0))), (q4, .inl (G.2.1, 34, .inl (fun _ => 0))), (q5, .inl (G.2.1, 34, .inl (fun _ => 0)))] := hD
  refine W.widen (k := 5) (n := 170) (Nat.le_of_ble_eq_true rfl) (Nat.le_of_ble_eq_true rfl) ?_
  refine va_putF (D := G.1) (ci := 1) (v := .ref q5) (ty := .array .int) (C := RX1) (T := TX1) (N := 10) hx hb hts owX1 tyX1 tyX1_ok nmX1 hown hK.1 hP hD hS 0 rfl rfl 5 (by decide) (bw0 (w := Cond.fieldLink RX1 28 "DropflagMill$Deeds" "usedThenLeaves" "[I") hts 10 rfl) (fun _ h9 => h9) rfl hin rfl (by decide +kernel) rfl rfl (Nat.le_of_ble_eq_true rfl) dX1_init_46 (fun H locs hP hD hS => ?_)
  have hP : va_P G.1 vwCl [(o, .inr (1, [.ref h, .ref q1, .ref q2, .ref q3, .ref q4, .ref q5, .null, .null, .null, .null])), (q1, .inl (G.2.1, 34, .inl (fun _ => 0))), (q2, .inl (G.2.1, 34, .inl (fun _ => 0))), (q3, .inl (G.2.1, 34, .inl (fun _ => 0))), (q4, .inl (G.2.1, 34, .inl (fun _ => 0))), (q5, .inl (G.2.1, 34, .inl (fun _ => 0)))] H := hP
  have hD : va_D A [(o, .inr (1, [.ref h, .ref q1, .ref q2, .ref q3, .ref q4, .ref q5, .null, .null, .null, .null])), (q1, .inl (G.2.1, 34, .inl (fun _ => 0))), (q2, .inl (G.2.1, 34, .inl (fun _ => 0))), (q3, .inl (G.2.1, 34, .inl (fun _ => 0))), (q4, .inl (G.2.1, 34, .inl (fun _ => 0))), (q5, .inl (G.2.1, 34, .inl (fun _ => 0)))] := hD
  refine lv_aload_n hx hb dX1_init_49 rfl (lv_at hl 0 rfl) ?_
  refine lv_bipush (v := 34) hx hb dX1_init_50 (by decide) ?_
  refine sx_newi hx hb (bw0 (w := Cond.arrayClass .int) hts 5 rfl) hK hP hD hS hA 34 (by decide) (by decide) (Nat.le_of_ble_eq_true rfl) (Nat.le_of_ble_eq_true rfl) (Nat.le_of_ble_eq_true rfl) dX1_init_52 (fun q6 H hP hD hS => ?_)
  have hP : va_P G.1 vwCl [(o, .inr (1, [.ref h, .ref q1, .ref q2, .ref q3, .ref q4, .ref q5, .null, .null, .null, .null])), (q1, .inl (G.2.1, 34, .inl (fun _ => 0))), (q2, .inl (G.2.1, 34, .inl (fun _ => 0))), (q3, .inl (G.2.1, 34, .inl (fun _ => 0))), (q4, .inl (G.2.1, 34, .inl (fun _ => 0))), (q5, .inl (G.2.1, 34, .inl (fun _ => 0))), (q6, .inl (G.2.1, 34, .inl (fun _ => 0)))] H := hP
  have hD : va_D A [(o, .inr (1, [.ref h, .ref q1, .ref q2, .ref q3, .ref q4, .ref q5, .null, .null, .null, .null])), (q1, .inl (G.2.1, 34, .inl (fun _ => 0))), (q2, .inl (G.2.1, 34, .inl (fun _ => 0))), (q3, .inl (G.2.1, 34, .inl (fun _ => 0))), (q4, .inl (G.2.1, 34, .inl (fun _ => 0))), (q5, .inl (G.2.1, 34, .inl (fun _ => 0))), (q6, .inl (G.2.1, 34, .inl (fun _ => 0)))] := hD
  refine W.widen (k := 6) (n := 204) (Nat.le_of_ble_eq_true rfl) (Nat.le_of_ble_eq_true rfl) ?_
  refine va_putF (D := G.1) (ci := 1) (v := .ref q6) (ty := .array .int) (C := RX1) (T := TX1) (N := 10) hx hb hts owX1 tyX1 tyX1_ok nmX1 hown hK.1 hP hD hS 0 rfl rfl 6 (by decide) (bw0 (w := Cond.fieldLink RX1 31 "DropflagMill$Deeds" "givenLeaves" "[I") hts 11 rfl) (fun _ h9 => h9) rfl hin rfl (by decide +kernel) rfl rfl (Nat.le_of_ble_eq_true rfl) dX1_init_54 (fun H locs hP hD hS => ?_)
  have hP : va_P G.1 vwCl [(o, .inr (1, [.ref h, .ref q1, .ref q2, .ref q3, .ref q4, .ref q5, .ref q6, .null, .null, .null])), (q1, .inl (G.2.1, 34, .inl (fun _ => 0))), (q2, .inl (G.2.1, 34, .inl (fun _ => 0))), (q3, .inl (G.2.1, 34, .inl (fun _ => 0))), (q4, .inl (G.2.1, 34, .inl (fun _ => 0))), (q5, .inl (G.2.1, 34, .inl (fun _ => 0))), (q6, .inl (G.2.1, 34, .inl (fun _ => 0)))] H := hP
  have hD : va_D A [(o, .inr (1, [.ref h, .ref q1, .ref q2, .ref q3, .ref q4, .ref q5, .ref q6, .null, .null, .null])), (q1, .inl (G.2.1, 34, .inl (fun _ => 0))), (q2, .inl (G.2.1, 34, .inl (fun _ => 0))), (q3, .inl (G.2.1, 34, .inl (fun _ => 0))), (q4, .inl (G.2.1, 34, .inl (fun _ => 0))), (q5, .inl (G.2.1, 34, .inl (fun _ => 0))), (q6, .inl (G.2.1, 34, .inl (fun _ => 0)))] := hD
  refine lv_aload_n hx hb dX1_init_57 rfl (lv_at hl 0 rfl) ?_
  refine lv_bipush (v := 34) hx hb dX1_init_58 (by decide) ?_
  refine sx_newi hx hb (bw0 (w := Cond.arrayClass .int) hts 5 rfl) hK hP hD hS hA 34 (by decide) (by decide) (Nat.le_of_ble_eq_true rfl) (Nat.le_of_ble_eq_true rfl) (Nat.le_of_ble_eq_true rfl) dX1_init_60 (fun q7 H hP hD hS => ?_)
  have hP : va_P G.1 vwCl [(o, .inr (1, [.ref h, .ref q1, .ref q2, .ref q3, .ref q4, .ref q5, .ref q6, .null, .null, .null])), (q1, .inl (G.2.1, 34, .inl (fun _ => 0))), (q2, .inl (G.2.1, 34, .inl (fun _ => 0))), (q3, .inl (G.2.1, 34, .inl (fun _ => 0))), (q4, .inl (G.2.1, 34, .inl (fun _ => 0))), (q5, .inl (G.2.1, 34, .inl (fun _ => 0))), (q6, .inl (G.2.1, 34, .inl (fun _ => 0))), (q7, .inl (G.2.1, 34, .inl (fun _ => 0)))] H := hP
  have hD : va_D A [(o, .inr (1, [.ref h, .ref q1, .ref q2, .ref q3, .ref q4, .ref q5, .ref q6, .null, .null, .null])), (q1, .inl (G.2.1, 34, .inl (fun _ => 0))), (q2, .inl (G.2.1, 34, .inl (fun _ => 0))), (q3, .inl (G.2.1, 34, .inl (fun _ => 0))), (q4, .inl (G.2.1, 34, .inl (fun _ => 0))), (q5, .inl (G.2.1, 34, .inl (fun _ => 0))), (q6, .inl (G.2.1, 34, .inl (fun _ => 0))), (q7, .inl (G.2.1, 34, .inl (fun _ => 0)))] := hD
  refine W.widen (k := 7) (n := 238) (Nat.le_of_ble_eq_true rfl) (Nat.le_of_ble_eq_true rfl) ?_
  refine va_putF (D := G.1) (ci := 1) (v := .ref q7) (ty := .array .int) (C := RX1) (T := TX1) (N := 10) hx hb hts owX1 tyX1 tyX1_ok nmX1 hown hK.1 hP hD hS 0 rfl rfl 7 (by decide) (bw0 (w := Cond.fieldLink RX1 34 "DropflagMill$Deeds" "lostLeaves" "[I") hts 12 rfl) (fun _ h9 => h9) rfl hin rfl (by decide +kernel) rfl rfl (Nat.le_of_ble_eq_true rfl) dX1_init_62 (fun H locs hP hD hS => ?_)
  have hP : va_P G.1 vwCl [(o, .inr (1, [.ref h, .ref q1, .ref q2, .ref q3, .ref q4, .ref q5, .ref q6, .ref q7, .null, .null])), (q1, .inl (G.2.1, 34, .inl (fun _ => 0))), (q2, .inl (G.2.1, 34, .inl (fun _ => 0))), (q3, .inl (G.2.1, 34, .inl (fun _ => 0))), (q4, .inl (G.2.1, 34, .inl (fun _ => 0))), (q5, .inl (G.2.1, 34, .inl (fun _ => 0))), (q6, .inl (G.2.1, 34, .inl (fun _ => 0))), (q7, .inl (G.2.1, 34, .inl (fun _ => 0)))] H := hP
  have hD : va_D A [(o, .inr (1, [.ref h, .ref q1, .ref q2, .ref q3, .ref q4, .ref q5, .ref q6, .ref q7, .null, .null])), (q1, .inl (G.2.1, 34, .inl (fun _ => 0))), (q2, .inl (G.2.1, 34, .inl (fun _ => 0))), (q3, .inl (G.2.1, 34, .inl (fun _ => 0))), (q4, .inl (G.2.1, 34, .inl (fun _ => 0))), (q5, .inl (G.2.1, 34, .inl (fun _ => 0))), (q6, .inl (G.2.1, 34, .inl (fun _ => 0))), (q7, .inl (G.2.1, 34, .inl (fun _ => 0)))] := hD
  refine lv_aload_n hx hb dX1_init_65 rfl (lv_at hl 0 rfl) ?_
  refine lv_bipush (v := 34) hx hb dX1_init_66 (by decide) ?_
  refine sx_newi hx hb (bw0 (w := Cond.arrayClass .int) hts 5 rfl) hK hP hD hS hA 34 (by decide) (by decide) (Nat.le_of_ble_eq_true rfl) (Nat.le_of_ble_eq_true rfl) (Nat.le_of_ble_eq_true rfl) dX1_init_68 (fun q8 H hP hD hS => ?_)
  have hP : va_P G.1 vwCl [(o, .inr (1, [.ref h, .ref q1, .ref q2, .ref q3, .ref q4, .ref q5, .ref q6, .ref q7, .null, .null])), (q1, .inl (G.2.1, 34, .inl (fun _ => 0))), (q2, .inl (G.2.1, 34, .inl (fun _ => 0))), (q3, .inl (G.2.1, 34, .inl (fun _ => 0))), (q4, .inl (G.2.1, 34, .inl (fun _ => 0))), (q5, .inl (G.2.1, 34, .inl (fun _ => 0))), (q6, .inl (G.2.1, 34, .inl (fun _ => 0))), (q7, .inl (G.2.1, 34, .inl (fun _ => 0))), (q8, .inl (G.2.1, 34, .inl (fun _ => 0)))] H := hP
  have hD : va_D A [(o, .inr (1, [.ref h, .ref q1, .ref q2, .ref q3, .ref q4, .ref q5, .ref q6, .ref q7, .null, .null])), (q1, .inl (G.2.1, 34, .inl (fun _ => 0))), (q2, .inl (G.2.1, 34, .inl (fun _ => 0))), (q3, .inl (G.2.1, 34, .inl (fun _ => 0))), (q4, .inl (G.2.1, 34, .inl (fun _ => 0))), (q5, .inl (G.2.1, 34, .inl (fun _ => 0))), (q6, .inl (G.2.1, 34, .inl (fun _ => 0))), (q7, .inl (G.2.1, 34, .inl (fun _ => 0))), (q8, .inl (G.2.1, 34, .inl (fun _ => 0)))] := hD
  refine W.widen (k := 8) (n := 272) (Nat.le_of_ble_eq_true rfl) (Nat.le_of_ble_eq_true rfl) ?_
  refine va_putF (D := G.1) (ci := 1) (v := .ref q8) (ty := .array .int) (C := RX1) (T := TX1) (N := 10) hx hb hts owX1 tyX1 tyX1_ok nmX1 hown hK.1 hP hD hS 0 rfl rfl 8 (by decide) (bw0 (w := Cond.fieldLink RX1 37 "DropflagMill$Deeds" "borrowsUsed" "[I") hts 13 rfl) (fun _ h9 => h9) rfl hin rfl (by decide +kernel) rfl rfl (Nat.le_of_ble_eq_true rfl) dX1_init_70 (fun H locs hP hD hS => ?_)
  have hP : va_P G.1 vwCl [(o, .inr (1, [.ref h, .ref q1, .ref q2, .ref q3, .ref q4, .ref q5, .ref q6, .ref q7, .ref q8, .null])), (q1, .inl (G.2.1, 34, .inl (fun _ => 0))), (q2, .inl (G.2.1, 34, .inl (fun _ => 0))), (q3, .inl (G.2.1, 34, .inl (fun _ => 0))), (q4, .inl (G.2.1, 34, .inl (fun _ => 0))), (q5, .inl (G.2.1, 34, .inl (fun _ => 0))), (q6, .inl (G.2.1, 34, .inl (fun _ => 0))), (q7, .inl (G.2.1, 34, .inl (fun _ => 0))), (q8, .inl (G.2.1, 34, .inl (fun _ => 0)))] H := hP
  have hD : va_D A [(o, .inr (1, [.ref h, .ref q1, .ref q2, .ref q3, .ref q4, .ref q5, .ref q6, .ref q7, .ref q8, .null])), (q1, .inl (G.2.1, 34, .inl (fun _ => 0))), (q2, .inl (G.2.1, 34, .inl (fun _ => 0))), (q3, .inl (G.2.1, 34, .inl (fun _ => 0))), (q4, .inl (G.2.1, 34, .inl (fun _ => 0))), (q5, .inl (G.2.1, 34, .inl (fun _ => 0))), (q6, .inl (G.2.1, 34, .inl (fun _ => 0))), (q7, .inl (G.2.1, 34, .inl (fun _ => 0))), (q8, .inl (G.2.1, 34, .inl (fun _ => 0)))] := hD
  refine lv_aload_n hx hb dX1_init_73 rfl (lv_at hl 0 rfl) ?_
  refine lv_bipush (v := 34) hx hb dX1_init_74 (by decide) ?_
  refine sx_newi hx hb (bw0 (w := Cond.arrayClass .int) hts 5 rfl) hK hP hD hS hA 34 (by decide) (by decide) (Nat.le_of_ble_eq_true rfl) (Nat.le_of_ble_eq_true rfl) (Nat.le_of_ble_eq_true rfl) dX1_init_76 (fun q9 H hP hD hS => ?_)
  have hP : va_P G.1 vwCl [(o, .inr (1, [.ref h, .ref q1, .ref q2, .ref q3, .ref q4, .ref q5, .ref q6, .ref q7, .ref q8, .null])), (q1, .inl (G.2.1, 34, .inl (fun _ => 0))), (q2, .inl (G.2.1, 34, .inl (fun _ => 0))), (q3, .inl (G.2.1, 34, .inl (fun _ => 0))), (q4, .inl (G.2.1, 34, .inl (fun _ => 0))), (q5, .inl (G.2.1, 34, .inl (fun _ => 0))), (q6, .inl (G.2.1, 34, .inl (fun _ => 0))), (q7, .inl (G.2.1, 34, .inl (fun _ => 0))), (q8, .inl (G.2.1, 34, .inl (fun _ => 0))), (q9, .inl (G.2.1, 34, .inl (fun _ => 0)))] H := hP
  have hD : va_D A [(o, .inr (1, [.ref h, .ref q1, .ref q2, .ref q3, .ref q4, .ref q5, .ref q6, .ref q7, .ref q8, .null])), (q1, .inl (G.2.1, 34, .inl (fun _ => 0))), (q2, .inl (G.2.1, 34, .inl (fun _ => 0))), (q3, .inl (G.2.1, 34, .inl (fun _ => 0))), (q4, .inl (G.2.1, 34, .inl (fun _ => 0))), (q5, .inl (G.2.1, 34, .inl (fun _ => 0))), (q6, .inl (G.2.1, 34, .inl (fun _ => 0))), (q7, .inl (G.2.1, 34, .inl (fun _ => 0))), (q8, .inl (G.2.1, 34, .inl (fun _ => 0))), (q9, .inl (G.2.1, 34, .inl (fun _ => 0)))] := hD
  refine W.widen (k := 9) (n := 306) (Nat.le_of_ble_eq_true rfl) (Nat.le_of_ble_eq_true rfl) ?_
  refine va_putF (D := G.1) (ci := 1) (v := .ref q9) (ty := .array .int) (C := RX1) (T := TX1) (N := 10) hx hb hts owX1 tyX1 tyX1_ok nmX1 hown hK.1 hP hD hS 0 rfl rfl 9 (by decide) (bw0 (w := Cond.fieldLink RX1 40 "DropflagMill$Deeds" "borrowsGiven" "[I") hts 14 rfl) (fun _ h9 => h9) rfl hin rfl (by decide +kernel) rfl rfl (Nat.le_of_ble_eq_true rfl) dX1_init_78 (fun H locs hP hD hS => ?_)
  have hP : va_P G.1 vwCl [(o, .inr (1, [.ref h, .ref q1, .ref q2, .ref q3, .ref q4, .ref q5, .ref q6, .ref q7, .ref q8, .ref q9])), (q1, .inl (G.2.1, 34, .inl (fun _ => 0))), (q2, .inl (G.2.1, 34, .inl (fun _ => 0))), (q3, .inl (G.2.1, 34, .inl (fun _ => 0))), (q4, .inl (G.2.1, 34, .inl (fun _ => 0))), (q5, .inl (G.2.1, 34, .inl (fun _ => 0))), (q6, .inl (G.2.1, 34, .inl (fun _ => 0))), (q7, .inl (G.2.1, 34, .inl (fun _ => 0))), (q8, .inl (G.2.1, 34, .inl (fun _ => 0))), (q9, .inl (G.2.1, 34, .inl (fun _ => 0)))] H := hP
  have hD : va_D A [(o, .inr (1, [.ref h, .ref q1, .ref q2, .ref q3, .ref q4, .ref q5, .ref q6, .ref q7, .ref q8, .ref q9])), (q1, .inl (G.2.1, 34, .inl (fun _ => 0))), (q2, .inl (G.2.1, 34, .inl (fun _ => 0))), (q3, .inl (G.2.1, 34, .inl (fun _ => 0))), (q4, .inl (G.2.1, 34, .inl (fun _ => 0))), (q5, .inl (G.2.1, 34, .inl (fun _ => 0))), (q6, .inl (G.2.1, 34, .inl (fun _ => 0))), (q7, .inl (G.2.1, 34, .inl (fun _ => 0))), (q8, .inl (G.2.1, 34, .inl (fun _ => 0))), (q9, .inl (G.2.1, 34, .inl (fun _ => 0)))] := hD
  exact sx_retN (q1, q2, q3, q4, q5, q6, q7, q8, q9) hx hb hr hlk hP hD hS dX1_init_81

abbrev wdX8_init : List Cond := Cond.code yX8_init cX8_init 2 none :: bwC
set_option maxHeartbeats 8000000 in
set_option maxRecDepth 100000 in
theorem c_X8_init (l : Launch) (G : sxG) (o : Nat) (h : Nat) : sxI l yX8_init wdX8_init 1 12 6 204 G [(o, .inr (8, [.null, .null, .null, .null, .null, .null, .null, .int 0, .int 0]))] [.ref o, .ref h] (fun u : Nat × Nat × Nat × Nat × Nat × Nat => ([(o, .inr (8, [.ref h, .ref u.1, .ref u.2.1, .ref u.2.2.1, .ref u.2.2.2.1, .ref u.2.2.2.2.1, .ref u.2.2.2.2.2, .int 0, .int (-1)])), (u.1, .inl (G.2.1, 34, .inl (fun _ => 0))), (u.2.1, .inl (G.2.1, 34, .inl (fun _ => 0))), (u.2.2.1, .inl (G.2.1, 34, .inl (fun _ => 0))), (u.2.2.2.1, .inl (G.2.1, 34, .inl (fun _ => 0))), (u.2.2.2.2.1, .inl (G.2.1, 34, .inl (fun _ => 0))), (u.2.2.2.2.2, .inl (G.2.1, 34, .inl (fun _ => 0)))] : va_W)) := by
  refine sxI.of (cc := cX8_init) (maxL := 2) (by decide) rfl (Nat.le_of_ble_eq_true rfl) ?_
  intro p e s m args below meth c ⟨hx, hb, hr, hml, hown, hlk, hts, hK⟩ hin A hA hP hD hS ls hl
  have hl : lv_has ls 2 [(0, .ref o), (1, .ref h)] := hl
  refine lv_aload_n hx hb dX8_init_0 rfl (lv_at hl 0 rfl) ?_
  refine W.objInit hx hb hown (bw0 (w := Cond.methodLink RX8 3 objectInit) hts 16 rfl) (bw0 (w := Cond.instanceMethod objectInit) hts 2 rfl) (bw0 (w := Cond.code objectInit ⟨#[0xb1]⟩ 1 none) hts 3 rfl) rfl (by rw [hml]; exact hl.1) rfl dX8_init_1 (Nat.le_of_ble_eq_true rfl) (Nat.le_of_ble_eq_true rfl) ?_
  refine W.eq (g2 := F0 m 4 ls []) rfl ?_
  refine lv_aload_n hx hb dX8_init_4 rfl (lv_at hl 0 rfl) ?_
  refine lv_aload_n hx hb dX8_init_5 rfl (lv_at hl 1 rfl) ?_
  refine va_putF (D := G.1) (ci := 8) (v := .ref h) (ty := .object "DropflagMill$Program") (C := RX8) (T := TX8) (N := 9) hx hb hts owX8 tyX8 tyX8_ok nmX8 hown hK.1 hP hD hS 0 rfl rfl 0 (by decide) (bw0 (w := Cond.fieldLink RX8 9 "DropflagMill$Ways" "program" "LDropflagMill$Program;") hts 17 rfl) (fun _ h9 => h9) rfl hin rfl (by decide +kernel) rfl rfl (Nat.le_of_ble_eq_true rfl) dX8_init_6 (fun H locs hP hD hS => ?_)
  have hP : va_P G.1 vwCl [(o, .inr (8, [.ref h, .null, .null, .null, .null, .null, .null, .int 0, .int 0]))] H := hP
  have hD : va_D A [(o, .inr (8, [.ref h, .null, .null, .null, .null, .null, .null, .int 0, .int 0]))] := hD
  refine lv_aload_n hx hb dX8_init_9 rfl (lv_at hl 0 rfl) ?_
  refine lv_bipush (v := 34) hx hb dX8_init_10 (by decide) ?_
  refine sx_newi hx hb (bw0 (w := Cond.arrayClass .int) hts 5 rfl) hK hP hD hS hA 34 (by decide) (by decide) (Nat.le_of_ble_eq_true rfl) (Nat.le_of_ble_eq_true rfl) (Nat.le_of_ble_eq_true rfl) dX8_init_12 (fun q1 H hP hD hS => ?_)
  have hP : va_P G.1 vwCl [(o, .inr (8, [.ref h, .null, .null, .null, .null, .null, .null, .int 0, .int 0])), (q1, .inl (G.2.1, 34, .inl (fun _ => 0)))] H := hP
  have hD : va_D A [(o, .inr (8, [.ref h, .null, .null, .null, .null, .null, .null, .int 0, .int 0])), (q1, .inl (G.2.1, 34, .inl (fun _ => 0)))] := hD
  refine W.widen (k := 1) (n := 34) (Nat.le_of_ble_eq_true rfl) (Nat.le_of_ble_eq_true rfl) ?_
  refine va_putF (D := G.1) (ci := 8) (v := .ref q1) (ty := .array .int) (C := RX8) (T := TX8) (N := 9) hx hb hts owX8 tyX8 tyX8_ok nmX8 hown hK.1 hP hD hS 0 rfl rfl 1 (by decide) (bw0 (w := Cond.fieldLink RX8 15 "DropflagMill$Ways" "first" "[I") hts 18 rfl) (fun _ h9 => h9) rfl hin rfl (by decide +kernel) rfl rfl (Nat.le_of_ble_eq_true rfl) dX8_init_14 (fun H locs hP hD hS => ?_)
  have hP : va_P G.1 vwCl [(o, .inr (8, [.ref h, .ref q1, .null, .null, .null, .null, .null, .int 0, .int 0])), (q1, .inl (G.2.1, 34, .inl (fun _ => 0)))] H := hP
  have hD : va_D A [(o, .inr (8, [.ref h, .ref q1, .null, .null, .null, .null, .null, .int 0, .int 0])), (q1, .inl (G.2.1, 34, .inl (fun _ => 0)))] := hD
  refine lv_aload_n hx hb dX8_init_17 rfl (lv_at hl 0 rfl) ?_
  refine lv_bipush (v := 34) hx hb dX8_init_18 (by decide) ?_
  refine sx_newi hx hb (bw0 (w := Cond.arrayClass .int) hts 5 rfl) hK hP hD hS hA 34 (by decide) (by decide) (Nat.le_of_ble_eq_true rfl) (Nat.le_of_ble_eq_true rfl) (Nat.le_of_ble_eq_true rfl) dX8_init_20 (fun q2 H hP hD hS => ?_)
  have hP : va_P G.1 vwCl [(o, .inr (8, [.ref h, .ref q1, .null, .null, .null, .null, .null, .int 0, .int 0])), (q1, .inl (G.2.1, 34, .inl (fun _ => 0))), (q2, .inl (G.2.1, 34, .inl (fun _ => 0)))] H := hP
  have hD : va_D A [(o, .inr (8, [.ref h, .ref q1, .null, .null, .null, .null, .null, .int 0, .int 0])), (q1, .inl (G.2.1, 34, .inl (fun _ => 0))), (q2, .inl (G.2.1, 34, .inl (fun _ => 0)))] := hD
  refine W.widen (k := 2) (n := 68) (Nat.le_of_ble_eq_true rfl) (Nat.le_of_ble_eq_true rfl) ?_
  refine va_putF (D := G.1) (ci := 8) (v := .ref q2) (ty := .array .int) (C := RX8) (T := TX8) (N := 9) hx hb hts owX8 tyX8 tyX8_ok nmX8 hown hK.1 hP hD hS 0 rfl rfl 2 (by decide) (bw0 (w := Cond.fieldLink RX8 19 "DropflagMill$Ways" "second" "[I") hts 19 rfl) (fun _ h9 => h9) rfl hin rfl (by decide +kernel) rfl rfl (Nat.le_of_ble_eq_true rfl) dX8_init_22 (fun H locs hP hD hS => ?_)
  have hP : va_P G.1 vwCl [(o, .inr (8, [.ref h, .ref q1, .ref q2, .null, .null, .null, .null, .int 0, .int 0])), (q1, .inl (G.2.1, 34, .inl (fun _ => 0))), (q2, .inl (G.2.1, 34, .inl (fun _ => 0)))] H := hP
  have hD : va_D A [(o, .inr (8, [.ref h, .ref q1, .ref q2, .null, .null, .null, .null, .int 0, .int 0])), (q1, .inl (G.2.1, 34, .inl (fun _ => 0))), (q2, .inl (G.2.1, 34, .inl (fun _ => 0)))] := hD
  refine lv_aload_n hx hb dX8_init_25 rfl (lv_at hl 0 rfl) ?_
  refine lv_bipush (v := 34) hx hb dX8_init_26 (by decide) ?_
  refine sx_newi hx hb (bw0 (w := Cond.arrayClass .int) hts 5 rfl) hK hP hD hS hA 34 (by decide) (by decide) (Nat.le_of_ble_eq_true rfl) (Nat.le_of_ble_eq_true rfl) (Nat.le_of_ble_eq_true rfl) dX8_init_28 (fun q3 H hP hD hS => ?_)
  have hP : va_P G.1 vwCl [(o, .inr (8, [.ref h, .ref q1, .ref q2, .null, .null, .null, .null, .int 0, .int 0])), (q1, .inl (G.2.1, 34, .inl (fun _ => 0))), (q2, .inl (G.2.1, 34, .inl (fun _ => 0))), (q3, .inl (G.2.1, 34, .inl (fun _ => 0)))] H := hP
  have hD : va_D A [(o, .inr (8, [.ref h, .ref q1, .ref q2, .null, .null, .null, .null, .int 0, .int 0])), (q1, .inl (G.2.1, 34, .inl (fun _ => 0))), (q2, .inl (G.2.1, 34, .inl (fun _ => 0))), (q3, .inl (G.2.1, 34, .inl (fun _ => 0)))] := hD
  refine W.widen (k := 3) (n := 102) (Nat.le_of_ble_eq_true rfl) (Nat.le_of_ble_eq_true rfl) ?_
  refine va_putF (D := G.1) (ci := 8) (v := .ref q3) (ty := .array .int) (C := RX8) (T := TX8) (N := 9) hx hb hts owX8 tyX8 tyX8_ok nmX8 hown hK.1 hP hD hS 0 rfl rfl 3 (by decide) (bw0 (w := Cond.fieldLink RX8 22 "DropflagMill$Ways" "opener" "[I") hts 20 rfl) (fun _ h9 => h9) rfl hin rfl (by decide +kernel) rfl rfl (Nat.le_of_ble_eq_true rfl) dX8_init_30 (fun H locs hP hD hS => ?_)
  have hP : va_P G.1 vwCl [(o, .inr (8, [.ref h, .ref q1, .ref q2, .ref q3, .null, .null, .null, .int 0, .int 0])), (q1, .inl (G.2.1, 34, .inl (fun _ => 0))), (q2, .inl (G.2.1, 34, .inl (fun _ => 0))), (q3, .inl (G.2.1, 34, .inl (fun _ => 0)))] H := hP
  have hD : va_D A [(o, .inr (8, [.ref h, .ref q1, .ref q2, .ref q3, .null, .null, .null, .int 0, .int 0])), (q1, .inl (G.2.1, 34, .inl (fun _ => 0))), (q2, .inl (G.2.1, 34, .inl (fun _ => 0))), (q3, .inl (G.2.1, 34, .inl (fun _ => 0)))] := hD
  refine lv_aload_n hx hb dX8_init_33 rfl (lv_at hl 0 rfl) ?_
  refine lv_bipush (v := 34) hx hb dX8_init_34 (by decide) ?_
  refine sx_newi hx hb (bw0 (w := Cond.arrayClass .int) hts 5 rfl) hK hP hD hS hA 34 (by decide) (by decide) (Nat.le_of_ble_eq_true rfl) (Nat.le_of_ble_eq_true rfl) (Nat.le_of_ble_eq_true rfl) dX8_init_36 (fun q4 H hP hD hS => ?_)
  have hP : va_P G.1 vwCl [(o, .inr (8, [.ref h, .ref q1, .ref q2, .ref q3, .null, .null, .null, .int 0, .int 0])), (q1, .inl (G.2.1, 34, .inl (fun _ => 0))), (q2, .inl (G.2.1, 34, .inl (fun _ => 0))), (q3, .inl (G.2.1, 34, .inl (fun _ => 0))), (q4, .inl (G.2.1, 34, .inl (fun _ => 0)))] H := hP
  have hD : va_D A [(o, .inr (8, [.ref h, .ref q1, .ref q2, .ref q3, .null, .null, .null, .int 0, .int 0])), (q1, .inl (G.2.1, 34, .inl (fun _ => 0))), (q2, .inl (G.2.1, 34, .inl (fun _ => 0))), (q3, .inl (G.2.1, 34, .inl (fun _ => 0))), (q4, .inl (G.2.1, 34, .inl (fun _ => 0)))] := hD
  refine W.widen (k := 4) (n := 136) (Nat.le_of_ble_eq_true rfl) (Nat.le_of_ble_eq_true rfl) ?_
  refine va_putF (D := G.1) (ci := 8) (v := .ref q4) (ty := .array .int) (C := RX8) (T := TX8) (N := 9) hx hb hts owX8 tyX8 tyX8_ok nmX8 hown hK.1 hP hD hS 0 rfl rfl 4 (by decide) (bw0 (w := Cond.fieldLink RX8 25 "DropflagMill$Ways" "elseOf" "[I") hts 21 rfl) (fun _ h9 => h9) rfl hin rfl (by decide +kernel) rfl rfl (Nat.le_of_ble_eq_true rfl) dX8_init_38 (fun H locs hP hD hS => ?_)
  have hP : va_P G.1 vwCl [(o, .inr (8, [.ref h, .ref q1, .ref q2, .ref q3, .ref q4, .null, .null, .int 0, .int 0])), (q1, .inl (G.2.1, 34, .inl (fun _ => 0))), (q2, .inl (G.2.1, 34, .inl (fun _ => 0))), (q3, .inl (G.2.1, 34, .inl (fun _ => 0))), (q4, .inl (G.2.1, 34, .inl (fun _ => 0)))] H := hP
  have hD : va_D A [(o, .inr (8, [.ref h, .ref q1, .ref q2, .ref q3, .ref q4, .null, .null, .int 0, .int 0])), (q1, .inl (G.2.1, 34, .inl (fun _ => 0))), (q2, .inl (G.2.1, 34, .inl (fun _ => 0))), (q3, .inl (G.2.1, 34, .inl (fun _ => 0))), (q4, .inl (G.2.1, 34, .inl (fun _ => 0)))] := hD
  refine lv_aload_n hx hb dX8_init_41 rfl (lv_at hl 0 rfl) ?_
  refine lv_bipush (v := 34) hx hb dX8_init_42 (by decide) ?_
  refine sx_newi hx hb (bw0 (w := Cond.arrayClass .int) hts 5 rfl) hK hP hD hS hA 34 (by decide) (by decide) (Nat.le_of_ble_eq_true rfl) (Nat.le_of_ble_eq_true rfl) (Nat.le_of_ble_eq_true rfl) dX8_init_44 (fun q5 H hP hD hS => ?_)
  have hP : va_P G.1 vwCl [(o, .inr (8, [.ref h, .ref q1, .ref q2, .ref q3, .ref q4, .null, .null, .int 0, .int 0])), (q1, .inl (G.2.1, 34, .inl (fun _ => 0))), (q2, .inl (G.2.1, 34, .inl (fun _ => 0))), (q3, .inl (G.2.1, 34, .inl (fun _ => 0))), (q4, .inl (G.2.1, 34, .inl (fun _ => 0))), (q5, .inl (G.2.1, 34, .inl (fun _ => 0)))] H := hP
  have hD : va_D A [(o, .inr (8, [.ref h, .ref q1, .ref q2, .ref q3, .ref q4, .null, .null, .int 0, .int 0])), (q1, .inl (G.2.1, 34, .inl (fun _ => 0))), (q2, .inl (G.2.1, 34, .inl (fun _ => 0))), (q3, .inl (G.2.1, 34, .inl (fun _ => 0))), (q4, .inl (G.2.1, 34, .inl (fun _ => 0))), (q5, .inl (G.2.1, 34, .inl (fun _ => 0)))] := hD
  refine W.widen (k := 5) (n := 170) (Nat.le_of_ble_eq_true rfl) (Nat.le_of_ble_eq_true rfl) ?_
  refine va_putF (D := G.1) (ci := 8) (v := .ref q5) (ty := .array .int) (C := RX8) (T := TX8) (N := 9) hx hb hts owX8 tyX8 tyX8_ok nmX8 hown hK.1 hP hD hS 0 rfl rfl 5 (by decide) (bw0 (w := Cond.fieldLink RX8 28 "DropflagMill$Ways" "endOf" "[I") hts 22 rfl) (fun _ h9 => h9) rfl hin rfl (by decide +kernel) rfl rfl (Nat.le_of_ble_eq_true rfl) dX8_init_46 (fun H locs hP hD hS => ?_)
  have hP : va_P G.1 vwCl [(o, .inr (8, [.ref h, .ref q1, .ref q2, .ref q3, .ref q4, .ref q5, .null, .int 0, .int 0])), (q1, .inl (G.2.1, 34, .inl (fun _ => 0))), (q2, .inl (G.2.1, 34, .inl (fun _ => 0))), (q3, .inl (G.2.1, 34, .inl (fun _ => 0))), (q4, .inl (G.2.1, 34, .inl (fun _ => 0))), (q5, .inl (G.2.1, 34, .inl (fun _ => 0)))] H := hP
  have hD : va_D A [(o, .inr (8, [.ref h, .ref q1, .ref q2, .ref q3, .ref q4, .ref q5, .null, .int 0, .int 0])), (q1, .inl (G.2.1, 34, .inl (fun _ => 0))), (q2, .inl (G.2.1, 34, .inl (fun _ => 0))), (q3, .inl (G.2.1, 34, .inl (fun _ => 0))), (q4, .inl (G.2.1, 34, .inl (fun _ => 0))), (q5, .inl (G.2.1, 34, .inl (fun _ => 0)))] := hD
  refine lv_aload_n hx hb dX8_init_49 rfl (lv_at hl 0 rfl) ?_
  refine lv_bipush (v := 34) hx hb dX8_init_50 (by decide) ?_
  refine sx_newi hx hb (bw0 (w := Cond.arrayClass .int) hts 5 rfl) hK hP hD hS hA 34 (by decide) (by decide) (Nat.le_of_ble_eq_true rfl) (Nat.le_of_ble_eq_true rfl) (Nat.le_of_ble_eq_true rfl) dX8_init_52 (fun q6 H hP hD hS => ?_)
  have hP : va_P G.1 vwCl [(o, .inr (8, [.ref h, .ref q1, .ref q2, .ref q3, .ref q4, .ref q5, .null, .int 0, .int 0])), (q1, .inl (G.2.1, 34, .inl (fun _ => 0))), (q2, .inl (G.2.1, 34, .inl (fun _ => 0))), (q3, .inl (G.2.1, 34, .inl (fun _ => 0))), (q4, .inl (G.2.1, 34, .inl (fun _ => 0))), (q5, .inl (G.2.1, 34, .inl (fun _ => 0))), (q6, .inl (G.2.1, 34, .inl (fun _ => 0)))] H := hP
  have hD : va_D A [(o, .inr (8, [.ref h, .ref q1, .ref q2, .ref q3, .ref q4, .ref q5, .null, .int 0, .int 0])), (q1, .inl (G.2.1, 34, .inl (fun _ => 0))), (q2, .inl (G.2.1, 34, .inl (fun _ => 0))), (q3, .inl (G.2.1, 34, .inl (fun _ => 0))), (q4, .inl (G.2.1, 34, .inl (fun _ => 0))), (q5, .inl (G.2.1, 34, .inl (fun _ => 0))), (q6, .inl (G.2.1, 34, .inl (fun _ => 0)))] := hD
  refine W.widen (k := 6) (n := 204) (Nat.le_of_ble_eq_true rfl) (Nat.le_of_ble_eq_true rfl) ?_
  refine va_putF (D := G.1) (ci := 8) (v := .ref q6) (ty := .array .int) (C := RX8) (T := TX8) (N := 9) hx hb hts owX8 tyX8 tyX8_ok nmX8 hown hK.1 hP hD hS 0 rfl rfl 6 (by decide) (bw0 (w := Cond.fieldLink RX8 31 "DropflagMill$Ways" "open" "[I") hts 23 rfl) (fun _ h9 => h9) rfl hin rfl (by decide +kernel) rfl rfl (Nat.le_of_ble_eq_true rfl) dX8_init_54 (fun H locs hP hD hS => ?_)
  have hP : va_P G.1 vwCl [(o, .inr (8, [.ref h, .ref q1, .ref q2, .ref q3, .ref q4, .ref q5, .ref q6, .int 0, .int 0])), (q1, .inl (G.2.1, 34, .inl (fun _ => 0))), (q2, .inl (G.2.1, 34, .inl (fun _ => 0))), (q3, .inl (G.2.1, 34, .inl (fun _ => 0))), (q4, .inl (G.2.1, 34, .inl (fun _ => 0))), (q5, .inl (G.2.1, 34, .inl (fun _ => 0))), (q6, .inl (G.2.1, 34, .inl (fun _ => 0)))] H := hP
  have hD : va_D A [(o, .inr (8, [.ref h, .ref q1, .ref q2, .ref q3, .ref q4, .ref q5, .ref q6, .int 0, .int 0])), (q1, .inl (G.2.1, 34, .inl (fun _ => 0))), (q2, .inl (G.2.1, 34, .inl (fun _ => 0))), (q3, .inl (G.2.1, 34, .inl (fun _ => 0))), (q4, .inl (G.2.1, 34, .inl (fun _ => 0))), (q5, .inl (G.2.1, 34, .inl (fun _ => 0))), (q6, .inl (G.2.1, 34, .inl (fun _ => 0)))] := hD
  refine lv_aload_n hx hb dX8_init_57 rfl (lv_at hl 0 rfl) ?_
  refine lv_iconst (v := 0) hx hb dX8_init_58 (by decide) ?_
  refine va_put (D := G.1) (ci := 8) (v := .int 0) (ty := .int) (C := RX8) (T := TX8) (N := 9) hx hb hts owX8 tyX8 tyX8_ok nmX8 hown hK.1 hP hD hS 0 rfl rfl 7 (by decide) (bw0 (w := Cond.fieldLink RX8 34 "DropflagMill$Ways" "depth" "I") hts 24 rfl) (fun _ h9 => h9) rfl (by decide +kernel) rfl rfl (Nat.le_of_ble_eq_true rfl) dX8_init_59 (fun H locs hP hD hS => ?_)
  have hP : va_P G.1 vwCl [(o, .inr (8, [.ref h, .ref q1, .ref q2, .ref q3, .ref q4, .ref q5, .ref q6, .int 0, .int 0])), (q1, .inl (G.2.1, 34, .inl (fun _ => 0))), (q2, .inl (G.2.1, 34, .inl (fun _ => 0))), (q3, .inl (G.2.1, 34, .inl (fun _ => 0))), (q4, .inl (G.2.1, 34, .inl (fun _ => 0))), (q5, .inl (G.2.1, 34, .inl (fun _ => 0))), (q6, .inl (G.2.1, 34, .inl (fun _ => 0)))] H := hP
  have hD : va_D A [(o, .inr (8, [.ref h, .ref q1, .ref q2, .ref q3, .ref q4, .ref q5, .ref q6, .int 0, .int 0])), (q1, .inl (G.2.1, 34, .inl (fun _ => 0))), (q2, .inl (G.2.1, 34, .inl (fun _ => 0))), (q3, .inl (G.2.1, 34, .inl (fun _ => 0))), (q4, .inl (G.2.1, 34, .inl (fun _ => 0))), (q5, .inl (G.2.1, 34, .inl (fun _ => 0))), (q6, .inl (G.2.1, 34, .inl (fun _ => 0)))] := hD
  refine lv_aload_n hx hb dX8_init_62 rfl (lv_at hl 0 rfl) ?_
  refine lv_iconst (v := (-1)) hx hb dX8_init_63 (by decide) ?_
  refine va_put (D := G.1) (ci := 8) (v := .int (-1)) (ty := .int) (C := RX8) (T := TX8) (N := 9) hx hb hts owX8 tyX8 tyX8_ok nmX8 hown hK.1 hP hD hS 0 rfl rfl 8 (by decide) (bw0 (w := Cond.fieldLink RX8 38 "DropflagMill$Ways" "wrong" "I") hts 25 rfl) (fun _ h9 => h9) rfl (by decide +kernel) rfl rfl (Nat.le_of_ble_eq_true rfl) dX8_init_64 (fun H locs hP hD hS => ?_)
  have hP : va_P G.1 vwCl [(o, .inr (8, [.ref h, .ref q1, .ref q2, .ref q3, .ref q4, .ref q5, .ref q6, .int 0, .int (-1)])), (q1, .inl (G.2.1, 34, .inl (fun _ => 0))), (q2, .inl (G.2.1, 34, .inl (fun _ => 0))), (q3, .inl (G.2.1, 34, .inl (fun _ => 0))), (q4, .inl (G.2.1, 34, .inl (fun _ => 0))), (q5, .inl (G.2.1, 34, .inl (fun _ => 0))), (q6, .inl (G.2.1, 34, .inl (fun _ => 0)))] H := hP
  have hD : va_D A [(o, .inr (8, [.ref h, .ref q1, .ref q2, .ref q3, .ref q4, .ref q5, .ref q6, .int 0, .int (-1)])), (q1, .inl (G.2.1, 34, .inl (fun _ => 0))), (q2, .inl (G.2.1, 34, .inl (fun _ => 0))), (q3, .inl (G.2.1, 34, .inl (fun _ => 0))), (q4, .inl (G.2.1, 34, .inl (fun _ => 0))), (q5, .inl (G.2.1, 34, .inl (fun _ => 0))), (q6, .inl (G.2.1, 34, .inl (fun _ => 0)))] := hD
  exact sx_retN (q1, q2, q3, q4, q5, q6) hx hb hr hlk hP hD hS dX8_init_67

abbrev wdX3_init : List Cond := Cond.code yX3_init cX3_init 2 none :: bwC
set_option maxHeartbeats 8000000 in
set_option maxRecDepth 100000 in
theorem c_X3_init (l : Launch) (G : sxG) (o : Nat) (h : Nat) : sxI l yX3_init wdX3_init 1 12 4 82 G [(o, .inr (3, [.null, .null, .null, .null, .null, .int 0]))] [.ref o, .ref h] (fun u : Nat × Nat × Nat × Nat => ([(o, .inr (3, [.ref h, .ref u.1, .ref u.2.1, .ref u.2.2.1, .ref u.2.2.2, .int 0])), (u.1, .inl (G.2.1, 16, .inl (fun _ => 0))), (u.2.1, .inl (G.2.1, 16, .inl (fun _ => 0))), (u.2.2.1, .inl (G.2.2, 16, .inl (fun _ => 0))), (u.2.2.2, .inl (G.2.1, 34, .inl (fun _ => 0)))] : va_W)) := by
  refine sxI.of (cc := cX3_init) (maxL := 2) (by decide) rfl (Nat.le_of_ble_eq_true rfl) ?_
  intro p e s m args below meth c ⟨hx, hb, hr, hml, hown, hlk, hts, hK⟩ hin A hA hP hD hS ls hl
  have hl : lv_has ls 2 [(0, .ref o), (1, .ref h)] := hl
  refine lv_aload_n hx hb dX3_init_0 rfl (lv_at hl 0 rfl) ?_
  refine W.objInit hx hb hown (bw0 (w := Cond.methodLink RX3 3 objectInit) hts 27 rfl) (bw0 (w := Cond.instanceMethod objectInit) hts 2 rfl) (bw0 (w := Cond.code objectInit ⟨#[0xb1]⟩ 1 none) hts 3 rfl) rfl (by rw [hml]; exact hl.1) rfl dX3_init_1 (Nat.le_of_ble_eq_true rfl) (Nat.le_of_ble_eq_true rfl) ?_
  refine W.eq (g2 := F0 m 4 ls []) rfl ?_
  refine lv_aload_n hx hb dX3_init_4 rfl (lv_at hl 0 rfl) ?_
  refine lv_aload_n hx hb dX3_init_5 rfl (lv_at hl 1 rfl) ?_
  refine va_putF (D := G.1) (ci := 3) (v := .ref h) (ty := .object "DropflagMill$Program") (C := RX3) (T := TX3) (N := 6) hx hb hts owX3 tyX3 tyX3_ok nmX3 hown hK.1 hP hD hS 0 rfl rfl 0 (by decide) (bw0 (w := Cond.fieldLink RX3 9 "DropflagMill$Loans" "program" "LDropflagMill$Program;") hts 28 rfl) (fun _ h9 => h9) rfl hin rfl (by decide +kernel) rfl rfl (Nat.le_of_ble_eq_true rfl) dX3_init_6 (fun H locs hP hD hS => ?_)
  have hP : va_P G.1 vwCl [(o, .inr (3, [.ref h, .null, .null, .null, .null, .int 0]))] H := hP
  have hD : va_D A [(o, .inr (3, [.ref h, .null, .null, .null, .null, .int 0]))] := hD
  refine lv_aload_n hx hb dX3_init_9 rfl (lv_at hl 0 rfl) ?_
  refine lv_bipush (v := 16) hx hb dX3_init_10 (by decide) ?_
  refine sx_newi hx hb (bw0 (w := Cond.arrayClass .int) hts 5 rfl) hK hP hD hS hA 16 (by decide) (by decide) (Nat.le_of_ble_eq_true rfl) (Nat.le_of_ble_eq_true rfl) (Nat.le_of_ble_eq_true rfl) dX3_init_12 (fun q1 H hP hD hS => ?_)
  have hP : va_P G.1 vwCl [(o, .inr (3, [.ref h, .null, .null, .null, .null, .int 0])), (q1, .inl (G.2.1, 16, .inl (fun _ => 0)))] H := hP
  have hD : va_D A [(o, .inr (3, [.ref h, .null, .null, .null, .null, .int 0])), (q1, .inl (G.2.1, 16, .inl (fun _ => 0)))] := hD
  refine W.widen (k := 1) (n := 16) (Nat.le_of_ble_eq_true rfl) (Nat.le_of_ble_eq_true rfl) ?_
  refine va_putF (D := G.1) (ci := 3) (v := .ref q1) (ty := .array .int) (C := RX3) (T := TX3) (N := 6) hx hb hts owX3 tyX3 tyX3_ok nmX3 hown hK.1 hP hD hS 0 rfl rfl 1 (by decide) (bw0 (w := Cond.fieldLink RX3 15 "DropflagMill$Loans" "lines" "[I") hts 29 rfl) (fun _ h9 => h9) rfl hin rfl (by decide +kernel) rfl rfl (Nat.le_of_ble_eq_true rfl) dX3_init_14 (fun H locs hP hD hS => ?_)
  have hP : va_P G.1 vwCl [(o, .inr (3, [.ref h, .ref q1, .null, .null, .null, .int 0])), (q1, .inl (G.2.1, 16, .inl (fun _ => 0)))] H := hP
  have hD : va_D A [(o, .inr (3, [.ref h, .ref q1, .null, .null, .null, .int 0])), (q1, .inl (G.2.1, 16, .inl (fun _ => 0)))] := hD
  refine lv_aload_n hx hb dX3_init_17 rfl (lv_at hl 0 rfl) ?_
  refine lv_bipush (v := 16) hx hb dX3_init_18 (by decide) ?_
  refine sx_newi hx hb (bw0 (w := Cond.arrayClass .int) hts 5 rfl) hK hP hD hS hA 16 (by decide) (by decide) (Nat.le_of_ble_eq_true rfl) (Nat.le_of_ble_eq_true rfl) (Nat.le_of_ble_eq_true rfl) dX3_init_20 (fun q2 H hP hD hS => ?_)
  have hP : va_P G.1 vwCl [(o, .inr (3, [.ref h, .ref q1, .null, .null, .null, .int 0])), (q1, .inl (G.2.1, 16, .inl (fun _ => 0))), (q2, .inl (G.2.1, 16, .inl (fun _ => 0)))] H := hP
  have hD : va_D A [(o, .inr (3, [.ref h, .ref q1, .null, .null, .null, .int 0])), (q1, .inl (G.2.1, 16, .inl (fun _ => 0))), (q2, .inl (G.2.1, 16, .inl (fun _ => 0)))] := hD
  refine W.widen (k := 2) (n := 32) (Nat.le_of_ble_eq_true rfl) (Nat.le_of_ble_eq_true rfl) ?_
  refine va_putF (D := G.1) (ci := 3) (v := .ref q2) (ty := .array .int) (C := RX3) (T := TX3) (N := 6) hx hb hts owX3 tyX3 tyX3_ok nmX3 hown hK.1 hP hD hS 0 rfl rfl 2 (by decide) (bw0 (w := Cond.fieldLink RX3 19 "DropflagMill$Loans" "places" "[I") hts 30 rfl) (fun _ h9 => h9) rfl hin rfl (by decide +kernel) rfl rfl (Nat.le_of_ble_eq_true rfl) dX3_init_22 (fun H locs hP hD hS => ?_)
  have hP : va_P G.1 vwCl [(o, .inr (3, [.ref h, .ref q1, .ref q2, .null, .null, .int 0])), (q1, .inl (G.2.1, 16, .inl (fun _ => 0))), (q2, .inl (G.2.1, 16, .inl (fun _ => 0)))] H := hP
  have hD : va_D A [(o, .inr (3, [.ref h, .ref q1, .ref q2, .null, .null, .int 0])), (q1, .inl (G.2.1, 16, .inl (fun _ => 0))), (q2, .inl (G.2.1, 16, .inl (fun _ => 0)))] := hD
  refine lv_aload_n hx hb dX3_init_25 rfl (lv_at hl 0 rfl) ?_
  refine lv_bipush (v := 16) hx hb dX3_init_26 (by decide) ?_
  refine sx_newz hx hb (bw0 (w := Cond.arrayClass .boolean) hts 31 rfl) hK hP hD hS hA 16 (by decide) (by decide) (Nat.le_of_ble_eq_true rfl) (Nat.le_of_ble_eq_true rfl) (Nat.le_of_ble_eq_true rfl) dX3_init_28 (fun q3 H hP hD hS => ?_)
  have hP : va_P G.1 vwCl [(o, .inr (3, [.ref h, .ref q1, .ref q2, .null, .null, .int 0])), (q1, .inl (G.2.1, 16, .inl (fun _ => 0))), (q2, .inl (G.2.1, 16, .inl (fun _ => 0))), (q3, .inl (G.2.2, 16, .inl (fun _ => 0)))] H := hP
  have hD : va_D A [(o, .inr (3, [.ref h, .ref q1, .ref q2, .null, .null, .int 0])), (q1, .inl (G.2.1, 16, .inl (fun _ => 0))), (q2, .inl (G.2.1, 16, .inl (fun _ => 0))), (q3, .inl (G.2.2, 16, .inl (fun _ => 0)))] := hD
  refine W.widen (k := 3) (n := 48) (Nat.le_of_ble_eq_true rfl) (Nat.le_of_ble_eq_true rfl) ?_
  refine va_putF (D := G.1) (ci := 3) (v := .ref q3) (ty := .array .boolean) (C := RX3) (T := TX3) (N := 6) hx hb hts owX3 tyX3 tyX3_ok nmX3 hown hK.1 hP hD hS 0 rfl rfl 3 (by decide) (bw0 (w := Cond.fieldLink RX3 22 "DropflagMill$Loans" "isOfLend" "[Z") hts 32 rfl) (fun _ h9 => h9) rfl hin rfl (by decide +kernel) rfl rfl (Nat.le_of_ble_eq_true rfl) dX3_init_30 (fun H locs hP hD hS => ?_)
  have hP : va_P G.1 vwCl [(o, .inr (3, [.ref h, .ref q1, .ref q2, .ref q3, .null, .int 0])), (q1, .inl (G.2.1, 16, .inl (fun _ => 0))), (q2, .inl (G.2.1, 16, .inl (fun _ => 0))), (q3, .inl (G.2.2, 16, .inl (fun _ => 0)))] H := hP
  have hD : va_D A [(o, .inr (3, [.ref h, .ref q1, .ref q2, .ref q3, .null, .int 0])), (q1, .inl (G.2.1, 16, .inl (fun _ => 0))), (q2, .inl (G.2.1, 16, .inl (fun _ => 0))), (q3, .inl (G.2.2, 16, .inl (fun _ => 0)))] := hD
  refine lv_aload_n hx hb dX3_init_33 rfl (lv_at hl 0 rfl) ?_
  refine lv_bipush (v := 34) hx hb dX3_init_34 (by decide) ?_
  refine sx_newi hx hb (bw0 (w := Cond.arrayClass .int) hts 5 rfl) hK hP hD hS hA 34 (by decide) (by decide) (Nat.le_of_ble_eq_true rfl) (Nat.le_of_ble_eq_true rfl) (Nat.le_of_ble_eq_true rfl) dX3_init_36 (fun q4 H hP hD hS => ?_)
  have hP : va_P G.1 vwCl [(o, .inr (3, [.ref h, .ref q1, .ref q2, .ref q3, .null, .int 0])), (q1, .inl (G.2.1, 16, .inl (fun _ => 0))), (q2, .inl (G.2.1, 16, .inl (fun _ => 0))), (q3, .inl (G.2.2, 16, .inl (fun _ => 0))), (q4, .inl (G.2.1, 34, .inl (fun _ => 0)))] H := hP
  have hD : va_D A [(o, .inr (3, [.ref h, .ref q1, .ref q2, .ref q3, .null, .int 0])), (q1, .inl (G.2.1, 16, .inl (fun _ => 0))), (q2, .inl (G.2.1, 16, .inl (fun _ => 0))), (q3, .inl (G.2.2, 16, .inl (fun _ => 0))), (q4, .inl (G.2.1, 34, .inl (fun _ => 0)))] := hD
  refine W.widen (k := 4) (n := 82) (Nat.le_of_ble_eq_true rfl) (Nat.le_of_ble_eq_true rfl) ?_
  refine va_putF (D := G.1) (ci := 3) (v := .ref q4) (ty := .array .int) (C := RX3) (T := TX3) (N := 6) hx hb hts owX3 tyX3 tyX3_ok nmX3 hown hK.1 hP hD hS 0 rfl rfl 4 (by decide) (bw0 (w := Cond.fieldLink RX3 26 "DropflagMill$Loans" "ofLine" "[I") hts 33 rfl) (fun _ h9 => h9) rfl hin rfl (by decide +kernel) rfl rfl (Nat.le_of_ble_eq_true rfl) dX3_init_38 (fun H locs hP hD hS => ?_)
  have hP : va_P G.1 vwCl [(o, .inr (3, [.ref h, .ref q1, .ref q2, .ref q3, .ref q4, .int 0])), (q1, .inl (G.2.1, 16, .inl (fun _ => 0))), (q2, .inl (G.2.1, 16, .inl (fun _ => 0))), (q3, .inl (G.2.2, 16, .inl (fun _ => 0))), (q4, .inl (G.2.1, 34, .inl (fun _ => 0)))] H := hP
  have hD : va_D A [(o, .inr (3, [.ref h, .ref q1, .ref q2, .ref q3, .ref q4, .int 0])), (q1, .inl (G.2.1, 16, .inl (fun _ => 0))), (q2, .inl (G.2.1, 16, .inl (fun _ => 0))), (q3, .inl (G.2.2, 16, .inl (fun _ => 0))), (q4, .inl (G.2.1, 34, .inl (fun _ => 0)))] := hD
  refine lv_aload_n hx hb dX3_init_41 rfl (lv_at hl 0 rfl) ?_
  refine lv_iconst (v := 0) hx hb dX3_init_42 (by decide) ?_
  refine va_put (D := G.1) (ci := 3) (v := .int 0) (ty := .int) (C := RX3) (T := TX3) (N := 6) hx hb hts owX3 tyX3 tyX3_ok nmX3 hown hK.1 hP hD hS 0 rfl rfl 5 (by decide) (bw0 (w := Cond.fieldLink RX3 29 "DropflagMill$Loans" "count" "I") hts 34 rfl) (fun _ h9 => h9) rfl (by decide +kernel) rfl rfl (Nat.le_of_ble_eq_true rfl) dX3_init_43 (fun H locs hP hD hS => ?_)
  have hP : va_P G.1 vwCl [(o, .inr (3, [.ref h, .ref q1, .ref q2, .ref q3, .ref q4, .int 0])), (q1, .inl (G.2.1, 16, .inl (fun _ => 0))), (q2, .inl (G.2.1, 16, .inl (fun _ => 0))), (q3, .inl (G.2.2, 16, .inl (fun _ => 0))), (q4, .inl (G.2.1, 34, .inl (fun _ => 0)))] H := hP
  have hD : va_D A [(o, .inr (3, [.ref h, .ref q1, .ref q2, .ref q3, .ref q4, .int 0])), (q1, .inl (G.2.1, 16, .inl (fun _ => 0))), (q2, .inl (G.2.1, 16, .inl (fun _ => 0))), (q3, .inl (G.2.2, 16, .inl (fun _ => 0))), (q4, .inl (G.2.1, 34, .inl (fun _ => 0)))] := hD
  exact sx_retN (q1, q2, q3, q4) hx hb hr hlk hP hD hS dX3_init_46
