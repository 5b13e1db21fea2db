abbrev wdX10_init : List Cond := Cond.code yX10_init cX10_init 1 none :: bwC
set_option maxHeartbeats 4000000 in
set_option maxRecDepth 100000 in
theorem t_X10_init (l : Launch) (G : sxG) (k : lxC) (o : Nat)  : lyM l yX10_init wdX10_init 1 20 3 0 G k [[(o, .inr (10, [.null, .null, .null]))]] [.ref o] (fun B v => ∃ (ok ol on : Nat), B = [[(o, .inr (10, [.ref ok, .ref ol, .ref on]))], [(ok, .inl (G.2.1, 0, .inl (fun _ => 0)))], [(ol, lxq k 0 (fun _ => none))], [(on, lxq k 0 (fun _ => none))]] ∧ v = none) := by
  refine lyM.of (cc := cX10_init) (maxL := 1) (rt := none) (by decide) rfl (Nat.le_of_ble_eq_true rfl) ?_
  intro p e s m args below meth c ⟨hx, hb, hr, hml, hown, hlk, hts, hK⟩ hnm A hA hP hD hS hE ls hl
  have hl : lv_has ls 1 [(0, .ref o)] := hl
  refine lv_aload_n hx hb dX10_init_0 rfl (lv_at hl 0 rfl) ?_
  refine W.objInit hx hb hown (bw13 (w := Cond.methodLink RX10 1 objectInit) hts 9 rfl) (bw0 (w := Cond.instanceMethod objectInit) hts 2 rfl) (bw0 (w := Cond.code objectInit ⟨#[0xb1]⟩ 1 none) hts 3 rfl) rfl (by rw [hml]; exact hl.1) rfl dX10_init_1 (Nat.le_of_ble_eq_true rfl) (Nat.le_of_ble_eq_true rfl) ?_
  refine lv_aload_n hx hb dX10_init_4 rfl (lv_at hl 0 rfl) ?_
  refine lv_iconst (v := 0) hx hb dX10_init_5 (by decide) ?_
  refine lb_newi hx hb (bw0 (w := Cond.arrayClass .int) hts 5 rfl) hK hP hD hS hA 0 (by decide) rfl (by show 0 * 4 ≤ _; omega) (by show _ ≤ 3; omega) (by show _ ≤ 0; omega) dX10_init_6 (fun a1_ H hP hD hS => ?_)
  have hP : va_P G.1 vwCl (lxF [[(o, .inr (10, [.null, .null, .null]))], [(a1_, .inl (G.2.1, 0, .inl (fun _ => 0)))]]) H := hP
  have hD : va_D A (lxF [[(o, .inr (10, [.null, .null, .null]))], [(a1_, .inl (G.2.1, 0, .inl (fun _ => 0)))]]) := hD
  refine lb_put (ci := 10) (v := .ref a1_) (ty := (.array .int)) (C := RX10) (T := TX10) (N := 3) hx hb hts owX10 tyX10 tyX10_ok nmX10 hown hK hP hD hS 0 0 rfl rfl rfl 0 (by decide) (bw13 (w := Cond.fieldLink RX10 7 "DropflagMillLaw$Own" "kinds" "[I") hts 10 rfl) (fun _ h9 => h9) rfl (by decide +kernel) rfl rfl (Nat.le_of_ble_eq_true rfl) dX10_init_8 (fun H locs hP hD hS => ?_)
  have hP : va_P G.1 vwCl (lxF [[(o, .inr (10, [.ref a1_, .null, .null]))], [(a1_, .inl (G.2.1, 0, .inl (fun _ => 0)))]]) H := hP
  have hD : va_D A (lxF [[(o, .inr (10, [.ref a1_, .null, .null]))], [(a1_, .inl (G.2.1, 0, .inl (fun _ => 0)))]]) := hD
  refine lv_aload_n hx hb dX10_init_11 rfl (lv_at hl 0 rfl) ?_
  refine lv_iconst (v := 0) hx hb dX10_init_12 (by decide) ?_
  refine lb_anew hx hb hown (bw13 (w := Cond.classLink RX10 13 "[I") hts 11 rfl) hK hE hP hD hS hA (by decide) 0 rfl (by omega) (by show _ ≤ 3; omega) (by show _ ≤ 0; omega) dX10_init_13 (fun a2_ H hP hD hS => ?_)
  have hP : va_P G.1 vwCl (lxF [[(o, .inr (10, [.ref a1_, .null, .null]))], [(a1_, .inl (G.2.1, 0, .inl (fun _ => 0)))], [(a2_, lxq k 0 (fun _ => none))]]) H := hP
  have hD : va_D A (lxF [[(o, .inr (10, [.ref a1_, .null, .null]))], [(a1_, .inl (G.2.1, 0, .inl (fun _ => 0)))], [(a2_, lxq k 0 (fun _ => none))]]) := hD
  refine lb_put (ci := 10) (v := .ref a2_) (ty := (.array (.array .int))) (C := RX10) (T := TX10) (N := 3) hx hb hts owX10 tyX10 tyX10_ok nmX10 hown hK hP hD hS 0 0 rfl rfl rfl 1 (by decide) (bw13 (w := Cond.fieldLink RX10 14 "DropflagMillLaw$Own" "lines" "[[I") hts 12 rfl) (fun _ h9 => h9) rfl (by decide +kernel) rfl rfl (Nat.le_of_ble_eq_true rfl) dX10_init_16 (fun H locs hP hD hS => ?_)
  have hP : va_P G.1 vwCl (lxF [[(o, .inr (10, [.ref a1_, .ref a2_, .null]))], [(a1_, .inl (G.2.1, 0, .inl (fun _ => 0)))], [(a2_, lxq k 0 (fun _ => none))]]) H := hP
  have hD : va_D A (lxF [[(o, .inr (10, [.ref a1_, .ref a2_, .null]))], [(a1_, .inl (G.2.1, 0, .inl (fun _ => 0)))], [(a2_, lxq k 0 (fun _ => none))]]) := hD
  refine lv_aload_n hx hb dX10_init_19 rfl (lv_at hl 0 rfl) ?_
  refine lv_iconst (v := 0) hx hb dX10_init_20 (by decide) ?_
  refine lb_anew hx hb hown (bw13 (w := Cond.classLink RX10 13 "[I") hts 11 rfl) hK hE hP hD hS hA (by decide) 0 rfl (by omega) (by show _ ≤ 3; omega) (by show _ ≤ 0; omega) dX10_init_21 (fun a3_ H hP hD hS => ?_)
  have hP : va_P G.1 vwCl (lxF [[(o, .inr (10, [.ref a1_, .ref a2_, .null]))], [(a1_, .inl (G.2.1, 0, .inl (fun _ => 0)))], [(a2_, lxq k 0 (fun _ => none))], [(a3_, lxq k 0 (fun _ => none))]]) H := hP
  have hD : va_D A (lxF [[(o, .inr (10, [.ref a1_, .ref a2_, .null]))], [(a1_, .inl (G.2.1, 0, .inl (fun _ => 0)))], [(a2_, lxq k 0 (fun _ => none))], [(a3_, lxq k 0 (fun _ => none))]]) := hD
  refine lb_put (ci := 10) (v := .ref a3_) (ty := (.array (.array .int))) (C := RX10) (T := TX10) (N := 3) hx hb hts owX10 tyX10 tyX10_ok nmX10 hown hK hP hD hS 0 0 rfl rfl rfl 2 (by decide) (bw13 (w := Cond.fieldLink RX10 18 "DropflagMillLaw$Own" "next" "[[I") hts 13 rfl) (fun _ h9 => h9) rfl (by decide +kernel) rfl rfl (Nat.le_of_ble_eq_true rfl) dX10_init_24 (fun H locs hP hD hS => ?_)
  have hP : va_P G.1 vwCl (lxF [[(o, .inr (10, [.ref a1_, .ref a2_, .ref a3_]))], [(a1_, .inl (G.2.1, 0, .inl (fun _ => 0)))], [(a2_, lxq k 0 (fun _ => none))], [(a3_, lxq k 0 (fun _ => none))]]) H := hP
  have hD : va_D A (lxF [[(o, .inr (10, [.ref a1_, .ref a2_, .ref a3_]))], [(a1_, .inl (G.2.1, 0, .inl (fun _ => 0)))], [(a2_, lxq k 0 (fun _ => none))], [(a3_, lxq k 0 (fun _ => none))]]) := hD
  exact ly_rv hx hb hr hlk hP hD hS (⟨_, _, _, rfl, rfl⟩) (by omega) (by omega) dX10_init_27
