abbrev wdX2_addFault : List Cond := Cond.code yX2_addFault cX2_addFault 5 none :: bwC
def s_X2_addFault (fc : Nat) (xn : Nat → Int32) (xl : Nat → Int32) (xp : Nat → Int32) (xo : Nat → Int32) (p1 : Int32) (p2 : Int32) (p3 : Int32) (p4 : Int32) : (Nat → Int32) × (Nat → Int32) × (Nat → Int32) × (Nat → Int32) × Nat := if (s_X9_isIndexOf 34 (nI fc)) = 0 then (xn, xl, xp, xo, fc) else (upd xn fc p1, upd xl fc p2, upd xp fc p3, upd xo fc p4, (fc + 1))
set_option maxHeartbeats 4000000 in
set_option maxRecDepth 100000 in
theorem c_X2_addFault (l : Launch) (G : sxG) (o : Nat) (m0 : Nat) (m1 : Nat) (m2 : Nat) (m3 : Nat) (fc : Nat) (xn : Nat → Int32) (xl : Nat → Int32) (xp : Nat → Int32) (xo : Nat → Int32) (p1 : Int32) (p2 : Int32) (p3 : Int32) (p4 : Int32) (hf : fc ≤ 34) : sxV l yX2_addFault wdX2_addFault 1 21 G [(o, .inr (2, [.ref m0, .ref m1, .ref m2, .ref m3, .int (nI fc)])), (m0, .inl (G.2.1, 34, .inl xn)), (m1, .inl (G.2.1, 34, .inl xl)), (m2, .inl (G.2.1, 34, .inl xp)), (m3, .inl (G.2.1, 34, .inl xo))] [.ref o, .int p1, .int p2, .int p3, .int p4] (fun u : (Nat → Int32) × (Nat → Int32) × (Nat → Int32) × (Nat → Int32) × Nat => ([(o, .inr (2, [.ref m0, .ref m1, .ref m2, .ref m3, .int (nI u.2.2.2.2)])), (m0, .inl (G.2.1, 34, .inl u.1)), (m1, .inl (G.2.1, 34, .inl u.2.1)), (m2, .inl (G.2.1, 34, .inl u.2.2.1)), (m3, .inl (G.2.1, 34, .inl u.2.2.2.1))] : va_W)) (s_X2_addFault fc xn xl xp xo p1 p2 p3 p4) := by
  refine sxV.of (cc := cX2_addFault) (maxL := 5) (by decide) rfl (Nat.le_of_ble_eq_true rfl) ?_
  intro p e s m args below meth c ⟨hx, hb, hr, hml, hown, hlk, hts, hK⟩ A hA hP hD hS ls hl
  have hl : lv_has ls 5 [(0, .ref o), (1, .int p1), (2, .int p2), (3, .int p3), (4, .int p4)] := hl
  refine lv_aload_n hx hb dX2_addFault_0 rfl (lv_at hl 0 rfl) ?_
  refine va_get (D := G.1) (ci := 2) (v := .ref m0) (C := RX2) (T := TX2) (N := 5) hx hb hts owX2 hown hK.1 hP 0 rfl rfl 0 (by decide) (bw0 (w := Cond.fieldLink RX2 9 "DropflagMill$Faults" "numbers" "[I") hts 37 rfl) (fun _ h9 => h9) rfl dX2_addFault_1 ?_
  refine lv_aload_n hx hb dX2_addFault_4 rfl (lv_at hl 0 rfl) ?_
  refine va_get (D := G.1) (ci := 2) (v := .int (nI fc)) (C := RX2) (T := TX2) (N := 5) hx hb hts owX2 hown hK.1 hP 0 rfl rfl 4 (by decide) (bw0 (w := Cond.fieldLink RX2 24 "DropflagMill$Faults" "count" "I") hts 41 rfl) (fun _ h9 => h9) rfl dX2_addFault_5 ?_
  refine sx_sn (As := [.ref m0, .int (nI fc)]) (rest := []) hx hb hml hown hts (c_X9_isIndexOf l G m0 34 xn (nI fc) ) 2 (sxGC (bi2 (w := Cond.code yX9_isIndexOf cX9_isIndexOf 2 (some .boolean)) 17 rfl)) rfl (hK.2.at 4 rfl) (List.mem_cons_of_mem _ (bi1 (w := Cond.initialized RX9) 58 rfl)) (List.mem_cons_of_mem _ (bi2 (w := Cond.static yX9_isIndexOf) 21 rfl)) (by decide +kernel) ⟨Nat.le_of_ble_eq_true rfl, Nat.le_of_ble_eq_true rfl⟩ hK hP [1] rfl rfl hl rfl (Nat.le_of_ble_eq_true rfl) ⟨Nat.zero_le _, Nat.zero_le _⟩ dX2_addFault_8 (fun r er => ?_)
  subst er
  refine lv_if_eq (tgt := 65) hx hb dX2_addFault_11 (by decide) (fun c1 => ?_) (fun c1 => ?_)
  · exact sx_retV (u := (xn, xl, xp, xo, fc)) hx hb hr hlk hK hP hD hS (by simp only [s_X2_addFault, if_pos c1]) dX2_addFault_65
  · have nc1 : fc < 34 := sx_ixNat (by decide) (by omega) c1
    refine lv_aload_n hx hb dX2_addFault_14 rfl (lv_at hl 0 rfl) ?_
    refine va_get (D := G.1) (ci := 2) (v := .ref m0) (C := RX2) (T := TX2) (N := 5) hx hb hts owX2 hown hK.1 hP 0 rfl rfl 0 (by decide) (bw0 (w := Cond.fieldLink RX2 9 "DropflagMill$Faults" "numbers" "[I") hts 37 rfl) (fun _ h9 => h9) rfl dX2_addFault_15 ?_
    refine lv_aload_n hx hb dX2_addFault_18 rfl (lv_at hl 0 rfl) ?_
    refine va_get (D := G.1) (ci := 2) (v := .int (nI fc)) (C := RX2) (T := TX2) (N := 5) hx hb hts owX2 hown hK.1 hP 0 rfl rfl 4 (by decide) (bw0 (w := Cond.fieldLink RX2 24 "DropflagMill$Faults" "count" "I") hts 41 rfl) (fun _ h9 => h9) rfl dX2_addFault_19 ?_
    refine lv_iload_n hx hb dX2_addFault_22 rfl (lv_at hl 1 rfl) ?_
    refine va_iast hx hb hK.1 hP hD hS 1 0 rfl rfl (i := nI fc) (vp_in_nI (n := fc) (by omega) (by omega)) dX2_addFault_23 (fun H locs hP hD hS => ?_)
    rw [show (nI fc : Int32).toNatClampNeg = fc from nI_clamp (n := fc) (by omega)] at hP hD
    have hP : va_P G.1 vwCl [(o, .inr (2, [.ref m0, .ref m1, .ref m2, .ref m3, .int (nI fc)])), (m0, .inl (G.2.1, 34, .inl (upd xn fc p1))), (m1, .inl (G.2.1, 34, .inl xl)), (m2, .inl (G.2.1, 34, .inl xp)), (m3, .inl (G.2.1, 34, .inl xo))] H := hP
    have hD : va_D A [(o, .inr (2, [.ref m0, .ref m1, .ref m2, .ref m3, .int (nI fc)])), (m0, .inl (G.2.1, 34, .inl (upd xn fc p1))), (m1, .inl (G.2.1, 34, .inl xl)), (m2, .inl (G.2.1, 34, .inl xp)), (m3, .inl (G.2.1, 34, .inl xo))] := hD
    refine lv_aload_n hx hb dX2_addFault_24 rfl (lv_at hl 0 rfl) ?_
    refine va_get (D := G.1) (ci := 2) (v := .ref m1) (C := RX2) (T := TX2) (N := 5) hx hb hts owX2 hown hK.1 hP 0 rfl rfl 1 (by decide) (bw0 (w := Cond.fieldLink RX2 15 "DropflagMill$Faults" "lines" "[I") hts 38 rfl) (fun _ h9 => h9) rfl dX2_addFault_25 ?_
    refine lv_aload_n hx hb dX2_addFault_28 rfl (lv_at hl 0 rfl) ?_
    refine va_get (D := G.1) (ci := 2) (v := .int (nI fc)) (C := RX2) (T := TX2) (N := 5) hx hb hts owX2 hown hK.1 hP 0 rfl rfl 4 (by decide) (bw0 (w := Cond.fieldLink RX2 24 "DropflagMill$Faults" "count" "I") hts 41 rfl) (fun _ h9 => h9) rfl dX2_addFault_29 ?_
    refine lv_iload_n hx hb dX2_addFault_32 rfl (lv_at hl 2 rfl) ?_
    refine va_iast hx hb hK.1 hP hD hS 2 0 rfl rfl (i := nI fc) (vp_in_nI (n := fc) (by omega) (by omega)) dX2_addFault_33 (fun H locs hP hD hS => ?_)
    rw [show (nI fc : Int32).toNatClampNeg = fc from nI_clamp (n := fc) (by omega)] at hP hD
    have hP : va_P G.1 vwCl [(o, .inr (2, [.ref m0, .ref m1, .ref m2, .ref m3, .int (nI fc)])), (m0, .inl (G.2.1, 34, .inl (upd xn fc p1))), (m1, .inl (G.2.1, 34, .inl (upd xl fc p2))), (m2, .inl (G.2.1, 34, .inl xp)), (m3, .inl (G.2.1, 34, .inl xo))] H := hP
    have hD : va_D A [(o, .inr (2, [.ref m0, .ref m1, .ref m2, .ref m3, .int (nI fc)])), (m0, .inl (G.2.1, 34, .inl (upd xn fc p1))), (m1, .inl (G.2.1, 34, .inl (upd xl fc p2))), (m2, .inl (G.2.1, 34, .inl xp)), (m3, .inl (G.2.1, 34, .inl xo))] := hD
    refine lv_aload_n hx hb dX2_addFault_34 rfl (lv_at hl 0 rfl) ?_
    refine va_get (D := G.1) (ci := 2) (v := .ref m2) (C := RX2) (T := TX2) (N := 5) hx hb hts owX2 hown hK.1 hP 0 rfl rfl 2 (by decide) (bw0 (w := Cond.fieldLink RX2 18 "DropflagMill$Faults" "places" "[I") hts 39 rfl) (fun _ h9 => h9) rfl dX2_addFault_35 ?_
    refine lv_aload_n hx hb dX2_addFault_38 rfl (lv_at hl 0 rfl) ?_
    refine va_get (D := G.1) (ci := 2) (v := .int (nI fc)) (C := RX2) (T := TX2) (N := 5) hx hb hts owX2 hown hK.1 hP 0 rfl rfl 4 (by decide) (bw0 (w := Cond.fieldLink RX2 24 "DropflagMill$Faults" "count" "I") hts 41 rfl) (fun _ h9 => h9) rfl dX2_addFault_39 ?_
    refine lv_iload_n hx hb dX2_addFault_42 rfl (lv_at hl 3 rfl) ?_
    refine va_iast hx hb hK.1 hP hD hS 3 0 rfl rfl (i := nI fc) (vp_in_nI (n := fc) (by omega) (by omega)) dX2_addFault_43 (fun H locs hP hD hS => ?_)
    rw [show (nI fc : Int32).toNatClampNeg = fc from nI_clamp (n := fc) (by omega)] at hP hD
    have hP : va_P G.1 vwCl [(o, .inr (2, [.ref m0, .ref m1, .ref m2, .ref m3, .int (nI fc)])), (m0, .inl (G.2.1, 34, .inl (upd xn fc p1))), (m1, .inl (G.2.1, 34, .inl (upd xl fc p2))), (m2, .inl (G.2.1, 34, .inl (upd xp fc p3))), (m3, .inl (G.2.1, 34, .inl xo))] H := hP
    have hD : va_D A [(o, .inr (2, [.ref m0, .ref m1, .ref m2, .ref m3, .int (nI fc)])), (m0, .inl (G.2.1, 34, .inl (upd xn fc p1))), (m1, .inl (G.2.1, 34, .inl (upd xl fc p2))), (m2, .inl (G.2.1, 34, .inl (upd xp fc p3))), (m3, .inl (G.2.1, 34, .inl xo))] := hD
    refine lv_aload_n hx hb dX2_addFault_44 rfl (lv_at hl 0 rfl) ?_
    refine va_get (D := G.1) (ci := 2) (v := .ref m3) (C := RX2) (T := TX2) (N := 5) hx hb hts owX2 hown hK.1 hP 0 rfl rfl 3 (by decide) (bw0 (w := Cond.fieldLink RX2 21 "DropflagMill$Faults" "loans" "[I") hts 40 rfl) (fun _ h9 => h9) rfl dX2_addFault_45 ?_
    refine lv_aload_n hx hb dX2_addFault_48 rfl (lv_at hl 0 rfl) ?_
    refine va_get (D := G.1) (ci := 2) (v := .int (nI fc)) (C := RX2) (T := TX2) (N := 5) hx hb hts owX2 hown hK.1 hP 0 rfl rfl 4 (by decide) (bw0 (w := Cond.fieldLink RX2 24 "DropflagMill$Faults" "count" "I") hts 41 rfl) (fun _ h9 => h9) rfl dX2_addFault_49 ?_
    refine lv_iload hx hb dX2_addFault_52 (lv_at hl 4 rfl) ?_
    refine va_iast hx hb hK.1 hP hD hS 4 0 rfl rfl (i := nI fc) (vp_in_nI (n := fc) (by omega) (by omega)) dX2_addFault_54 (fun H locs hP hD hS => ?_)
    rw [show (nI fc : Int32).toNatClampNeg = fc from nI_clamp (n := fc) (by omega)] at hP hD
    have hP : va_P G.1 vwCl [(o, .inr (2, [.ref m0, .ref m1, .ref m2, .ref m3, .int (nI fc)])), (m0, .inl (G.2.1, 34, .inl (upd xn fc p1))), (m1, .inl (G.2.1, 34, .inl (upd xl fc p2))), (m2, .inl (G.2.1, 34, .inl (upd xp fc p3))), (m3, .inl (G.2.1, 34, .inl (upd xo fc p4)))] H := hP
    have hD : va_D A [(o, .inr (2, [.ref m0, .ref m1, .ref m2, .ref m3, .int (nI fc)])), (m0, .inl (G.2.1, 34, .inl (upd xn fc p1))), (m1, .inl (G.2.1, 34, .inl (upd xl fc p2))), (m2, .inl (G.2.1, 34, .inl (upd xp fc p3))), (m3, .inl (G.2.1, 34, .inl (upd xo fc p4)))] := hD
    refine lv_aload_n hx hb dX2_addFault_55 rfl (lv_at hl 0 rfl) ?_
    refine lv_dup hx hb dX2_addFault_56 rfl ?_
    refine va_get (D := G.1) (ci := 2) (v := .int (nI fc)) (C := RX2) (T := TX2) (N := 5) hx hb hts owX2 hown hK.1 hP 0 rfl rfl 4 (by decide) (bw0 (w := Cond.fieldLink RX2 24 "DropflagMill$Faults" "count" "I") hts 41 rfl) (fun _ h9 => h9) rfl dX2_addFault_57 ?_
    refine lv_iconst (v := 1) hx hb dX2_addFault_60 (by decide) ?_
    refine lv_iadd hx hb dX2_addFault_61 ?_
    rw [show (nI fc) + 1 = nI (fc + 1) from nI_add fc 1]
    refine va_put (D := G.1) (ci := 2) (v := .int (nI (fc + 1))) (ty := .int) (C := RX2) (T := TX2) (N := 5) hx hb hts owX2 tyX2 tyX2_ok nmX2 hown hK.1 hP hD hS 0 rfl rfl 4 (by decide) (bw0 (w := Cond.fieldLink RX2 24 "DropflagMill$Faults" "count" "I") hts 41 rfl) (fun _ h9 => h9) rfl (by decide +kernel) rfl rfl (Nat.le_of_ble_eq_true rfl) dX2_addFault_62 (fun H locs hP hD hS => ?_)
    have hP : va_P G.1 vwCl [(o, .inr (2, [.ref m0, .ref m1, .ref m2, .ref m3, .int (nI (fc + 1))])), (m0, .inl (G.2.1, 34, .inl (upd xn fc p1))), (m1, .inl (G.2.1, 34, .inl (upd xl fc p2))), (m2, .inl (G.2.1, 34, .inl (upd xp fc p3))), (m3, .inl (G.2.1, 34, .inl (upd xo fc p4)))] H := hP
    have hD : va_D A [(o, .inr (2, [.ref m0, .ref m1, .ref m2, .ref m3, .int (nI (fc + 1))])), (m0, .inl (G.2.1, 34, .inl (upd xn fc p1))), (m1, .inl (G.2.1, 34, .inl (upd xl fc p2))), (m2, .inl (G.2.1, 34, .inl (upd xp fc p3))), (m3, .inl (G.2.1, 34, .inl (upd xo fc p4)))] := hD
    exact sx_retV (u := (upd xn fc p1, upd xl fc p2, upd xp fc p3, upd xo fc p4, (fc + 1))) hx hb hr hlk hK hP hD hS (by simp only [s_X2_addFault, if_neg c1]) dX2_addFault_65

abbrev wdX2_fact : List Cond := Cond.code yX2_fact cX2_fact 3 (some .int) :: bwC
def s_X2_fact (fc : Nat) (xn : Nat → Int32) (xl : Nat → Int32) (xp : Nat → Int32) (xo : Nat → Int32) (p1 : Int32) (p2 : Int32) : Int32 := if (s_X2_isFault fc p1) = 0 then (-1) else (if p2 = 0 then xn p1.toNatClampNeg else (if p2 = 1 then xl p1.toNatClampNeg else (if p2 = 2 then xp p1.toNatClampNeg else xo p1.toNatClampNeg)))
set_option maxHeartbeats 4000000 in
set_option maxRecDepth 100000 in
theorem c_X2_fact (l : Launch) (G : sxG) (o : Nat) (m0 : Nat) (m1 : Nat) (m2 : Nat) (m3 : Nat) (fc : Nat) (xn : Nat → Int32) (xl : Nat → Int32) (xp : Nat → Int32) (xo : Nat → Int32) (p1 : Int32) (p2 : Int32) (hf : fc ≤ 34) : sxM l yX2_fact wdX2_fact 1 21 G [(o, .inr (2, [.ref m0, .ref m1, .ref m2, .ref m3, .int (nI fc)])), (m0, .inl (G.2.1, 34, .inl xn)), (m1, .inl (G.2.1, 34, .inl xl)), (m2, .inl (G.2.1, 34, .inl xp)), (m3, .inl (G.2.1, 34, .inl xo))] [.ref o, .int p1, .int p2] (fun r => r = s_X2_fact fc xn xl xp xo p1 p2) := by
  refine sxM.of (cc := cX2_fact) (maxL := 3) (by decide) rfl (Nat.le_of_ble_eq_true rfl) ?_
  intro p e s m args below meth c ⟨hx, hb, hr, hml, hown, hlk, hts, hK⟩ hP ls hl
  have hl : lv_has ls 3 [(0, .ref o), (1, .int p1), (2, .int p2)] := hl
  refine lv_aload_n hx hb dX2_fact_0 rfl (lv_at hl 0 rfl) ?_
  refine lv_iload_n hx hb dX2_fact_1 rfl (lv_at hl 1 rfl) ?_
  refine sx_v (As := [.int p1]) (rest := []) hx hb hml hown hts (c_X2_isFault l G o m0 m1 m2 m3 fc p1 ) 1 (sxGV (bi5 (w := Cond.methodLink RX2 32 yX2_isFault) 31 rfl) (bi5 (w := Cond.instanceMethod yX2_isFault) 32 rfl) (bi5 (w := Cond.selects RX2 yX2_isFault yX2_isFault) 33 rfl) (bi0 (w := Cond.initialized RX2) 58 rfl) (bi5 (w := Cond.code yX2_isFault cX2_isFault 2 (some .boolean)) 29 rfl)) rfl (by decide +kernel) ⟨Nat.le_of_ble_eq_true rfl, Nat.le_of_ble_eq_true rfl⟩ hK hP [0] rfl 0 rfl rfl rfl hl rfl (Nat.le_of_ble_eq_true rfl) ⟨Nat.zero_le _, Nat.zero_le _⟩ dX2_fact_2 (fun r er => ?_)
  subst er
  refine lv_if_ne (tgt := 10) hx hb dX2_fact_5 (by decide) (fun c1 => ?_) (fun c1 => ?_)
  · refine lv_iload_n hx hb dX2_fact_10 rfl (lv_at hl 2 rfl) ?_
    by_cases c2 : p2 = 0
    · refine lv_tableIn (off := 25) (tgt := 36) hx hb dX2_fact_11 (by rw [c2]; decide) (by rw [c2]; decide) (by rw [c2]; rfl) (by decide) ?_
      refine lv_aload_n hx hb dX2_fact_36 rfl (lv_at hl 0 rfl) ?_
      refine va_get (D := G.1) (ci := 2) (v := .ref m0) (C := RX2) (T := TX2) (N := 5) hx hb hts owX2 hown hK.1 hP 0 rfl rfl 0 (by decide) (bw0 (w := Cond.fieldLink RX2 9 "DropflagMill$Faults" "numbers" "[I") hts 37 rfl) (fun _ h9 => h9) rfl dX2_fact_37 ?_
      refine lv_iload_n hx hb dX2_fact_40 rfl (lv_at hl 1 rfl) ?_
      refine va_iald hx hb hK.1 hP 1 0 rfl rfl (i := p1) (sx_in_lt (by decide) ⟨fc, by omega, rfl⟩ (sx_isFault c1).1 (sx_isFault c1).2) dX2_fact_41 ?_
      exact sx_ret hx hb hr hlk rfl (by simp only [s_X2_fact, if_neg c1, if_pos c2]) dX2_fact_42
    · by_cases c3 : p2 = 1
      · refine lv_tableIn (off := 32) (tgt := 43) hx hb dX2_fact_11 (by rw [c3]; decide) (by rw [c3]; decide) (by rw [c3]; rfl) (by decide) ?_
        refine lv_aload_n hx hb dX2_fact_43 rfl (lv_at hl 0 rfl) ?_
        refine va_get (D := G.1) (ci := 2) (v := .ref m1) (C := RX2) (T := TX2) (N := 5) hx hb hts owX2 hown hK.1 hP 0 rfl rfl 1 (by decide) (bw0 (w := Cond.fieldLink RX2 15 "DropflagMill$Faults" "lines" "[I") hts 38 rfl) (fun _ h9 => h9) rfl dX2_fact_44 ?_
        refine lv_iload_n hx hb dX2_fact_47 rfl (lv_at hl 1 rfl) ?_
        refine va_iald hx hb hK.1 hP 2 0 rfl rfl (i := p1) (sx_in_lt (by decide) ⟨fc, by omega, rfl⟩ (sx_isFault c1).1 (sx_isFault c1).2) dX2_fact_48 ?_
        exact sx_ret hx hb hr hlk rfl (by simp only [s_X2_fact, if_neg c1, if_neg c2, if_pos c3]) dX2_fact_49
      · by_cases c4 : p2 = 2
        · refine lv_tableIn (off := 39) (tgt := 50) hx hb dX2_fact_11 (by rw [c4]; decide) (by rw [c4]; decide) (by rw [c4]; rfl) (by decide) ?_
          refine lv_aload_n hx hb dX2_fact_50 rfl (lv_at hl 0 rfl) ?_
          refine va_get (D := G.1) (ci := 2) (v := .ref m2) (C := RX2) (T := TX2) (N := 5) hx hb hts owX2 hown hK.1 hP 0 rfl rfl 2 (by decide) (bw0 (w := Cond.fieldLink RX2 18 "DropflagMill$Faults" "places" "[I") hts 39 rfl) (fun _ h9 => h9) rfl dX2_fact_51 ?_
          refine lv_iload_n hx hb dX2_fact_54 rfl (lv_at hl 1 rfl) ?_
          refine va_iald hx hb hK.1 hP 3 0 rfl rfl (i := p1) (sx_in_lt (by decide) ⟨fc, by omega, rfl⟩ (sx_isFault c1).1 (sx_isFault c1).2) dX2_fact_55 ?_
          exact sx_ret hx hb hr hlk rfl (by simp only [s_X2_fact, if_neg c1, if_neg c2, if_neg c3, if_pos c4]) dX2_fact_56
        · refine lv_tableOut (tgt := 57) hx hb dX2_fact_11 (by have := lv_neT (a := 0) c2 rfl; have := lv_neT (a := 1) c3 rfl; have := lv_neT (a := 2) c4 rfl; omega) (by decide) ?_
          refine lv_aload_n hx hb dX2_fact_57 rfl (lv_at hl 0 rfl) ?_
          refine va_get (D := G.1) (ci := 2) (v := .ref m3) (C := RX2) (T := TX2) (N := 5) hx hb hts owX2 hown hK.1 hP 0 rfl rfl 3 (by decide) (bw0 (w := Cond.fieldLink RX2 21 "DropflagMill$Faults" "loans" "[I") hts 40 rfl) (fun _ h9 => h9) rfl dX2_fact_58 ?_
          refine lv_iload_n hx hb dX2_fact_61 rfl (lv_at hl 1 rfl) ?_
          refine va_iald hx hb hK.1 hP 4 0 rfl rfl (i := p1) (sx_in_lt (by decide) ⟨fc, by omega, rfl⟩ (sx_isFault c1).1 (sx_isFault c1).2) dX2_fact_62 ?_
          exact sx_ret hx hb hr hlk rfl (by simp only [s_X2_fact, if_neg c1, if_neg c2, if_neg c3, if_neg c4]) dX2_fact_63
  · refine lv_iconst (v := (-1)) hx hb dX2_fact_8 (by decide) ?_
    exact sx_ret hx hb hr hlk rfl (by simp only [s_X2_fact, if_pos c1]) dX2_fact_9

abbrev wdX2_numberOfLine : List Cond := Cond.code yX2_numberOfLine cX2_numberOfLine 3 (some .int) :: bwC
def sl_X2_numberOfLine_L2 (fc : Nat) (xn : Nat → Int32) (xl : Nat → Int32) (p1 : Int32)  : Nat → (Nat) → Int32
  | 0, _ => 0
  | k + 1, i => if (nI fc) ≤ (nI i) then 0 else (if (xl i) = p1 then xn i else sl_X2_numberOfLine_L2 fc xn xl p1 k (i + 1))
set_option maxHeartbeats 4000000 in
set_option maxRecDepth 100000 in
theorem l_X2_numberOfLine_L2 (l : Launch) (G : sxG) (o : Nat) (m0 : Nat) (m1 : Nat) (m2 : Nat) (m3 : Nat) (fc : Nat) (xn : Nat → Int32) (xl : Nat → Int32) (p1 : Int32) (hf : fc ≤ 34)   {p : Program} {e : Env} {s : State} {m : MethodId} {args : Array Value} {below : List Frame} {meth : Method} {c : Code} (hB : sxB G yX2_numberOfLine wdX2_numberOfLine cX2_numberOfLine 3 (.int) p s m args meth c) (hP : va_P G.1 vwCl [(o, .inr (2, [.ref m0, .ref m1, .ref m2, .ref m3, .int (nI fc)])), (m0, .inl (G.2.1, 34, .inl xn)), (m1, .inl (G.2.1, 34, .inl xl))] s.heap) (S0 : Int32) : ∀ (k : Nat) (i : Nat), i ≤ fc → 34 - i < k → S0 = sl_X2_numberOfLine_L2 fc xn xl p1 k i → ∀ ls : Array Slot, lv_has ls 3 [(0, .ref o), (1, .int p1), (2, .int (nI i))] → W p l e ({ frames := 0, cells := 0, slots := 0, locals := 0 }) s m args below meth c s.heap [] 0 0 (MQ below (vp_Si (fun r => r = S0)) args s 0 0 (fun _ => False)) (F0 m 2 ls []) := by
  obtain ⟨hx, hb, hr, hml, hown, hlk, hts, hK⟩ := id hB
  intro k
  induction k with
  | zero =>
    intro i _ hm
    exact absurd hm (Nat.not_lt_zero _)
  | succ k ih =>
    intro i hi hm hE ls hl
    refine lv_iload_n hx hb dX2_numberOfLine_2 rfl (lv_at hl 2 rfl) ?_
    refine lv_aload_n hx hb dX2_numberOfLine_3 rfl (lv_at hl 0 rfl) ?_
    refine va_get (D := G.1) (ci := 2) (v := .int (nI fc)) (C := RX2) (T := TX2) (N := 5) hx hb hts owX2 hown hK.1 hP 0 rfl rfl 4 (by decide) (bw0 (w := Cond.fieldLink RX2 24 "DropflagMill$Faults" "count" "I") hts 41 rfl) (fun _ h9 => h9) rfl dX2_numberOfLine_4 ?_
    refine lv_icmp_ge (tgt := 33) hx hb dX2_numberOfLine_7 (by decide) (fun c1 => ?_) (fun c1 => ?_)
    · have nc1 := (nI_leI (a := fc) (b := i) (by omega) (by omega)).mp c1
      refine lv_iconst (v := 0) hx hb dX2_numberOfLine_33 (by decide) ?_
      exact sx_ret hx hb hr hlk rfl (by rw [hE]; simp only [sl_X2_numberOfLine_L2, if_pos c1]) dX2_numberOfLine_34
    · have nc1 := (not_congr (nI_leI (a := fc) (b := i) (by omega) (by omega))).mp c1
      refine lv_aload_n hx hb dX2_numberOfLine_10 rfl (lv_at hl 0 rfl) ?_
      refine va_get (D := G.1) (ci := 2) (v := .ref m1) (C := RX2) (T := TX2) (N := 5) hx hb hts owX2 hown hK.1 hP 0 rfl rfl 1 (by decide) (bw0 (w := Cond.fieldLink RX2 15 "DropflagMill$Faults" "lines" "[I") hts 38 rfl) (fun _ h9 => h9) rfl dX2_numberOfLine_11 ?_
      refine lv_iload_n hx hb dX2_numberOfLine_14 rfl (lv_at hl 2 rfl) ?_
      refine va_iald hx hb hK.1 hP 2 0 rfl rfl (i := nI i) (vp_in_nI (n := i) (by omega) (by omega)) dX2_numberOfLine_15 ?_
      rw [show (nI i : Int32).toNatClampNeg = i from nI_clamp (n := i) (by omega)]
      refine lv_iload_n hx hb dX2_numberOfLine_16 rfl (lv_at hl 1 rfl) ?_
      refine lv_icmp_ne (tgt := 27) hx hb dX2_numberOfLine_17 (by decide) (fun c2 => ?_) (fun c2 => ?_)
      · refine lv_iinc (v := nI (i + 1)) (lv' := [(2, .int (nI (i + 1))), (0, .ref o), (1, .int p1)]) hx hb dX2_numberOfLine_27 hl (k := 2) rfl (nI_1 i) (by decide) rfl (fun ls hl => ?_)
        refine lv_goto (tgt := 2) hx hb dX2_numberOfLine_30 (by decide) ?_
        exact ih (i + 1) (by omega) (by omega) (by rw [hE]; simp only [sl_X2_numberOfLine_L2, if_neg c1, if_neg c2]) ls (lv_sub hl [1, 2, 0] rfl)
      · refine lv_aload_n hx hb dX2_numberOfLine_20 rfl (lv_at hl 0 rfl) ?_
        refine va_get (D := G.1) (ci := 2) (v := .ref m0) (C := RX2) (T := TX2) (N := 5) hx hb hts owX2 hown hK.1 hP 0 rfl rfl 0 (by decide) (bw0 (w := Cond.fieldLink RX2 9 "DropflagMill$Faults" "numbers" "[I") hts 37 rfl) (fun _ h9 => h9) rfl dX2_numberOfLine_21 ?_
        refine lv_iload_n hx hb dX2_numberOfLine_24 rfl (lv_at hl 2 rfl) ?_
        refine va_iald hx hb hK.1 hP 1 0 rfl rfl (i := nI i) (vp_in_nI (n := i) (by omega) (by omega)) dX2_numberOfLine_25 ?_
        rw [show (nI i : Int32).toNatClampNeg = i from nI_clamp (n := i) (by omega)]
        exact sx_ret hx hb hr hlk rfl (by rw [hE]; simp only [sl_X2_numberOfLine_L2, if_neg c1, if_pos c2]) dX2_numberOfLine_26
def s_X2_numberOfLine (fc : Nat) (xn : Nat → Int32) (xl : Nat → Int32) (p1 : Int32) : Int32 := sl_X2_numberOfLine_L2 fc xn xl p1  35 0
set_option maxHeartbeats 4000000 in
set_option maxRecDepth 100000 in
theorem c_X2_numberOfLine (l : Launch) (G : sxG) (o : Nat) (m0 : Nat) (m1 : Nat) (m2 : Nat) (m3 : Nat) (fc : Nat) (xn : Nat → Int32) (xl : Nat → Int32) (p1 : Int32) (hf : fc ≤ 34) : sxM l yX2_numberOfLine wdX2_numberOfLine 0 0 G [(o, .inr (2, [.ref m0, .ref m1, .ref m2, .ref m3, .int (nI fc)])), (m0, .inl (G.2.1, 34, .inl xn)), (m1, .inl (G.2.1, 34, .inl xl))] [.ref o, .int p1] (fun r => r = s_X2_numberOfLine fc xn xl p1) := by
  refine sxM.of (cc := cX2_numberOfLine) (maxL := 3) (by decide) rfl (Nat.le_of_ble_eq_true rfl) ?_
  intro p e s m args below meth c ⟨hx, hb, hr, hml, hown, hlk, hts, hK⟩ hP ls hl
  have hl : lv_has ls 3 [(0, .ref o), (1, .int p1)] := hl
  refine lv_iconst (v := 0) hx hb dX2_numberOfLine_0 (by decide) ?_
  refine lv_istore_n (lv' := [(2, .int 0), (0, .ref o), (1, .int p1)]) hx hb dX2_numberOfLine_1 rfl hl (by decide) rfl (fun ls hl => ?_)
  have hB0 : sxB G yX2_numberOfLine wdX2_numberOfLine cX2_numberOfLine 3 (.int) p s m args meth c := ⟨hx, hb, hr, hml, hown, hlk, hts, hK⟩
  exact l_X2_numberOfLine_L2 l G o m0 m1 m2 m3 fc xn xl p1 hf   hB0 hP _  35 0 (Nat.zero_le _) (by omega) (by simp only [s_X2_numberOfLine]) ls (lv_sub hl [1, 2, 0] rfl)

abbrev wdX3_lineOf : List Cond := Cond.code yX3_lineOf cX3_lineOf 2 (some .int) :: bwC
def s_X3_lineOf (lc : Nat) (yl : Nat → Int32) (p1 : Int32) : Int32 := if (s_X3_isLoan lc p1) = 0 then (-1) else yl p1.toNatClampNeg
set_option maxHeartbeats 4000000 in
set_option maxRecDepth 100000 in
theorem c_X3_lineOf (l : Launch) (G : sxG) (o : Nat) (h : Nat) (l1 : Nat) (l2 : Nat) (l3 : Nat) (l4 : Nat) (lc : Nat) (yl : Nat → Int32) (p1 : Int32) (hl0 : lc ≤ 16) : sxM l yX3_lineOf wdX3_lineOf 1 21 G [(o, .inr (3, [.ref h, .ref l1, .ref l2, .ref l3, .ref l4, .int (nI lc)])), (l1, .inl (G.2.1, 16, .inl yl))] [.ref o, .int p1] (fun r => r = s_X3_lineOf lc yl p1) := by
  refine sxM.of (cc := cX3_lineOf) (maxL := 2) (by decide) rfl (Nat.le_of_ble_eq_true rfl) ?_
  intro p e s m args below meth c ⟨hx, hb, hr, hml, hown, hlk, hts, hK⟩ hP ls hl
  have hl : lv_has ls 2 [(0, .ref o), (1, .int p1)] := hl
  refine lv_aload_n hx hb dX3_lineOf_0 rfl (lv_at hl 0 rfl) ?_
  refine lv_iload_n hx hb dX3_lineOf_1 rfl (lv_at hl 1 rfl) ?_
  refine sx_v (As := [.int p1]) (rest := []) hx hb hml hown hts (c_X3_isLoan l G o h l1 l2 l3 l4 lc p1 ) 1 (sxGV (bi3 (w := Cond.methodLink RX3 51 yX3_isLoan) 48 rfl) (bi3 (w := Cond.instanceMethod yX3_isLoan) 49 rfl) (bi3 (w := Cond.selects RX3 yX3_isLoan yX3_isLoan) 50 rfl) (bi0 (w := Cond.initialized RX3) 54 rfl) (bi3 (w := Cond.code yX3_isLoan cX3_isLoan 2 (some .boolean)) 46 rfl)) rfl (by decide +kernel) ⟨Nat.le_of_ble_eq_true rfl, Nat.le_of_ble_eq_true rfl⟩ hK hP [0] rfl 0 rfl rfl rfl hl rfl (Nat.le_of_ble_eq_true rfl) ⟨Nat.zero_le _, Nat.zero_le _⟩ dX3_lineOf_2 (fun r er => ?_)
  subst er
  refine lv_if_eq (tgt := 17) hx hb dX3_lineOf_5 (by decide) (fun c1 => ?_) (fun c1 => ?_)
  · refine lv_iconst (v := (-1)) hx hb dX3_lineOf_17 (by decide) ?_
    exact sx_ret hx hb hr hlk rfl (by simp only [s_X3_lineOf, if_pos c1]) dX3_lineOf_18
  · refine lv_aload_n hx hb dX3_lineOf_8 rfl (lv_at hl 0 rfl) ?_
    refine va_get (D := G.1) (ci := 3) (v := .ref l1) (C := RX3) (T := TX3) (N := 6) hx hb hts owX3 hown hK.1 hP 0 rfl rfl 1 (by decide) (bw0 (w := Cond.fieldLink RX3 15 "DropflagMill$Loans" "lines" "[I") hts 29 rfl) (fun _ h9 => h9) rfl dX3_lineOf_9 ?_
    refine lv_iload_n hx hb dX3_lineOf_12 rfl (lv_at hl 1 rfl) ?_
    refine va_iald hx hb hK.1 hP 1 0 rfl rfl (i := p1) (sx_in_lt (by decide) ⟨lc, by omega, rfl⟩ (sx_isLoan c1).1 (sx_isLoan c1).2) dX3_lineOf_13 ?_
    refine lv_goto (tgt := 18) hx hb dX3_lineOf_14 (by decide) ?_
    exact sx_ret hx hb hr hlk rfl (by simp only [s_X3_lineOf, if_neg c1]) dX3_lineOf_18

abbrev wdX3_placeOf : List Cond := Cond.code yX3_placeOf cX3_placeOf 2 (some .int) :: bwC
def s_X3_placeOf (lc : Nat) (yp : Nat → Int32) (p1 : Int32) : Int32 := if (s_X3_isLoan lc p1) = 0 then (-1) else yp p1.toNatClampNeg
set_option maxHeartbeats 4000000 in
set_option maxRecDepth 100000 in
theorem c_X3_placeOf (l : Launch) (G : sxG) (o : Nat) (h : Nat) (l1 : Nat) (l2 : Nat) (l3 : Nat) (l4 : Nat) (lc : Nat) (yp : Nat → Int32) (p1 : Int32) (hl0 : lc ≤ 16) : sxM l yX3_placeOf wdX3_placeOf 1 21 G [(o, .inr (3, [.ref h, .ref l1, .ref l2, .ref l3, .ref l4, .int (nI lc)])), (l2, .inl (G.2.1, 16, .inl yp))] [.ref o, .int p1] (fun r => r = s_X3_placeOf lc yp p1) := by
  refine sxM.of (cc := cX3_placeOf) (maxL := 2) (by decide) rfl (Nat.le_of_ble_eq_true rfl) ?_
  intro p e s m args below meth c ⟨hx, hb, hr, hml, hown, hlk, hts, hK⟩ hP ls hl
  have hl : lv_has ls 2 [(0, .ref o), (1, .int p1)] := hl
  refine lv_aload_n hx hb dX3_placeOf_0 rfl (lv_at hl 0 rfl) ?_
  refine lv_iload_n hx hb dX3_placeOf_1 rfl (lv_at hl 1 rfl) ?_
  refine sx_v (As := [.int p1]) (rest := []) hx hb hml hown hts (c_X3_isLoan l G o h l1 l2 l3 l4 lc p1 ) 1 (sxGV (bi3 (w := Cond.methodLink RX3 51 yX3_isLoan) 48 rfl) (bi3 (w := Cond.instanceMethod yX3_isLoan) 49 rfl) (bi3 (w := Cond.selects RX3 yX3_isLoan yX3_isLoan) 50 rfl) (bi0 (w := Cond.initialized RX3) 54 rfl) (bi3 (w := Cond.code yX3_isLoan cX3_isLoan 2 (some .boolean)) 46 rfl)) rfl (by decide +kernel) ⟨Nat.le_of_ble_eq_true rfl, Nat.le_of_ble_eq_true rfl⟩ hK hP [0] rfl 0 rfl rfl rfl hl rfl (Nat.le_of_ble_eq_true rfl) ⟨Nat.zero_le _, Nat.zero_le _⟩ dX3_placeOf_2 (fun r er => ?_)
  subst er
  refine lv_if_eq (tgt := 17) hx hb dX3_placeOf_5 (by decide) (fun c1 => ?_) (fun c1 => ?_)
  · refine lv_iconst (v := (-1)) hx hb dX3_placeOf_17 (by decide) ?_
    exact sx_ret hx hb hr hlk rfl (by simp only [s_X3_placeOf, if_pos c1]) dX3_placeOf_18
  · refine lv_aload_n hx hb dX3_placeOf_8 rfl (lv_at hl 0 rfl) ?_
    refine va_get (D := G.1) (ci := 3) (v := .ref l2) (C := RX3) (T := TX3) (N := 6) hx hb hts owX3 hown hK.1 hP 0 rfl rfl 2 (by decide) (bw0 (w := Cond.fieldLink RX3 19 "DropflagMill$Loans" "places" "[I") hts 30 rfl) (fun _ h9 => h9) rfl dX3_placeOf_9 ?_
    refine lv_iload_n hx hb dX3_placeOf_12 rfl (lv_at hl 1 rfl) ?_
    refine va_iald hx hb hK.1 hP 1 0 rfl rfl (i := p1) (sx_in_lt (by decide) ⟨lc, by omega, rfl⟩ (sx_isLoan c1).1 (sx_isLoan c1).2) dX3_placeOf_13 ?_
    refine lv_goto (tgt := 18) hx hb dX3_placeOf_14 (by decide) ?_
    exact sx_ret hx hb hr hlk rfl (by simp only [s_X3_placeOf, if_neg c1]) dX3_placeOf_18

abbrev wdX3_isLent : List Cond := Cond.code yX3_isLent cX3_isLent 2 (some .boolean) :: bwC
def s_X3_isLent (lc : Nat) (ye : Nat → Int32) (p1 : Int32) : Int32 := if (s_X3_isLoan lc p1) = 0 then 0 else (if (ye p1.toNatClampNeg) = 0 then 0 else 1)
set_option maxHeartbeats 4000000 in
set_option maxRecDepth 100000 in
theorem c_X3_isLent (l : Launch) (G : sxG) (o : Nat) (h : Nat) (l1 : Nat) (l2 : Nat) (l3 : Nat) (l4 : Nat) (lc : Nat) (ye : Nat → Int32) (p1 : Int32) (hl0 : lc ≤ 16) : sxM l yX3_isLent wdX3_isLent 1 21 G [(o, .inr (3, [.ref h, .ref l1, .ref l2, .ref l3, .ref l4, .int (nI lc)])), (l3, .inl (G.2.2, 16, .inl ye))] [.ref o, .int p1] (fun r => r = s_X3_isLent lc ye p1) := by
  refine sxM.of (cc := cX3_isLent) (maxL := 2) (by decide) rfl (Nat.le_of_ble_eq_true rfl) ?_
  intro p e s m args below meth c ⟨hx, hb, hr, hml, hown, hlk, hts, hK⟩ hP ls hl
  have hl : lv_has ls 2 [(0, .ref o), (1, .int p1)] := hl
  refine lv_aload_n hx hb dX3_isLent_0 rfl (lv_at hl 0 rfl) ?_
  refine lv_iload_n hx hb dX3_isLent_1 rfl (lv_at hl 1 rfl) ?_
  refine sx_v (As := [.int p1]) (rest := []) hx hb hml hown hts (c_X3_isLoan l G o h l1 l2 l3 l4 lc p1 ) 1 (sxGV (bi3 (w := Cond.methodLink RX3 51 yX3_isLoan) 48 rfl) (bi3 (w := Cond.instanceMethod yX3_isLoan) 49 rfl) (bi3 (w := Cond.selects RX3 yX3_isLoan yX3_isLoan) 50 rfl) (bi0 (w := Cond.initialized RX3) 54 rfl) (bi3 (w := Cond.code yX3_isLoan cX3_isLoan 2 (some .boolean)) 46 rfl)) rfl (by decide +kernel) ⟨Nat.le_of_ble_eq_true rfl, Nat.le_of_ble_eq_true rfl⟩ hK hP [0] rfl 0 rfl rfl rfl hl rfl (Nat.le_of_ble_eq_true rfl) ⟨Nat.zero_le _, Nat.zero_le _⟩ dX3_isLent_2 (fun r er => ?_)
  subst er
  refine lv_if_eq (tgt := 21) hx hb dX3_isLent_5 (by decide) (fun c1 => ?_) (fun c1 => ?_)
  · refine lv_iconst (v := 0) hx hb dX3_isLent_21 (by decide) ?_
    exact sx_ret hx hb hr hlk rfl (by simp only [s_X3_isLent, if_pos c1]) dX3_isLent_22
  · refine lv_aload_n hx hb dX3_isLent_8 rfl (lv_at hl 0 rfl) ?_
    refine va_get (D := G.1) (ci := 3) (v := .ref l3) (C := RX3) (T := TX3) (N := 6) hx hb hts owX3 hown hK.1 hP 0 rfl rfl 3 (by decide) (bw0 (w := Cond.fieldLink RX3 22 "DropflagMill$Loans" "isOfLend" "[Z") hts 32 rfl) (fun _ h9 => h9) rfl dX3_isLent_9 ?_
    refine lv_iload_n hx hb dX3_isLent_12 rfl (lv_at hl 1 rfl) ?_
    refine va_zald hx hb hK.1 hP 1 1 rfl rfl (i := p1) (sx_in_lt (by decide) ⟨lc, by omega, rfl⟩ (sx_isLoan c1).1 (sx_isLoan c1).2) dX3_isLent_13 ?_
    refine lv_if_eq (tgt := 21) hx hb dX3_isLent_14 (by decide) (fun c2 => ?_) (fun c2 => ?_)
    · refine lv_iconst (v := 0) hx hb dX3_isLent_21 (by decide) ?_
      exact sx_ret hx hb hr hlk rfl (by simp only [s_X3_isLent, if_neg c1, if_pos c2]) dX3_isLent_22
    · refine lv_iconst (v := 1) hx hb dX3_isLent_17 (by decide) ?_
      refine lv_goto (tgt := 22) hx hb dX3_isLent_18 (by decide) ?_
      exact sx_ret hx hb hr hlk rfl (by simp only [s_X3_isLent, if_neg c1, if_neg c2]) dX3_isLent_22

abbrev wdX7_tell : List Cond := Cond.code yX7_tell cX7_tell 4 none :: bwC
def s_X7_tell (sc : Int32) (zs : Nat → Int32) (zn : Nat → Int32) (zl : Nat → Int32) (p1 : Int32) (p2 : Int32) (p3 : Int32) : (Nat → Int32) × (Nat → Int32) × (Nat → Int32) × Int32 := if (s_X9_isIndexOf 60 sc) = 0 then (zs, zn, zl, sc + 1) else (upd zs sc.toNatClampNeg p1, upd zn sc.toNatClampNeg p2, upd zl sc.toNatClampNeg p3, sc + 1)
set_option maxHeartbeats 4000000 in
set_option maxRecDepth 100000 in
theorem c_X7_tell (l : Launch) (G : sxG) (o : Nat) (t0 : Nat) (t1 : Nat) (t2 : Nat) (sc : Int32) (zs : Nat → Int32) (zn : Nat → Int32) (zl : Nat → Int32) (p1 : Int32) (p2 : Int32) (p3 : Int32)  : sxV l yX7_tell wdX7_tell 1 21 G [(o, .inr (7, [.ref t0, .ref t1, .ref t2, .int sc])), (t0, .inl (G.2.1, 60, .inl zs)), (t1, .inl (G.2.1, 60, .inl zn)), (t2, .inl (G.2.1, 60, .inl zl))] [.ref o, .int p1, .int p2, .int p3] (fun u : (Nat → Int32) × (Nat → Int32) × (Nat → Int32) × Int32 => ([(o, .inr (7, [.ref t0, .ref t1, .ref t2, .int u.2.2.2])), (t0, .inl (G.2.1, 60, .inl u.1)), (t1, .inl (G.2.1, 60, .inl u.2.1)), (t2, .inl (G.2.1, 60, .inl u.2.2.1))] : va_W)) (s_X7_tell sc zs zn zl p1 p2 p3) := by
  refine sxV.of (cc := cX7_tell) (maxL := 4) (by decide) rfl (Nat.le_of_ble_eq_true rfl) ?_
  intro p e s m args below meth c ⟨hx, hb, hr, hml, hown, hlk, hts, hK⟩ A hA hP hD hS ls hl
  have hl : lv_has ls 4 [(0, .ref o), (1, .int p1), (2, .int p2), (3, .int p3)] := hl
  refine lv_aload_n hx hb dX7_tell_0 rfl (lv_at hl 0 rfl) ?_
  refine va_get (D := G.1) (ci := 7) (v := .ref t0) (C := RX7) (T := TX7) (N := 4) hx hb hts owX7 hown hK.1 hP 0 rfl rfl 0 (by decide) (bw6 (w := Cond.fieldLink RX7 9 "DropflagMill$Story" "sorts" "[I") hts 27 rfl) (fun _ h9 => h9) rfl dX7_tell_1 ?_
  refine lv_aload_n hx hb dX7_tell_4 rfl (lv_at hl 0 rfl) ?_
  refine va_get (D := G.1) (ci := 7) (v := .int sc) (C := RX7) (T := TX7) (N := 4) hx hb hts owX7 hown hK.1 hP 0 rfl rfl 3 (by decide) (bw6 (w := Cond.fieldLink RX7 21 "DropflagMill$Story" "count" "I") hts 30 rfl) (fun _ h9 => h9) rfl dX7_tell_5 ?_
  refine sx_sn (As := [.ref t0, .int sc]) (rest := []) hx hb hml hown hts (c_X9_isIndexOf l G t0 60 zs sc ) 2 (sxGC (bi2 (w := Cond.code yX9_isIndexOf cX9_isIndexOf 2 (some .boolean)) 17 rfl)) rfl (hK.2.at 11 rfl) (List.mem_cons_of_mem _ (bi1 (w := Cond.initialized RX9) 58 rfl)) (List.mem_cons_of_mem _ (bi2 (w := Cond.static yX9_isIndexOf) 21 rfl)) (by decide +kernel) ⟨Nat.le_of_ble_eq_true rfl, Nat.le_of_ble_eq_true rfl⟩ hK hP [1] rfl rfl hl rfl (Nat.le_of_ble_eq_true rfl) ⟨Nat.zero_le _, Nat.zero_le _⟩ dX7_tell_8 (fun r er => ?_)
  subst er
  refine lv_if_eq (tgt := 44) hx hb dX7_tell_11 (by decide) (fun c1 => ?_) (fun c1 => ?_)
  · refine lv_aload_n hx hb dX7_tell_44 rfl (lv_at hl 0 rfl) ?_
    refine lv_dup hx hb dX7_tell_45 rfl ?_
    refine va_get (D := G.1) (ci := 7) (v := .int sc) (C := RX7) (T := TX7) (N := 4) hx hb hts owX7 hown hK.1 hP 0 rfl rfl 3 (by decide) (bw6 (w := Cond.fieldLink RX7 21 "DropflagMill$Story" "count" "I") hts 30 rfl) (fun _ h9 => h9) rfl dX7_tell_46 ?_
    refine lv_iconst (v := 1) hx hb dX7_tell_49 (by decide) ?_
    refine lv_iadd hx hb dX7_tell_50 ?_
    refine va_put (D := G.1) (ci := 7) (v := .int (sc + 1)) (ty := .int) (C := RX7) (T := TX7) (N := 4) hx hb hts owX7 tyX7 tyX7_ok nmX7 hown hK.1 hP hD hS 0 rfl rfl 3 (by decide) (bw6 (w := Cond.fieldLink RX7 21 "DropflagMill$Story" "count" "I") hts 30 rfl) (fun _ h9 => h9) rfl (by decide +kernel) rfl rfl (Nat.le_of_ble_eq_true rfl) dX7_tell_51 (fun H locs hP hD hS => ?_)
    have hP : va_P G.1 vwCl [(o, .inr (7, [.ref t0, .ref t1, .ref t2, .int (sc + 1)])), (t0, .inl (G.2.1, 60, .inl zs)), (t1, .inl (G.2.1, 60, .inl zn)), (t2, .inl (G.2.1, 60, .inl zl))] H := hP
    have hD : va_D A [(o, .inr (7, [.ref t0, .ref t1, .ref t2, .int (sc + 1)])), (t0, .inl (G.2.1, 60, .inl zs)), (t1, .inl (G.2.1, 60, .inl zn)), (t2, .inl (G.2.1, 60, .inl zl))] := hD
    exact sx_retV (u := (zs, zn, zl, sc + 1)) hx hb hr hlk hK hP hD hS (by simp only [s_X7_tell, if_pos c1]) dX7_tell_54
  · refine lv_aload_n hx hb dX7_tell_14 rfl (lv_at hl 0 rfl) ?_
    refine va_get (D := G.1) (ci := 7) (v := .ref t0) (C := RX7) (T := TX7) (N := 4) hx hb hts owX7 hown hK.1 hP 0 rfl rfl 0 (by decide) (bw6 (w := Cond.fieldLink RX7 9 "DropflagMill$Story" "sorts" "[I") hts 27 rfl) (fun _ h9 => h9) rfl dX7_tell_15 ?_
    refine lv_aload_n hx hb dX7_tell_18 rfl (lv_at hl 0 rfl) ?_
    refine va_get (D := G.1) (ci := 7) (v := .int sc) (C := RX7) (T := TX7) (N := 4) hx hb hts owX7 hown hK.1 hP 0 rfl rfl 3 (by decide) (bw6 (w := Cond.fieldLink RX7 21 "DropflagMill$Story" "count" "I") hts 30 rfl) (fun _ h9 => h9) rfl dX7_tell_19 ?_
    refine lv_iload_n hx hb dX7_tell_22 rfl (lv_at hl 1 rfl) ?_
    refine va_iast hx hb hK.1 hP hD hS 1 0 rfl rfl (i := sc) (sx_in_ix (by decide) c1) dX7_tell_23 (fun H locs hP hD hS => ?_)
    have hP : va_P G.1 vwCl [(o, .inr (7, [.ref t0, .ref t1, .ref t2, .int sc])), (t0, .inl (G.2.1, 60, .inl (upd zs sc.toNatClampNeg p1))), (t1, .inl (G.2.1, 60, .inl zn)), (t2, .inl (G.2.1, 60, .inl zl))] H := hP
    have hD : va_D A [(o, .inr (7, [.ref t0, .ref t1, .ref t2, .int sc])), (t0, .inl (G.2.1, 60, .inl (upd zs sc.toNatClampNeg p1))), (t1, .inl (G.2.1, 60, .inl zn)), (t2, .inl (G.2.1, 60, .inl zl))] := hD
    refine lv_aload_n hx hb dX7_tell_24 rfl (lv_at hl 0 rfl) ?_
    refine va_get (D := G.1) (ci := 7) (v := .ref t1) (C := RX7) (T := TX7) (N := 4) hx hb hts owX7 hown hK.1 hP 0 rfl rfl 1 (by decide) (bw6 (w := Cond.fieldLink RX7 15 "DropflagMill$Story" "numbers" "[I") hts 28 rfl) (fun _ h9 => h9) rfl dX7_tell_25 ?_
    refine lv_aload_n hx hb dX7_tell_28 rfl (lv_at hl 0 rfl) ?_
    refine va_get (D := G.1) (ci := 7) (v := .int sc) (C := RX7) (T := TX7) (N := 4) hx hb hts owX7 hown hK.1 hP 0 rfl rfl 3 (by decide) (bw6 (w := Cond.fieldLink RX7 21 "DropflagMill$Story" "count" "I") hts 30 rfl) (fun _ h9 => h9) rfl dX7_tell_29 ?_
    refine lv_iload_n hx hb dX7_tell_32 rfl (lv_at hl 2 rfl) ?_
    refine va_iast hx hb hK.1 hP hD hS 2 0 rfl rfl (i := sc) (sx_in_ix (by decide) c1) dX7_tell_33 (fun H locs hP hD hS => ?_)
    have hP : va_P G.1 vwCl [(o, .inr (7, [.ref t0, .ref t1, .ref t2, .int sc])), (t0, .inl (G.2.1, 60, .inl (upd zs sc.toNatClampNeg p1))), (t1, .inl (G.2.1, 60, .inl (upd zn sc.toNatClampNeg p2))), (t2, .inl (G.2.1, 60, .inl zl))] H := hP
    have hD : va_D A [(o, .inr (7, [.ref t0, .ref t1, .ref t2, .int sc])), (t0, .inl (G.2.1, 60, .inl (upd zs sc.toNatClampNeg p1))), (t1, .inl (G.2.1, 60, .inl (upd zn sc.toNatClampNeg p2))), (t2, .inl (G.2.1, 60, .inl zl))] := hD
    refine lv_aload_n hx hb dX7_tell_34 rfl (lv_at hl 0 rfl) ?_
    refine va_get (D := G.1) (ci := 7) (v := .ref t2) (C := RX7) (T := TX7) (N := 4) hx hb hts owX7 hown hK.1 hP 0 rfl rfl 2 (by decide) (bw6 (w := Cond.fieldLink RX7 18 "DropflagMill$Story" "lines" "[I") hts 29 rfl) (fun _ h9 => h9) rfl dX7_tell_35 ?_
    refine lv_aload_n hx hb dX7_tell_38 rfl (lv_at hl 0 rfl) ?_
    refine va_get (D := G.1) (ci := 7) (v := .int sc) (C := RX7) (T := TX7) (N := 4) hx hb hts owX7 hown hK.1 hP 0 rfl rfl 3 (by decide) (bw6 (w := Cond.fieldLink RX7 21 "DropflagMill$Story" "count" "I") hts 30 rfl) (fun _ h9 => h9) rfl dX7_tell_39 ?_
    refine lv_iload_n hx hb dX7_tell_42 rfl (lv_at hl 3 rfl) ?_
    refine va_iast hx hb hK.1 hP hD hS 3 0 rfl rfl (i := sc) (sx_in_ix (by decide) c1) dX7_tell_43 (fun H locs hP hD hS => ?_)
    have hP : va_P G.1 vwCl [(o, .inr (7, [.ref t0, .ref t1, .ref t2, .int sc])), (t0, .inl (G.2.1, 60, .inl (upd zs sc.toNatClampNeg p1))), (t1, .inl (G.2.1, 60, .inl (upd zn sc.toNatClampNeg p2))), (t2, .inl (G.2.1, 60, .inl (upd zl sc.toNatClampNeg p3)))] H := hP
    have hD : va_D A [(o, .inr (7, [.ref t0, .ref t1, .ref t2, .int sc])), (t0, .inl (G.2.1, 60, .inl (upd zs sc.toNatClampNeg p1))), (t1, .inl (G.2.1, 60, .inl (upd zn sc.toNatClampNeg p2))), (t2, .inl (G.2.1, 60, .inl (upd zl sc.toNatClampNeg p3)))] := hD
    refine lv_aload_n hx hb dX7_tell_44 rfl (lv_at hl 0 rfl) ?_
    refine lv_dup hx hb dX7_tell_45 rfl ?_
    refine va_get (D := G.1) (ci := 7) (v := .int sc) (C := RX7) (T := TX7) (N := 4) hx hb hts owX7 hown hK.1 hP 0 rfl rfl 3 (by decide) (bw6 (w := Cond.fieldLink RX7 21 "DropflagMill$Story" "count" "I") hts 30 rfl) (fun _ h9 => h9) rfl dX7_tell_46 ?_
    refine lv_iconst (v := 1) hx hb dX7_tell_49 (by decide) ?_
    refine lv_iadd hx hb dX7_tell_50 ?_
    refine va_put (D := G.1) (ci := 7) (v := .int (sc + 1)) (ty := .int) (C := RX7) (T := TX7) (N := 4) hx hb hts owX7 tyX7 tyX7_ok nmX7 hown hK.1 hP hD hS 0 rfl rfl 3 (by decide) (bw6 (w := Cond.fieldLink RX7 21 "DropflagMill$Story" "count" "I") hts 30 rfl) (fun _ h9 => h9) rfl (by decide +kernel) rfl rfl (Nat.le_of_ble_eq_true rfl) dX7_tell_51 (fun H locs hP hD hS => ?_)
    have hP : va_P G.1 vwCl [(o, .inr (7, [.ref t0, .ref t1, .ref t2, .int (sc + 1)])), (t0, .inl (G.2.1, 60, .inl (upd zs sc.toNatClampNeg p1))), (t1, .inl (G.2.1, 60, .inl (upd zn sc.toNatClampNeg p2))), (t2, .inl (G.2.1, 60, .inl (upd zl sc.toNatClampNeg p3)))] H := hP
    have hD : va_D A [(o, .inr (7, [.ref t0, .ref t1, .ref t2, .int (sc + 1)])), (t0, .inl (G.2.1, 60, .inl (upd zs sc.toNatClampNeg p1))), (t1, .inl (G.2.1, 60, .inl (upd zn sc.toNatClampNeg p2))), (t2, .inl (G.2.1, 60, .inl (upd zl sc.toNatClampNeg p3)))] := hD
    exact sx_retV (u := (upd zs sc.toNatClampNeg p1, upd zn sc.toNatClampNeg p2, upd zl sc.toNatClampNeg p3, sc + 1)) hx hb hr hlk hK hP hD hS (by simp only [s_X7_tell, if_neg c1]) dX7_tell_54
