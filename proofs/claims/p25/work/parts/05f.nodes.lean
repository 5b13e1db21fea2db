abbrev wdX4_clear : List Cond := Cond.code yX4_clear cX4_clear 1 none :: bwC
def s_X4_clear  : Nat × Int32 := (0, 0)
set_option maxHeartbeats 4000000 in
set_option maxRecDepth 100000 in
theorem c_X4_clear (l : Launch) (G : sxG) (o : Nat) (u0 : Nat) (u1 : Nat) (u2 : Nat) (u3 : Nat) (nm : Nat) (ng : Int32)  : sxV l yX4_clear wdX4_clear 0 0 G [(o, .inr (4, [.ref u0, .ref u1, .ref u2, .ref u3, .int (nI nm), .int ng]))] [.ref o] (fun u : Nat × Int32 => ([(o, .inr (4, [.ref u0, .ref u1, .ref u2, .ref u3, .int (nI u.1), .int u.2]))] : va_W)) (s_X4_clear) := by
  refine sxV.of (cc := cX4_clear) (maxL := 1) (by decide) rfl (Nat.le_of_ble_eq_true rfl) ?_
  intro p e s m args below meth c ⟨hx, hb, hr, hml, hown, hlk, hts, hK⟩ A hA hP hD hS ls hl
  have hl : lv_has ls 1 [(0, .ref o)] := hl
  refine lv_aload_n hx hb dX4_clear_0 rfl (lv_at hl 0 rfl) ?_
  refine lv_iconst (v := 0) hx hb dX4_clear_1 (by decide) ?_
  refine va_put (D := G.1) (ci := 4) (v := .int 0) (ty := .int) (C := RX4) (T := TX4) (N := 6) hx hb hts owX4 tyX4 tyX4_ok nmX4 hown hK.1 hP hD hS 0 rfl rfl 4 (by decide) (bw5 (w := Cond.fieldLink RX4 25 "DropflagMill$Nodes" "made" "I") hts 42 rfl) (fun _ h9 => h9) rfl (by decide +kernel) rfl rfl (Nat.le_of_ble_eq_true rfl) dX4_clear_2 (fun H locs hP hD hS => ?_)
  have hP : va_P G.1 vwCl [(o, .inr (4, [.ref u0, .ref u1, .ref u2, .ref u3, .int 0, .int ng]))] H := hP
  have hD : va_D A [(o, .inr (4, [.ref u0, .ref u1, .ref u2, .ref u3, .int 0, .int ng]))] := hD
  refine lv_aload_n hx hb dX4_clear_5 rfl (lv_at hl 0 rfl) ?_
  refine lv_iconst (v := 0) hx hb dX4_clear_6 (by decide) ?_
  refine va_put (D := G.1) (ci := 4) (v := .int 0) (ty := .int) (C := RX4) (T := TX4) (N := 6) hx hb hts owX4 tyX4 tyX4_ok nmX4 hown hK.1 hP hD hS 0 rfl rfl 5 (by decide) (bw5 (w := Cond.fieldLink RX4 29 "DropflagMill$Nodes" "gone" "I") hts 43 rfl) (fun _ h9 => h9) rfl (by decide +kernel) rfl rfl (Nat.le_of_ble_eq_true rfl) dX4_clear_7 (fun H locs hP hD hS => ?_)
  have hP : va_P G.1 vwCl [(o, .inr (4, [.ref u0, .ref u1, .ref u2, .ref u3, .int 0, .int 0]))] H := hP
  have hD : va_D A [(o, .inr (4, [.ref u0, .ref u1, .ref u2, .ref u3, .int 0, .int 0]))] := hD
  exact sx_retV (u := (0, 0)) hx hb hr hlk hK hP hD hS (by simp only [s_X4_clear]) dX4_clear_10

abbrev wdX4_newNode : List Cond := Cond.code yX4_newNode cX4_newNode 2 (some .int) :: bwC
def s_X4_newNode (nm : Nat) (vn : Nat → Int32) (vc : Nat → Int32) (vl : Nat → Int32) (vh : Nat → Int32) (p1 : Int32) : ((Nat → Int32) × (Nat → Int32) × (Nat → Int32) × (Nat → Int32) × Nat) × Int32 := if (s_X9_isIndexOf 500 (nI nm)) = 0 then ((vn, vc, vl, vh, nm), (-1)) else ((upd vn nm p1, upd vc nm 1, upd vl nm (-1), upd vh nm 0, (nm + 1)), nI (nm + 1) + (-1))
set_option maxHeartbeats 4000000 in
set_option maxRecDepth 100000 in
theorem c_X4_newNode (l : Launch) (G : sxG) (o : Nat) (u0 : Nat) (u1 : Nat) (u2 : Nat) (u3 : Nat) (nm : Nat) (ng : Int32) (vn : Nat → Int32) (vc : Nat → Int32) (vl : Nat → Int32) (vh : Nat → Int32) (p1 : Int32) (hm0 : nm ≤ 500) : sxC l yX4_newNode wdX4_newNode 1 21 G [(o, .inr (4, [.ref u0, .ref u1, .ref u2, .ref u3, .int (nI nm), .int ng])), (u0, .inl (G.2.1, 500, .inl vn)), (u1, .inl (G.2.1, 500, .inl vc)), (u2, .inl (G.2.1, 500, .inl vl)), (u3, .inl (G.2.2, 500, .inl vh))] [.ref o, .int p1] (fun u : (Nat → Int32) × (Nat → Int32) × (Nat → Int32) × (Nat → Int32) × Nat => ([(o, .inr (4, [.ref u0, .ref u1, .ref u2, .ref u3, .int (nI u.2.2.2.2), .int ng])), (u0, .inl (G.2.1, 500, .inl u.1)), (u1, .inl (G.2.1, 500, .inl u.2.1)), (u2, .inl (G.2.1, 500, .inl u.2.2.1)), (u3, .inl (G.2.2, 500, .inl u.2.2.2.1))] : va_W)) (s_X4_newNode nm vn vc vl vh p1) := by
  refine sxC.of (cc := cX4_newNode) (maxL := 2) (by decide) rfl (Nat.le_of_ble_eq_true rfl) ?_
  intro p e s m args below meth c ⟨hx, hb, hr, hml, hown, hlk, hts, hK⟩ A hA hP hD hS ls hl
  have hl : lv_has ls 2 [(0, .ref o), (1, .int p1)] := hl
  refine lv_aload_n hx hb dX4_newNode_0 rfl (lv_at hl 0 rfl) ?_
  refine va_get (D := G.1) (ci := 4) (v := .ref u0) (C := RX4) (T := TX4) (N := 6) hx hb hts owX4 hown hK.1 hP 0 rfl rfl 0 (by decide) (bw5 (w := Cond.fieldLink RX4 9 "DropflagMill$Nodes" "numbers" "[I") hts 38 rfl) (fun _ h9 => h9) rfl dX4_newNode_1 ?_
  refine lv_aload_n hx hb dX4_newNode_4 rfl (lv_at hl 0 rfl) ?_
  refine va_get (D := G.1) (ci := 4) (v := .int (nI nm)) (C := RX4) (T := TX4) (N := 6) hx hb hts owX4 hown hK.1 hP 0 rfl rfl 4 (by decide) (bw5 (w := Cond.fieldLink RX4 25 "DropflagMill$Nodes" "made" "I") hts 42 rfl) (fun _ h9 => h9) rfl dX4_newNode_5 ?_
  refine sx_sn (As := [.ref u0, .int (nI nm)]) (rest := []) hx hb hml hown hts (c_X9_isIndexOf l G u0 500 vn (nI nm) ) 2 (sxGC (bi2 (w := Cond.code yX9_isIndexOf cX9_isIndexOf 2 (some .boolean)) 17 rfl)) rfl (hK.2.at 9 rfl) (List.mem_cons_of_mem _ (bi1 (w := Cond.initialized RX9) 58 rfl)) (List.mem_cons_of_mem _ (bi2 (w := Cond.static yX9_isIndexOf) 21 rfl)) (by decide +kernel) ⟨Nat.le_of_ble_eq_true rfl, Nat.le_of_ble_eq_true rfl⟩ hK hP [1] rfl rfl hl rfl (Nat.le_of_ble_eq_true rfl) ⟨Nat.zero_le _, Nat.zero_le _⟩ dX4_newNode_8 (fun r er => ?_)
  subst er
  refine lv_if_ne (tgt := 16) hx hb dX4_newNode_11 (by decide) (fun c1 => ?_) (fun c1 => ?_)
  · have nc1 : nm < 500 := sx_ixNat (by decide) (by omega) c1
    refine lv_aload_n hx hb dX4_newNode_16 rfl (lv_at hl 0 rfl) ?_
    refine va_get (D := G.1) (ci := 4) (v := .ref u0) (C := RX4) (T := TX4) (N := 6) hx hb hts owX4 hown hK.1 hP 0 rfl rfl 0 (by decide) (bw5 (w := Cond.fieldLink RX4 9 "DropflagMill$Nodes" "numbers" "[I") hts 38 rfl) (fun _ h9 => h9) rfl dX4_newNode_17 ?_
    refine lv_aload_n hx hb dX4_newNode_20 rfl (lv_at hl 0 rfl) ?_
    refine va_get (D := G.1) (ci := 4) (v := .int (nI nm)) (C := RX4) (T := TX4) (N := 6) hx hb hts owX4 hown hK.1 hP 0 rfl rfl 4 (by decide) (bw5 (w := Cond.fieldLink RX4 25 "DropflagMill$Nodes" "made" "I") hts 42 rfl) (fun _ h9 => h9) rfl dX4_newNode_21 ?_
    refine lv_iload_n hx hb dX4_newNode_24 rfl (lv_at hl 1 rfl) ?_
    refine va_iast hx hb hK.1 hP hD hS 1 0 rfl rfl (i := nI nm) (vp_in_nI (n := nm) (by omega) (by omega)) dX4_newNode_25 (fun H locs hP hD hS => ?_)
    rw [show (nI nm : Int32).toNatClampNeg = nm from nI_clamp (n := nm) (by omega)] at hP hD
    have hP : va_P G.1 vwCl [(o, .inr (4, [.ref u0, .ref u1, .ref u2, .ref u3, .int (nI nm), .int ng])), (u0, .inl (G.2.1, 500, .inl (upd vn nm p1))), (u1, .inl (G.2.1, 500, .inl vc)), (u2, .inl (G.2.1, 500, .inl vl)), (u3, .inl (G.2.2, 500, .inl vh))] H := hP
    have hD : va_D A [(o, .inr (4, [.ref u0, .ref u1, .ref u2, .ref u3, .int (nI nm), .int ng])), (u0, .inl (G.2.1, 500, .inl (upd vn nm p1))), (u1, .inl (G.2.1, 500, .inl vc)), (u2, .inl (G.2.1, 500, .inl vl)), (u3, .inl (G.2.2, 500, .inl vh))] := hD
    refine lv_aload_n hx hb dX4_newNode_26 rfl (lv_at hl 0 rfl) ?_
    refine va_get (D := G.1) (ci := 4) (v := .ref u1) (C := RX4) (T := TX4) (N := 6) hx hb hts owX4 hown hK.1 hP 0 rfl rfl 1 (by decide) (bw5 (w := Cond.fieldLink RX4 15 "DropflagMill$Nodes" "counts" "[I") hts 39 rfl) (fun _ h9 => h9) rfl dX4_newNode_27 ?_
    refine lv_aload_n hx hb dX4_newNode_30 rfl (lv_at hl 0 rfl) ?_
    refine va_get (D := G.1) (ci := 4) (v := .int (nI nm)) (C := RX4) (T := TX4) (N := 6) hx hb hts owX4 hown hK.1 hP 0 rfl rfl 4 (by decide) (bw5 (w := Cond.fieldLink RX4 25 "DropflagMill$Nodes" "made" "I") hts 42 rfl) (fun _ h9 => h9) rfl dX4_newNode_31 ?_
    refine lv_iconst (v := 1) hx hb dX4_newNode_34 (by decide) ?_
    refine va_iast hx hb hK.1 hP hD hS 2 0 rfl rfl (i := nI nm) (vp_in_nI (n := nm) (by omega) (by omega)) dX4_newNode_35 (fun H locs hP hD hS => ?_)
    rw [show (nI nm : Int32).toNatClampNeg = nm from nI_clamp (n := nm) (by omega)] at hP hD
    have hP : va_P G.1 vwCl [(o, .inr (4, [.ref u0, .ref u1, .ref u2, .ref u3, .int (nI nm), .int ng])), (u0, .inl (G.2.1, 500, .inl (upd vn nm p1))), (u1, .inl (G.2.1, 500, .inl (upd vc nm 1))), (u2, .inl (G.2.1, 500, .inl vl)), (u3, .inl (G.2.2, 500, .inl vh))] H := hP
    have hD : va_D A [(o, .inr (4, [.ref u0, .ref u1, .ref u2, .ref u3, .int (nI nm), .int ng])), (u0, .inl (G.2.1, 500, .inl (upd vn nm p1))), (u1, .inl (G.2.1, 500, .inl (upd vc nm 1))), (u2, .inl (G.2.1, 500, .inl vl)), (u3, .inl (G.2.2, 500, .inl vh))] := hD
    refine lv_aload_n hx hb dX4_newNode_36 rfl (lv_at hl 0 rfl) ?_
    refine va_get (D := G.1) (ci := 4) (v := .ref u2) (C := RX4) (T := TX4) (N := 6) hx hb hts owX4 hown hK.1 hP 0 rfl rfl 2 (by decide) (bw5 (w := Cond.fieldLink RX4 18 "DropflagMill$Nodes" "links" "[I") hts 40 rfl) (fun _ h9 => h9) rfl dX4_newNode_37 ?_
    refine lv_aload_n hx hb dX4_newNode_40 rfl (lv_at hl 0 rfl) ?_
    refine va_get (D := G.1) (ci := 4) (v := .int (nI nm)) (C := RX4) (T := TX4) (N := 6) hx hb hts owX4 hown hK.1 hP 0 rfl rfl 4 (by decide) (bw5 (w := Cond.fieldLink RX4 25 "DropflagMill$Nodes" "made" "I") hts 42 rfl) (fun _ h9 => h9) rfl dX4_newNode_41 ?_
    refine lv_iconst (v := (-1)) hx hb dX4_newNode_44 (by decide) ?_
    refine va_iast hx hb hK.1 hP hD hS 3 0 rfl rfl (i := nI nm) (vp_in_nI (n := nm) (by omega) (by omega)) dX4_newNode_45 (fun H locs hP hD hS => ?_)
    rw [show (nI nm : Int32).toNatClampNeg = nm from nI_clamp (n := nm) (by omega)] at hP hD
    have hP : va_P G.1 vwCl [(o, .inr (4, [.ref u0, .ref u1, .ref u2, .ref u3, .int (nI nm), .int ng])), (u0, .inl (G.2.1, 500, .inl (upd vn nm p1))), (u1, .inl (G.2.1, 500, .inl (upd vc nm 1))), (u2, .inl (G.2.1, 500, .inl (upd vl nm (-1)))), (u3, .inl (G.2.2, 500, .inl vh))] H := hP
    have hD : va_D A [(o, .inr (4, [.ref u0, .ref u1, .ref u2, .ref u3, .int (nI nm), .int ng])), (u0, .inl (G.2.1, 500, .inl (upd vn nm p1))), (u1, .inl (G.2.1, 500, .inl (upd vc nm 1))), (u2, .inl (G.2.1, 500, .inl (upd vl nm (-1)))), (u3, .inl (G.2.2, 500, .inl vh))] := hD
    refine lv_aload_n hx hb dX4_newNode_46 rfl (lv_at hl 0 rfl) ?_
    refine va_get (D := G.1) (ci := 4) (v := .ref u3) (C := RX4) (T := TX4) (N := 6) hx hb hts owX4 hown hK.1 hP 0 rfl rfl 3 (by decide) (bw5 (w := Cond.fieldLink RX4 21 "DropflagMill$Nodes" "isHeld" "[Z") hts 41 rfl) (fun _ h9 => h9) rfl dX4_newNode_47 ?_
    refine lv_aload_n hx hb dX4_newNode_50 rfl (lv_at hl 0 rfl) ?_
    refine va_get (D := G.1) (ci := 4) (v := .int (nI nm)) (C := RX4) (T := TX4) (N := 6) hx hb hts owX4 hown hK.1 hP 0 rfl rfl 4 (by decide) (bw5 (w := Cond.fieldLink RX4 25 "DropflagMill$Nodes" "made" "I") hts 42 rfl) (fun _ h9 => h9) rfl dX4_newNode_51 ?_
    refine lv_iconst (v := 0) hx hb dX4_newNode_54 (by decide) ?_
    refine va_zast hx hb hK.1 hP hD hS 4 1 rfl rfl (i := nI nm) (vp_in_nI (n := nm) (by omega) (by omega)) dX4_newNode_55 (fun H locs hP hD hS => ?_)
    rw [show (nI nm : Int32).toNatClampNeg = nm from nI_clamp (n := nm) (by omega)] at hP hD
    have hP : va_P G.1 vwCl [(o, .inr (4, [.ref u0, .ref u1, .ref u2, .ref u3, .int (nI nm), .int ng])), (u0, .inl (G.2.1, 500, .inl (upd vn nm p1))), (u1, .inl (G.2.1, 500, .inl (upd vc nm 1))), (u2, .inl (G.2.1, 500, .inl (upd vl nm (-1)))), (u3, .inl (G.2.2, 500, .inl (upd vh nm 0)))] H := hP
    have hD : va_D A [(o, .inr (4, [.ref u0, .ref u1, .ref u2, .ref u3, .int (nI nm), .int ng])), (u0, .inl (G.2.1, 500, .inl (upd vn nm p1))), (u1, .inl (G.2.1, 500, .inl (upd vc nm 1))), (u2, .inl (G.2.1, 500, .inl (upd vl nm (-1)))), (u3, .inl (G.2.2, 500, .inl (upd vh nm 0)))] := hD
    refine lv_aload_n hx hb dX4_newNode_56 rfl (lv_at hl 0 rfl) ?_
    refine lv_dup hx hb dX4_newNode_57 rfl ?_
    refine va_get (D := G.1) (ci := 4) (v := .int (nI nm)) (C := RX4) (T := TX4) (N := 6) hx hb hts owX4 hown hK.1 hP 0 rfl rfl 4 (by decide) (bw5 (w := Cond.fieldLink RX4 25 "DropflagMill$Nodes" "made" "I") hts 42 rfl) (fun _ h9 => h9) rfl dX4_newNode_58 ?_
    refine lv_iconst (v := 1) hx hb dX4_newNode_61 (by decide) ?_
    refine lv_iadd hx hb dX4_newNode_62 ?_
    rw [show (nI nm) + 1 = nI (nm + 1) from nI_add nm 1]
    refine va_put (D := G.1) (ci := 4) (v := .int (nI (nm + 1))) (ty := .int) (C := RX4) (T := TX4) (N := 6) hx hb hts owX4 tyX4 tyX4_ok nmX4 hown hK.1 hP hD hS 0 rfl rfl 4 (by decide) (bw5 (w := Cond.fieldLink RX4 25 "DropflagMill$Nodes" "made" "I") hts 42 rfl) (fun _ h9 => h9) rfl (by decide +kernel) rfl rfl (Nat.le_of_ble_eq_true rfl) dX4_newNode_63 (fun H locs hP hD hS => ?_)
    have hP : va_P G.1 vwCl [(o, .inr (4, [.ref u0, .ref u1, .ref u2, .ref u3, .int (nI (nm + 1)), .int ng])), (u0, .inl (G.2.1, 500, .inl (upd vn nm p1))), (u1, .inl (G.2.1, 500, .inl (upd vc nm 1))), (u2, .inl (G.2.1, 500, .inl (upd vl nm (-1)))), (u3, .inl (G.2.2, 500, .inl (upd vh nm 0)))] H := hP
    have hD : va_D A [(o, .inr (4, [.ref u0, .ref u1, .ref u2, .ref u3, .int (nI (nm + 1)), .int ng])), (u0, .inl (G.2.1, 500, .inl (upd vn nm p1))), (u1, .inl (G.2.1, 500, .inl (upd vc nm 1))), (u2, .inl (G.2.1, 500, .inl (upd vl nm (-1)))), (u3, .inl (G.2.2, 500, .inl (upd vh nm 0)))] := hD
    refine lv_aload_n hx hb dX4_newNode_66 rfl (lv_at hl 0 rfl) ?_
    refine va_get (D := G.1) (ci := 4) (v := .int (nI (nm + 1))) (C := RX4) (T := TX4) (N := 6) hx hb hts owX4 hown hK.1 hP 0 rfl rfl 4 (by decide) (bw5 (w := Cond.fieldLink RX4 25 "DropflagMill$Nodes" "made" "I") hts 42 rfl) (fun _ h9 => h9) rfl dX4_newNode_67 ?_
    refine lv_iconst (v := 1) hx hb dX4_newNode_70 (by decide) ?_
    refine lv_isub hx hb dX4_newNode_71 ?_
    rw [show (nI (nm + 1)) - 1 = nI (nm + 1) + (-1) from sx_sub1 _]
    exact sx_retI (u := (upd vn nm p1, upd vc nm 1, upd vl nm (-1), upd vh nm 0, (nm + 1))) hx hb hr hlk hK hP hD hS rfl (by simp only [s_X4_newNode, if_neg c1]) (by simp only [s_X4_newNode, if_neg c1]) dX4_newNode_72
  · refine lv_iconst (v := (-1)) hx hb dX4_newNode_14 (by decide) ?_
    exact sx_retI (u := (vn, vc, vl, vh, nm)) hx hb hr hlk hK hP hD hS rfl (by simp only [s_X4_newNode, if_pos c1]) (by simp only [s_X4_newNode, if_pos c1]) dX4_newNode_15

abbrev wdX4_numberOf : List Cond := Cond.code yX4_numberOf cX4_numberOf 2 (some .int) :: bwC
def s_X4_numberOf (nm : Nat) (vn : Nat → Int32) (p1 : Int32) : Int32 := if (s_X4_isNode nm p1) = 0 then 0 else vn p1.toNatClampNeg
set_option maxHeartbeats 4000000 in
set_option maxRecDepth 100000 in
theorem c_X4_numberOf (l : Launch) (G : sxG) (o : Nat) (u0 : Nat) (u1 : Nat) (u2 : Nat) (u3 : Nat) (nm : Nat) (ng : Int32) (vn : Nat → Int32) (p1 : Int32) (hm0 : nm ≤ 500) : sxM l yX4_numberOf wdX4_numberOf 1 21 G [(o, .inr (4, [.ref u0, .ref u1, .ref u2, .ref u3, .int (nI nm), .int ng])), (u0, .inl (G.2.1, 500, .inl vn))] [.ref o, .int p1] (fun r => r = s_X4_numberOf nm vn p1) := by
  refine sxM.of (cc := cX4_numberOf) (maxL := 2) (by decide) rfl (Nat.le_of_ble_eq_true rfl) ?_
  intro p e s m args below meth c ⟨hx, hb, hr, hml, hown, hlk, hts, hK⟩ hP ls hl
  have hl : lv_has ls 2 [(0, .ref o), (1, .int p1)] := hl
  refine lv_aload_n hx hb dX4_numberOf_0 rfl (lv_at hl 0 rfl) ?_
  refine lv_iload_n hx hb dX4_numberOf_1 rfl (lv_at hl 1 rfl) ?_
  refine sx_v (As := [.int p1]) (rest := []) hx hb hml hown hts (c_X4_isNode l G o u0 u1 u2 u3 nm ng p1 ) 1 (sxGV (bi5 (w := Cond.methodLink RX4 36 yX4_isNode) 48 rfl) (bi5 (w := Cond.instanceMethod yX4_isNode) 49 rfl) (bi5 (w := Cond.selects RX4 yX4_isNode yX4_isNode) 50 rfl) (bi5 (w := Cond.initialized RX4) 51 rfl) (bi5 (w := Cond.code yX4_isNode cX4_isNode 2 (some .boolean)) 45 rfl)) rfl (by decide +kernel) ⟨Nat.le_of_ble_eq_true rfl, Nat.le_of_ble_eq_true rfl⟩ hK hP [0] rfl 0 rfl rfl rfl hl rfl (Nat.le_of_ble_eq_true rfl) ⟨Nat.zero_le _, Nat.zero_le _⟩ dX4_numberOf_2 (fun r er => ?_)
  subst er
  refine lv_if_eq (tgt := 17) hx hb dX4_numberOf_5 (by decide) (fun c1 => ?_) (fun c1 => ?_)
  · refine lv_iconst (v := 0) hx hb dX4_numberOf_17 (by decide) ?_
    exact sx_ret hx hb hr hlk rfl (by simp only [s_X4_numberOf, if_pos c1]) dX4_numberOf_18
  · refine lv_aload_n hx hb dX4_numberOf_8 rfl (lv_at hl 0 rfl) ?_
    refine va_get (D := G.1) (ci := 4) (v := .ref u0) (C := RX4) (T := TX4) (N := 6) hx hb hts owX4 hown hK.1 hP 0 rfl rfl 0 (by decide) (bw5 (w := Cond.fieldLink RX4 9 "DropflagMill$Nodes" "numbers" "[I") hts 38 rfl) (fun _ h9 => h9) rfl dX4_numberOf_9 ?_
    refine lv_iload_n hx hb dX4_numberOf_12 rfl (lv_at hl 1 rfl) ?_
    refine va_iald hx hb hK.1 hP 1 0 rfl rfl (i := p1) (sx_in_lt (by decide) ⟨nm, by omega, rfl⟩ (sx_isNode c1).1 (sx_isNode c1).2) dX4_numberOf_13 ?_
    refine lv_goto (tgt := 18) hx hb dX4_numberOf_14 (by decide) ?_
    exact sx_ret hx hb hr hlk rfl (by simp only [s_X4_numberOf, if_neg c1]) dX4_numberOf_18

abbrev wdX4_setNumber : List Cond := Cond.code yX4_setNumber cX4_setNumber 3 none :: bwC
def s_X4_setNumber (nm : Nat) (vn : Nat → Int32) (p1 : Int32) (p2 : Int32) : (Nat → Int32) := if (s_X4_isNode nm p1) = 0 then vn else upd vn p1.toNatClampNeg p2
set_option maxHeartbeats 4000000 in
set_option maxRecDepth 100000 in
theorem c_X4_setNumber (l : Launch) (G : sxG) (o : Nat) (u0 : Nat) (u1 : Nat) (u2 : Nat) (u3 : Nat) (nm : Nat) (ng : Int32) (vn : Nat → Int32) (p1 : Int32) (p2 : Int32) (hm0 : nm ≤ 500) : sxV l yX4_setNumber wdX4_setNumber 1 21 G [(o, .inr (4, [.ref u0, .ref u1, .ref u2, .ref u3, .int (nI nm), .int ng])), (u0, .inl (G.2.1, 500, .inl vn))] [.ref o, .int p1, .int p2] (fun u : (Nat → Int32) => ([(o, .inr (4, [.ref u0, .ref u1, .ref u2, .ref u3, .int (nI nm), .int ng])), (u0, .inl (G.2.1, 500, .inl u))] : va_W)) (s_X4_setNumber nm vn p1 p2) := by
  refine sxV.of (cc := cX4_setNumber) (maxL := 3) (by decide) rfl (Nat.le_of_ble_eq_true rfl) ?_
  intro p e s m args below meth c ⟨hx, hb, hr, hml, hown, hlk, hts, hK⟩ A hA hP hD hS ls hl
  have hl : lv_has ls 3 [(0, .ref o), (1, .int p1), (2, .int p2)] := hl
  refine lv_aload_n hx hb dX4_setNumber_0 rfl (lv_at hl 0 rfl) ?_
  refine lv_iload_n hx hb dX4_setNumber_1 rfl (lv_at hl 1 rfl) ?_
  refine sx_v (As := [.int p1]) (rest := []) hx hb hml hown hts (c_X4_isNode l G o u0 u1 u2 u3 nm ng p1 ) 1 (sxGV (bi5 (w := Cond.methodLink RX4 36 yX4_isNode) 48 rfl) (bi5 (w := Cond.instanceMethod yX4_isNode) 49 rfl) (bi5 (w := Cond.selects RX4 yX4_isNode yX4_isNode) 50 rfl) (bi5 (w := Cond.initialized RX4) 51 rfl) (bi5 (w := Cond.code yX4_isNode cX4_isNode 2 (some .boolean)) 45 rfl)) rfl (by decide +kernel) ⟨Nat.le_of_ble_eq_true rfl, Nat.le_of_ble_eq_true rfl⟩ hK hP [0] rfl 0 rfl rfl rfl hl rfl (Nat.le_of_ble_eq_true rfl) ⟨Nat.zero_le _, Nat.zero_le _⟩ dX4_setNumber_2 (fun r er => ?_)
  subst er
  refine lv_if_eq (tgt := 15) hx hb dX4_setNumber_5 (by decide) (fun c1 => ?_) (fun c1 => ?_)
  · exact sx_retV (u := vn) hx hb hr hlk hK hP hD hS (by simp only [s_X4_setNumber, if_pos c1]) dX4_setNumber_15
  · refine lv_aload_n hx hb dX4_setNumber_8 rfl (lv_at hl 0 rfl) ?_
    refine va_get (D := G.1) (ci := 4) (v := .ref u0) (C := RX4) (T := TX4) (N := 6) hx hb hts owX4 hown hK.1 hP 0 rfl rfl 0 (by decide) (bw5 (w := Cond.fieldLink RX4 9 "DropflagMill$Nodes" "numbers" "[I") hts 38 rfl) (fun _ h9 => h9) rfl dX4_setNumber_9 ?_
    refine lv_iload_n hx hb dX4_setNumber_12 rfl (lv_at hl 1 rfl) ?_
    refine lv_iload_n hx hb dX4_setNumber_13 rfl (lv_at hl 2 rfl) ?_
    refine va_iast hx hb hK.1 hP hD hS 1 0 rfl rfl (i := p1) (sx_in_lt (by decide) ⟨nm, by omega, rfl⟩ (sx_isNode c1).1 (sx_isNode c1).2) dX4_setNumber_14 (fun H locs hP hD hS => ?_)
    have hP : va_P G.1 vwCl [(o, .inr (4, [.ref u0, .ref u1, .ref u2, .ref u3, .int (nI nm), .int ng])), (u0, .inl (G.2.1, 500, .inl (upd vn p1.toNatClampNeg p2)))] H := hP
    have hD : va_D A [(o, .inr (4, [.ref u0, .ref u1, .ref u2, .ref u3, .int (nI nm), .int ng])), (u0, .inl (G.2.1, 500, .inl (upd vn p1.toNatClampNeg p2)))] := hD
    exact sx_retV (u := upd vn p1.toNatClampNeg p2) hx hb hr hlk hK hP hD hS (by simp only [s_X4_setNumber, if_neg c1]) dX4_setNumber_15

abbrev wdX4_countUp : List Cond := Cond.code yX4_countUp cX4_countUp 2 none :: bwC
def s_X4_countUp (nm : Nat) (vc : Nat → Int32) (p1 : Int32) : (Nat → Int32) := if (s_X4_isNode nm p1) = 0 then vc else upd vc p1.toNatClampNeg ((vc p1.toNatClampNeg) + 1)
set_option maxHeartbeats 4000000 in
set_option maxRecDepth 100000 in
theorem c_X4_countUp (l : Launch) (G : sxG) (o : Nat) (u0 : Nat) (u1 : Nat) (u2 : Nat) (u3 : Nat) (nm : Nat) (ng : Int32) (vc : Nat → Int32) (p1 : Int32) (hm0 : nm ≤ 500) : sxV l yX4_countUp wdX4_countUp 1 21 G [(o, .inr (4, [.ref u0, .ref u1, .ref u2, .ref u3, .int (nI nm), .int ng])), (u1, .inl (G.2.1, 500, .inl vc))] [.ref o, .int p1] (fun u : (Nat → Int32) => ([(o, .inr (4, [.ref u0, .ref u1, .ref u2, .ref u3, .int (nI nm), .int ng])), (u1, .inl (G.2.1, 500, .inl u))] : va_W)) (s_X4_countUp nm vc p1) := by
  refine sxV.of (cc := cX4_countUp) (maxL := 2) (by decide) rfl (Nat.le_of_ble_eq_true rfl) ?_
  intro p e s m args below meth c ⟨hx, hb, hr, hml, hown, hlk, hts, hK⟩ A hA hP hD hS ls hl
  have hl : lv_has ls 2 [(0, .ref o), (1, .int p1)] := hl
  refine lv_aload_n hx hb dX4_countUp_0 rfl (lv_at hl 0 rfl) ?_
  refine lv_iload_n hx hb dX4_countUp_1 rfl (lv_at hl 1 rfl) ?_
  refine sx_v (As := [.int p1]) (rest := []) hx hb hml hown hts (c_X4_isNode l G o u0 u1 u2 u3 nm ng p1 ) 1 (sxGV (bi5 (w := Cond.methodLink RX4 36 yX4_isNode) 48 rfl) (bi5 (w := Cond.instanceMethod yX4_isNode) 49 rfl) (bi5 (w := Cond.selects RX4 yX4_isNode yX4_isNode) 50 rfl) (bi5 (w := Cond.initialized RX4) 51 rfl) (bi5 (w := Cond.code yX4_isNode cX4_isNode 2 (some .boolean)) 45 rfl)) rfl (by decide +kernel) ⟨Nat.le_of_ble_eq_true rfl, Nat.le_of_ble_eq_true rfl⟩ hK hP [0] rfl 0 rfl rfl rfl hl rfl (Nat.le_of_ble_eq_true rfl) ⟨Nat.zero_le _, Nat.zero_le _⟩ dX4_countUp_2 (fun r er => ?_)
  subst er
  refine lv_if_eq (tgt := 18) hx hb dX4_countUp_5 (by decide) (fun c1 => ?_) (fun c1 => ?_)
  · exact sx_retV (u := vc) hx hb hr hlk hK hP hD hS (by simp only [s_X4_countUp, if_pos c1]) dX4_countUp_18
  · refine lv_aload_n hx hb dX4_countUp_8 rfl (lv_at hl 0 rfl) ?_
    refine va_get (D := G.1) (ci := 4) (v := .ref u1) (C := RX4) (T := TX4) (N := 6) hx hb hts owX4 hown hK.1 hP 0 rfl rfl 1 (by decide) (bw5 (w := Cond.fieldLink RX4 15 "DropflagMill$Nodes" "counts" "[I") hts 39 rfl) (fun _ h9 => h9) rfl dX4_countUp_9 ?_
    refine lv_iload_n hx hb dX4_countUp_12 rfl (lv_at hl 1 rfl) ?_
    refine lv_dup2_11 hx hb dX4_countUp_13 rfl rfl ?_
    refine va_iald hx hb hK.1 hP 1 0 rfl rfl (i := p1) (sx_in_lt (by decide) ⟨nm, by omega, rfl⟩ (sx_isNode c1).1 (sx_isNode c1).2) dX4_countUp_14 ?_
    refine lv_iconst (v := 1) hx hb dX4_countUp_15 (by decide) ?_
    refine lv_iadd hx hb dX4_countUp_16 ?_
    refine va_iast hx hb hK.1 hP hD hS 1 0 rfl rfl (i := p1) (sx_in_lt (by decide) ⟨nm, by omega, rfl⟩ (sx_isNode c1).1 (sx_isNode c1).2) dX4_countUp_17 (fun H locs hP hD hS => ?_)
    have hP : va_P G.1 vwCl [(o, .inr (4, [.ref u0, .ref u1, .ref u2, .ref u3, .int (nI nm), .int ng])), (u1, .inl (G.2.1, 500, .inl (upd vc p1.toNatClampNeg ((vc p1.toNatClampNeg) + 1))))] H := hP
    have hD : va_D A [(o, .inr (4, [.ref u0, .ref u1, .ref u2, .ref u3, .int (nI nm), .int ng])), (u1, .inl (G.2.1, 500, .inl (upd vc p1.toNatClampNeg ((vc p1.toNatClampNeg) + 1))))] := hD
    exact sx_retV (u := upd vc p1.toNatClampNeg ((vc p1.toNatClampNeg) + 1)) hx hb hr hlk hK hP hD hS (by simp only [s_X4_countUp, if_neg c1]) dX4_countUp_18

abbrev wdX4_isAtEnd : List Cond := Cond.code yX4_isAtEnd cX4_isAtEnd 2 (some .boolean) :: bwC
def s_X4_isAtEnd (nm : Nat) (ng : Int32) (vc : Nat → Int32) (p1 : Int32) : ((Nat → Int32) × Int32) × Int32 := if (s_X4_isNode nm p1) = 0 then ((vc, ng), 0) else (if ((upd vc p1.toNatClampNeg ((vc p1.toNatClampNeg) - 1)) p1.toNatClampNeg) = 0 then ((upd vc p1.toNatClampNeg ((vc p1.toNatClampNeg) - 1), ng + 1), 1) else ((upd vc p1.toNatClampNeg ((vc p1.toNatClampNeg) - 1), ng), 0))
set_option maxHeartbeats 4000000 in
set_option maxRecDepth 100000 in
theorem c_X4_isAtEnd (l : Launch) (G : sxG) (o : Nat) (u0 : Nat) (u1 : Nat) (u2 : Nat) (u3 : Nat) (nm : Nat) (ng : Int32) (vc : Nat → Int32) (p1 : Int32) (hm0 : nm ≤ 500) : sxC l yX4_isAtEnd wdX4_isAtEnd 1 21 G [(o, .inr (4, [.ref u0, .ref u1, .ref u2, .ref u3, .int (nI nm), .int ng])), (u1, .inl (G.2.1, 500, .inl vc))] [.ref o, .int p1] (fun u : (Nat → Int32) × Int32 => ([(o, .inr (4, [.ref u0, .ref u1, .ref u2, .ref u3, .int (nI nm), .int u.2])), (u1, .inl (G.2.1, 500, .inl u.1))] : va_W)) (s_X4_isAtEnd nm ng vc p1) := by
  refine sxC.of (cc := cX4_isAtEnd) (maxL := 2) (by decide) rfl (Nat.le_of_ble_eq_true rfl) ?_
  intro p e s m args below meth c ⟨hx, hb, hr, hml, hown, hlk, hts, hK⟩ A hA hP hD hS ls hl
  have hl : lv_has ls 2 [(0, .ref o), (1, .int p1)] := hl
  refine lv_aload_n hx hb dX4_isAtEnd_0 rfl (lv_at hl 0 rfl) ?_
  refine lv_iload_n hx hb dX4_isAtEnd_1 rfl (lv_at hl 1 rfl) ?_
  refine sx_v (As := [.int p1]) (rest := []) hx hb hml hown hts (c_X4_isNode l G o u0 u1 u2 u3 nm ng p1 ) 1 (sxGV (bi5 (w := Cond.methodLink RX4 36 yX4_isNode) 48 rfl) (bi5 (w := Cond.instanceMethod yX4_isNode) 49 rfl) (bi5 (w := Cond.selects RX4 yX4_isNode yX4_isNode) 50 rfl) (bi5 (w := Cond.initialized RX4) 51 rfl) (bi5 (w := Cond.code yX4_isNode cX4_isNode 2 (some .boolean)) 45 rfl)) rfl (by decide +kernel) ⟨Nat.le_of_ble_eq_true rfl, Nat.le_of_ble_eq_true rfl⟩ hK hP [0] rfl 0 rfl rfl rfl hl rfl (Nat.le_of_ble_eq_true rfl) ⟨Nat.zero_le _, Nat.zero_le _⟩ dX4_isAtEnd_2 (fun r er => ?_)
  subst er
  refine lv_if_ne (tgt := 10) hx hb dX4_isAtEnd_5 (by decide) (fun c1 => ?_) (fun c1 => ?_)
  · refine lv_aload_n hx hb dX4_isAtEnd_10 rfl (lv_at hl 0 rfl) ?_
    refine va_get (D := G.1) (ci := 4) (v := .ref u1) (C := RX4) (T := TX4) (N := 6) hx hb hts owX4 hown hK.1 hP 0 rfl rfl 1 (by decide) (bw5 (w := Cond.fieldLink RX4 15 "DropflagMill$Nodes" "counts" "[I") hts 39 rfl) (fun _ h9 => h9) rfl dX4_isAtEnd_11 ?_
    refine lv_iload_n hx hb dX4_isAtEnd_14 rfl (lv_at hl 1 rfl) ?_
    refine lv_dup2_11 hx hb dX4_isAtEnd_15 rfl rfl ?_
    refine va_iald hx hb hK.1 hP 1 0 rfl rfl (i := p1) (sx_in_lt (by decide) ⟨nm, by omega, rfl⟩ (sx_isNode c1).1 (sx_isNode c1).2) dX4_isAtEnd_16 ?_
    refine lv_iconst (v := 1) hx hb dX4_isAtEnd_17 (by decide) ?_
    refine lv_isub hx hb dX4_isAtEnd_18 ?_
    refine va_iast hx hb hK.1 hP hD hS 1 0 rfl rfl (i := p1) (sx_in_lt (by decide) ⟨nm, by omega, rfl⟩ (sx_isNode c1).1 (sx_isNode c1).2) dX4_isAtEnd_19 (fun H locs hP hD hS => ?_)
    have hP : va_P G.1 vwCl [(o, .inr (4, [.ref u0, .ref u1, .ref u2, .ref u3, .int (nI nm), .int ng])), (u1, .inl (G.2.1, 500, .inl (upd vc p1.toNatClampNeg ((vc p1.toNatClampNeg) - 1))))] H := hP
    have hD : va_D A [(o, .inr (4, [.ref u0, .ref u1, .ref u2, .ref u3, .int (nI nm), .int ng])), (u1, .inl (G.2.1, 500, .inl (upd vc p1.toNatClampNeg ((vc p1.toNatClampNeg) - 1))))] := hD
    refine lv_aload_n hx hb dX4_isAtEnd_20 rfl (lv_at hl 0 rfl) ?_
    refine va_get (D := G.1) (ci := 4) (v := .ref u1) (C := RX4) (T := TX4) (N := 6) hx hb hts owX4 hown hK.1 hP 0 rfl rfl 1 (by decide) (bw5 (w := Cond.fieldLink RX4 15 "DropflagMill$Nodes" "counts" "[I") hts 39 rfl) (fun _ h9 => h9) rfl dX4_isAtEnd_21 ?_
    refine lv_iload_n hx hb dX4_isAtEnd_24 rfl (lv_at hl 1 rfl) ?_
    refine va_iald hx hb hK.1 hP 1 0 rfl rfl (i := p1) (sx_in_lt (by decide) ⟨nm, by omega, rfl⟩ (sx_isNode c1).1 (sx_isNode c1).2) dX4_isAtEnd_25 ?_
    refine lv_if_ne (tgt := 41) hx hb dX4_isAtEnd_26 (by decide) (fun c2 => ?_) (fun c2 => ?_)
    · refine lv_iconst (v := 0) hx hb dX4_isAtEnd_41 (by decide) ?_
      exact sx_retI (u := (upd vc p1.toNatClampNeg ((vc p1.toNatClampNeg) - 1), ng)) hx hb hr hlk hK hP hD hS rfl (by simp only [s_X4_isAtEnd, if_neg c1, if_neg c2]) (by simp only [s_X4_isAtEnd, if_neg c1, if_neg c2]) dX4_isAtEnd_42
    · refine lv_aload_n hx hb dX4_isAtEnd_29 rfl (lv_at hl 0 rfl) ?_
      refine lv_dup hx hb dX4_isAtEnd_30 rfl ?_
      refine va_get (D := G.1) (ci := 4) (v := .int ng) (C := RX4) (T := TX4) (N := 6) hx hb hts owX4 hown hK.1 hP 0 rfl rfl 5 (by decide) (bw5 (w := Cond.fieldLink RX4 29 "DropflagMill$Nodes" "gone" "I") hts 43 rfl) (fun _ h9 => h9) rfl dX4_isAtEnd_31 ?_
      refine lv_iconst (v := 1) hx hb dX4_isAtEnd_34 (by decide) ?_
      refine lv_iadd hx hb dX4_isAtEnd_35 ?_
      refine va_put (D := G.1) (ci := 4) (v := .int (ng + 1)) (ty := .int) (C := RX4) (T := TX4) (N := 6) hx hb hts owX4 tyX4 tyX4_ok nmX4 hown hK.1 hP hD hS 0 rfl rfl 5 (by decide) (bw5 (w := Cond.fieldLink RX4 29 "DropflagMill$Nodes" "gone" "I") hts 43 rfl) (fun _ h9 => h9) rfl (by decide +kernel) rfl rfl (Nat.le_of_ble_eq_true rfl) dX4_isAtEnd_36 (fun H locs hP hD hS => ?_)
      have hP : va_P G.1 vwCl [(o, .inr (4, [.ref u0, .ref u1, .ref u2, .ref u3, .int (nI nm), .int (ng + 1)])), (u1, .inl (G.2.1, 500, .inl (upd vc p1.toNatClampNeg ((vc p1.toNatClampNeg) - 1))))] H := hP
      have hD : va_D A [(o, .inr (4, [.ref u0, .ref u1, .ref u2, .ref u3, .int (nI nm), .int (ng + 1)])), (u1, .inl (G.2.1, 500, .inl (upd vc p1.toNatClampNeg ((vc p1.toNatClampNeg) - 1))))] := hD
      refine lv_iconst (v := 1) hx hb dX4_isAtEnd_39 (by decide) ?_
      exact sx_retI (u := (upd vc p1.toNatClampNeg ((vc p1.toNatClampNeg) - 1), ng + 1)) hx hb hr hlk hK hP hD hS rfl (by simp only [s_X4_isAtEnd, if_neg c1, if_pos c2]) (by simp only [s_X4_isAtEnd, if_neg c1, if_pos c2]) dX4_isAtEnd_40
  · refine lv_iconst (v := 0) hx hb dX4_isAtEnd_8 (by decide) ?_
    exact sx_retI (u := (vc, ng)) hx hb hr hlk hK hP hD hS rfl (by simp only [s_X4_isAtEnd, if_pos c1]) (by simp only [s_X4_isAtEnd, if_pos c1]) dX4_isAtEnd_9

abbrev wdX4_linkOf : List Cond := Cond.code yX4_linkOf cX4_linkOf 2 (some .int) :: bwC
def s_X4_linkOf (nm : Nat) (vl : Nat → Int32) (p1 : Int32) : Int32 := if (s_X4_isNode nm p1) = 0 then (-1) else vl p1.toNatClampNeg
set_option maxHeartbeats 4000000 in
set_option maxRecDepth 100000 in
theorem c_X4_linkOf (l : Launch) (G : sxG) (o : Nat) (u0 : Nat) (u1 : Nat) (u2 : Nat) (u3 : Nat) (nm : Nat) (ng : Int32) (vl : Nat → Int32) (p1 : Int32) (hm0 : nm ≤ 500) : sxM l yX4_linkOf wdX4_linkOf 1 21 G [(o, .inr (4, [.ref u0, .ref u1, .ref u2, .ref u3, .int (nI nm), .int ng])), (u2, .inl (G.2.1, 500, .inl vl))] [.ref o, .int p1] (fun r => r = s_X4_linkOf nm vl p1) := by
  refine sxM.of (cc := cX4_linkOf) (maxL := 2) (by decide) rfl (Nat.le_of_ble_eq_true rfl) ?_
  intro p e s m args below meth c ⟨hx, hb, hr, hml, hown, hlk, hts, hK⟩ hP ls hl
  have hl : lv_has ls 2 [(0, .ref o), (1, .int p1)] := hl
  refine lv_aload_n hx hb dX4_linkOf_0 rfl (lv_at hl 0 rfl) ?_
  refine lv_iload_n hx hb dX4_linkOf_1 rfl (lv_at hl 1 rfl) ?_
  refine sx_v (As := [.int p1]) (rest := []) hx hb hml hown hts (c_X4_isNode l G o u0 u1 u2 u3 nm ng p1 ) 1 (sxGV (bi5 (w := Cond.methodLink RX4 36 yX4_isNode) 48 rfl) (bi5 (w := Cond.instanceMethod yX4_isNode) 49 rfl) (bi5 (w := Cond.selects RX4 yX4_isNode yX4_isNode) 50 rfl) (bi5 (w := Cond.initialized RX4) 51 rfl) (bi5 (w := Cond.code yX4_isNode cX4_isNode 2 (some .boolean)) 45 rfl)) rfl (by decide +kernel) ⟨Nat.le_of_ble_eq_true rfl, Nat.le_of_ble_eq_true rfl⟩ hK hP [0] rfl 0 rfl rfl rfl hl rfl (Nat.le_of_ble_eq_true rfl) ⟨Nat.zero_le _, Nat.zero_le _⟩ dX4_linkOf_2 (fun r er => ?_)
  subst er
  refine lv_if_eq (tgt := 17) hx hb dX4_linkOf_5 (by decide) (fun c1 => ?_) (fun c1 => ?_)
  · refine lv_iconst (v := (-1)) hx hb dX4_linkOf_17 (by decide) ?_
    exact sx_ret hx hb hr hlk rfl (by simp only [s_X4_linkOf, if_pos c1]) dX4_linkOf_18
  · refine lv_aload_n hx hb dX4_linkOf_8 rfl (lv_at hl 0 rfl) ?_
    refine va_get (D := G.1) (ci := 4) (v := .ref u2) (C := RX4) (T := TX4) (N := 6) hx hb hts owX4 hown hK.1 hP 0 rfl rfl 2 (by decide) (bw5 (w := Cond.fieldLink RX4 18 "DropflagMill$Nodes" "links" "[I") hts 40 rfl) (fun _ h9 => h9) rfl dX4_linkOf_9 ?_
    refine lv_iload_n hx hb dX4_linkOf_12 rfl (lv_at hl 1 rfl) ?_
    refine va_iald hx hb hK.1 hP 1 0 rfl rfl (i := p1) (sx_in_lt (by decide) ⟨nm, by omega, rfl⟩ (sx_isNode c1).1 (sx_isNode c1).2) dX4_linkOf_13 ?_
    refine lv_goto (tgt := 18) hx hb dX4_linkOf_14 (by decide) ?_
    exact sx_ret hx hb hr hlk rfl (by simp only [s_X4_linkOf, if_neg c1]) dX4_linkOf_18

abbrev wdX4_setLink : List Cond := Cond.code yX4_setLink cX4_setLink 3 none :: bwC
def s_X4_setLink (nm : Nat) (vl : Nat → Int32) (p1 : Int32) (p2 : Int32) : (Nat → Int32) := if (s_X4_isNode nm p1) = 0 then vl else upd vl p1.toNatClampNeg p2
set_option maxHeartbeats 4000000 in
set_option maxRecDepth 100000 in
theorem c_X4_setLink (l : Launch) (G : sxG) (o : Nat) (u0 : Nat) (u1 : Nat) (u2 : Nat) (u3 : Nat) (nm : Nat) (ng : Int32) (vl : Nat → Int32) (p1 : Int32) (p2 : Int32) (hm0 : nm ≤ 500) : sxV l yX4_setLink wdX4_setLink 1 21 G [(o, .inr (4, [.ref u0, .ref u1, .ref u2, .ref u3, .int (nI nm), .int ng])), (u2, .inl (G.2.1, 500, .inl vl))] [.ref o, .int p1, .int p2] (fun u : (Nat → Int32) => ([(o, .inr (4, [.ref u0, .ref u1, .ref u2, .ref u3, .int (nI nm), .int ng])), (u2, .inl (G.2.1, 500, .inl u))] : va_W)) (s_X4_setLink nm vl p1 p2) := by
  refine sxV.of (cc := cX4_setLink) (maxL := 3) (by decide) rfl (Nat.le_of_ble_eq_true rfl) ?_
  intro p e s m args below meth c ⟨hx, hb, hr, hml, hown, hlk, hts, hK⟩ A hA hP hD hS ls hl
  have hl : lv_has ls 3 [(0, .ref o), (1, .int p1), (2, .int p2)] := hl
  refine lv_aload_n hx hb dX4_setLink_0 rfl (lv_at hl 0 rfl) ?_
  refine lv_iload_n hx hb dX4_setLink_1 rfl (lv_at hl 1 rfl) ?_
  refine sx_v (As := [.int p1]) (rest := []) hx hb hml hown hts (c_X4_isNode l G o u0 u1 u2 u3 nm ng p1 ) 1 (sxGV (bi5 (w := Cond.methodLink RX4 36 yX4_isNode) 48 rfl) (bi5 (w := Cond.instanceMethod yX4_isNode) 49 rfl) (bi5 (w := Cond.selects RX4 yX4_isNode yX4_isNode) 50 rfl) (bi5 (w := Cond.initialized RX4) 51 rfl) (bi5 (w := Cond.code yX4_isNode cX4_isNode 2 (some .boolean)) 45 rfl)) rfl (by decide +kernel) ⟨Nat.le_of_ble_eq_true rfl, Nat.le_of_ble_eq_true rfl⟩ hK hP [0] rfl 0 rfl rfl rfl hl rfl (Nat.le_of_ble_eq_true rfl) ⟨Nat.zero_le _, Nat.zero_le _⟩ dX4_setLink_2 (fun r er => ?_)
  subst er
  refine lv_if_eq (tgt := 15) hx hb dX4_setLink_5 (by decide) (fun c1 => ?_) (fun c1 => ?_)
  · exact sx_retV (u := vl) hx hb hr hlk hK hP hD hS (by simp only [s_X4_setLink, if_pos c1]) dX4_setLink_15
  · refine lv_aload_n hx hb dX4_setLink_8 rfl (lv_at hl 0 rfl) ?_
    refine va_get (D := G.1) (ci := 4) (v := .ref u2) (C := RX4) (T := TX4) (N := 6) hx hb hts owX4 hown hK.1 hP 0 rfl rfl 2 (by decide) (bw5 (w := Cond.fieldLink RX4 18 "DropflagMill$Nodes" "links" "[I") hts 40 rfl) (fun _ h9 => h9) rfl dX4_setLink_9 ?_
    refine lv_iload_n hx hb dX4_setLink_12 rfl (lv_at hl 1 rfl) ?_
    refine lv_iload_n hx hb dX4_setLink_13 rfl (lv_at hl 2 rfl) ?_
    refine va_iast hx hb hK.1 hP hD hS 1 0 rfl rfl (i := p1) (sx_in_lt (by decide) ⟨nm, by omega, rfl⟩ (sx_isNode c1).1 (sx_isNode c1).2) dX4_setLink_14 (fun H locs hP hD hS => ?_)
    have hP : va_P G.1 vwCl [(o, .inr (4, [.ref u0, .ref u1, .ref u2, .ref u3, .int (nI nm), .int ng])), (u2, .inl (G.2.1, 500, .inl (upd vl p1.toNatClampNeg p2)))] H := hP
    have hD : va_D A [(o, .inr (4, [.ref u0, .ref u1, .ref u2, .ref u3, .int (nI nm), .int ng])), (u2, .inl (G.2.1, 500, .inl (upd vl p1.toNatClampNeg p2)))] := hD
    exact sx_retV (u := upd vl p1.toNatClampNeg p2) hx hb hr hlk hK hP hD hS (by simp only [s_X4_setLink, if_neg c1]) dX4_setLink_15

abbrev wdX4_isHeldNow : List Cond := Cond.code yX4_isHeldNow cX4_isHeldNow 2 (some .boolean) :: bwC
def s_X4_isHeldNow (nm : Nat) (vh : Nat → Int32) (p1 : Int32) : Int32 := if (s_X4_isNode nm p1) = 0 then 0 else (if (vh p1.toNatClampNeg) = 0 then 0 else 1)
set_option maxHeartbeats 4000000 in
set_option maxRecDepth 100000 in
theorem c_X4_isHeldNow (l : Launch) (G : sxG) (o : Nat) (u0 : Nat) (u1 : Nat) (u2 : Nat) (u3 : Nat) (nm : Nat) (ng : Int32) (vh : Nat → Int32) (p1 : Int32) (hm0 : nm ≤ 500) : sxM l yX4_isHeldNow wdX4_isHeldNow 1 21 G [(o, .inr (4, [.ref u0, .ref u1, .ref u2, .ref u3, .int (nI nm), .int ng])), (u3, .inl (G.2.2, 500, .inl vh))] [.ref o, .int p1] (fun r => r = s_X4_isHeldNow nm vh p1) := by
  refine sxM.of (cc := cX4_isHeldNow) (maxL := 2) (by decide) rfl (Nat.le_of_ble_eq_true rfl) ?_
  intro p e s m args below meth c ⟨hx, hb, hr, hml, hown, hlk, hts, hK⟩ hP ls hl
  have hl : lv_has ls 2 [(0, .ref o), (1, .int p1)] := hl
  refine lv_aload_n hx hb dX4_isHeldNow_0 rfl (lv_at hl 0 rfl) ?_
  refine lv_iload_n hx hb dX4_isHeldNow_1 rfl (lv_at hl 1 rfl) ?_
  refine sx_v (As := [.int p1]) (rest := []) hx hb hml hown hts (c_X4_isNode l G o u0 u1 u2 u3 nm ng p1 ) 1 (sxGV (bi5 (w := Cond.methodLink RX4 36 yX4_isNode) 48 rfl) (bi5 (w := Cond.instanceMethod yX4_isNode) 49 rfl) (bi5 (w := Cond.selects RX4 yX4_isNode yX4_isNode) 50 rfl) (bi5 (w := Cond.initialized RX4) 51 rfl) (bi5 (w := Cond.code yX4_isNode cX4_isNode 2 (some .boolean)) 45 rfl)) rfl (by decide +kernel) ⟨Nat.le_of_ble_eq_true rfl, Nat.le_of_ble_eq_true rfl⟩ hK hP [0] rfl 0 rfl rfl rfl hl rfl (Nat.le_of_ble_eq_true rfl) ⟨Nat.zero_le _, Nat.zero_le _⟩ dX4_isHeldNow_2 (fun r er => ?_)
  subst er
  refine lv_if_eq (tgt := 21) hx hb dX4_isHeldNow_5 (by decide) (fun c1 => ?_) (fun c1 => ?_)
  · refine lv_iconst (v := 0) hx hb dX4_isHeldNow_21 (by decide) ?_
    exact sx_ret hx hb hr hlk rfl (by simp only [s_X4_isHeldNow, if_pos c1]) dX4_isHeldNow_22
  · refine lv_aload_n hx hb dX4_isHeldNow_8 rfl (lv_at hl 0 rfl) ?_
    refine va_get (D := G.1) (ci := 4) (v := .ref u3) (C := RX4) (T := TX4) (N := 6) hx hb hts owX4 hown hK.1 hP 0 rfl rfl 3 (by decide) (bw5 (w := Cond.fieldLink RX4 21 "DropflagMill$Nodes" "isHeld" "[Z") hts 41 rfl) (fun _ h9 => h9) rfl dX4_isHeldNow_9 ?_
    refine lv_iload_n hx hb dX4_isHeldNow_12 rfl (lv_at hl 1 rfl) ?_
    refine va_zald hx hb hK.1 hP 1 1 rfl rfl (i := p1) (sx_in_lt (by decide) ⟨nm, by omega, rfl⟩ (sx_isNode c1).1 (sx_isNode c1).2) dX4_isHeldNow_13 ?_
    refine lv_if_eq (tgt := 21) hx hb dX4_isHeldNow_14 (by decide) (fun c2 => ?_) (fun c2 => ?_)
    · refine lv_iconst (v := 0) hx hb dX4_isHeldNow_21 (by decide) ?_
      exact sx_ret hx hb hr hlk rfl (by simp only [s_X4_isHeldNow, if_neg c1, if_pos c2]) dX4_isHeldNow_22
    · refine lv_iconst (v := 1) hx hb dX4_isHeldNow_17 (by decide) ?_
      refine lv_goto (tgt := 22) hx hb dX4_isHeldNow_18 (by decide) ?_
      exact sx_ret hx hb hr hlk rfl (by simp only [s_X4_isHeldNow, if_neg c1, if_neg c2]) dX4_isHeldNow_22

abbrev wdX4_setHeld : List Cond := Cond.code yX4_setHeld cX4_setHeld 3 none :: bwC
def s_X4_setHeld (nm : Nat) (vh : Nat → Int32) (p1 : Int32) (p2 : Int32) : (Nat → Int32) := if (s_X4_isNode nm p1) = 0 then vh else upd vh p1.toNatClampNeg (vp_nar .boolean p2)
set_option maxHeartbeats 4000000 in
set_option maxRecDepth 100000 in
theorem c_X4_setHeld (l : Launch) (G : sxG) (o : Nat) (u0 : Nat) (u1 : Nat) (u2 : Nat) (u3 : Nat) (nm : Nat) (ng : Int32) (vh : Nat → Int32) (p1 : Int32) (p2 : Int32) (hm0 : nm ≤ 500) : sxV l yX4_setHeld wdX4_setHeld 1 21 G [(o, .inr (4, [.ref u0, .ref u1, .ref u2, .ref u3, .int (nI nm), .int ng])), (u3, .inl (G.2.2, 500, .inl vh))] [.ref o, .int p1, .int p2] (fun u : (Nat → Int32) => ([(o, .inr (4, [.ref u0, .ref u1, .ref u2, .ref u3, .int (nI nm), .int ng])), (u3, .inl (G.2.2, 500, .inl u))] : va_W)) (s_X4_setHeld nm vh p1 p2) := by
  refine sxV.of (cc := cX4_setHeld) (maxL := 3) (by decide) rfl (Nat.le_of_ble_eq_true rfl) ?_
  intro p e s m args below meth c ⟨hx, hb, hr, hml, hown, hlk, hts, hK⟩ A hA hP hD hS ls hl
  have hl : lv_has ls 3 [(0, .ref o), (1, .int p1), (2, .int p2)] := hl
  refine lv_aload_n hx hb dX4_setHeld_0 rfl (lv_at hl 0 rfl) ?_
  refine lv_iload_n hx hb dX4_setHeld_1 rfl (lv_at hl 1 rfl) ?_
  refine sx_v (As := [.int p1]) (rest := []) hx hb hml hown hts (c_X4_isNode l G o u0 u1 u2 u3 nm ng p1 ) 1 (sxGV (bi5 (w := Cond.methodLink RX4 36 yX4_isNode) 48 rfl) (bi5 (w := Cond.instanceMethod yX4_isNode) 49 rfl) (bi5 (w := Cond.selects RX4 yX4_isNode yX4_isNode) 50 rfl) (bi5 (w := Cond.initialized RX4) 51 rfl) (bi5 (w := Cond.code yX4_isNode cX4_isNode 2 (some .boolean)) 45 rfl)) rfl (by decide +kernel) ⟨Nat.le_of_ble_eq_true rfl, Nat.le_of_ble_eq_true rfl⟩ hK hP [0] rfl 0 rfl rfl rfl hl rfl (Nat.le_of_ble_eq_true rfl) ⟨Nat.zero_le _, Nat.zero_le _⟩ dX4_setHeld_2 (fun r er => ?_)
  subst er
  refine lv_if_eq (tgt := 15) hx hb dX4_setHeld_5 (by decide) (fun c1 => ?_) (fun c1 => ?_)
  · exact sx_retV (u := vh) hx hb hr hlk hK hP hD hS (by simp only [s_X4_setHeld, if_pos c1]) dX4_setHeld_15
  · refine lv_aload_n hx hb dX4_setHeld_8 rfl (lv_at hl 0 rfl) ?_
    refine va_get (D := G.1) (ci := 4) (v := .ref u3) (C := RX4) (T := TX4) (N := 6) hx hb hts owX4 hown hK.1 hP 0 rfl rfl 3 (by decide) (bw5 (w := Cond.fieldLink RX4 21 "DropflagMill$Nodes" "isHeld" "[Z") hts 41 rfl) (fun _ h9 => h9) rfl dX4_setHeld_9 ?_
    refine lv_iload_n hx hb dX4_setHeld_12 rfl (lv_at hl 1 rfl) ?_
    refine lv_iload_n hx hb dX4_setHeld_13 rfl (lv_at hl 2 rfl) ?_
    refine va_zast hx hb hK.1 hP hD hS 1 1 rfl rfl (i := p1) (sx_in_lt (by decide) ⟨nm, by omega, rfl⟩ (sx_isNode c1).1 (sx_isNode c1).2) dX4_setHeld_14 (fun H locs hP hD hS => ?_)
    have hP : va_P G.1 vwCl [(o, .inr (4, [.ref u0, .ref u1, .ref u2, .ref u3, .int (nI nm), .int ng])), (u3, .inl (G.2.2, 500, .inl (upd vh p1.toNatClampNeg (vp_nar .boolean p2))))] H := hP
    have hD : va_D A [(o, .inr (4, [.ref u0, .ref u1, .ref u2, .ref u3, .int (nI nm), .int ng])), (u3, .inl (G.2.2, 500, .inl (upd vh p1.toNatClampNeg (vp_nar .boolean p2))))] := hD
    exact sx_retV (u := upd vh p1.toNatClampNeg (vp_nar .boolean p2)) hx hb hr hlk hK hP hD hS (by simp only [s_X4_setHeld, if_neg c1]) dX4_setHeld_15

set_option maxHeartbeats 2000000 in
theorem b_X4_clear_0   : (s_X4_clear ).1 ≤ 500 := by
  rw [s_X4_clear]
  show 0 ≤ 500
  exact by omega

set_option maxHeartbeats 2000000 in
theorem b_X4_newNode_4 (nm : Nat) (vn : Nat → Int32) (vc : Nat → Int32) (vl : Nat → Int32) (vh : Nat → Int32) (p1 : Int32) (b_nm : nm ≤ 500) : (s_X4_newNode nm vn vc vl vh p1).1.2.2.2.2 ≤ 500 := by
  rw [s_X4_newNode]
  by_cases c1 : (s_X9_isIndexOf 500 (nI nm)) = 0
  · rw [if_pos c1]
    show nm ≤ 500
    exact by omega
  · rw [if_neg c1]
    have nc1 : nm < 500 := sx_ixNat (by decide) (by omega) c1
    show (nm + 1) ≤ 500
    exact by omega
