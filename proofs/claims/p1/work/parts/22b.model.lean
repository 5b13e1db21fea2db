set_option maxHeartbeats 8000000 in
set_option maxRecDepth 100000 in
theorem k_pg_init (l : Launch) (G : sxG) (k : pxC) (pg : Nat)  : pxM l yX14_init (Cond.code yX14_init cX14_init 1 none :: bwA) 4 72 2 6 G k [(pg, .inr (19, [.null, .null]))] [.ref pg] (fun u : Nat × Nat => none) (fun u : Nat × Nat => ([(pg, .inr (19, [.ref u.1, .ref u.2])), (u.1, .inr (4, [.int 0, .ref k.1, .int 0])), (u.2, .inr (4, [.int 0, .ref k.1, .int 0]))] : va_W)) := by
  refine pxM.of (cc := cX14_init) (maxL := 1) (by decide) rfl (Nat.le_of_ble_eq_true rfl) ?_
  intro p e s m args below meth c ⟨hx, hb, hr, hml, hown, hlk, hts, hK⟩ hin A hA hP hD hS hE ls hl
  have hl : lv_has ls 1 [(0, .ref pg)] := hl
  refine lv_aload_n hx hb dX14_init_0 rfl (lv_at hl 0 rfl) ?_
  refine W.objInit hx hb hown (aw (w := Cond.methodLink RX14 3 objectInit) hts (ai5 (w := Cond.methodLink RX14 3 objectInit) 14 rfl)) (aw (w := Cond.instanceMethod objectInit) hts (ahC (bi0 (w := Cond.instanceMethod objectInit) 2 rfl))) (aw (w := Cond.code objectInit ⟨#[0xb1]⟩ 1 none) hts (ahC (bi0 (w := Cond.code objectInit ⟨#[0xb1]⟩ 1 none) 3 rfl))) rfl (by rw [hml]; exact hl.1) rfl dX14_init_1 (Nat.le_of_ble_eq_true rfl) (Nat.le_of_ble_eq_true rfl) ?_
  refine W.eq (g2 := F0 m 4 ls []) rfl ?_
  refine lv_aload_n hx hb dX14_init_4 rfl (lv_at hl 0 rfl) ?_
  refine va_new (ci := 4) (fs := [.int 0, .null, .int 0]) (C := RJx4a65c) (T := TJx4a65c) (N := 3) hx hb hts oaJx4a65c tyJx4a65c tyJx4a65c_ok hown (aw (w := Cond.classLink RX14 9 RJx4a65c) hts (ai5 (w := Cond.classLink RX14 9 RJx4a65c) 15 rfl)) (aw (w := Cond.instantiable RJx4a65c 3) hts (ai1 (w := Cond.instantiable RJx4a65c 3) 44 rfl)) (aw (w := Cond.initialized RJx4a65c) hts (ai0 (w := Cond.initialized RJx4a65c) 31 rfl)) hK.1 hP hD hS hA rfl dvJx4a65c (Nat.le_of_ble_eq_true rfl) (Nat.le_of_ble_eq_true rfl) dX14_init_5 (fun q1 H hP hD hS => ?_)
  have hP : va_P G.1 vwCl [(pg, .inr (19, [.null, .null])), (q1, .inr (4, [.int 0, .null, .int 0]))] _ := hP
  have hD : va_D A [(pg, .inr (19, [.null, .null])), (q1, .inr (4, [.int 0, .null, .int 0]))] := hD
  refine W.widen (k := 1) (n := 3) (Nat.le_of_ble_eq_true rfl) (Nat.le_of_ble_eq_true rfl) ?_
  refine lv_dup hx hb dX14_init_8 rfl ?_
  refine px_i (As := []) (rest := [.ref q1, .ref pg]) (wr := [(pg, .inr (19, [.null, .null]))]) hx hb hml hown hts (k_al_init l G k q1 ) 0 (gA idA (ai0 (w := Cond.code yJx4a65c_init_da8c8 cJx4a65c_init_da8c8 1 none) 12 rfl)) rfl (aw (w := Cond.initialized RJx4a65c) hts (ai0 (w := Cond.initialized RJx4a65c) 31 rfl)) (aw (w := Cond.methodLink RX14 11 yJx4a65c_init_da8c8) hts (ai5 (w := Cond.methodLink RX14 11 yJx4a65c_init_da8c8) 16 rfl)) (aw (w := Cond.instanceMethod yJx4a65c_init_da8c8) hts (ai1 (w := Cond.instanceMethod yJx4a65c_init_da8c8) 49 rfl)) rfl (by decide +kernel) ⟨(Nat.le_of_ble_eq_true rfl), (Nat.le_of_ble_eq_true rfl)⟩ hK hP hD hS hA hE [1] [0] rfl (by decide) rfl (by decide) (by decide) rfl hl rfl (Nat.le_of_ble_eq_true rfl) ⟨(Nat.le_of_ble_eq_true rfl), (Nat.le_of_ble_eq_true rfl)⟩ dX14_init_9 (fun u H locs hP hD hS => ?_)
  have hP : va_P G.1 vwCl [(pg, .inr (19, [.null, .null])), (q1, .inr (4, [.int 0, .ref k.1, .int 0]))] _ := hP
  have hD : va_D A [(pg, .inr (19, [.null, .null])), (q1, .inr (4, [.int 0, .ref k.1, .int 0]))] := hD
  refine W.eq (g2 := F0 m _ ls [.ref q1, .ref pg]) rfl ?_
  refine va_putF (D := G.1) (ci := 19) (v := .ref q1) (ty := .object "java/util/ArrayList") (C := RX14) (T := TX14) (N := 2) hx hb hts oaX14 tyX14 tyX14_ok nmX14 hown hK.1 hP hD hS 0 rfl rfl 0 (by decide) (aw (w := Cond.fieldLink RX14 12 "DropflagMillModel$Program" "kinds" "Ljava/util/ArrayList;") hts (ai2 (w := Cond.fieldLink RX14 12 "DropflagMillModel$Program" "kinds" "Ljava/util/ArrayList;") 13 rfl)) (fun _ h9 => h9) rfl hin rfl (by decide +kernel) rfl rfl (Nat.le_of_ble_eq_true rfl) dX14_init_12 (fun H locs hP hD hS => ?_)
  have hP : va_P G.1 vwCl [(pg, .inr (19, [.ref q1, .null])), (q1, .inr (4, [.int 0, .ref k.1, .int 0]))] _ := hP
  have hD : va_D A [(pg, .inr (19, [.ref q1, .null])), (q1, .inr (4, [.int 0, .ref k.1, .int 0]))] := hD
  refine lv_aload_n hx hb dX14_init_15 rfl (lv_at hl 0 rfl) ?_
  refine va_new (ci := 4) (fs := [.int 0, .null, .int 0]) (C := RJx4a65c) (T := TJx4a65c) (N := 3) hx hb hts oaJx4a65c tyJx4a65c tyJx4a65c_ok hown (aw (w := Cond.classLink RX14 9 RJx4a65c) hts (ai5 (w := Cond.classLink RX14 9 RJx4a65c) 15 rfl)) (aw (w := Cond.instantiable RJx4a65c 3) hts (ai1 (w := Cond.instantiable RJx4a65c 3) 44 rfl)) (aw (w := Cond.initialized RJx4a65c) hts (ai0 (w := Cond.initialized RJx4a65c) 31 rfl)) hK.1 hP hD hS hA rfl dvJx4a65c (Nat.le_of_ble_eq_true rfl) (Nat.le_of_ble_eq_true rfl) dX14_init_16 (fun q2 H hP hD hS => ?_)
  have hP : va_P G.1 vwCl [(pg, .inr (19, [.ref q1, .null])), (q1, .inr (4, [.int 0, .ref k.1, .int 0])), (q2, .inr (4, [.int 0, .null, .int 0]))] _ := hP
  have hD : va_D A [(pg, .inr (19, [.ref q1, .null])), (q1, .inr (4, [.int 0, .ref k.1, .int 0])), (q2, .inr (4, [.int 0, .null, .int 0]))] := hD
  refine W.widen (k := 2) (n := 6) (Nat.le_of_ble_eq_true rfl) (Nat.le_of_ble_eq_true rfl) ?_
  refine lv_dup hx hb dX14_init_19 rfl ?_
  refine px_i (As := []) (rest := [.ref q2, .ref pg]) (wr := [(pg, .inr (19, [.ref q1, .null])), (q1, .inr (4, [.int 0, .ref k.1, .int 0]))]) hx hb hml hown hts (k_al_init l G k q2 ) 0 (gA idA (ai0 (w := Cond.code yJx4a65c_init_da8c8 cJx4a65c_init_da8c8 1 none) 12 rfl)) rfl (aw (w := Cond.initialized RJx4a65c) hts (ai0 (w := Cond.initialized RJx4a65c) 31 rfl)) (aw (w := Cond.methodLink RX14 11 yJx4a65c_init_da8c8) hts (ai5 (w := Cond.methodLink RX14 11 yJx4a65c_init_da8c8) 16 rfl)) (aw (w := Cond.instanceMethod yJx4a65c_init_da8c8) hts (ai1 (w := Cond.instanceMethod yJx4a65c_init_da8c8) 49 rfl)) rfl (by decide +kernel) ⟨(Nat.le_of_ble_eq_true rfl), (Nat.le_of_ble_eq_true rfl)⟩ hK hP hD hS hA hE [2] [0, 1] rfl (by decide) rfl (by decide) (by decide) rfl hl rfl (Nat.le_of_ble_eq_true rfl) ⟨(Nat.le_of_ble_eq_true rfl), (Nat.le_of_ble_eq_true rfl)⟩ dX14_init_20 (fun u H locs hP hD hS => ?_)
  have hP : va_P G.1 vwCl [(pg, .inr (19, [.ref q1, .null])), (q1, .inr (4, [.int 0, .ref k.1, .int 0])), (q2, .inr (4, [.int 0, .ref k.1, .int 0]))] _ := hP
  have hD : va_D A [(pg, .inr (19, [.ref q1, .null])), (q1, .inr (4, [.int 0, .ref k.1, .int 0])), (q2, .inr (4, [.int 0, .ref k.1, .int 0]))] := hD
  refine W.eq (g2 := F0 m _ ls [.ref q2, .ref pg]) rfl ?_
  refine va_putF (D := G.1) (ci := 19) (v := .ref q2) (ty := .object "java/util/ArrayList") (C := RX14) (T := TX14) (N := 2) hx hb hts oaX14 tyX14 tyX14_ok nmX14 hown hK.1 hP hD hS 0 rfl rfl 1 (by decide) (aw (w := Cond.fieldLink RX14 18 "DropflagMillModel$Program" "lines" "Ljava/util/ArrayList;") hts (ai2 (w := Cond.fieldLink RX14 18 "DropflagMillModel$Program" "lines" "Ljava/util/ArrayList;") 33 rfl)) (fun _ h9 => h9) rfl hin rfl (by decide +kernel) rfl rfl (Nat.le_of_ble_eq_true rfl) dX14_init_23 (fun H locs hP hD hS => ?_)
  have hP : va_P G.1 vwCl [(pg, .inr (19, [.ref q1, .ref q2])), (q1, .inr (4, [.int 0, .ref k.1, .int 0])), (q2, .inr (4, [.int 0, .ref k.1, .int 0]))] _ := hP
  have hD : va_D A [(pg, .inr (19, [.ref q1, .ref q2])), (q1, .inr (4, [.int 0, .ref k.1, .int 0])), (q2, .inr (4, [.int 0, .ref k.1, .int 0]))] := hD
  refine W.widen (k := 2) (n := 6) (Nat.le_of_ble_eq_true rfl) (Nat.le_of_ble_eq_true rfl) ?_
  exact px_rv (q1, q2) hx hb hr hlk (hP.sub [0, 1, 2] rfl) (hD.sub [0, 1, 2] (by decide) rfl) hS rfl dX14_init_26

set_option maxHeartbeats 8000000 in
set_option maxRecDepth 100000 in
theorem k_md_init (l : Launch) (G : sxG) (k : pxC) (z : Nat)  : pxM l yX16_init (Cond.code yX16_init cX16_init 1 none :: bwA) 5 92 3 8 G k [(z, .inr (21, [.int 0, .null, .null, .int 0]))] [.ref z] (fun u : Nat × Nat × Nat => none) (fun u : Nat × Nat × Nat => ([(z, .inr (21, [.int 0, .ref u.1, .null, .int 0])), (u.1, .inr (19, [.ref u.2.1, .ref u.2.2])), (u.2.1, .inr (4, [.int 0, .ref k.1, .int 0])), (u.2.2, .inr (4, [.int 0, .ref k.1, .int 0]))] : va_W)) := by
  refine pxM.of (cc := cX16_init) (maxL := 1) (by decide) rfl (Nat.le_of_ble_eq_true rfl) ?_
  intro p e s m args below meth c ⟨hx, hb, hr, hml, hown, hlk, hts, hK⟩ hin A hA hP hD hS hE ls hl
  have hl : lv_has ls 1 [(0, .ref z)] := hl
  refine lv_aload_n hx hb dX16_init_0 rfl (lv_at hl 0 rfl) ?_
  refine W.objInit hx hb hown (aw (w := Cond.methodLink RX16 1 objectInit) hts (ai7 (w := Cond.methodLink RX16 1 objectInit) 51 rfl)) (aw (w := Cond.instanceMethod objectInit) hts (ahC (bi0 (w := Cond.instanceMethod objectInit) 2 rfl))) (aw (w := Cond.code objectInit ⟨#[0xb1]⟩ 1 none) hts (ahC (bi0 (w := Cond.code objectInit ⟨#[0xb1]⟩ 1 none) 3 rfl))) rfl (by rw [hml]; exact hl.1) rfl dX16_init_1 (Nat.le_of_ble_eq_true rfl) (Nat.le_of_ble_eq_true rfl) ?_
  refine W.eq (g2 := F0 m 4 ls []) rfl ?_
  refine lv_aload_n hx hb dX16_init_4 rfl (lv_at hl 0 rfl) ?_
  refine va_new (ci := 19) (fs := [.null, .null]) (C := RX14) (T := TX14) (N := 2) hx hb hts oaX14 tyX14 tyX14_ok hown (aw (w := Cond.classLink RX16 7 RX14) hts (ai7 (w := Cond.classLink RX16 7 RX14) 52 rfl)) (aw (w := Cond.instantiable RX14 2) hts (ai5 (w := Cond.instantiable RX14 2) 23 rfl)) (aw (w := Cond.initialized RX14) hts (ai2 (w := Cond.initialized RX14) 24 rfl)) hK.1 hP hD hS hA rfl dvX14 (Nat.le_of_ble_eq_true rfl) (Nat.le_of_ble_eq_true rfl) dX16_init_5 (fun q1 H hP hD hS => ?_)
  have hP : va_P G.1 vwCl [(z, .inr (21, [.int 0, .null, .null, .int 0])), (q1, .inr (19, [.null, .null]))] _ := hP
  have hD : va_D A [(z, .inr (21, [.int 0, .null, .null, .int 0])), (q1, .inr (19, [.null, .null]))] := hD
  refine W.widen (k := 1) (n := 2) (Nat.le_of_ble_eq_true rfl) (Nat.le_of_ble_eq_true rfl) ?_
  refine lv_dup hx hb dX16_init_8 rfl ?_
  refine px_in (host := RX16) (As := []) (rest := [.ref q1, .ref z]) (wr := [(z, .inr (21, [.int 0, .null, .null, .int 0]))]) hx hb hml hown hts (k_pg_init l G k q1 ) 0 (gA idA (ai5 (w := Cond.code yX14_init cX14_init 1 none) 13 rfl)) rfl (aw (w := Cond.initialized RX14) hts (ai2 (w := Cond.initialized RX14) 24 rfl)) (hE.1.1 (.methodLinkNest RX16 9 yX14_init RX16) (by simp [pxNl])) (aw (w := Cond.instanceMethod yX14_init) hts (ai5 (w := Cond.instanceMethod yX14_init) 25 rfl)) rfl (by decide +kernel) ⟨(Nat.le_of_ble_eq_true rfl), (Nat.le_of_ble_eq_true rfl)⟩ hK hP hD hS hA hE [1] [0] rfl (by decide) rfl (by decide) (by decide) rfl hl rfl (Nat.le_of_ble_eq_true rfl) ⟨(Nat.le_of_ble_eq_true rfl), (Nat.le_of_ble_eq_true rfl)⟩ dX16_init_9 (fun u H locs hP hD hS => ?_)
  obtain ⟨q2, q3⟩ := u
  have hP : va_P G.1 vwCl [(z, .inr (21, [.int 0, .null, .null, .int 0])), (q1, .inr (19, [.ref q2, .ref q3])), (q2, .inr (4, [.int 0, .ref k.1, .int 0])), (q3, .inr (4, [.int 0, .ref k.1, .int 0]))] _ := hP
  have hD : va_D A [(z, .inr (21, [.int 0, .null, .null, .int 0])), (q1, .inr (19, [.ref q2, .ref q3])), (q2, .inr (4, [.int 0, .ref k.1, .int 0])), (q3, .inr (4, [.int 0, .ref k.1, .int 0]))] := hD
  refine W.eq (g2 := F0 m _ ls [.ref q1, .ref z]) rfl ?_
  refine W.widen (k := 3) (n := 8) (Nat.le_of_ble_eq_true rfl) (Nat.le_of_ble_eq_true rfl) ?_
  refine va_putF (D := G.1) (ci := 21) (v := .ref q1) (ty := .object "DropflagMillModel$Program") (C := RX16) (T := TX16) (N := 4) hx hb hts oaX16 tyX16 tyX16_ok nmX16 hown hK.1 hP hD hS 0 rfl rfl 1 (by decide) (aw (w := Cond.fieldLink RX16 10 "DropflagMillModel" "program" "LDropflagMillModel$Program;") hts (ai7 (w := Cond.fieldLink RX16 10 "DropflagMillModel" "program" "LDropflagMillModel$Program;") 53 rfl)) (fun _ h9 => h9) rfl hin rfl (by decide +kernel) rfl rfl (Nat.le_of_ble_eq_true rfl) dX16_init_12 (fun H locs hP hD hS => ?_)
  have hP : va_P G.1 vwCl [(z, .inr (21, [.int 0, .ref q1, .null, .int 0])), (q1, .inr (19, [.ref q2, .ref q3])), (q2, .inr (4, [.int 0, .ref k.1, .int 0])), (q3, .inr (4, [.int 0, .ref k.1, .int 0]))] _ := hP
  have hD : va_D A [(z, .inr (21, [.int 0, .ref q1, .null, .int 0])), (q1, .inr (19, [.ref q2, .ref q3])), (q2, .inr (4, [.int 0, .ref k.1, .int 0])), (q3, .inr (4, [.int 0, .ref k.1, .int 0]))] := hD
  refine W.widen (k := 3) (n := 8) (Nat.le_of_ble_eq_true rfl) (Nat.le_of_ble_eq_true rfl) ?_
  exact px_rv (q1, q2, q3) hx hb hr hlk (hP.sub [0, 1, 2, 3] rfl) (hD.sub [0, 1, 2, 3] (by decide) rfl) hS rfl dX16_init_15

def s_isIn (i1 : Int32) (i2 : Int32) (i3 : Int32) : Int32 := if i1 < i2 then 0 else (if i3 < i1 then 0 else 1)
set_option maxHeartbeats 8000000 in
set_option maxRecDepth 100000 in
theorem k_isIn (l : Launch) (G : sxG) (k : pxC) (i1 : Int32) (i2 : Int32) (i3 : Int32)  : pxM l yX16_isIn (Cond.code yX16_isIn cX16_isIn 3 (some .boolean) :: bwA) 0 12 0 0 G k [] [.int i1, .int i2, .int i3] (fun u : Unit => some (.int (s_isIn i1 i2 i3))) (fun u : Unit => ([] : va_W)) := by
  refine pxM.of (cc := cX16_isIn) (maxL := 3) (by decide) rfl (Nat.le_of_ble_eq_true rfl) ?_
  intro p e s m args below meth c ⟨hx, hb, hr, hml, hown, hlk, hts, hK⟩ hin A hA hP hD hS hE ls hl
  have hl : lv_has ls 3 [(0, .int i1), (1, .int i2), (2, .int i3)] := hl
  refine lv_iload_n hx hb dX16_isIn_0 rfl (lv_at hl 0 rfl) ?_
  refine lv_iload_n hx hb dX16_isIn_1 rfl (lv_at hl 1 rfl) ?_
  refine lv_icmp_lt (tgt := 14) hx hb dX16_isIn_2 (by decide) (fun c1 => ?_) (fun c1 => ?_)
  · refine lv_iconst (v := 0) hx hb dX16_isIn_14 (by decide) ?_
    refine W.widen (k := 0) (n := 0) (Nat.le_of_ble_eq_true rfl) (Nat.le_of_ble_eq_true rfl) ?_
    exact px_ri () hx hb hr hlk (hP.sub [] rfl) (hD.sub [] (by decide) rfl) hS rfl (by simp only [s_isIn, if_pos c1]) dX16_isIn_15
  · refine lv_iload_n hx hb dX16_isIn_5 rfl (lv_at hl 0 rfl) ?_
    refine lv_iload_n hx hb dX16_isIn_6 rfl (lv_at hl 2 rfl) ?_
    refine lv_icmp_gt (tgt := 14) hx hb dX16_isIn_7 (by decide) (fun c2 => ?_) (fun c2 => ?_)
    · refine lv_iconst (v := 0) hx hb dX16_isIn_14 (by decide) ?_
      refine W.widen (k := 0) (n := 0) (Nat.le_of_ble_eq_true rfl) (Nat.le_of_ble_eq_true rfl) ?_
      exact px_ri () hx hb hr hlk (hP.sub [] rfl) (hD.sub [] (by decide) rfl) hS rfl (by simp only [s_isIn, if_neg c1, if_pos c2]) dX16_isIn_15
    · refine lv_iconst (v := 1) hx hb dX16_isIn_10 (by decide) ?_
      refine lv_goto (tgt := 15) hx hb dX16_isIn_11 (by decide) ?_
      refine W.widen (k := 0) (n := 0) (Nat.le_of_ble_eq_true rfl) (Nat.le_of_ble_eq_true rfl) ?_
      exact px_ri () hx hb hr hlk (hP.sub [] rfl) (hD.sub [] (by decide) rfl) hS rfl (by simp only [s_isIn, if_neg c1, if_neg c2]) dX16_isIn_15

theorem isIn_neg (a : Int32) : s_isIn a 0 (-1) = 0 := by
  unfold s_isIn
  by_cases h : a < 0
  · rw [if_pos h]
  · rw [if_neg h, if_pos (show (-1 : Int32) < a from Int32.lt_of_lt_of_le (by decide) (Int32.not_lt.mp h))]
theorem isIn_lo {v : Int32} (h : s_isIn v 0 5 = 1) : ¬ v < (-128) := by
  unfold s_isIn at h
  by_cases c1 : v < 0
  · rw [if_pos c1] at h; exact absurd h (by decide)
  · exact fun q => c1 (Int32.lt_trans q (by decide))
theorem isIn_hi {v : Int32} (h : s_isIn v 0 5 = 1) : ¬ 127 < v := by
  unfold s_isIn at h
  by_cases c1 : v < 0
  · rw [if_pos c1] at h; exact absurd h (by decide)
  · rw [if_neg c1] at h
    by_cases c2 : (5 : Int32) < v
    · rw [if_pos c2] at h; exact absurd h (by decide)
    · exact fun q => c2 (Int32.lt_trans (by decide) q)
theorem isIn_nar (a b c : Int32) : narrow .boolean (.int (s_isIn a b c)) = .int (s_isIn a b c) := by
  unfold s_isIn
  split
  · rfl
  · split <;> rfl
theorem isIn_m1 : s_isIn (-1) 0 2 = 0 := by decide

set_option maxHeartbeats 8000000 in
set_option maxRecDepth 100000 in
theorem k_refuseF (l : Launch) (G : sxG) (k : pxC) (z : Nat) (pg : Nat) (wh : Int32)  : pxM l yX16_refuse (Cond.code yX16_refuse cX16_refuse 3 (some .boolean) :: bwA) 0 12 0 0 G k [(z, .inr (21, [.int 0, .ref pg, .null, .int 0]))] [.ref z, .int 0, .int wh] (fun u : Unit => some (.int 0)) (fun u : Unit => ([(z, .inr (21, [.int 0, .ref pg, .null, .int 0]))] : va_W)) := by
  refine pxM.of (cc := cX16_refuse) (maxL := 3) (by decide) rfl (Nat.le_of_ble_eq_true rfl) ?_
  intro p e s m args below meth c ⟨hx, hb, hr, hml, hown, hlk, hts, hK⟩ hin A hA hP hD hS hE ls hl
  have hl : lv_has ls 3 [(0, .ref z), (1, .int 0), (2, .int wh)] := hl
  refine lv_iload_n hx hb dX16_refuse_0 rfl (lv_at hl 1 rfl) ?_
  refine lv_if_eq (tgt := 16) hx hb dX16_refuse_1 (by decide) (fun c1 => ?_) (fun c1 => absurd c1 (by decide))
  refine lv_aload_n hx hb dX16_refuse_16 rfl (lv_at hl 0 rfl) ?_
  refine va_get (D := G.1) (ci := 21) (v := .int 0) (C := RX16) (T := TX16) (N := 4) hx hb hts oaX16 hown hK.1 hP 0 rfl rfl 0 (by decide) (aw (w := Cond.fieldLink RX16 16 "DropflagMillModel" "thrown" "I") hts (ai7 (w := Cond.fieldLink RX16 16 "DropflagMillModel" "thrown" "I") 56 rfl)) (fun _ h9 => h9) rfl dX16_refuse_17 ?_
  refine lv_if_le (tgt := 27) hx hb dX16_refuse_20 (by decide) (fun c2 => ?_) (fun c2 => absurd c2 (by decide))
  refine lv_iconst (v := 0) hx hb dX16_refuse_27 (by decide) ?_
  refine W.widen (k := 0) (n := 0) (Nat.le_of_ble_eq_true rfl) (Nat.le_of_ble_eq_true rfl) ?_
  exact px_ri () hx hb hr hlk (hP.sub [0] rfl) (hD.sub [0] (by decide) rfl) hS rfl (rfl) dX16_refuse_28

set_option maxHeartbeats 8000000 in
set_option maxRecDepth 100000 in
theorem k_refuseT (l : Launch) (G : sxG) (k : pxC) (z : Nat) (pg : Nat)  : pxM l yX16_refuse (Cond.code yX16_refuse cX16_refuse 3 (some .boolean) :: bwA) 0 12 0 0 G k [(z, .inr (21, [.int 0, .ref pg, .null, .int 0]))] [.ref z, .int 1, .int 1] (fun u : Unit => some (.int 1)) (fun u : Unit => ([(z, .inr (21, [.int 1, .ref pg, .null, .int 0]))] : va_W)) := by
  refine pxM.of (cc := cX16_refuse) (maxL := 3) (by decide) rfl (Nat.le_of_ble_eq_true rfl) ?_
  intro p e s m args below meth c ⟨hx, hb, hr, hml, hown, hlk, hts, hK⟩ hin A hA hP hD hS hE ls hl
  have hl : lv_has ls 3 [(0, .ref z), (1, .int 1), (2, .int 1)] := hl
  refine lv_iload_n hx hb dX16_refuse_0 rfl (lv_at hl 1 rfl) ?_
  refine lv_if_eq (tgt := 16) hx hb dX16_refuse_1 (by decide) (fun c1 => absurd c1 (by decide)) (fun c1 => ?_)
  refine lv_aload_n hx hb dX16_refuse_4 rfl (lv_at hl 0 rfl) ?_
  refine va_get (D := G.1) (ci := 21) (v := .int 0) (C := RX16) (T := TX16) (N := 4) hx hb hts oaX16 hown hK.1 hP 0 rfl rfl 0 (by decide) (aw (w := Cond.fieldLink RX16 16 "DropflagMillModel" "thrown" "I") hts (ai7 (w := Cond.fieldLink RX16 16 "DropflagMillModel" "thrown" "I") 56 rfl)) (fun _ h9 => h9) rfl dX16_refuse_5 ?_
  refine lv_if_ne (tgt := 16) hx hb dX16_refuse_8 (by decide) (fun c2 => absurd c2 (by decide)) (fun c2 => ?_)
  refine lv_aload_n hx hb dX16_refuse_11 rfl (lv_at hl 0 rfl) ?_
  refine lv_iload_n hx hb dX16_refuse_12 rfl (lv_at hl 2 rfl) ?_
  refine va_put (D := G.1) (ci := 21) (v := .int 1) (ty := .int) (C := RX16) (T := TX16) (N := 4) hx hb hts oaX16 tyX16 tyX16_ok nmX16 hown hK.1 hP hD hS 0 rfl rfl 0 (by decide) (aw (w := Cond.fieldLink RX16 16 "DropflagMillModel" "thrown" "I") hts (ai7 (w := Cond.fieldLink RX16 16 "DropflagMillModel" "thrown" "I") 56 rfl)) (fun _ h9 => h9) rfl (by decide +kernel) rfl rfl (Nat.le_of_ble_eq_true rfl) dX16_refuse_13 (fun H locs hP hD hS => ?_)
  have hP : va_P G.1 vwCl [(z, .inr (21, [.int 1, .ref pg, .null, .int 0]))] _ := hP
  have hD : va_D A [(z, .inr (21, [.int 1, .ref pg, .null, .int 0]))] := hD
  refine lv_aload_n hx hb dX16_refuse_16 rfl (lv_at hl 0 rfl) ?_
  refine va_get (D := G.1) (ci := 21) (v := .int 1) (C := RX16) (T := TX16) (N := 4) hx hb hts oaX16 hown hK.1 hP 0 rfl rfl 0 (by decide) (aw (w := Cond.fieldLink RX16 16 "DropflagMillModel" "thrown" "I") hts (ai7 (w := Cond.fieldLink RX16 16 "DropflagMillModel" "thrown" "I") 56 rfl)) (fun _ h9 => h9) rfl dX16_refuse_17 ?_
  refine lv_if_le (tgt := 27) hx hb dX16_refuse_20 (by decide) (fun c3 => absurd c3 (by decide)) (fun c3 => ?_)
  refine lv_iconst (v := 1) hx hb dX16_refuse_23 (by decide) ?_
  refine lv_goto (tgt := 28) hx hb dX16_refuse_24 (by decide) ?_
  refine W.widen (k := 0) (n := 0) (Nat.le_of_ble_eq_true rfl) (Nat.le_of_ble_eq_true rfl) ?_
  exact px_ri () hx hb hr hlk (hP.sub [0] rfl) (hD.sub [0] (by decide) rfl) hS rfl (rfl) dX16_refuse_28

set_option maxHeartbeats 8000000 in
set_option maxRecDepth 100000 in
theorem k_startF (l : Launch) (G : sxG) (k : pxC) (z : Nat) (pg : Nat) (wh : Int32)  : pxM l yX16_start (Cond.code yX16_start cX16_start 3 (some .boolean) :: bwA) 1 34 0 0 G k [(z, .inr (21, [.int 0, .ref pg, .null, .int 0]))] [.ref z, .int 0, .int wh] (fun u : Unit => some (.int 0)) (fun u : Unit => ([(z, .inr (21, [.int 0, .ref pg, .null, .int 0]))] : va_W)) := by
  refine pxM.of (cc := cX16_start) (maxL := 3) (by decide) rfl (Nat.le_of_ble_eq_true rfl) ?_
  intro p e s m args below meth c ⟨hx, hb, hr, hml, hown, hlk, hts, hK⟩ hin A hA hP hD hS hE ls hl
  have hl : lv_has ls 3 [(0, .ref z), (1, .int 0), (2, .int wh)] := hl
  refine lv_aload_n hx hb dX16_start_0 rfl (lv_at hl 0 rfl) ?_
  refine lv_iconst (v := 0) hx hb dX16_start_1 (by decide) ?_
  refine va_put (D := G.1) (ci := 21) (v := .int 0) (ty := .int) (C := RX16) (T := TX16) (N := 4) hx hb hts oaX16 tyX16 tyX16_ok nmX16 hown hK.1 hP hD hS 0 rfl rfl 0 (by decide) (aw (w := Cond.fieldLink RX16 16 "DropflagMillModel" "thrown" "I") hts (ai7 (w := Cond.fieldLink RX16 16 "DropflagMillModel" "thrown" "I") 56 rfl)) (fun _ h9 => h9) rfl (by decide +kernel) rfl rfl (Nat.le_of_ble_eq_true rfl) dX16_start_2 (fun H locs hP hD hS => ?_)
  have hP : va_P G.1 vwCl [(z, .inr (21, [.int 0, .ref pg, .null, .int 0]))] _ := hP
  have hD : va_D A [(z, .inr (21, [.int 0, .ref pg, .null, .int 0]))] := hD
  refine lv_aload_n hx hb dX16_start_5 rfl (lv_at hl 0 rfl) ?_
  refine lv_iload_n hx hb dX16_start_6 rfl (lv_at hl 1 rfl) ?_
  refine lv_iload_n hx hb dX16_start_7 rfl (lv_at hl 2 rfl) ?_
  refine px_v (As := [.int 0, .int wh]) (rest := []) (wr := []) hx hb hml hown hts (k_refuseF l G k z pg wh ) 2 (gAV idA (ai7 (w := Cond.methodLink RX16 20 yX16_refuse) 59 rfl) (ai8 (w := Cond.instanceMethod yX16_refuse) 0 rfl) (ai8 (w := Cond.selects RX16 yX16_refuse yX16_refuse) 1 rfl) (ai2 (w := Cond.initialized RX16) 17 rfl) (ai7 (w := Cond.code yX16_refuse cX16_refuse 3 (some .boolean)) 57 rfl)) rfl (by decide +kernel) ⟨(Nat.le_of_ble_eq_true rfl), (Nat.le_of_ble_eq_true rfl)⟩ hK hP hD hS hA hE [0] [] rfl (by decide) rfl (by decide) (by decide) 0 rfl rfl rfl hl rfl (Nat.le_of_ble_eq_true rfl) ⟨(Nat.le_of_ble_eq_true rfl), (Nat.le_of_ble_eq_true rfl)⟩ dX16_start_8 (fun u H locs hP hD hS => ?_)
  have hP : va_P G.1 vwCl [(z, .inr (21, [.int 0, .ref pg, .null, .int 0]))] _ := hP
  have hD : va_D A [(z, .inr (21, [.int 0, .ref pg, .null, .int 0]))] := hD
  refine W.eq (g2 := F0 m _ ls [.int 0]) rfl ?_
  refine W.widen (k := 0) (n := 0) (Nat.le_of_ble_eq_true rfl) (Nat.le_of_ble_eq_true rfl) ?_
  exact px_ri () hx hb hr hlk (hP.sub [0] rfl) (hD.sub [0] (by decide) rfl) hS rfl (rfl) dX16_start_11

set_option maxHeartbeats 8000000 in
set_option maxRecDepth 100000 in
theorem k_startT (l : Launch) (G : sxG) (k : pxC) (z : Nat) (pg : Nat)  : pxM l yX16_start (Cond.code yX16_start cX16_start 3 (some .boolean) :: bwA) 1 34 0 0 G k [(z, .inr (21, [.int 0, .ref pg, .null, .int 0]))] [.ref z, .int 1, .int 1] (fun u : Unit => some (.int 1)) (fun u : Unit => ([(z, .inr (21, [.int 1, .ref pg, .null, .int 0]))] : va_W)) := by
  refine pxM.of (cc := cX16_start) (maxL := 3) (by decide) rfl (Nat.le_of_ble_eq_true rfl) ?_
  intro p e s m args below meth c ⟨hx, hb, hr, hml, hown, hlk, hts, hK⟩ hin A hA hP hD hS hE ls hl
  have hl : lv_has ls 3 [(0, .ref z), (1, .int 1), (2, .int 1)] := hl
  refine lv_aload_n hx hb dX16_start_0 rfl (lv_at hl 0 rfl) ?_
  refine lv_iconst (v := 0) hx hb dX16_start_1 (by decide) ?_
  refine va_put (D := G.1) (ci := 21) (v := .int 0) (ty := .int) (C := RX16) (T := TX16) (N := 4) hx hb hts oaX16 tyX16 tyX16_ok nmX16 hown hK.1 hP hD hS 0 rfl rfl 0 (by decide) (aw (w := Cond.fieldLink RX16 16 "DropflagMillModel" "thrown" "I") hts (ai7 (w := Cond.fieldLink RX16 16 "DropflagMillModel" "thrown" "I") 56 rfl)) (fun _ h9 => h9) rfl (by decide +kernel) rfl rfl (Nat.le_of_ble_eq_true rfl) dX16_start_2 (fun H locs hP hD hS => ?_)
  have hP : va_P G.1 vwCl [(z, .inr (21, [.int 0, .ref pg, .null, .int 0]))] _ := hP
  have hD : va_D A [(z, .inr (21, [.int 0, .ref pg, .null, .int 0]))] := hD
  refine lv_aload_n hx hb dX16_start_5 rfl (lv_at hl 0 rfl) ?_
  refine lv_iload_n hx hb dX16_start_6 rfl (lv_at hl 1 rfl) ?_
  refine lv_iload_n hx hb dX16_start_7 rfl (lv_at hl 2 rfl) ?_
  refine px_v (As := [.int 1, .int 1]) (rest := []) (wr := []) hx hb hml hown hts (k_refuseT l G k z pg ) 2 (gAV idA (ai7 (w := Cond.methodLink RX16 20 yX16_refuse) 59 rfl) (ai8 (w := Cond.instanceMethod yX16_refuse) 0 rfl) (ai8 (w := Cond.selects RX16 yX16_refuse yX16_refuse) 1 rfl) (ai2 (w := Cond.initialized RX16) 17 rfl) (ai7 (w := Cond.code yX16_refuse cX16_refuse 3 (some .boolean)) 57 rfl)) rfl (by decide +kernel) ⟨(Nat.le_of_ble_eq_true rfl), (Nat.le_of_ble_eq_true rfl)⟩ hK hP hD hS hA hE [0] [] rfl (by decide) rfl (by decide) (by decide) 0 rfl rfl rfl hl rfl (Nat.le_of_ble_eq_true rfl) ⟨(Nat.le_of_ble_eq_true rfl), (Nat.le_of_ble_eq_true rfl)⟩ dX16_start_8 (fun u H locs hP hD hS => ?_)
  have hP : va_P G.1 vwCl [(z, .inr (21, [.int 1, .ref pg, .null, .int 0]))] _ := hP
  have hD : va_D A [(z, .inr (21, [.int 1, .ref pg, .null, .int 0]))] := hD
  refine W.eq (g2 := F0 m _ ls [.int 1]) rfl ?_
  refine W.widen (k := 0) (n := 0) (Nat.le_of_ble_eq_true rfl) (Nat.le_of_ble_eq_true rfl) ?_
  exact px_ri () hx hb hr hlk (hP.sub [0] rfl) (hD.sub [0] (by decide) rfl) hS rfl (rfl) dX16_start_11

set_option maxHeartbeats 8000000 in
set_option maxRecDepth 100000 in
theorem k_thrown (l : Launch) (G : sxG) (k : pxC) (z : Nat) (pg : Nat) (t : Int32) (rn : Int32)  : pxM l yX16_thrown (Cond.code yX16_thrown cX16_thrown 1 (some .int) :: bwA) 0 12 0 0 G k [(z, .inr (21, [.int t, .ref pg, .null, .int rn]))] [.ref z] (fun u : Unit => some (.int t)) (fun u : Unit => ([(z, .inr (21, [.int t, .ref pg, .null, .int rn]))] : va_W)) := by
  refine pxM.of (cc := cX16_thrown) (maxL := 1) (by decide) rfl (Nat.le_of_ble_eq_true rfl) ?_
  intro p e s m args below meth c ⟨hx, hb, hr, hml, hown, hlk, hts, hK⟩ hin A hA hP hD hS hE ls hl
  have hl : lv_has ls 1 [(0, .ref z)] := hl
  refine lv_aload_n hx hb dX16_thrown_0 rfl (lv_at hl 0 rfl) ?_
  refine va_get (D := G.1) (ci := 21) (v := .int t) (C := RX16) (T := TX16) (N := 4) hx hb hts oaX16 hown hK.1 hP 0 rfl rfl 0 (by decide) (aw (w := Cond.fieldLink RX16 16 "DropflagMillModel" "thrown" "I") hts (ai7 (w := Cond.fieldLink RX16 16 "DropflagMillModel" "thrown" "I") 56 rfl)) (fun _ h9 => h9) rfl dX16_thrown_1 ?_
  refine W.widen (k := 0) (n := 0) (Nat.le_of_ble_eq_true rfl) (Nat.le_of_ble_eq_true rfl) ?_
  exact px_ri () hx hb hr hlk (hP.sub [0] rfl) (hD.sub [0] (by decide) rfl) hS rfl (rfl) dX16_thrown_4

set_option maxHeartbeats 8000000 in
set_option maxRecDepth 100000 in
theorem k_kindOf0 (l : Launch) (G : sxG) (k : pxC) (pg : Nat) (kl : Nat) (ll : Nat) (i1 : Int32)  : pxM l yX14_kindOf (Cond.code yX14_kindOf cX14_kindOf 3 (some .int) :: bwA) 1 34 0 0 G k [(pg, .inr (19, [.ref kl, .ref ll])), (kl, .inr (4, [.int 0, .ref k.1, .int 0])), (ll, .inr (4, [.int 0, .ref k.1, .int 0]))] [.ref pg, .int i1] (fun u : Unit => some (.int (-1))) (fun u : Unit => ([(pg, .inr (19, [.ref kl, .ref ll])), (kl, .inr (4, [.int 0, .ref k.1, .int 0])), (ll, .inr (4, [.int 0, .ref k.1, .int 0]))] : va_W)) := by
  refine pxM.of (cc := cX14_kindOf) (maxL := 3) (by decide) rfl (Nat.le_of_ble_eq_true rfl) ?_
  intro p e s m args below meth c ⟨hx, hb, hr, hml, hown, hlk, hts, hK⟩ hin A hA hP hD hS hE ls hl
  have hl : lv_has ls 3 [(0, .ref pg), (1, .int i1)] := hl
  refine lv_iload_n hx hb dX14_kindOf_0 rfl (lv_at hl 1 rfl) ?_
  refine lv_iconst (v := 0) hx hb dX14_kindOf_1 (by decide) ?_
  refine lv_iconst (v := 3) hx hb dX14_kindOf_2 (by decide) ?_
  refine lv_aload_n hx hb dX14_kindOf_3 rfl (lv_at hl 0 rfl) ?_
  refine va_get (D := G.1) (ci := 19) (v := .ref kl) (C := RX14) (T := TX14) (N := 2) hx hb hts oaX14 hown hK.1 hP 0 rfl rfl 0 (by decide) (aw (w := Cond.fieldLink RX14 12 "DropflagMillModel$Program" "kinds" "Ljava/util/ArrayList;") hts (ai2 (w := Cond.fieldLink RX14 12 "DropflagMillModel$Program" "kinds" "Ljava/util/ArrayList;") 13 rfl)) (fun _ h9 => h9) rfl dX14_kindOf_4 ?_
  refine px_v (As := []) (rest := [.int 3, .int 0, .int i1]) (wr := [(pg, .inr (19, [.ref kl, .ref ll])), (ll, .inr (4, [.int 0, .ref k.1, .int 0]))]) hx hb hml hown hts (k_al_size l G k kl k.1 0 0 ) 0 (gAV idA (ai2 (w := Cond.methodLink RX14 26 yJx4a65c_size_8abf5) 15 rfl) (ai1 (w := Cond.instanceMethod yJx4a65c_size_8abf5) 54 rfl) (ai1 (w := Cond.selects RJx4a65c yJx4a65c_size_8abf5 yJx4a65c_size_8abf5) 55 rfl) (ai0 (w := Cond.initialized RJx4a65c) 31 rfl) (ai0 (w := Cond.code yJx4a65c_size_8abf5 cJx4a65c_size_8abf5 1 (some .int)) 3 rfl)) rfl (by decide +kernel) ⟨(Nat.le_of_ble_eq_true rfl), (Nat.le_of_ble_eq_true rfl)⟩ hK hP hD hS hA hE [1] [0, 2] rfl (by decide) rfl (by decide) (by decide) 0 rfl rfl rfl hl rfl (Nat.le_of_ble_eq_true rfl) ⟨(Nat.le_of_ble_eq_true rfl), (Nat.le_of_ble_eq_true rfl)⟩ dX14_kindOf_7 (fun u H locs hP hD hS => ?_)
  have hP : va_P G.1 vwCl [(pg, .inr (19, [.ref kl, .ref ll])), (ll, .inr (4, [.int 0, .ref k.1, .int 0])), (kl, .inr (4, [.int 0, .ref k.1, .int 0]))] _ := hP
  have hD : va_D A [(pg, .inr (19, [.ref kl, .ref ll])), (ll, .inr (4, [.int 0, .ref k.1, .int 0])), (kl, .inr (4, [.int 0, .ref k.1, .int 0]))] := hD
  refine W.eq (g2 := F0 m _ ls [.int 0, .int 3, .int 0, .int i1]) rfl ?_
  refine lv_imul hx hb dX14_kindOf_10 ?_
  rw [show ((3 : Int32) * 0) = 0 from by decide]
  refine lv_iconst (v := 1) hx hb dX14_kindOf_11 (by decide) ?_
  refine lv_isub hx hb dX14_kindOf_12 ?_
  rw [show ((0 : Int32) - 1) = (-1) from by decide]
  refine px_sn (host := RX16) (As := [.int i1, .int 0, .int (-1)]) (rest := []) (wr := [(pg, .inr (19, [.ref kl, .ref ll])), (ll, .inr (4, [.int 0, .ref k.1, .int 0])), (kl, .inr (4, [.int 0, .ref k.1, .int 0]))]) hx hb hml hown hts (k_isIn l G k i1 0 (-1) ) 3 (gA idA (ai2 (w := Cond.code yX16_isIn cX16_isIn 3 (some .boolean)) 12 rfl)) rfl (hE.1.1 (.methodLinkNest RX14 30 yX16_isIn RX16) (by simp [pxNl])) (List.mem_cons_of_mem _ (ai2 (w := Cond.initialized RX16) 17 rfl)) (List.mem_cons_of_mem _ (ai2 (w := Cond.static yX16_isIn) 16 rfl)) (by decide +kernel) ⟨(Nat.le_of_ble_eq_true rfl), (Nat.le_of_ble_eq_true rfl)⟩ hK hP hD hS hA hE [] [0, 1, 2] rfl (by decide) rfl (by decide) (by decide) rfl hl rfl (Nat.le_of_ble_eq_true rfl) ⟨(Nat.le_of_ble_eq_true rfl), (Nat.le_of_ble_eq_true rfl)⟩ dX14_kindOf_13 (fun u H locs hP hD hS => ?_)
  have hP : va_P G.1 vwCl [(pg, .inr (19, [.ref kl, .ref ll])), (ll, .inr (4, [.int 0, .ref k.1, .int 0])), (kl, .inr (4, [.int 0, .ref k.1, .int 0]))] _ := hP
  have hD : va_D A [(pg, .inr (19, [.ref kl, .ref ll])), (ll, .inr (4, [.int 0, .ref k.1, .int 0])), (kl, .inr (4, [.int 0, .ref k.1, .int 0]))] := hD
  refine W.eq (g2 := F0 m _ ls [.int (s_isIn i1 0 (-1))]) rfl ?_
  rw [show (s_isIn i1 0 (-1) : Int32) = 0 from isIn_neg i1]
  refine lv_if_ne (tgt := 21) hx hb dX14_kindOf_16 (by decide) (fun c1 => absurd c1 (by decide)) (fun c1 => ?_)
  refine lv_iconst (v := (-1)) hx hb dX14_kindOf_19 (by decide) ?_
  refine W.widen (k := 0) (n := 0) (Nat.le_of_ble_eq_true rfl) (Nat.le_of_ble_eq_true rfl) ?_
  exact px_ri () hx hb hr hlk (hP.sub [0, 2, 1] rfl) (hD.sub [0, 2, 1] (by decide) rfl) hS rfl (rfl) dX14_kindOf_20

set_option maxHeartbeats 8000000 in
set_option maxRecDepth 100000 in
theorem k_isBorrow0 (l : Launch) (G : sxG) (k : pxC) (pg : Nat) (kl : Nat) (ll : Nat) (i1 : Int32)  : pxM l yX14_isBorrow (Cond.code yX14_isBorrow cX14_isBorrow 2 (some .boolean) :: bwA) 2 56 0 0 G k [(pg, .inr (19, [.ref kl, .ref ll])), (kl, .inr (4, [.int 0, .ref k.1, .int 0])), (ll, .inr (4, [.int 0, .ref k.1, .int 0]))] [.ref pg, .int i1] (fun u : Unit => some (.int 0)) (fun u : Unit => ([(pg, .inr (19, [.ref kl, .ref ll])), (kl, .inr (4, [.int 0, .ref k.1, .int 0])), (ll, .inr (4, [.int 0, .ref k.1, .int 0]))] : va_W)) := by
  refine pxM.of (cc := cX14_isBorrow) (maxL := 2) (by decide) rfl (Nat.le_of_ble_eq_true rfl) ?_
  intro p e s m args below meth c ⟨hx, hb, hr, hml, hown, hlk, hts, hK⟩ hin A hA hP hD hS hE ls hl
  have hl : lv_has ls 2 [(0, .ref pg), (1, .int i1)] := hl
  refine lv_aload_n hx hb dX14_isBorrow_0 rfl (lv_at hl 0 rfl) ?_
  refine lv_iload_n hx hb dX14_isBorrow_1 rfl (lv_at hl 1 rfl) ?_
  refine px_v (As := [.int i1]) (rest := []) (wr := []) hx hb hml hown hts (k_kindOf0 l G k pg kl ll i1 ) 1 (gAV idA (ai2 (w := Cond.methodLink RX14 43 yX14_kindOf) 21 rfl) (ai2 (w := Cond.instanceMethod yX14_kindOf) 22 rfl) (ai2 (w := Cond.selects RX14 yX14_kindOf yX14_kindOf) 23 rfl) (ai2 (w := Cond.initialized RX14) 24 rfl) (ai2 (w := Cond.code yX14_kindOf cX14_kindOf 3 (some .int)) 20 rfl)) rfl (by decide +kernel) ⟨(Nat.le_of_ble_eq_true rfl), (Nat.le_of_ble_eq_true rfl)⟩ hK hP hD hS hA hE [0, 1, 2] [] rfl (by decide) rfl (by decide) (by decide) 0 rfl rfl rfl hl rfl (Nat.le_of_ble_eq_true rfl) ⟨(Nat.le_of_ble_eq_true rfl), (Nat.le_of_ble_eq_true rfl)⟩ dX14_isBorrow_2 (fun u H locs hP hD hS => ?_)
  have hP : va_P G.1 vwCl [(pg, .inr (19, [.ref kl, .ref ll])), (kl, .inr (4, [.int 0, .ref k.1, .int 0])), (ll, .inr (4, [.int 0, .ref k.1, .int 0]))] _ := hP
  have hD : va_D A [(pg, .inr (19, [.ref kl, .ref ll])), (kl, .inr (4, [.int 0, .ref k.1, .int 0])), (ll, .inr (4, [.int 0, .ref k.1, .int 0]))] := hD
  refine W.eq (g2 := F0 m _ ls [.int (-1)]) rfl ?_
  refine lv_iconst (v := 3) hx hb dX14_isBorrow_5 (by decide) ?_
  refine lv_icmp_eq (tgt := 18) hx hb dX14_isBorrow_6 (by decide) (fun c1 => absurd c1 (by decide)) (fun c1 => ?_)
  refine lv_aload_n hx hb dX14_isBorrow_9 rfl (lv_at hl 0 rfl) ?_
  refine lv_iload_n hx hb dX14_isBorrow_10 rfl (lv_at hl 1 rfl) ?_
  refine px_v (As := [.int i1]) (rest := []) (wr := []) hx hb hml hown hts (k_kindOf0 l G k pg kl ll i1 ) 1 (gAV idA (ai2 (w := Cond.methodLink RX14 43 yX14_kindOf) 21 rfl) (ai2 (w := Cond.instanceMethod yX14_kindOf) 22 rfl) (ai2 (w := Cond.selects RX14 yX14_kindOf yX14_kindOf) 23 rfl) (ai2 (w := Cond.initialized RX14) 24 rfl) (ai2 (w := Cond.code yX14_kindOf cX14_kindOf 3 (some .int)) 20 rfl)) rfl (by decide +kernel) ⟨(Nat.le_of_ble_eq_true rfl), (Nat.le_of_ble_eq_true rfl)⟩ hK hP hD hS hA hE [0, 1, 2] [] rfl (by decide) rfl (by decide) (by decide) 0 rfl rfl rfl hl rfl (Nat.le_of_ble_eq_true rfl) ⟨(Nat.le_of_ble_eq_true rfl), (Nat.le_of_ble_eq_true rfl)⟩ dX14_isBorrow_11 (fun u H locs hP hD hS => ?_)
  have hP : va_P G.1 vwCl [(pg, .inr (19, [.ref kl, .ref ll])), (kl, .inr (4, [.int 0, .ref k.1, .int 0])), (ll, .inr (4, [.int 0, .ref k.1, .int 0]))] _ := hP
  have hD : va_D A [(pg, .inr (19, [.ref kl, .ref ll])), (kl, .inr (4, [.int 0, .ref k.1, .int 0])), (ll, .inr (4, [.int 0, .ref k.1, .int 0]))] := hD
  refine W.eq (g2 := F0 m _ ls [.int (-1)]) rfl ?_
  refine lv_iconst (v := 4) hx hb dX14_isBorrow_14 (by decide) ?_
  refine lv_icmp_ne (tgt := 22) hx hb dX14_isBorrow_15 (by decide) (fun c2 => ?_) (fun c2 => absurd c2 (by decide))
  refine lv_iconst (v := 0) hx hb dX14_isBorrow_22 (by decide) ?_
  refine W.widen (k := 0) (n := 0) (Nat.le_of_ble_eq_true rfl) (Nat.le_of_ble_eq_true rfl) ?_
  exact px_ri () hx hb hr hlk (hP.sub [0, 1, 2] rfl) (hD.sub [0, 1, 2] (by decide) rfl) hS rfl (rfl) dX14_isBorrow_23

set_option maxHeartbeats 8000000 in
set_option maxRecDepth 100000 in
theorem k_isOwned0 (l : Launch) (G : sxG) (k : pxC) (pg : Nat) (kl : Nat) (ll : Nat) (i1 : Int32)  : pxM l yX14_isOwned (Cond.code yX14_isOwned cX14_isOwned 2 (some .boolean) :: bwA) 2 56 0 0 G k [(pg, .inr (19, [.ref kl, .ref ll])), (kl, .inr (4, [.int 0, .ref k.1, .int 0])), (ll, .inr (4, [.int 0, .ref k.1, .int 0]))] [.ref pg, .int i1] (fun u : Unit => some (.int 0)) (fun u : Unit => ([(pg, .inr (19, [.ref kl, .ref ll])), (kl, .inr (4, [.int 0, .ref k.1, .int 0])), (ll, .inr (4, [.int 0, .ref k.1, .int 0]))] : va_W)) := by
  refine pxM.of (cc := cX14_isOwned) (maxL := 2) (by decide) rfl (Nat.le_of_ble_eq_true rfl) ?_
  intro p e s m args below meth c ⟨hx, hb, hr, hml, hown, hlk, hts, hK⟩ hin A hA hP hD hS hE ls hl
  have hl : lv_has ls 2 [(0, .ref pg), (1, .int i1)] := hl
  refine lv_aload_n hx hb dX14_isOwned_0 rfl (lv_at hl 0 rfl) ?_
  refine lv_iload_n hx hb dX14_isOwned_1 rfl (lv_at hl 1 rfl) ?_
  refine px_v (As := [.int i1]) (rest := []) (wr := []) hx hb hml hown hts (k_kindOf0 l G k pg kl ll i1 ) 1 (gAV idA (ai2 (w := Cond.methodLink RX14 43 yX14_kindOf) 21 rfl) (ai2 (w := Cond.instanceMethod yX14_kindOf) 22 rfl) (ai2 (w := Cond.selects RX14 yX14_kindOf yX14_kindOf) 23 rfl) (ai2 (w := Cond.initialized RX14) 24 rfl) (ai2 (w := Cond.code yX14_kindOf cX14_kindOf 3 (some .int)) 20 rfl)) rfl (by decide +kernel) ⟨(Nat.le_of_ble_eq_true rfl), (Nat.le_of_ble_eq_true rfl)⟩ hK hP hD hS hA hE [0, 1, 2] [] rfl (by decide) rfl (by decide) (by decide) 0 rfl rfl rfl hl rfl (Nat.le_of_ble_eq_true rfl) ⟨(Nat.le_of_ble_eq_true rfl), (Nat.le_of_ble_eq_true rfl)⟩ dX14_isOwned_2 (fun u H locs hP hD hS => ?_)
  have hP : va_P G.1 vwCl [(pg, .inr (19, [.ref kl, .ref ll])), (kl, .inr (4, [.int 0, .ref k.1, .int 0])), (ll, .inr (4, [.int 0, .ref k.1, .int 0]))] _ := hP
  have hD : va_D A [(pg, .inr (19, [.ref kl, .ref ll])), (kl, .inr (4, [.int 0, .ref k.1, .int 0])), (ll, .inr (4, [.int 0, .ref k.1, .int 0]))] := hD
  refine W.eq (g2 := F0 m _ ls [.int (-1)]) rfl ?_
  refine lv_iconst (v := 1) hx hb dX14_isOwned_5 (by decide) ?_
  refine lv_icmp_eq (tgt := 27) hx hb dX14_isOwned_6 (by decide) (fun c1 => absurd c1 (by decide)) (fun c1 => ?_)
  refine lv_aload_n hx hb dX14_isOwned_9 rfl (lv_at hl 0 rfl) ?_
  refine lv_iload_n hx hb dX14_isOwned_10 rfl (lv_at hl 1 rfl) ?_
  refine px_v (As := [.int i1]) (rest := []) (wr := []) hx hb hml hown hts (k_kindOf0 l G k pg kl ll i1 ) 1 (gAV idA (ai2 (w := Cond.methodLink RX14 43 yX14_kindOf) 21 rfl) (ai2 (w := Cond.instanceMethod yX14_kindOf) 22 rfl) (ai2 (w := Cond.selects RX14 yX14_kindOf yX14_kindOf) 23 rfl) (ai2 (w := Cond.initialized RX14) 24 rfl) (ai2 (w := Cond.code yX14_kindOf cX14_kindOf 3 (some .int)) 20 rfl)) rfl (by decide +kernel) ⟨(Nat.le_of_ble_eq_true rfl), (Nat.le_of_ble_eq_true rfl)⟩ hK hP hD hS hA hE [0, 1, 2] [] rfl (by decide) rfl (by decide) (by decide) 0 rfl rfl rfl hl rfl (Nat.le_of_ble_eq_true rfl) ⟨(Nat.le_of_ble_eq_true rfl), (Nat.le_of_ble_eq_true rfl)⟩ dX14_isOwned_11 (fun u H locs hP hD hS => ?_)
  have hP : va_P G.1 vwCl [(pg, .inr (19, [.ref kl, .ref ll])), (kl, .inr (4, [.int 0, .ref k.1, .int 0])), (ll, .inr (4, [.int 0, .ref k.1, .int 0]))] _ := hP
  have hD : va_D A [(pg, .inr (19, [.ref kl, .ref ll])), (kl, .inr (4, [.int 0, .ref k.1, .int 0])), (ll, .inr (4, [.int 0, .ref k.1, .int 0]))] := hD
  refine W.eq (g2 := F0 m _ ls [.int (-1)]) rfl ?_
  refine lv_iconst (v := 2) hx hb dX14_isOwned_14 (by decide) ?_
  refine lv_icmp_eq (tgt := 27) hx hb dX14_isOwned_15 (by decide) (fun c2 => absurd c2 (by decide)) (fun c2 => ?_)
  refine lv_aload_n hx hb dX14_isOwned_18 rfl (lv_at hl 0 rfl) ?_
  refine lv_iload_n hx hb dX14_isOwned_19 rfl (lv_at hl 1 rfl) ?_
  refine px_v (As := [.int i1]) (rest := []) (wr := []) hx hb hml hown hts (k_kindOf0 l G k pg kl ll i1 ) 1 (gAV idA (ai2 (w := Cond.methodLink RX14 43 yX14_kindOf) 21 rfl) (ai2 (w := Cond.instanceMethod yX14_kindOf) 22 rfl) (ai2 (w := Cond.selects RX14 yX14_kindOf yX14_kindOf) 23 rfl) (ai2 (w := Cond.initialized RX14) 24 rfl) (ai2 (w := Cond.code yX14_kindOf cX14_kindOf 3 (some .int)) 20 rfl)) rfl (by decide +kernel) ⟨(Nat.le_of_ble_eq_true rfl), (Nat.le_of_ble_eq_true rfl)⟩ hK hP hD hS hA hE [0, 1, 2] [] rfl (by decide) rfl (by decide) (by decide) 0 rfl rfl rfl hl rfl (Nat.le_of_ble_eq_true rfl) ⟨(Nat.le_of_ble_eq_true rfl), (Nat.le_of_ble_eq_true rfl)⟩ dX14_isOwned_20 (fun u H locs hP hD hS => ?_)
  have hP : va_P G.1 vwCl [(pg, .inr (19, [.ref kl, .ref ll])), (kl, .inr (4, [.int 0, .ref k.1, .int 0])), (ll, .inr (4, [.int 0, .ref k.1, .int 0]))] _ := hP
  have hD : va_D A [(pg, .inr (19, [.ref kl, .ref ll])), (kl, .inr (4, [.int 0, .ref k.1, .int 0])), (ll, .inr (4, [.int 0, .ref k.1, .int 0]))] := hD
  refine W.eq (g2 := F0 m _ ls [.int (-1)]) rfl ?_
  refine lv_iconst (v := 5) hx hb dX14_isOwned_23 (by decide) ?_
  refine lv_icmp_ne (tgt := 31) hx hb dX14_isOwned_24 (by decide) (fun c3 => ?_) (fun c3 => absurd c3 (by decide))
  refine lv_iconst (v := 0) hx hb dX14_isOwned_31 (by decide) ?_
  refine W.widen (k := 0) (n := 0) (Nat.le_of_ble_eq_true rfl) (Nat.le_of_ble_eq_true rfl) ?_
  exact px_ri () hx hb hr hlk (hP.sub [0, 1, 2] rfl) (hD.sub [0, 1, 2] (by decide) rfl) hS rfl (rfl) dX14_isOwned_32

set_option maxHeartbeats 8000000 in
set_option maxRecDepth 100000 in
theorem k_canBeLent0 (l : Launch) (G : sxG) (k : pxC) (pg : Nat) (kl : Nat) (ll : Nat) (i1 : Int32)  : pxM l yX14_canBeLent (Cond.code yX14_canBeLent cX14_canBeLent 2 (some .boolean) :: bwA) 2 56 0 0 G k [(pg, .inr (19, [.ref kl, .ref ll])), (kl, .inr (4, [.int 0, .ref k.1, .int 0])), (ll, .inr (4, [.int 0, .ref k.1, .int 0]))] [.ref pg, .int i1] (fun u : Unit => some (.int 0)) (fun u : Unit => ([(pg, .inr (19, [.ref kl, .ref ll])), (kl, .inr (4, [.int 0, .ref k.1, .int 0])), (ll, .inr (4, [.int 0, .ref k.1, .int 0]))] : va_W)) := by
  refine pxM.of (cc := cX14_canBeLent) (maxL := 2) (by decide) rfl (Nat.le_of_ble_eq_true rfl) ?_
  intro p e s m args below meth c ⟨hx, hb, hr, hml, hown, hlk, hts, hK⟩ hin A hA hP hD hS hE ls hl
  have hl : lv_has ls 2 [(0, .ref pg), (1, .int i1)] := hl
  refine lv_aload_n hx hb dX14_canBeLent_0 rfl (lv_at hl 0 rfl) ?_
  refine lv_iload_n hx hb dX14_canBeLent_1 rfl (lv_at hl 1 rfl) ?_
  refine px_v (As := [.int i1]) (rest := []) (wr := []) hx hb hml hown hts (k_kindOf0 l G k pg kl ll i1 ) 1 (gAV idA (ai2 (w := Cond.methodLink RX14 43 yX14_kindOf) 21 rfl) (ai2 (w := Cond.instanceMethod yX14_kindOf) 22 rfl) (ai2 (w := Cond.selects RX14 yX14_kindOf yX14_kindOf) 23 rfl) (ai2 (w := Cond.initialized RX14) 24 rfl) (ai2 (w := Cond.code yX14_kindOf cX14_kindOf 3 (some .int)) 20 rfl)) rfl (by decide +kernel) ⟨(Nat.le_of_ble_eq_true rfl), (Nat.le_of_ble_eq_true rfl)⟩ hK hP hD hS hA hE [0, 1, 2] [] rfl (by decide) rfl (by decide) (by decide) 0 rfl rfl rfl hl rfl (Nat.le_of_ble_eq_true rfl) ⟨(Nat.le_of_ble_eq_true rfl), (Nat.le_of_ble_eq_true rfl)⟩ dX14_canBeLent_2 (fun u H locs hP hD hS => ?_)
  have hP : va_P G.1 vwCl [(pg, .inr (19, [.ref kl, .ref ll])), (kl, .inr (4, [.int 0, .ref k.1, .int 0])), (ll, .inr (4, [.int 0, .ref k.1, .int 0]))] _ := hP
  have hD : va_D A [(pg, .inr (19, [.ref kl, .ref ll])), (kl, .inr (4, [.int 0, .ref k.1, .int 0])), (ll, .inr (4, [.int 0, .ref k.1, .int 0]))] := hD
  refine W.eq (g2 := F0 m _ ls [.int (-1)]) rfl ?_
  refine lv_iconst (v := 0) hx hb dX14_canBeLent_5 (by decide) ?_
  refine lv_iconst (v := 2) hx hb dX14_canBeLent_6 (by decide) ?_
  refine px_sn (host := RX16) (As := [.int (-1), .int 0, .int 2]) (rest := []) (wr := [(pg, .inr (19, [.ref kl, .ref ll])), (kl, .inr (4, [.int 0, .ref k.1, .int 0])), (ll, .inr (4, [.int 0, .ref k.1, .int 0]))]) hx hb hml hown hts (k_isIn l G k (-1) 0 2 ) 3 (gA idA (ai2 (w := Cond.code yX16_isIn cX16_isIn 3 (some .boolean)) 12 rfl)) rfl (hE.1.1 (.methodLinkNest RX14 30 yX16_isIn RX16) (by simp [pxNl])) (List.mem_cons_of_mem _ (ai2 (w := Cond.initialized RX16) 17 rfl)) (List.mem_cons_of_mem _ (ai2 (w := Cond.static yX16_isIn) 16 rfl)) (by decide +kernel) ⟨(Nat.le_of_ble_eq_true rfl), (Nat.le_of_ble_eq_true rfl)⟩ hK hP hD hS hA hE [] [0, 1, 2] rfl (by decide) rfl (by decide) (by decide) rfl hl rfl (Nat.le_of_ble_eq_true rfl) ⟨(Nat.le_of_ble_eq_true rfl), (Nat.le_of_ble_eq_true rfl)⟩ dX14_canBeLent_7 (fun u H locs hP hD hS => ?_)
  have hP : va_P G.1 vwCl [(pg, .inr (19, [.ref kl, .ref ll])), (kl, .inr (4, [.int 0, .ref k.1, .int 0])), (ll, .inr (4, [.int 0, .ref k.1, .int 0]))] _ := hP
  have hD : va_D A [(pg, .inr (19, [.ref kl, .ref ll])), (kl, .inr (4, [.int 0, .ref k.1, .int 0])), (ll, .inr (4, [.int 0, .ref k.1, .int 0]))] := hD
  refine W.eq (g2 := F0 m _ ls [.int (s_isIn (-1) 0 2)]) rfl ?_
  rw [show (s_isIn (-1) 0 2 : Int32) = 0 from isIn_m1]
  refine W.widen (k := 0) (n := 0) (Nat.le_of_ble_eq_true rfl) (Nat.le_of_ble_eq_true rfl) ?_
  exact px_ri () hx hb hr hlk (hP.sub [0, 1, 2] rfl) (hD.sub [0, 1, 2] (by decide) rfl) hS rfl (rfl) dX14_canBeLent_10

set_option maxHeartbeats 8000000 in
set_option maxRecDepth 100000 in
theorem k_isNumber (l : Launch) (G : sxG) (k : pxC) (i1 : Int32)  : pxM l yX14_isNumber (Cond.code yX14_isNumber cX14_isNumber 1 (some .boolean) :: bwA) 1 34 0 0 G k [] [.int i1] (fun u : Unit => some (.int (s_isIn i1 (-99) 99))) (fun u : Unit => ([] : va_W)) := by
  refine pxM.of (cc := cX14_isNumber) (maxL := 1) (by decide) rfl (Nat.le_of_ble_eq_true rfl) ?_
  intro p e s m args below meth c ⟨hx, hb, hr, hml, hown, hlk, hts, hK⟩ hin A hA hP hD hS hE ls hl
  have hl : lv_has ls 1 [(0, .int i1)] := hl
  refine lv_iload_n hx hb dX14_isNumber_0 rfl (lv_at hl 0 rfl) ?_
  refine lv_bipush (v := (-99)) hx hb dX14_isNumber_1 (by decide) ?_
  refine lv_bipush (v := 99) hx hb dX14_isNumber_3 (by decide) ?_
  refine px_sn (host := RX16) (As := [.int i1, .int (-99), .int 99]) (rest := []) (wr := []) hx hb hml hown hts (k_isIn l G k i1 (-99) 99 ) 3 (gA idA (ai2 (w := Cond.code yX16_isIn cX16_isIn 3 (some .boolean)) 12 rfl)) rfl (hE.1.1 (.methodLinkNest RX14 30 yX16_isIn RX16) (by simp [pxNl])) (List.mem_cons_of_mem _ (ai2 (w := Cond.initialized RX16) 17 rfl)) (List.mem_cons_of_mem _ (ai2 (w := Cond.static yX16_isIn) 16 rfl)) (by decide +kernel) ⟨(Nat.le_of_ble_eq_true rfl), (Nat.le_of_ble_eq_true rfl)⟩ hK hP hD hS hA hE [] [] rfl (by decide) rfl (by decide) (by decide) rfl hl rfl (Nat.le_of_ble_eq_true rfl) ⟨(Nat.le_of_ble_eq_true rfl), (Nat.le_of_ble_eq_true rfl)⟩ dX14_isNumber_5 (fun u H locs hP hD hS => ?_)
  have hP : va_P G.1 vwCl [] _ := hP
  have hD : va_D A [] := hD
  refine W.eq (g2 := F0 m _ ls [.int (s_isIn i1 (-99) 99)]) rfl ?_
  refine W.widen (k := 0) (n := 0) (Nat.le_of_ble_eq_true rfl) (Nat.le_of_ble_eq_true rfl) ?_
  exact px_ri () hx hb hr hlk (hP.sub [] rfl) (hD.sub [] (by decide) rfl) hS (isIn_nar _ _ _) (rfl) dX14_isNumber_8

def s_isLine0 (i1 : Int32) (i2 : Int32) (i3 : Int32) : Int32 := if i1 = 0 then 0 else (if i1 = 1 then 0 else (if i1 = 2 then 0 else (if i1 = 3 then 0 else (if i1 = 4 then 0 else (if i1 = 5 then 0 else (if i1 = 6 then 0 else (if i1 = 7 then 0 else (if i1 = 8 then 0 else (if i1 = 9 then (if i2 = 0 then (if i3 = 0 then 1 else 0) else 0) else (if i1 = 10 then (if (s_isIn i2 1 4) = 0 then 0 else (if i3 = 0 then 1 else 0)) else (if i1 = 11 then (if i2 = 0 then (if i3 = 0 then 1 else 0) else 0) else (if i1 = 12 then 0 else (if i1 = 13 then 0 else (if i1 = 14 then 0 else (if i1 = 15 then (if i2 = 0 then (if i3 = 0 then 1 else 0) else 0) else (if i1 = 16 then 0 else 0))))))))))))))))
set_option maxHeartbeats 8000000 in
set_option maxRecDepth 100000 in
theorem k_isLine0 (l : Launch) (G : sxG) (k : pxC) (pg : Nat) (kl : Nat) (ll : Nat) (i1 : Int32) (i2 : Int32) (i3 : Int32)  : pxM l yX14_isLine (Cond.code yX14_isLine cX14_isLine 5 (some .boolean) :: bwA) 3 77 0 0 G k [(pg, .inr (19, [.ref kl, .ref ll])), (kl, .inr (4, [.int 0, .ref k.1, .int 0])), (ll, .inr (4, [.int 0, .ref k.1, .int 0]))] [.ref pg, .int i1, .int i2, .int i3] (fun u : Unit => some (.int (s_isLine0 i1 i2 i3))) (fun u : Unit => ([(pg, .inr (19, [.ref kl, .ref ll])), (kl, .inr (4, [.int 0, .ref k.1, .int 0])), (ll, .inr (4, [.int 0, .ref k.1, .int 0]))] : va_W)) := by
  refine pxM.of (cc := cX14_isLine) (maxL := 5) (by decide) rfl (Nat.le_of_ble_eq_true rfl) ?_
  intro p e s m args below meth c ⟨hx, hb, hr, hml, hown, hlk, hts, hK⟩ hin A hA hP hD hS hE ls hl
  have hl : lv_has ls 5 [(0, .ref pg), (1, .int i1), (2, .int i2), (3, .int i3)] := hl
  refine lv_aload_n hx hb dX14_isLine_0 rfl (lv_at hl 0 rfl) ?_
  refine lv_iload_n hx hb dX14_isLine_1 rfl (lv_at hl 2 rfl) ?_
  refine px_v (As := [.int i2]) (rest := []) (wr := []) hx hb hml hown hts (k_kindOf0 l G k pg kl ll i2 ) 1 (gAV idA (ai2 (w := Cond.methodLink RX14 43 yX14_kindOf) 21 rfl) (ai2 (w := Cond.instanceMethod yX14_kindOf) 22 rfl) (ai2 (w := Cond.selects RX14 yX14_kindOf yX14_kindOf) 23 rfl) (ai2 (w := Cond.initialized RX14) 24 rfl) (ai2 (w := Cond.code yX14_kindOf cX14_kindOf 3 (some .int)) 20 rfl)) rfl (by decide +kernel) ⟨(Nat.le_of_ble_eq_true rfl), (Nat.le_of_ble_eq_true rfl)⟩ hK hP hD hS hA hE [0, 1, 2] [] rfl (by decide) rfl (by decide) (by decide) 0 rfl rfl rfl hl rfl (Nat.le_of_ble_eq_true rfl) ⟨(Nat.le_of_ble_eq_true rfl), (Nat.le_of_ble_eq_true rfl)⟩ dX14_isLine_2 (fun u H locs hP hD hS => ?_)
  have hP : va_P G.1 vwCl [(pg, .inr (19, [.ref kl, .ref ll])), (kl, .inr (4, [.int 0, .ref k.1, .int 0])), (ll, .inr (4, [.int 0, .ref k.1, .int 0]))] _ := hP
  have hD : va_D A [(pg, .inr (19, [.ref kl, .ref ll])), (kl, .inr (4, [.int 0, .ref k.1, .int 0])), (ll, .inr (4, [.int 0, .ref k.1, .int 0]))] := hD
  refine W.eq (g2 := F0 m _ ls [.int (-1)]) rfl ?_
  refine lv_istore (lv' := [(4, .int (-1)), (0, .ref pg), (1, .int i1), (2, .int i2), (3, .int i3)]) hx hb dX14_isLine_5 hl (by decide) rfl (fun ls hl => ?_)
  refine lv_iload_n hx hb dX14_isLine_7 rfl (lv_at hl 2 rfl) ?_
  by_cases c1 : i1 = 0
  · refine lv_tableIn (off := 84) (tgt := 92) hx hb dX14_isLine_8 (by rw [c1]; decide) (by rw [c1]; decide) (by rw [c1]; rfl) (by decide) ?_
    refine lv_iload hx hb dX14_isLine_92 (lv_at hl 0 rfl) ?_
    refine lv_iconst (v := (-1)) hx hb dX14_isLine_94 (by decide) ?_
    refine lv_icmp_eq (tgt := 117) hx hb dX14_isLine_95 (by decide) (fun c2 => ?_) (fun c2 => absurd c2 (by decide))
    refine lv_iconst (v := 0) hx hb dX14_isLine_117 (by decide) ?_
    refine W.widen (k := 0) (n := 0) (Nat.le_of_ble_eq_true rfl) (Nat.le_of_ble_eq_true rfl) ?_
    exact px_ri () hx hb hr hlk (hP.sub [0, 1, 2] rfl) (hD.sub [0, 1, 2] (by decide) rfl) hS rfl (by simp only [s_isLine0, if_pos c1]) dX14_isLine_118
  · by_cases c3 : i1 = 1
    · refine lv_tableIn (off := 111) (tgt := 119) hx hb dX14_isLine_8 (by rw [c3]; decide) (by rw [c3]; decide) (by rw [c3]; rfl) (by decide) ?_
      refine lv_iload hx hb dX14_isLine_119 (lv_at hl 0 rfl) ?_
      refine lv_aload_n hx hb dX14_isLine_121 rfl (lv_at hl 1 rfl) ?_
      refine lv_iload_n hx hb dX14_isLine_122 rfl (lv_at hl 4 rfl) ?_
      refine px_v (As := [.int i3]) (rest := [.int (-1)]) (wr := []) hx hb hml hown hts (k_kindOf0 l G k pg kl ll i3 ) 1 (gAV idA (ai2 (w := Cond.methodLink RX14 43 yX14_kindOf) 21 rfl) (ai2 (w := Cond.instanceMethod yX14_kindOf) 22 rfl) (ai2 (w := Cond.selects RX14 yX14_kindOf yX14_kindOf) 23 rfl) (ai2 (w := Cond.initialized RX14) 24 rfl) (ai2 (w := Cond.code yX14_kindOf cX14_kindOf 3 (some .int)) 20 rfl)) rfl (by decide +kernel) ⟨(Nat.le_of_ble_eq_true rfl), (Nat.le_of_ble_eq_true rfl)⟩ hK hP hD hS hA hE [0, 1, 2] [] rfl (by decide) rfl (by decide) (by decide) 0 rfl rfl rfl hl rfl (Nat.le_of_ble_eq_true rfl) ⟨(Nat.le_of_ble_eq_true rfl), (Nat.le_of_ble_eq_true rfl)⟩ dX14_isLine_123 (fun u H locs hP hD hS => ?_)
      have hP : va_P G.1 vwCl [(pg, .inr (19, [.ref kl, .ref ll])), (kl, .inr (4, [.int 0, .ref k.1, .int 0])), (ll, .inr (4, [.int 0, .ref k.1, .int 0]))] _ := hP
      have hD : va_D A [(pg, .inr (19, [.ref kl, .ref ll])), (kl, .inr (4, [.int 0, .ref k.1, .int 0])), (ll, .inr (4, [.int 0, .ref k.1, .int 0]))] := hD
      refine W.eq (g2 := F0 m _ ls [.int (-1), .int (-1)]) rfl ?_
      refine lv_icmp_ne (tgt := 157) hx hb dX14_isLine_126 (by decide) (fun c4 => absurd c4 (by decide)) (fun c4 => ?_)
      refine lv_iload hx hb dX14_isLine_129 (lv_at hl 0 rfl) ?_
      refine lv_iconst (v := 1) hx hb dX14_isLine_131 (by decide) ?_
      refine lv_icmp_eq (tgt := 153) hx hb dX14_isLine_132 (by decide) (fun c5 => absurd c5 (by decide)) (fun c5 => ?_)
      refine lv_iload hx hb dX14_isLine_135 (lv_at hl 0 rfl) ?_
      refine lv_iconst (v := 2) hx hb dX14_isLine_137 (by decide) ?_
      refine lv_icmp_eq (tgt := 153) hx hb dX14_isLine_138 (by decide) (fun c6 => absurd c6 (by decide)) (fun c6 => ?_)
      refine lv_iload hx hb dX14_isLine_141 (lv_at hl 0 rfl) ?_
      refine lv_iconst (v := 5) hx hb dX14_isLine_143 (by decide) ?_
      refine lv_icmp_eq (tgt := 153) hx hb dX14_isLine_144 (by decide) (fun c7 => absurd c7 (by decide)) (fun c7 => ?_)
      refine lv_iload hx hb dX14_isLine_147 (lv_at hl 0 rfl) ?_
      refine lv_iconst (v := 4) hx hb dX14_isLine_149 (by decide) ?_
      refine lv_icmp_ne (tgt := 157) hx hb dX14_isLine_150 (by decide) (fun c8 => ?_) (fun c8 => absurd c8 (by decide))
      refine lv_iconst (v := 0) hx hb dX14_isLine_157 (by decide) ?_
      refine W.widen (k := 0) (n := 0) (Nat.le_of_ble_eq_true rfl) (Nat.le_of_ble_eq_true rfl) ?_
      exact px_ri () hx hb hr hlk (hP.sub [0, 1, 2] rfl) (hD.sub [0, 1, 2] (by decide) rfl) hS rfl (by simp only [s_isLine0, if_neg c1, if_pos c3]) dX14_isLine_158
    · by_cases c9 : i1 = 2
      · refine lv_tableIn (off := 151) (tgt := 159) hx hb dX14_isLine_8 (by rw [c9]; decide) (by rw [c9]; decide) (by rw [c9]; rfl) (by decide) ?_
        refine lv_iload hx hb dX14_isLine_159 (lv_at hl 0 rfl) ?_
        refine lv_aload_n hx hb dX14_isLine_161 rfl (lv_at hl 1 rfl) ?_
        refine lv_iload_n hx hb dX14_isLine_162 rfl (lv_at hl 4 rfl) ?_
        refine px_v (As := [.int i3]) (rest := [.int (-1)]) (wr := []) hx hb hml hown hts (k_kindOf0 l G k pg kl ll i3 ) 1 (gAV idA (ai2 (w := Cond.methodLink RX14 43 yX14_kindOf) 21 rfl) (ai2 (w := Cond.instanceMethod yX14_kindOf) 22 rfl) (ai2 (w := Cond.selects RX14 yX14_kindOf yX14_kindOf) 23 rfl) (ai2 (w := Cond.initialized RX14) 24 rfl) (ai2 (w := Cond.code yX14_kindOf cX14_kindOf 3 (some .int)) 20 rfl)) rfl (by decide +kernel) ⟨(Nat.le_of_ble_eq_true rfl), (Nat.le_of_ble_eq_true rfl)⟩ hK hP hD hS hA hE [0, 1, 2] [] rfl (by decide) rfl (by decide) (by decide) 0 rfl rfl rfl hl rfl (Nat.le_of_ble_eq_true rfl) ⟨(Nat.le_of_ble_eq_true rfl), (Nat.le_of_ble_eq_true rfl)⟩ dX14_isLine_163 (fun u H locs hP hD hS => ?_)
        have hP : va_P G.1 vwCl [(pg, .inr (19, [.ref kl, .ref ll])), (kl, .inr (4, [.int 0, .ref k.1, .int 0])), (ll, .inr (4, [.int 0, .ref k.1, .int 0]))] _ := hP
        have hD : va_D A [(pg, .inr (19, [.ref kl, .ref ll])), (kl, .inr (4, [.int 0, .ref k.1, .int 0])), (ll, .inr (4, [.int 0, .ref k.1, .int 0]))] := hD
        refine W.eq (g2 := F0 m _ ls [.int (-1), .int (-1)]) rfl ?_
        refine lv_icmp_ne (tgt := 190) hx hb dX14_isLine_166 (by decide) (fun c10 => absurd c10 (by decide)) (fun c10 => ?_)
        refine lv_iload hx hb dX14_isLine_169 (lv_at hl 0 rfl) ?_
        refine lv_if_eq (tgt := 186) hx hb dX14_isLine_171 (by decide) (fun c11 => absurd c11 (by decide)) (fun c11 => ?_)
        refine lv_iload hx hb dX14_isLine_174 (lv_at hl 0 rfl) ?_
        refine lv_iconst (v := 3) hx hb dX14_isLine_176 (by decide) ?_
        refine lv_icmp_eq (tgt := 186) hx hb dX14_isLine_177 (by decide) (fun c12 => absurd c12 (by decide)) (fun c12 => ?_)
        refine lv_iload hx hb dX14_isLine_180 (lv_at hl 0 rfl) ?_
        refine lv_iconst (v := 5) hx hb dX14_isLine_182 (by decide) ?_
        refine lv_icmp_ne (tgt := 190) hx hb dX14_isLine_183 (by decide) (fun c13 => ?_) (fun c13 => absurd c13 (by decide))
        refine lv_iconst (v := 0) hx hb dX14_isLine_190 (by decide) ?_
        refine W.widen (k := 0) (n := 0) (Nat.le_of_ble_eq_true rfl) (Nat.le_of_ble_eq_true rfl) ?_
        exact px_ri () hx hb hr hlk (hP.sub [0, 1, 2] rfl) (hD.sub [0, 1, 2] (by decide) rfl) hS rfl (by simp only [s_isLine0, if_neg c1, if_neg c3, if_pos c9]) dX14_isLine_191
      · by_cases c14 : i1 = 3
        · refine lv_tableIn (off := 184) (tgt := 192) hx hb dX14_isLine_8 (by rw [c14]; decide) (by rw [c14]; decide) (by rw [c14]; rfl) (by decide) ?_
          refine lv_iload hx hb dX14_isLine_192 (lv_at hl 0 rfl) ?_
          refine lv_iconst (v := 3) hx hb dX14_isLine_194 (by decide) ?_
          refine lv_icmp_ne (tgt := 210) hx hb dX14_isLine_195 (by decide) (fun c15 => ?_) (fun c15 => absurd c15 (by decide))
          refine lv_iconst (v := 0) hx hb dX14_isLine_210 (by decide) ?_
          refine W.widen (k := 0) (n := 0) (Nat.le_of_ble_eq_true rfl) (Nat.le_of_ble_eq_true rfl) ?_
          exact px_ri () hx hb hr hlk (hP.sub [0, 1, 2] rfl) (hD.sub [0, 1, 2] (by decide) rfl) hS rfl (by simp only [s_isLine0, if_neg c1, if_neg c3, if_neg c9, if_pos c14]) dX14_isLine_211
        · by_cases c16 : i1 = 4
          · refine lv_tableIn (off := 204) (tgt := 212) hx hb dX14_isLine_8 (by rw [c16]; decide) (by rw [c16]; decide) (by rw [c16]; rfl) (by decide) ?_
            refine lv_iload hx hb dX14_isLine_212 (lv_at hl 0 rfl) ?_
            refine lv_iconst (v := 4) hx hb dX14_isLine_214 (by decide) ?_
            refine lv_icmp_ne (tgt := 230) hx hb dX14_isLine_215 (by decide) (fun c17 => ?_) (fun c17 => absurd c17 (by decide))
            refine lv_iconst (v := 0) hx hb dX14_isLine_230 (by decide) ?_
            refine W.widen (k := 0) (n := 0) (Nat.le_of_ble_eq_true rfl) (Nat.le_of_ble_eq_true rfl) ?_
            exact px_ri () hx hb hr hlk (hP.sub [0, 1, 2] rfl) (hD.sub [0, 1, 2] (by decide) rfl) hS rfl (by simp only [s_isLine0, if_neg c1, if_neg c3, if_neg c9, if_neg c14, if_pos c16]) dX14_isLine_231
          · by_cases c18 : i1 = 5
            · refine lv_tableIn (off := 224) (tgt := 232) hx hb dX14_isLine_8 (by rw [c18]; decide) (by rw [c18]; decide) (by rw [c18]; rfl) (by decide) ?_
              refine lv_iload hx hb dX14_isLine_232 (lv_at hl 0 rfl) ?_
              refine lv_iconst (v := (-1)) hx hb dX14_isLine_234 (by decide) ?_
              refine lv_icmp_eq (tgt := 246) hx hb dX14_isLine_235 (by decide) (fun c19 => ?_) (fun c19 => absurd c19 (by decide))
              refine lv_iconst (v := 0) hx hb dX14_isLine_246 (by decide) ?_
              refine W.widen (k := 0) (n := 0) (Nat.le_of_ble_eq_true rfl) (Nat.le_of_ble_eq_true rfl) ?_
              exact px_ri () hx hb hr hlk (hP.sub [0, 1, 2] rfl) (hD.sub [0, 1, 2] (by decide) rfl) hS rfl (by simp only [s_isLine0, if_neg c1, if_neg c3, if_neg c9, if_neg c14, if_neg c16, if_pos c18]) dX14_isLine_247
            · by_cases c20 : i1 = 6
              · refine lv_tableIn (off := 240) (tgt := 248) hx hb dX14_isLine_8 (by rw [c20]; decide) (by rw [c20]; decide) (by rw [c20]; rfl) (by decide) ?_
                refine lv_iload hx hb dX14_isLine_248 (lv_at hl 0 rfl) ?_
                refine lv_iconst (v := (-1)) hx hb dX14_isLine_250 (by decide) ?_
                refine lv_icmp_eq (tgt := 277) hx hb dX14_isLine_251 (by decide) (fun c21 => ?_) (fun c21 => absurd c21 (by decide))
                refine lv_iconst (v := 0) hx hb dX14_isLine_277 (by decide) ?_
                refine W.widen (k := 0) (n := 0) (Nat.le_of_ble_eq_true rfl) (Nat.le_of_ble_eq_true rfl) ?_
                exact px_ri () hx hb hr hlk (hP.sub [0, 1, 2] rfl) (hD.sub [0, 1, 2] (by decide) rfl) hS rfl (by simp only [s_isLine0, if_neg c1, if_neg c3, if_neg c9, if_neg c14, if_neg c16, if_neg c18, if_pos c20]) dX14_isLine_278
              · by_cases c22 : i1 = 7
                · refine lv_tableIn (off := 271) (tgt := 279) hx hb dX14_isLine_8 (by rw [c22]; decide) (by rw [c22]; decide) (by rw [c22]; rfl) (by decide) ?_
                  refine lv_aload_n hx hb dX14_isLine_279 rfl (lv_at hl 1 rfl) ?_
                  refine lv_iload_n hx hb dX14_isLine_280 rfl (lv_at hl 3 rfl) ?_
                  refine px_v (As := [.int i2]) (rest := []) (wr := []) hx hb hml hown hts (k_isOwned0 l G k pg kl ll i2 ) 1 (gAV idA (ai5 (w := Cond.methodLink RX14 57 yX14_isOwned) 38 rfl) (ai5 (w := Cond.instanceMethod yX14_isOwned) 39 rfl) (ai5 (w := Cond.selects RX14 yX14_isOwned yX14_isOwned) 40 rfl) (ai2 (w := Cond.initialized RX14) 24 rfl) (ai5 (w := Cond.code yX14_isOwned cX14_isOwned 2 (some .boolean)) 30 rfl)) rfl (by decide +kernel) ⟨(Nat.le_of_ble_eq_true rfl), (Nat.le_of_ble_eq_true rfl)⟩ hK hP hD hS hA hE [0, 1, 2] [] rfl (by decide) rfl (by decide) (by decide) 0 rfl rfl rfl hl rfl (Nat.le_of_ble_eq_true rfl) ⟨(Nat.le_of_ble_eq_true rfl), (Nat.le_of_ble_eq_true rfl)⟩ dX14_isLine_281 (fun u H locs hP hD hS => ?_)
                  have hP : va_P G.1 vwCl [(pg, .inr (19, [.ref kl, .ref ll])), (kl, .inr (4, [.int 0, .ref k.1, .int 0])), (ll, .inr (4, [.int 0, .ref k.1, .int 0]))] _ := hP
                  have hD : va_D A [(pg, .inr (19, [.ref kl, .ref ll])), (kl, .inr (4, [.int 0, .ref k.1, .int 0])), (ll, .inr (4, [.int 0, .ref k.1, .int 0]))] := hD
                  refine W.eq (g2 := F0 m _ ls [.int 0]) rfl ?_
                  refine lv_if_eq (tgt := 295) hx hb dX14_isLine_284 (by decide) (fun c23 => ?_) (fun c23 => absurd c23 (by decide))
                  refine lv_iconst (v := 0) hx hb dX14_isLine_295 (by decide) ?_
                  refine W.widen (k := 0) (n := 0) (Nat.le_of_ble_eq_true rfl) (Nat.le_of_ble_eq_true rfl) ?_
                  exact px_ri () hx hb hr hlk (hP.sub [0, 1, 2] rfl) (hD.sub [0, 1, 2] (by decide) rfl) hS rfl (by simp only [s_isLine0, if_neg c1, if_neg c3, if_neg c9, if_neg c14, if_neg c16, if_neg c18, if_neg c20, if_pos c22]) dX14_isLine_296
                · by_cases c24 : i1 = 8
                  · refine lv_tableIn (off := 289) (tgt := 297) hx hb dX14_isLine_8 (by rw [c24]; decide) (by rw [c24]; decide) (by rw [c24]; rfl) (by decide) ?_
                    refine lv_iload hx hb dX14_isLine_297 (lv_at hl 0 rfl) ?_
                    refine lv_if_ne (tgt := 310) hx hb dX14_isLine_299 (by decide) (fun c25 => ?_) (fun c25 => absurd c25 (by decide))
                    refine lv_iconst (v := 0) hx hb dX14_isLine_310 (by decide) ?_
                    refine W.widen (k := 0) (n := 0) (Nat.le_of_ble_eq_true rfl) (Nat.le_of_ble_eq_true rfl) ?_
                    exact px_ri () hx hb hr hlk (hP.sub [0, 1, 2] rfl) (hD.sub [0, 1, 2] (by decide) rfl) hS rfl (by simp only [s_isLine0, if_neg c1, if_neg c3, if_neg c9, if_neg c14, if_neg c16, if_neg c18, if_neg c20, if_neg c22, if_pos c24]) dX14_isLine_311
                  · by_cases c26 : i1 = 9
                    · refine lv_tableIn (off := 323) (tgt := 331) hx hb dX14_isLine_8 (by rw [c26]; decide) (by rw [c26]; decide) (by rw [c26]; rfl) (by decide) ?_
                      refine lv_iload_n hx hb dX14_isLine_331 rfl (lv_at hl 3 rfl) ?_
                      refine lv_if_ne (tgt := 343) hx hb dX14_isLine_332 (by decide) (fun c27 => ?_) (fun c27 => ?_)
                      · refine lv_iconst (v := 0) hx hb dX14_isLine_343 (by decide) ?_
                        refine W.widen (k := 0) (n := 0) (Nat.le_of_ble_eq_true rfl) (Nat.le_of_ble_eq_true rfl) ?_
                        exact px_ri () hx hb hr hlk (hP.sub [0, 1, 2] rfl) (hD.sub [0, 1, 2] (by decide) rfl) hS rfl (by simp only [s_isLine0, if_neg c1, if_neg c3, if_neg c9, if_neg c14, if_neg c16, if_neg c18, if_neg c20, if_neg c22, if_neg c24, if_pos c26, if_neg c27]) dX14_isLine_344
                      · refine lv_iload_n hx hb dX14_isLine_335 rfl (lv_at hl 4 rfl) ?_
                        refine lv_if_ne (tgt := 343) hx hb dX14_isLine_336 (by decide) (fun c28 => ?_) (fun c28 => ?_)
                        · refine lv_iconst (v := 0) hx hb dX14_isLine_343 (by decide) ?_
                          refine W.widen (k := 0) (n := 0) (Nat.le_of_ble_eq_true rfl) (Nat.le_of_ble_eq_true rfl) ?_
                          exact px_ri () hx hb hr hlk (hP.sub [0, 1, 2] rfl) (hD.sub [0, 1, 2] (by decide) rfl) hS rfl (by simp only [s_isLine0, if_neg c1, if_neg c3, if_neg c9, if_neg c14, if_neg c16, if_neg c18, if_neg c20, if_neg c22, if_neg c24, if_pos c26, if_pos c27, if_neg c28]) dX14_isLine_344
                        · refine lv_iconst (v := 1) hx hb dX14_isLine_339 (by decide) ?_
                          refine lv_goto (tgt := 344) hx hb dX14_isLine_340 (by decide) ?_
                          refine W.widen (k := 0) (n := 0) (Nat.le_of_ble_eq_true rfl) (Nat.le_of_ble_eq_true rfl) ?_
                          exact px_ri () hx hb hr hlk (hP.sub [0, 1, 2] rfl) (hD.sub [0, 1, 2] (by decide) rfl) hS rfl (by simp only [s_isLine0, if_neg c1, if_neg c3, if_neg c9, if_neg c14, if_neg c16, if_neg c18, if_neg c20, if_neg c22, if_neg c24, if_pos c26, if_pos c27, if_pos c28]) dX14_isLine_344
                    · by_cases c29 : i1 = 10
                      · refine lv_tableIn (off := 304) (tgt := 312) hx hb dX14_isLine_8 (by rw [c29]; decide) (by rw [c29]; decide) (by rw [c29]; rfl) (by decide) ?_
                        refine lv_iload_n hx hb dX14_isLine_312 rfl (lv_at hl 3 rfl) ?_
                        refine lv_iconst (v := 1) hx hb dX14_isLine_313 (by decide) ?_
                        refine lv_iconst (v := 4) hx hb dX14_isLine_314 (by decide) ?_
                        refine px_sn (host := RX16) (As := [.int i2, .int 1, .int 4]) (rest := []) (wr := [(pg, .inr (19, [.ref kl, .ref ll])), (kl, .inr (4, [.int 0, .ref k.1, .int 0])), (ll, .inr (4, [.int 0, .ref k.1, .int 0]))]) hx hb hml hown hts (k_isIn l G k i2 1 4 ) 3 (gA idA (ai2 (w := Cond.code yX16_isIn cX16_isIn 3 (some .boolean)) 12 rfl)) rfl (hE.1.1 (.methodLinkNest RX14 30 yX16_isIn RX16) (by simp [pxNl])) (List.mem_cons_of_mem _ (ai2 (w := Cond.initialized RX16) 17 rfl)) (List.mem_cons_of_mem _ (ai2 (w := Cond.static yX16_isIn) 16 rfl)) (by decide +kernel) ⟨(Nat.le_of_ble_eq_true rfl), (Nat.le_of_ble_eq_true rfl)⟩ hK hP hD hS hA hE [] [0, 1, 2] rfl (by decide) rfl (by decide) (by decide) rfl hl rfl (Nat.le_of_ble_eq_true rfl) ⟨(Nat.le_of_ble_eq_true rfl), (Nat.le_of_ble_eq_true rfl)⟩ dX14_isLine_315 (fun u H locs hP hD hS => ?_)
                        have hP : va_P G.1 vwCl [(pg, .inr (19, [.ref kl, .ref ll])), (kl, .inr (4, [.int 0, .ref k.1, .int 0])), (ll, .inr (4, [.int 0, .ref k.1, .int 0]))] _ := hP
                        have hD : va_D A [(pg, .inr (19, [.ref kl, .ref ll])), (kl, .inr (4, [.int 0, .ref k.1, .int 0])), (ll, .inr (4, [.int 0, .ref k.1, .int 0]))] := hD
                        refine W.eq (g2 := F0 m _ ls [.int (s_isIn i2 1 4)]) rfl ?_
                        refine lv_if_eq (tgt := 329) hx hb dX14_isLine_318 (by decide) (fun c30 => ?_) (fun c30 => ?_)
                        · refine lv_iconst (v := 0) hx hb dX14_isLine_329 (by decide) ?_
                          refine W.widen (k := 0) (n := 0) (Nat.le_of_ble_eq_true rfl) (Nat.le_of_ble_eq_true rfl) ?_
                          exact px_ri () hx hb hr hlk (hP.sub [0, 1, 2] rfl) (hD.sub [0, 1, 2] (by decide) rfl) hS rfl (by simp only [s_isLine0, if_neg c1, if_neg c3, if_neg c9, if_neg c14, if_neg c16, if_neg c18, if_neg c20, if_neg c22, if_neg c24, if_neg c26, if_pos c29, if_pos c30]) dX14_isLine_330
                        · refine lv_iload_n hx hb dX14_isLine_321 rfl (lv_at hl 4 rfl) ?_
                          refine lv_if_ne (tgt := 329) hx hb dX14_isLine_322 (by decide) (fun c31 => ?_) (fun c31 => ?_)
                          · refine lv_iconst (v := 0) hx hb dX14_isLine_329 (by decide) ?_
                            refine W.widen (k := 0) (n := 0) (Nat.le_of_ble_eq_true rfl) (Nat.le_of_ble_eq_true rfl) ?_
                            exact px_ri () hx hb hr hlk (hP.sub [0, 1, 2] rfl) (hD.sub [0, 1, 2] (by decide) rfl) hS rfl (by simp only [s_isLine0, if_neg c1, if_neg c3, if_neg c9, if_neg c14, if_neg c16, if_neg c18, if_neg c20, if_neg c22, if_neg c24, if_neg c26, if_pos c29, if_neg c30, if_neg c31]) dX14_isLine_330
                          · refine lv_iconst (v := 1) hx hb dX14_isLine_325 (by decide) ?_
                            refine lv_goto (tgt := 330) hx hb dX14_isLine_326 (by decide) ?_
                            refine W.widen (k := 0) (n := 0) (Nat.le_of_ble_eq_true rfl) (Nat.le_of_ble_eq_true rfl) ?_
                            exact px_ri () hx hb hr hlk (hP.sub [0, 1, 2] rfl) (hD.sub [0, 1, 2] (by decide) rfl) hS rfl (by simp only [s_isLine0, if_neg c1, if_neg c3, if_neg c9, if_neg c14, if_neg c16, if_neg c18, if_neg c20, if_neg c22, if_neg c24, if_neg c26, if_pos c29, if_neg c30, if_pos c31]) dX14_isLine_330
                      · by_cases c32 : i1 = 11
                        · refine lv_tableIn (off := 323) (tgt := 331) hx hb dX14_isLine_8 (by rw [c32]; decide) (by rw [c32]; decide) (by rw [c32]; rfl) (by decide) ?_
                          refine lv_iload_n hx hb dX14_isLine_331 rfl (lv_at hl 3 rfl) ?_
                          refine lv_if_ne (tgt := 343) hx hb dX14_isLine_332 (by decide) (fun c33 => ?_) (fun c33 => ?_)
                          · refine lv_iconst (v := 0) hx hb dX14_isLine_343 (by decide) ?_
                            refine W.widen (k := 0) (n := 0) (Nat.le_of_ble_eq_true rfl) (Nat.le_of_ble_eq_true rfl) ?_
                            exact px_ri () hx hb hr hlk (hP.sub [0, 1, 2] rfl) (hD.sub [0, 1, 2] (by decide) rfl) hS rfl (by simp only [s_isLine0, if_neg c1, if_neg c3, if_neg c9, if_neg c14, if_neg c16, if_neg c18, if_neg c20, if_neg c22, if_neg c24, if_neg c26, if_neg c29, if_pos c32, if_neg c33]) dX14_isLine_344
                          · refine lv_iload_n hx hb dX14_isLine_335 rfl (lv_at hl 4 rfl) ?_
                            refine lv_if_ne (tgt := 343) hx hb dX14_isLine_336 (by decide) (fun c34 => ?_) (fun c34 => ?_)
                            · refine lv_iconst (v := 0) hx hb dX14_isLine_343 (by decide) ?_
                              refine W.widen (k := 0) (n := 0) (Nat.le_of_ble_eq_true rfl) (Nat.le_of_ble_eq_true rfl) ?_
                              exact px_ri () hx hb hr hlk (hP.sub [0, 1, 2] rfl) (hD.sub [0, 1, 2] (by decide) rfl) hS rfl (by simp only [s_isLine0, if_neg c1, if_neg c3, if_neg c9, if_neg c14, if_neg c16, if_neg c18, if_neg c20, if_neg c22, if_neg c24, if_neg c26, if_neg c29, if_pos c32, if_pos c33, if_neg c34]) dX14_isLine_344
                            · refine lv_iconst (v := 1) hx hb dX14_isLine_339 (by decide) ?_
                              refine lv_goto (tgt := 344) hx hb dX14_isLine_340 (by decide) ?_
                              refine W.widen (k := 0) (n := 0) (Nat.le_of_ble_eq_true rfl) (Nat.le_of_ble_eq_true rfl) ?_
                              exact px_ri () hx hb hr hlk (hP.sub [0, 1, 2] rfl) (hD.sub [0, 1, 2] (by decide) rfl) hS rfl (by simp only [s_isLine0, if_neg c1, if_neg c3, if_neg c9, if_neg c14, if_neg c16, if_neg c18, if_neg c20, if_neg c22, if_neg c24, if_neg c26, if_neg c29, if_pos c32, if_pos c33, if_pos c34]) dX14_isLine_344
                        · by_cases c35 : i1 = 12
                          · refine lv_tableIn (off := 337) (tgt := 345) hx hb dX14_isLine_8 (by rw [c35]; decide) (by rw [c35]; decide) (by rw [c35]; rfl) (by decide) ?_
                            refine lv_iload hx hb dX14_isLine_345 (lv_at hl 0 rfl) ?_
                            refine lv_iconst (v := 5) hx hb dX14_isLine_347 (by decide) ?_
                            refine lv_icmp_ne (tgt := 364) hx hb dX14_isLine_348 (by decide) (fun c36 => ?_) (fun c36 => absurd c36 (by decide))
                            refine lv_iconst (v := 0) hx hb dX14_isLine_364 (by decide) ?_
                            refine W.widen (k := 0) (n := 0) (Nat.le_of_ble_eq_true rfl) (Nat.le_of_ble_eq_true rfl) ?_
                            exact px_ri () hx hb hr hlk (hP.sub [0, 1, 2] rfl) (hD.sub [0, 1, 2] (by decide) rfl) hS rfl (by simp only [s_isLine0, if_neg c1, if_neg c3, if_neg c9, if_neg c14, if_neg c16, if_neg c18, if_neg c20, if_neg c22, if_neg c24, if_neg c26, if_neg c29, if_neg c32, if_pos c35]) dX14_isLine_365
                          · by_cases c37 : i1 = 13
                            · refine lv_tableIn (off := 358) (tgt := 366) hx hb dX14_isLine_8 (by rw [c37]; decide) (by rw [c37]; decide) (by rw [c37]; rfl) (by decide) ?_
                              refine lv_iload hx hb dX14_isLine_366 (lv_at hl 0 rfl) ?_
                              refine lv_iconst (v := 5) hx hb dX14_isLine_368 (by decide) ?_
                              refine lv_icmp_ne (tgt := 380) hx hb dX14_isLine_369 (by decide) (fun c38 => ?_) (fun c38 => absurd c38 (by decide))
                              refine lv_iconst (v := 0) hx hb dX14_isLine_380 (by decide) ?_
                              refine W.widen (k := 0) (n := 0) (Nat.le_of_ble_eq_true rfl) (Nat.le_of_ble_eq_true rfl) ?_
                              exact px_ri () hx hb hr hlk (hP.sub [0, 1, 2] rfl) (hD.sub [0, 1, 2] (by decide) rfl) hS rfl (by simp only [s_isLine0, if_neg c1, if_neg c3, if_neg c9, if_neg c14, if_neg c16, if_neg c18, if_neg c20, if_neg c22, if_neg c24, if_neg c26, if_neg c29, if_neg c32, if_neg c35, if_pos c37]) dX14_isLine_381
                            · by_cases c39 : i1 = 14
                              · refine lv_tableIn (off := 358) (tgt := 366) hx hb dX14_isLine_8 (by rw [c39]; decide) (by rw [c39]; decide) (by rw [c39]; rfl) (by decide) ?_
                                refine lv_iload hx hb dX14_isLine_366 (lv_at hl 0 rfl) ?_
                                refine lv_iconst (v := 5) hx hb dX14_isLine_368 (by decide) ?_
                                refine lv_icmp_ne (tgt := 380) hx hb dX14_isLine_369 (by decide) (fun c40 => ?_) (fun c40 => absurd c40 (by decide))
                                refine lv_iconst (v := 0) hx hb dX14_isLine_380 (by decide) ?_
                                refine W.widen (k := 0) (n := 0) (Nat.le_of_ble_eq_true rfl) (Nat.le_of_ble_eq_true rfl) ?_
                                exact px_ri () hx hb hr hlk (hP.sub [0, 1, 2] rfl) (hD.sub [0, 1, 2] (by decide) rfl) hS rfl (by simp only [s_isLine0, if_neg c1, if_neg c3, if_neg c9, if_neg c14, if_neg c16, if_neg c18, if_neg c20, if_neg c22, if_neg c24, if_neg c26, if_neg c29, if_neg c32, if_neg c35, if_neg c37, if_pos c39]) dX14_isLine_381
                              · by_cases c41 : i1 = 15
                                · refine lv_tableIn (off := 323) (tgt := 331) hx hb dX14_isLine_8 (by rw [c41]; decide) (by rw [c41]; decide) (by rw [c41]; rfl) (by decide) ?_
                                  refine lv_iload_n hx hb dX14_isLine_331 rfl (lv_at hl 3 rfl) ?_
                                  refine lv_if_ne (tgt := 343) hx hb dX14_isLine_332 (by decide) (fun c42 => ?_) (fun c42 => ?_)
                                  · refine lv_iconst (v := 0) hx hb dX14_isLine_343 (by decide) ?_
                                    refine W.widen (k := 0) (n := 0) (Nat.le_of_ble_eq_true rfl) (Nat.le_of_ble_eq_true rfl) ?_
                                    exact px_ri () hx hb hr hlk (hP.sub [0, 1, 2] rfl) (hD.sub [0, 1, 2] (by decide) rfl) hS rfl (by simp only [s_isLine0, if_neg c1, if_neg c3, if_neg c9, if_neg c14, if_neg c16, if_neg c18, if_neg c20, if_neg c22, if_neg c24, if_neg c26, if_neg c29, if_neg c32, if_neg c35, if_neg c37, if_neg c39, if_pos c41, if_neg c42]) dX14_isLine_344
                                  · refine lv_iload_n hx hb dX14_isLine_335 rfl (lv_at hl 4 rfl) ?_
                                    refine lv_if_ne (tgt := 343) hx hb dX14_isLine_336 (by decide) (fun c43 => ?_) (fun c43 => ?_)
                                    · refine lv_iconst (v := 0) hx hb dX14_isLine_343 (by decide) ?_
                                      refine W.widen (k := 0) (n := 0) (Nat.le_of_ble_eq_true rfl) (Nat.le_of_ble_eq_true rfl) ?_
                                      exact px_ri () hx hb hr hlk (hP.sub [0, 1, 2] rfl) (hD.sub [0, 1, 2] (by decide) rfl) hS rfl (by simp only [s_isLine0, if_neg c1, if_neg c3, if_neg c9, if_neg c14, if_neg c16, if_neg c18, if_neg c20, if_neg c22, if_neg c24, if_neg c26, if_neg c29, if_neg c32, if_neg c35, if_neg c37, if_neg c39, if_pos c41, if_pos c42, if_neg c43]) dX14_isLine_344
                                    · refine lv_iconst (v := 1) hx hb dX14_isLine_339 (by decide) ?_
                                      refine lv_goto (tgt := 344) hx hb dX14_isLine_340 (by decide) ?_
                                      refine W.widen (k := 0) (n := 0) (Nat.le_of_ble_eq_true rfl) (Nat.le_of_ble_eq_true rfl) ?_
                                      exact px_ri () hx hb hr hlk (hP.sub [0, 1, 2] rfl) (hD.sub [0, 1, 2] (by decide) rfl) hS rfl (by simp only [s_isLine0, if_neg c1, if_neg c3, if_neg c9, if_neg c14, if_neg c16, if_neg c18, if_neg c20, if_neg c22, if_neg c24, if_neg c26, if_neg c29, if_neg c32, if_neg c35, if_neg c37, if_neg c39, if_pos c41, if_pos c42, if_pos c43]) dX14_isLine_344
                                · by_cases c44 : i1 = 16
                                  · refine lv_tableIn (off := 374) (tgt := 382) hx hb dX14_isLine_8 (by rw [c44]; decide) (by rw [c44]; decide) (by rw [c44]; rfl) (by decide) ?_
                                    refine lv_iload hx hb dX14_isLine_382 (lv_at hl 0 rfl) ?_
                                    refine lv_if_ne (tgt := 398) hx hb dX14_isLine_384 (by decide) (fun c45 => ?_) (fun c45 => absurd c45 (by decide))
                                    refine lv_iconst (v := 0) hx hb dX14_isLine_398 (by decide) ?_
                                    refine W.widen (k := 0) (n := 0) (Nat.le_of_ble_eq_true rfl) (Nat.le_of_ble_eq_true rfl) ?_
                                    exact px_ri () hx hb hr hlk (hP.sub [0, 1, 2] rfl) (hD.sub [0, 1, 2] (by decide) rfl) hS rfl (by simp only [s_isLine0, if_neg c1, if_neg c3, if_neg c9, if_neg c14, if_neg c16, if_neg c18, if_neg c20, if_neg c22, if_neg c24, if_neg c26, if_neg c29, if_neg c32, if_neg c35, if_neg c37, if_neg c39, if_neg c41, if_pos c44]) dX14_isLine_399
                                  · refine lv_tableOut (tgt := 400) hx hb dX14_isLine_8 (by have := lv_neT (a := 0) c1 rfl; have := lv_neT (a := 1) c3 rfl; have := lv_neT (a := 2) c9 rfl; have := lv_neT (a := 3) c14 rfl; have := lv_neT (a := 4) c16 rfl; have := lv_neT (a := 5) c18 rfl; have := lv_neT (a := 6) c20 rfl; have := lv_neT (a := 7) c22 rfl; have := lv_neT (a := 8) c24 rfl; have := lv_neT (a := 9) c26 rfl; have := lv_neT (a := 10) c29 rfl; have := lv_neT (a := 11) c32 rfl; have := lv_neT (a := 12) c35 rfl; have := lv_neT (a := 13) c37 rfl; have := lv_neT (a := 14) c39 rfl; have := lv_neT (a := 15) c41 rfl; have := lv_neT (a := 16) c44 rfl; omega) (by decide) ?_
                                    refine lv_iconst (v := 0) hx hb dX14_isLine_400 (by decide) ?_
                                    refine W.widen (k := 0) (n := 0) (Nat.le_of_ble_eq_true rfl) (Nat.le_of_ble_eq_true rfl) ?_
                                    exact px_ri () hx hb hr hlk (hP.sub [0, 1, 2] rfl) (hD.sub [0, 1, 2] (by decide) rfl) hS rfl (by simp only [s_isLine0, if_neg c1, if_neg c3, if_neg c9, if_neg c14, if_neg c16, if_neg c18, if_neg c20, if_neg c22, if_neg c24, if_neg c26, if_neg c29, if_neg c32, if_neg c35, if_neg c37, if_neg c39, if_neg c41, if_neg c44]) dX14_isLine_401
