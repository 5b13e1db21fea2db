set_option maxHeartbeats 8000000 in
set_option maxRecDepth 100000 in
theorem k_L_put (l : Launch) (hfl : l.stackTraces = false) (G : sxG) (k : pxC) (z : Nat) (h : Nat) (r : Nat) (x : Nat) (g : Nat) (rr : Nat) (xx : Nat) (k0 : Nat) (k1 : Nat) (k2 : Nat) (k3 : Nat) (i1 : Int32) (i2 : Int32) (i3 : Int32) (i4 : Int32) (ou : Nat)  : pxM l yL_put (Cond.codeWith yL_put cL_put 7 (some .int) [(0, 14, 17, 25), (0, 14, 21, 13), (0, 14, 25, 15)] :: bwA) 7 107 1 6 G k [(z, .inr (14, [.ref h, .ref r, .ref x, .ref g, .ref rr, .ref xx, .int 0])), (h, .inr (10, [.ref k0, .ref k1, .ref k2, .ref k3, .int 0, .int 0])), (ou, .inl (k.2.2.2.2.2.2, 1, .inr (.inl (fun _ => 0))))] [.ref z, .int i1, .int i2, .int i3, .int i4, .ref ou] (fun u : Unit => some (.int 1)) (fun u : Unit => ([(ou, .inl (k.2.2.2.2.2.2, 1, .inr (.inl (fun _ => 0))))] : va_W)) := by
  refine pxM.ofH (cc := cL_put) (maxL := 7) (by decide) rfl (Nat.le_of_ble_eq_true rfl) ?_
  intro p e s m args below meth c ⟨hx, hb, hr, hml, hown, hlk, hts, hK⟩ htb A hA hP hD hS hE ls hl
  have hl : lv_has ls 7 [(0, .ref z), (1, .int i1), (2, .int i2), (3, .int i3), (4, .int i4), (5, .ref ou)] := hl
  refine lv_aload hx hb dL_put_0 (lv_at hl 5 rfl) ?_
  refine lv_iconst (v := 0) hx hb dL_put_2 (by decide) ?_
  refine lv_aload_n hx hb dL_put_3 rfl (lv_at hl 0 rfl) ?_
  refine lv_iload_n hx hb dL_put_4 rfl (lv_at hl 1 rfl) ?_
  refine lv_iload_n hx hb dL_put_5 rfl (lv_at hl 2 rfl) ?_
  refine lv_iload_n hx hb dL_put_6 rfl (lv_at hl 3 rfl) ?_
  refine lv_iload hx hb dL_put_7 (lv_at hl 4 rfl) ?_
  refine px_xv (As := [.int i1, .int i2, .int i3, .int i4]) (rest := [.int 0, .ref ou]) (wr := [(ou, .inl (k.2.2.2.2.2.2, 1, .inr (.inl (fun _ => 0))))]) (E := "java/lang/IndexOutOfBoundsException") hx hb hml hown hts (kx_x_put l hfl G k z h r x g rr xx k0 k1 k2 k3 i1 i2 i3 i4 ) 4 (gAV idA (ai14 (w := Cond.methodLink RL 21 yX9_put) 44 rfl) (ai14 (w := Cond.instanceMethod yX9_put) 45 rfl) (ai14 (w := Cond.selects RX9 yX9_put yX9_put) 46 rfl) (ahC (bi1 (w := Cond.initialized RX9) 58 rfl)) (ahC (bi10 (w := Cond.code yX9_put cX9_put 6 (some .int)) 33 rfl))) rfl (by decide +kernel) ⟨(Nat.le_of_ble_eq_true rfl), (Nat.le_of_ble_eq_true rfl)⟩ hK hP hD hS hA hE [0, 1] [2] rfl (by decide) rfl (by decide) (by decide) 0 rfl rfl rfl hl rfl (Nat.le_of_ble_eq_true rfl) ⟨(Nat.le_of_ble_eq_true rfl), (Nat.le_of_ble_eq_true rfl)⟩ dL_put_9 (fun ce q9 H locs hP hD hS hce hcv hcl => ?_)
  have hP : va_P G.1 vwCl [(ou, .inl (k.2.2.2.2.2.2, 1, .inr (.inl (fun _ => 0)))), (z, .inr (14, [.ref h, .ref r, .ref x, .ref g, .ref rr, .ref xx, .int 0])), (h, .inr (10, [.ref k0, .ref k1, .ref k2, .ref k3, .int 0, .int 0]))] _ := hP
  have hD : va_D A [(ou, .inl (k.2.2.2.2.2.2, 1, .inr (.inl (fun _ => 0)))), (z, .inr (14, [.ref h, .ref r, .ref x, .ref g, .ref rr, .ref xx, .int 0])), (h, .inr (10, [.ref k0, .ref k1, .ref k2, .ref k3, .int 0, .int 0]))] := hD
  refine vx_catch (own := RL) (name := "java/lang/IndexOutOfBoundsException") (E := "java/lang/IndexOutOfBoundsException") hown [] ⟨0, 14, 17, 25⟩ (tableOf [(0, 14, 21, 13), (0, 14, 25, 15)]) (htb.trans rfl) (fun z hz => absurd hz List.not_mem_nil) (by decide) (by decide) (aw (w := Cond.classLink RL 25 "java/lang/IndexOutOfBoundsException") hts (ai14 (w := Cond.classLink RL 25 "java/lang/IndexOutOfBoundsException") 43 rfl)) (va_Nw.use rfl (hE.1.1 (.castable "java/lang/IndexOutOfBoundsException" "java/lang/IndexOutOfBoundsException") (by simp [pxNl]))) hce hcv hcl ?_
  refine W.widen (k := 1) (n := 6) (Nat.le_of_ble_eq_true rfl) (Nat.le_of_ble_eq_true rfl) ?_
  refine lv_astore (lv' := [(6, .ref q9), (0, .ref z), (1, .int i1), (2, .int i2), (3, .int i3), (4, .int i4), (5, .ref ou)]) hx hb dL_put_17 hl (by decide) rfl (fun ls hl => ?_)
  refine lv_iconst (v := 1) hx hb dL_put_19 (by decide) ?_
  refine W.widen (k := 1) (n := 6) (Nat.le_of_ble_eq_true rfl) (Nat.le_of_ble_eq_true rfl) ?_
  exact px_ri () hx hb hr hlk (hP.sub [0] rfl) (hD.sub [0] (by decide) rfl) hS rfl (rfl) dL_put_20

set_option maxHeartbeats 8000000 in
set_option maxRecDepth 100000 in
theorem k_L_cut (l : Launch) (hfl : l.stackTraces = false) (G : sxG) (k : pxC) (z : Nat) (h : Nat) (r : Nat) (x : Nat) (g : Nat) (rr : Nat) (xx : Nat) (k0 : Nat) (k1 : Nat) (k2 : Nat) (k3 : Nat) (ou : Nat)  : pxM l yL_cut (Cond.codeWith yL_cut cL_cut 3 (some .int) [(0, 8, 11, 15)] :: bwA) 7 104 1 6 G k [(z, .inr (14, [.ref h, .ref r, .ref x, .ref g, .ref rr, .ref xx, .int 0])), (h, .inr (10, [.ref k0, .ref k1, .ref k2, .ref k3, .int 0, .int 0])), (ou, .inl (k.2.2.2.2.2.2, 1, .inr (.inl (fun _ => 0))))] [.ref z, .ref ou] (fun u : Unit => some (.int 1)) (fun u : Unit => ([(ou, .inl (k.2.2.2.2.2.2, 1, .inr (.inl (fun _ => 0))))] : va_W)) := by
  refine pxM.ofH (cc := cL_cut) (maxL := 3) (by decide) rfl (Nat.le_of_ble_eq_true rfl) ?_
  intro p e s m args below meth c ⟨hx, hb, hr, hml, hown, hlk, hts, hK⟩ htb A hA hP hD hS hE ls hl
  have hl : lv_has ls 3 [(0, .ref z), (1, .ref ou)] := hl
  refine lv_aload_n hx hb dL_cut_0 rfl (lv_at hl 1 rfl) ?_
  refine lv_iconst (v := 0) hx hb dL_cut_1 (by decide) ?_
  refine lv_aload_n hx hb dL_cut_2 rfl (lv_at hl 0 rfl) ?_
  refine px_xv (As := []) (rest := [.int 0, .ref ou]) (wr := [(ou, .inl (k.2.2.2.2.2.2, 1, .inr (.inl (fun _ => 0))))]) (E := "java/lang/IllegalStateException") hx hb hml hown hts (kx_x_cut l hfl G k z h r x g rr xx k0 k1 k2 k3 ) 0 (gAV idA (ai14 (w := Cond.methodLink RL 27 yX9_cut) 48 rfl) (ai14 (w := Cond.instanceMethod yX9_cut) 49 rfl) (ai14 (w := Cond.selects RX9 yX9_cut yX9_cut) 50 rfl) (ahC (bi1 (w := Cond.initialized RX9) 58 rfl)) (ahC (bi10 (w := Cond.code yX9_cut cX9_cut 3 (some .int)) 37 rfl))) rfl (by decide +kernel) ⟨(Nat.le_of_ble_eq_true rfl), (Nat.le_of_ble_eq_true rfl)⟩ hK hP hD hS hA hE [0, 1] [2] rfl (by decide) rfl (by decide) (by decide) 0 rfl rfl rfl hl rfl (Nat.le_of_ble_eq_true rfl) ⟨(Nat.le_of_ble_eq_true rfl), (Nat.le_of_ble_eq_true rfl)⟩ dL_cut_3 (fun ce q9 H locs hP hD hS hce hcv hcl => ?_)
  have hP : va_P G.1 vwCl [(ou, .inl (k.2.2.2.2.2.2, 1, .inr (.inl (fun _ => 0)))), (z, .inr (14, [.ref h, .ref r, .ref x, .ref g, .ref rr, .ref xx, .int 0])), (h, .inr (10, [.ref k0, .ref k1, .ref k2, .ref k3, .int 0, .int 0]))] _ := hP
  have hD : va_D A [(ou, .inl (k.2.2.2.2.2.2, 1, .inr (.inl (fun _ => 0)))), (z, .inr (14, [.ref h, .ref r, .ref x, .ref g, .ref rr, .ref xx, .int 0])), (h, .inr (10, [.ref k0, .ref k1, .ref k2, .ref k3, .int 0, .int 0]))] := hD
  refine vx_catch (own := RL) (name := "java/lang/IllegalStateException") (E := "java/lang/IllegalStateException") hown [] ⟨0, 8, 11, 15⟩ (tableOf []) (htb.trans rfl) (fun z hz => absurd hz List.not_mem_nil) (by decide) (by decide) (aw (w := Cond.classLink RL 15 "java/lang/IllegalStateException") hts (ai14 (w := Cond.classLink RL 15 "java/lang/IllegalStateException") 34 rfl)) (va_Nw.use rfl (hE.1.1 (.castable "java/lang/IllegalStateException" "java/lang/IllegalStateException") (by simp [pxNl]))) hce hcv hcl ?_
  refine W.widen (k := 1) (n := 6) (Nat.le_of_ble_eq_true rfl) (Nat.le_of_ble_eq_true rfl) ?_
  refine lv_astore_n (lv' := [(2, .ref q9), (0, .ref z), (1, .ref ou)]) hx hb dL_cut_11 rfl hl (by decide) rfl (fun ls hl => ?_)
  refine lv_iconst (v := 1) hx hb dL_cut_12 (by decide) ?_
  refine W.widen (k := 1) (n := 6) (Nat.le_of_ble_eq_true rfl) (Nat.le_of_ble_eq_true rfl) ?_
  exact px_ri () hx hb hr hlk (hP.sub [0] rfl) (hD.sub [0] (by decide) rfl) hS rfl (rfl) dL_cut_13

set_option maxHeartbeats 8000000 in
set_option maxRecDepth 100000 in
theorem k_L_ofLine (l : Launch) (hfl : l.stackTraces = false) (G : sxG) (k : pxC) (z : Nat) (h : Nat) (r : Nat) (x : Nat) (g : Nat) (rr : Nat) (xx : Nat) (k0 : Nat) (k1 : Nat) (k2 : Nat) (k3 : Nat) (i1 : Int32) (i2 : Int32) (ou : Nat)  : pxM l yL_ofLine (Cond.codeWith yL_ofLine cL_ofLine 5 (some .int) [(0, 10, 13, 25), (0, 10, 17, 13)] :: bwA) 7 104 1 6 G k [(z, .inr (14, [.ref h, .ref r, .ref x, .ref g, .ref rr, .ref xx, .int 0])), (h, .inr (10, [.ref k0, .ref k1, .ref k2, .ref k3, .int 0, .int 0])), (ou, .inl (k.2.2.2.2.2.2, 1, .inr (.inl (fun _ => 0))))] [.ref z, .int i1, .int i2, .ref ou] (fun u : Unit => some (.int 1)) (fun u : Unit => ([(ou, .inl (k.2.2.2.2.2.2, 1, .inr (.inl (fun _ => 0))))] : va_W)) := by
  refine pxM.ofH (cc := cL_ofLine) (maxL := 5) (by decide) rfl (Nat.le_of_ble_eq_true rfl) ?_
  intro p e s m args below meth c ⟨hx, hb, hr, hml, hown, hlk, hts, hK⟩ htb A hA hP hD hS hE ls hl
  have hl : lv_has ls 5 [(0, .ref z), (1, .int i1), (2, .int i2), (3, .ref ou)] := hl
  refine lv_aload_n hx hb dL_ofLine_0 rfl (lv_at hl 3 rfl) ?_
  refine lv_iconst (v := 0) hx hb dL_ofLine_1 (by decide) ?_
  refine lv_aload_n hx hb dL_ofLine_2 rfl (lv_at hl 0 rfl) ?_
  refine lv_iload_n hx hb dL_ofLine_3 rfl (lv_at hl 1 rfl) ?_
  refine lv_iload_n hx hb dL_ofLine_4 rfl (lv_at hl 2 rfl) ?_
  refine px_xv (As := [.int i1, .int i2]) (rest := [.int 0, .ref ou]) (wr := [(ou, .inl (k.2.2.2.2.2.2, 1, .inr (.inl (fun _ => 0))))]) (E := "java/lang/IndexOutOfBoundsException") hx hb hml hown hts (kx_x_ofLine l hfl G k z h r x g rr xx k0 k1 k2 k3 i1 i2 ) 2 (gAV idA (ai14 (w := Cond.methodLink RL 31 yX9_ofLine) 52 rfl) (ahC (bi12 (w := Cond.instanceMethod yX9_ofLine) 21 rfl)) (ahC (bi12 (w := Cond.selects RX9 yX9_ofLine yX9_ofLine) 22 rfl)) (ahC (bi1 (w := Cond.initialized RX9) 58 rfl)) (ahC (bi10 (w := Cond.code yX9_ofLine cX9_ofLine 3 (some .int)) 43 rfl))) rfl (by decide +kernel) ⟨(Nat.le_of_ble_eq_true rfl), (Nat.le_of_ble_eq_true rfl)⟩ hK hP hD hS hA hE [0, 1] [2] rfl (by decide) rfl (by decide) (by decide) 0 rfl rfl rfl hl rfl (Nat.le_of_ble_eq_true rfl) ⟨(Nat.le_of_ble_eq_true rfl), (Nat.le_of_ble_eq_true rfl)⟩ dL_ofLine_5 (fun ce q9 H locs hP hD hS hce hcv hcl => ?_)
  have hP : va_P G.1 vwCl [(ou, .inl (k.2.2.2.2.2.2, 1, .inr (.inl (fun _ => 0)))), (z, .inr (14, [.ref h, .ref r, .ref x, .ref g, .ref rr, .ref xx, .int 0])), (h, .inr (10, [.ref k0, .ref k1, .ref k2, .ref k3, .int 0, .int 0]))] _ := hP
  have hD : va_D A [(ou, .inl (k.2.2.2.2.2.2, 1, .inr (.inl (fun _ => 0)))), (z, .inr (14, [.ref h, .ref r, .ref x, .ref g, .ref rr, .ref xx, .int 0])), (h, .inr (10, [.ref k0, .ref k1, .ref k2, .ref k3, .int 0, .int 0]))] := hD
  refine vx_catch (own := RL) (name := "java/lang/IndexOutOfBoundsException") (E := "java/lang/IndexOutOfBoundsException") hown [] ⟨0, 10, 13, 25⟩ (tableOf [(0, 10, 17, 13)]) (htb.trans rfl) (fun z hz => absurd hz List.not_mem_nil) (by decide) (by decide) (aw (w := Cond.classLink RL 25 "java/lang/IndexOutOfBoundsException") hts (ai14 (w := Cond.classLink RL 25 "java/lang/IndexOutOfBoundsException") 43 rfl)) (va_Nw.use rfl (hE.1.1 (.castable "java/lang/IndexOutOfBoundsException" "java/lang/IndexOutOfBoundsException") (by simp [pxNl]))) hce hcv hcl ?_
  refine W.widen (k := 1) (n := 6) (Nat.le_of_ble_eq_true rfl) (Nat.le_of_ble_eq_true rfl) ?_
  refine lv_astore (lv' := [(4, .ref q9), (0, .ref z), (1, .int i1), (2, .int i2), (3, .ref ou)]) hx hb dL_ofLine_13 hl (by decide) rfl (fun ls hl => ?_)
  refine lv_iconst (v := 1) hx hb dL_ofLine_15 (by decide) ?_
  refine W.widen (k := 1) (n := 6) (Nat.le_of_ble_eq_true rfl) (Nat.le_of_ble_eq_true rfl) ?_
  exact px_ri () hx hb hr hlk (hP.sub [0] rfl) (hD.sub [0] (by decide) rfl) hS rfl (rfl) dL_ofLine_16

set_option maxHeartbeats 8000000 in
set_option maxRecDepth 100000 in
theorem k_L_state (l : Launch) (hfl : l.stackTraces = false) (G : sxG) (k : pxC) (z : Nat) (h : Nat) (r : Nat) (x : Nat) (g : Nat) (rr : Nat) (xx : Nat) (k0 : Nat) (k1 : Nat) (k2 : Nat) (k3 : Nat) (fk : Nat → Int32) (i1 : Int32) (i2 : Int32) (ou : Nat)  : pxM l yL_state (Cond.codeWith yL_state cL_state 5 (some .int) [(0, 10, 13, 25)] :: bwA) 7 104 1 6 G k [(z, .inr (14, [.ref h, .ref r, .ref x, .ref g, .ref rr, .ref xx, .int 0])), (h, .inr (10, [.ref k0, .ref k1, .ref k2, .ref k3, .int 0, .int 0])), (k0, .inl (G.2.1, 8, .inl fk)), (ou, .inl (k.2.2.2.2.2.2, 1, .inr (.inl (fun _ => 0))))] [.ref z, .int i1, .int i2, .ref ou] (fun u : Unit => some (.int 1)) (fun u : Unit => ([(ou, .inl (k.2.2.2.2.2.2, 1, .inr (.inl (fun _ => 0))))] : va_W)) := by
  refine pxM.ofH (cc := cL_state) (maxL := 5) (by decide) rfl (Nat.le_of_ble_eq_true rfl) ?_
  intro p e s m args below meth c ⟨hx, hb, hr, hml, hown, hlk, hts, hK⟩ htb A hA hP hD hS hE ls hl
  have hl : lv_has ls 5 [(0, .ref z), (1, .int i1), (2, .int i2), (3, .ref ou)] := hl
  refine lv_aload_n hx hb dL_state_0 rfl (lv_at hl 3 rfl) ?_
  refine lv_iconst (v := 0) hx hb dL_state_1 (by decide) ?_
  refine lv_aload_n hx hb dL_state_2 rfl (lv_at hl 0 rfl) ?_
  refine lv_iload_n hx hb dL_state_3 rfl (lv_at hl 1 rfl) ?_
  refine lv_iload_n hx hb dL_state_4 rfl (lv_at hl 2 rfl) ?_
  refine px_xv (As := [.int i1, .int i2]) (rest := [.int 0, .ref ou]) (wr := [(ou, .inl (k.2.2.2.2.2.2, 1, .inr (.inl (fun _ => 0))))]) (E := "java/lang/IndexOutOfBoundsException") hx hb hml hown hts (kx_x_state l hfl G k z h r x g rr xx k0 k1 k2 k3 fk i1 i2 ) 2 (gAV idA (ai14 (w := Cond.methodLink RL 35 yX9_state) 54 rfl) (ahC (bi12 (w := Cond.instanceMethod yX9_state) 24 rfl)) (ahC (bi12 (w := Cond.selects RX9 yX9_state yX9_state) 25 rfl)) (ahC (bi1 (w := Cond.initialized RX9) 58 rfl)) (ahC (bi10 (w := Cond.code yX9_state cX9_state 3 (some .int)) 49 rfl))) rfl (by decide +kernel) ⟨(Nat.le_of_ble_eq_true rfl), (Nat.le_of_ble_eq_true rfl)⟩ hK hP hD hS hA hE [0, 1, 2] [3] rfl (by decide) rfl (by decide) (by decide) 0 rfl rfl rfl hl rfl (Nat.le_of_ble_eq_true rfl) ⟨(Nat.le_of_ble_eq_true rfl), (Nat.le_of_ble_eq_true rfl)⟩ dL_state_5 (fun ce q9 H locs hP hD hS hce hcv hcl => ?_)
  have hP : va_P G.1 vwCl [(ou, .inl (k.2.2.2.2.2.2, 1, .inr (.inl (fun _ => 0)))), (z, .inr (14, [.ref h, .ref r, .ref x, .ref g, .ref rr, .ref xx, .int 0])), (h, .inr (10, [.ref k0, .ref k1, .ref k2, .ref k3, .int 0, .int 0])), (k0, .inl (G.2.1, 8, .inl fk))] _ := hP
  have hD : va_D A [(ou, .inl (k.2.2.2.2.2.2, 1, .inr (.inl (fun _ => 0)))), (z, .inr (14, [.ref h, .ref r, .ref x, .ref g, .ref rr, .ref xx, .int 0])), (h, .inr (10, [.ref k0, .ref k1, .ref k2, .ref k3, .int 0, .int 0])), (k0, .inl (G.2.1, 8, .inl fk))] := hD
  refine vx_catch (own := RL) (name := "java/lang/IndexOutOfBoundsException") (E := "java/lang/IndexOutOfBoundsException") hown [] ⟨0, 10, 13, 25⟩ (tableOf []) (htb.trans rfl) (fun z hz => absurd hz List.not_mem_nil) (by decide) (by decide) (aw (w := Cond.classLink RL 25 "java/lang/IndexOutOfBoundsException") hts (ai14 (w := Cond.classLink RL 25 "java/lang/IndexOutOfBoundsException") 43 rfl)) (va_Nw.use rfl (hE.1.1 (.castable "java/lang/IndexOutOfBoundsException" "java/lang/IndexOutOfBoundsException") (by simp [pxNl]))) hce hcv hcl ?_
  refine W.widen (k := 1) (n := 6) (Nat.le_of_ble_eq_true rfl) (Nat.le_of_ble_eq_true rfl) ?_
  refine lv_astore (lv' := [(4, .ref q9), (0, .ref z), (1, .int i1), (2, .int i2), (3, .ref ou)]) hx hb dL_state_13 hl (by decide) rfl (fun ls hl => ?_)
  refine lv_iconst (v := 1) hx hb dL_state_15 (by decide) ?_
  refine W.widen (k := 1) (n := 6) (Nat.le_of_ble_eq_true rfl) (Nat.le_of_ble_eq_true rfl) ?_
  exact px_ri () hx hb hr hlk (hP.sub [0] rfl) (hD.sub [0] (by decide) rfl) hS rfl (rfl) dL_state_16

set_option maxHeartbeats 8000000 in
set_option maxRecDepth 100000 in
theorem k_L_holds (l : Launch) (hfl : l.stackTraces = false) (G : sxG) (k : pxC) (z : Nat) (h : Nat) (r : Nat) (x : Nat) (g : Nat) (rr : Nat) (xx : Nat) (k0 : Nat) (k1 : Nat) (k2 : Nat) (k3 : Nat) (fk : Nat → Int32) (i1 : Int32) (i2 : Int32) (ou : Nat)  : pxM l yL_holds (Cond.codeWith yL_holds cL_holds 5 (some .int) [(0, 10, 13, 25)] :: bwA) 7 104 1 6 G k [(z, .inr (14, [.ref h, .ref r, .ref x, .ref g, .ref rr, .ref xx, .int 0])), (h, .inr (10, [.ref k0, .ref k1, .ref k2, .ref k3, .int 0, .int 0])), (k0, .inl (G.2.1, 8, .inl fk)), (ou, .inl (k.2.2.2.2.2.2, 1, .inr (.inl (fun _ => 0))))] [.ref z, .int i1, .int i2, .ref ou] (fun u : Unit => some (.int 1)) (fun u : Unit => ([(ou, .inl (k.2.2.2.2.2.2, 1, .inr (.inl (fun _ => 0))))] : va_W)) := by
  refine pxM.ofH (cc := cL_holds) (maxL := 5) (by decide) rfl (Nat.le_of_ble_eq_true rfl) ?_
  intro p e s m args below meth c ⟨hx, hb, hr, hml, hown, hlk, hts, hK⟩ htb A hA hP hD hS hE ls hl
  have hl : lv_has ls 5 [(0, .ref z), (1, .int i1), (2, .int i2), (3, .ref ou)] := hl
  refine lv_aload_n hx hb dL_holds_0 rfl (lv_at hl 3 rfl) ?_
  refine lv_iconst (v := 0) hx hb dL_holds_1 (by decide) ?_
  refine lv_aload_n hx hb dL_holds_2 rfl (lv_at hl 0 rfl) ?_
  refine lv_iload_n hx hb dL_holds_3 rfl (lv_at hl 1 rfl) ?_
  refine lv_iload_n hx hb dL_holds_4 rfl (lv_at hl 2 rfl) ?_
  refine px_xv (As := [.int i1, .int i2]) (rest := [.int 0, .ref ou]) (wr := [(ou, .inl (k.2.2.2.2.2.2, 1, .inr (.inl (fun _ => 0))))]) (E := "java/lang/IndexOutOfBoundsException") hx hb hml hown hts (kx_x_holds l hfl G k z h r x g rr xx k0 k1 k2 k3 fk i1 i2 ) 2 (gAV idA (ai14 (w := Cond.methodLink RL 38 yX9_holds) 56 rfl) (ahC (bi12 (w := Cond.instanceMethod yX9_holds) 30 rfl)) (ahC (bi12 (w := Cond.selects RX9 yX9_holds yX9_holds) 31 rfl)) (ahC (bi1 (w := Cond.initialized RX9) 58 rfl)) (ahC (bi10 (w := Cond.code yX9_holds cX9_holds 3 (some .int)) 54 rfl))) rfl (by decide +kernel) ⟨(Nat.le_of_ble_eq_true rfl), (Nat.le_of_ble_eq_true rfl)⟩ hK hP hD hS hA hE [0, 1, 2] [3] rfl (by decide) rfl (by decide) (by decide) 0 rfl rfl rfl hl rfl (Nat.le_of_ble_eq_true rfl) ⟨(Nat.le_of_ble_eq_true rfl), (Nat.le_of_ble_eq_true rfl)⟩ dL_holds_5 (fun ce q9 H locs hP hD hS hce hcv hcl => ?_)
  have hP : va_P G.1 vwCl [(ou, .inl (k.2.2.2.2.2.2, 1, .inr (.inl (fun _ => 0)))), (z, .inr (14, [.ref h, .ref r, .ref x, .ref g, .ref rr, .ref xx, .int 0])), (h, .inr (10, [.ref k0, .ref k1, .ref k2, .ref k3, .int 0, .int 0])), (k0, .inl (G.2.1, 8, .inl fk))] _ := hP
  have hD : va_D A [(ou, .inl (k.2.2.2.2.2.2, 1, .inr (.inl (fun _ => 0)))), (z, .inr (14, [.ref h, .ref r, .ref x, .ref g, .ref rr, .ref xx, .int 0])), (h, .inr (10, [.ref k0, .ref k1, .ref k2, .ref k3, .int 0, .int 0])), (k0, .inl (G.2.1, 8, .inl fk))] := hD
  refine vx_catch (own := RL) (name := "java/lang/IndexOutOfBoundsException") (E := "java/lang/IndexOutOfBoundsException") hown [] ⟨0, 10, 13, 25⟩ (tableOf []) (htb.trans rfl) (fun z hz => absurd hz List.not_mem_nil) (by decide) (by decide) (aw (w := Cond.classLink RL 25 "java/lang/IndexOutOfBoundsException") hts (ai14 (w := Cond.classLink RL 25 "java/lang/IndexOutOfBoundsException") 43 rfl)) (va_Nw.use rfl (hE.1.1 (.castable "java/lang/IndexOutOfBoundsException" "java/lang/IndexOutOfBoundsException") (by simp [pxNl]))) hce hcv hcl ?_
  refine W.widen (k := 1) (n := 6) (Nat.le_of_ble_eq_true rfl) (Nat.le_of_ble_eq_true rfl) ?_
  refine lv_astore (lv' := [(4, .ref q9), (0, .ref z), (1, .int i1), (2, .int i2), (3, .ref ou)]) hx hb dL_holds_13 hl (by decide) rfl (fun ls hl => ?_)
  refine lv_iconst (v := 1) hx hb dL_holds_15 (by decide) ?_
  refine W.widen (k := 1) (n := 6) (Nat.le_of_ble_eq_true rfl) (Nat.le_of_ble_eq_true rfl) ?_
  exact px_ri () hx hb hr hlk (hP.sub [0] rfl) (hD.sub [0] (by decide) rfl) hS rfl (rfl) dL_holds_16

set_option maxHeartbeats 8000000 in
set_option maxRecDepth 100000 in
theorem k_L_isWanted (l : Launch) (hfl : l.stackTraces = false) (G : sxG) (k : pxC) (z : Nat) (h : Nat) (r : Nat) (x : Nat) (g : Nat) (rr : Nat) (xx : Nat) (k0 : Nat) (k1 : Nat) (k2 : Nat) (k3 : Nat) (fk : Nat → Int32) (i1 : Int32) (i2 : Int32) (ou : Nat)  : pxM l yL_isWanted (Cond.codeWith yL_isWanted cL_isWanted 5 (some .int) [(0, 17, 20, 25)] :: bwA) 7 104 1 6 G k [(z, .inr (14, [.ref h, .ref r, .ref x, .ref g, .ref rr, .ref xx, .int 0])), (h, .inr (10, [.ref k0, .ref k1, .ref k2, .ref k3, .int 0, .int 0])), (k0, .inl (G.2.1, 8, .inl fk)), (ou, .inl (k.2.2.2.2.2.2, 1, .inr (.inl (fun _ => 0))))] [.ref z, .int i1, .int i2, .ref ou] (fun u : Unit => some (.int 1)) (fun u : Unit => ([(ou, .inl (k.2.2.2.2.2.2, 1, .inr (.inl (fun _ => 0))))] : va_W)) := by
  refine pxM.ofH (cc := cL_isWanted) (maxL := 5) (by decide) rfl (Nat.le_of_ble_eq_true rfl) ?_
  intro p e s m args below meth c ⟨hx, hb, hr, hml, hown, hlk, hts, hK⟩ htb A hA hP hD hS hE ls hl
  have hl : lv_has ls 5 [(0, .ref z), (1, .int i1), (2, .int i2), (3, .ref ou)] := hl
  refine lv_aload_n hx hb dL_isWanted_0 rfl (lv_at hl 3 rfl) ?_
  refine lv_iconst (v := 0) hx hb dL_isWanted_1 (by decide) ?_
  refine lv_aload_n hx hb dL_isWanted_2 rfl (lv_at hl 0 rfl) ?_
  refine lv_iload_n hx hb dL_isWanted_3 rfl (lv_at hl 1 rfl) ?_
  refine lv_iload_n hx hb dL_isWanted_4 rfl (lv_at hl 2 rfl) ?_
  refine px_xv (As := [.int i1, .int i2]) (rest := [.int 0, .ref ou]) (wr := [(ou, .inl (k.2.2.2.2.2.2, 1, .inr (.inl (fun _ => 0))))]) (E := "java/lang/IndexOutOfBoundsException") hx hb hml hown hts (kx_x_isWanted l hfl G k z h r x g rr xx k0 k1 k2 k3 fk i1 i2 ) 2 (gAV idA (ai14 (w := Cond.methodLink RL 41 yX9_isWanted) 58 rfl) (ahC (bi12 (w := Cond.instanceMethod yX9_isWanted) 33 rfl)) (ahC (bi12 (w := Cond.selects RX9 yX9_isWanted yX9_isWanted) 34 rfl)) (ahC (bi1 (w := Cond.initialized RX9) 58 rfl)) (ahC (bi10 (w := Cond.code yX9_isWanted cX9_isWanted 3 (some .boolean)) 56 rfl))) rfl (by decide +kernel) ⟨(Nat.le_of_ble_eq_true rfl), (Nat.le_of_ble_eq_true rfl)⟩ hK hP hD hS hA hE [0, 1, 2] [3] rfl (by decide) rfl (by decide) (by decide) 0 rfl rfl rfl hl rfl (Nat.le_of_ble_eq_true rfl) ⟨(Nat.le_of_ble_eq_true rfl), (Nat.le_of_ble_eq_true rfl)⟩ dL_isWanted_5 (fun ce q9 H locs hP hD hS hce hcv hcl => ?_)
  have hP : va_P G.1 vwCl [(ou, .inl (k.2.2.2.2.2.2, 1, .inr (.inl (fun _ => 0)))), (z, .inr (14, [.ref h, .ref r, .ref x, .ref g, .ref rr, .ref xx, .int 0])), (h, .inr (10, [.ref k0, .ref k1, .ref k2, .ref k3, .int 0, .int 0])), (k0, .inl (G.2.1, 8, .inl fk))] _ := hP
  have hD : va_D A [(ou, .inl (k.2.2.2.2.2.2, 1, .inr (.inl (fun _ => 0)))), (z, .inr (14, [.ref h, .ref r, .ref x, .ref g, .ref rr, .ref xx, .int 0])), (h, .inr (10, [.ref k0, .ref k1, .ref k2, .ref k3, .int 0, .int 0])), (k0, .inl (G.2.1, 8, .inl fk))] := hD
  refine vx_catch (own := RL) (name := "java/lang/IndexOutOfBoundsException") (E := "java/lang/IndexOutOfBoundsException") hown [] ⟨0, 17, 20, 25⟩ (tableOf []) (htb.trans rfl) (fun z hz => absurd hz List.not_mem_nil) (by decide) (by decide) (aw (w := Cond.classLink RL 25 "java/lang/IndexOutOfBoundsException") hts (ai14 (w := Cond.classLink RL 25 "java/lang/IndexOutOfBoundsException") 43 rfl)) (va_Nw.use rfl (hE.1.1 (.castable "java/lang/IndexOutOfBoundsException" "java/lang/IndexOutOfBoundsException") (by simp [pxNl]))) hce hcv hcl ?_
  refine W.widen (k := 1) (n := 6) (Nat.le_of_ble_eq_true rfl) (Nat.le_of_ble_eq_true rfl) ?_
  refine lv_astore (lv' := [(4, .ref q9), (0, .ref z), (1, .int i1), (2, .int i2), (3, .ref ou)]) hx hb dL_isWanted_20 hl (by decide) rfl (fun ls hl => ?_)
  refine lv_iconst (v := 1) hx hb dL_isWanted_22 (by decide) ?_
  refine W.widen (k := 1) (n := 6) (Nat.le_of_ble_eq_true rfl) (Nat.le_of_ble_eq_true rfl) ?_
  exact px_ri () hx hb hr hlk (hP.sub [0] rfl) (hD.sub [0] (by decide) rfl) hS rfl (rfl) dL_isWanted_23

set_option maxHeartbeats 8000000 in
set_option maxRecDepth 100000 in
theorem k_L_inTheWay (l : Launch) (hfl : l.stackTraces = false) (G : sxG) (k : pxC) (z : Nat) (h : Nat) (r : Nat) (x : Nat) (g : Nat) (rr : Nat) (xx : Nat) (k0 : Nat) (k1 : Nat) (k2 : Nat) (k3 : Nat) (fk : Nat → Int32) (i1 : Int32) (i2 : Int32) (ou : Nat)  : pxM l yL_inTheWay (Cond.codeWith yL_inTheWay cL_inTheWay 5 (some .int) [(0, 10, 13, 25)] :: bwA) 7 104 1 6 G k [(z, .inr (14, [.ref h, .ref r, .ref x, .ref g, .ref rr, .ref xx, .int 0])), (h, .inr (10, [.ref k0, .ref k1, .ref k2, .ref k3, .int 0, .int 0])), (k0, .inl (G.2.1, 8, .inl fk)), (ou, .inl (k.2.2.2.2.2.2, 1, .inr (.inl (fun _ => 0))))] [.ref z, .int i1, .int i2, .ref ou] (fun u : Unit => some (.int 1)) (fun u : Unit => ([(ou, .inl (k.2.2.2.2.2.2, 1, .inr (.inl (fun _ => 0))))] : va_W)) := by
  refine pxM.ofH (cc := cL_inTheWay) (maxL := 5) (by decide) rfl (Nat.le_of_ble_eq_true rfl) ?_
  intro p e s m args below meth c ⟨hx, hb, hr, hml, hown, hlk, hts, hK⟩ htb A hA hP hD hS hE ls hl
  have hl : lv_has ls 5 [(0, .ref z), (1, .int i1), (2, .int i2), (3, .ref ou)] := hl
  refine lv_aload_n hx hb dL_inTheWay_0 rfl (lv_at hl 3 rfl) ?_
  refine lv_iconst (v := 0) hx hb dL_inTheWay_1 (by decide) ?_
  refine lv_aload_n hx hb dL_inTheWay_2 rfl (lv_at hl 0 rfl) ?_
  refine lv_iload_n hx hb dL_inTheWay_3 rfl (lv_at hl 1 rfl) ?_
  refine lv_iload_n hx hb dL_inTheWay_4 rfl (lv_at hl 2 rfl) ?_
  refine px_xv (As := [.int i1, .int i2]) (rest := [.int 0, .ref ou]) (wr := [(ou, .inl (k.2.2.2.2.2.2, 1, .inr (.inl (fun _ => 0))))]) (E := "java/lang/IndexOutOfBoundsException") hx hb hml hown hts (kx_x_inTheWay l hfl G k z h r x g rr xx k0 k1 k2 k3 fk i1 i2 ) 2 (gAV idA (ai15 (w := Cond.methodLink RL 45 yX9_inTheWay) 0 rfl) (ahC (bi12 (w := Cond.instanceMethod yX9_inTheWay) 27 rfl)) (ahC (bi12 (w := Cond.selects RX9 yX9_inTheWay yX9_inTheWay) 28 rfl)) (ahC (bi1 (w := Cond.initialized RX9) 58 rfl)) (ahC (bi10 (w := Cond.code yX9_inTheWay cX9_inTheWay 3 (some .int)) 58 rfl))) rfl (by decide +kernel) ⟨(Nat.le_of_ble_eq_true rfl), (Nat.le_of_ble_eq_true rfl)⟩ hK hP hD hS hA hE [0, 1, 2] [3] rfl (by decide) rfl (by decide) (by decide) 0 rfl rfl rfl hl rfl (Nat.le_of_ble_eq_true rfl) ⟨(Nat.le_of_ble_eq_true rfl), (Nat.le_of_ble_eq_true rfl)⟩ dL_inTheWay_5 (fun ce q9 H locs hP hD hS hce hcv hcl => ?_)
  have hP : va_P G.1 vwCl [(ou, .inl (k.2.2.2.2.2.2, 1, .inr (.inl (fun _ => 0)))), (z, .inr (14, [.ref h, .ref r, .ref x, .ref g, .ref rr, .ref xx, .int 0])), (h, .inr (10, [.ref k0, .ref k1, .ref k2, .ref k3, .int 0, .int 0])), (k0, .inl (G.2.1, 8, .inl fk))] _ := hP
  have hD : va_D A [(ou, .inl (k.2.2.2.2.2.2, 1, .inr (.inl (fun _ => 0)))), (z, .inr (14, [.ref h, .ref r, .ref x, .ref g, .ref rr, .ref xx, .int 0])), (h, .inr (10, [.ref k0, .ref k1, .ref k2, .ref k3, .int 0, .int 0])), (k0, .inl (G.2.1, 8, .inl fk))] := hD
  refine vx_catch (own := RL) (name := "java/lang/IndexOutOfBoundsException") (E := "java/lang/IndexOutOfBoundsException") hown [] ⟨0, 10, 13, 25⟩ (tableOf []) (htb.trans rfl) (fun z hz => absurd hz List.not_mem_nil) (by decide) (by decide) (aw (w := Cond.classLink RL 25 "java/lang/IndexOutOfBoundsException") hts (ai14 (w := Cond.classLink RL 25 "java/lang/IndexOutOfBoundsException") 43 rfl)) (va_Nw.use rfl (hE.1.1 (.castable "java/lang/IndexOutOfBoundsException" "java/lang/IndexOutOfBoundsException") (by simp [pxNl]))) hce hcv hcl ?_
  refine W.widen (k := 1) (n := 6) (Nat.le_of_ble_eq_true rfl) (Nat.le_of_ble_eq_true rfl) ?_
  refine lv_astore (lv' := [(4, .ref q9), (0, .ref z), (1, .int i1), (2, .int i2), (3, .ref ou)]) hx hb dL_inTheWay_13 hl (by decide) rfl (fun ls hl => ?_)
  refine lv_iconst (v := 1) hx hb dL_inTheWay_15 (by decide) ?_
  refine W.widen (k := 1) (n := 6) (Nat.le_of_ble_eq_true rfl) (Nat.le_of_ble_eq_true rfl) ?_
  exact px_ri () hx hb hr hlk (hP.sub [0] rfl) (hD.sub [0] (by decide) rfl) hS rfl (rfl) dL_inTheWay_16

set_option maxHeartbeats 8000000 in
set_option maxRecDepth 100000 in
theorem k_L_ofLoan (l : Launch) (hfl : l.stackTraces = false) (G : sxG) (k : pxC) (z : Nat) (h : Nat) (r : Nat) (x : Nat) (g : Nat) (rr : Nat) (xx : Nat) (od : Nat) (ow : Nat) (ol : Nat) (oq : Nat) (r1 : Nat) (r2 : Nat) (r3 : Nat) (r4 : Nat) (r5 : Nat) (r6 : Nat) (r7 : Nat) (flg : Int32) (l1 : Nat) (l2 : Nat) (l3 : Nat) (l4 : Nat) (i1 : Int32) (i2 : Int32) (ou : Nat)  : pxM l yL_ofLoan (Cond.codeWith yL_ofLoan cL_ofLoan 5 (some .int) [(0, 10, 13, 25), (0, 10, 17, 13)] :: bwA) 7 104 1 6 G k [(z, .inr (14, [.ref h, .ref r, .ref x, .ref g, .ref rr, .ref xx, .int 0])), (r, .inr (5, [.ref h, .ref od, .ref ow, .ref ol, .ref oq, .ref r1, .ref r2, .ref r3, .ref r4, .ref r5, .ref r6, .ref r7, .int flg])), (ol, .inr (8, [.ref h, .ref l1, .ref l2, .ref l3, .ref l4, .int 0])), (ou, .inl (k.2.2.2.2.2.2, 1, .inr (.inl (fun _ => 0))))] [.ref z, .int i1, .int i2, .ref ou] (fun u : Unit => some (.int 1)) (fun u : Unit => ([(ou, .inl (k.2.2.2.2.2.2, 1, .inr (.inl (fun _ => 0))))] : va_W)) := by
  refine pxM.ofH (cc := cL_ofLoan) (maxL := 5) (by decide) rfl (Nat.le_of_ble_eq_true rfl) ?_
  intro p e s m args below meth c ⟨hx, hb, hr, hml, hown, hlk, hts, hK⟩ htb A hA hP hD hS hE ls hl
  have hl : lv_has ls 5 [(0, .ref z), (1, .int i1), (2, .int i2), (3, .ref ou)] := hl
  refine lv_aload_n hx hb dL_ofLoan_0 rfl (lv_at hl 3 rfl) ?_
  refine lv_iconst (v := 0) hx hb dL_ofLoan_1 (by decide) ?_
  refine lv_aload_n hx hb dL_ofLoan_2 rfl (lv_at hl 0 rfl) ?_
  refine lv_iload_n hx hb dL_ofLoan_3 rfl (lv_at hl 1 rfl) ?_
  refine lv_iload_n hx hb dL_ofLoan_4 rfl (lv_at hl 2 rfl) ?_
  refine px_xv (As := [.int i1, .int i2]) (rest := [.int 0, .ref ou]) (wr := [(ou, .inl (k.2.2.2.2.2.2, 1, .inr (.inl (fun _ => 0))))]) (E := "java/lang/IndexOutOfBoundsException") hx hb hml hown hts (kx_x_ofLoan l hfl G k z h r x g rr xx od ow ol oq r1 r2 r3 r4 r5 r6 r7 flg l1 l2 l3 l4 i1 i2 ) 2 (gAV idA (ai15 (w := Cond.methodLink RL 48 yX9_ofLoan) 2 rfl) (ahC (bi12 (w := Cond.instanceMethod yX9_ofLoan) 40 rfl)) (ahC (bi12 (w := Cond.selects RX9 yX9_ofLoan yX9_ofLoan) 41 rfl)) (ahC (bi1 (w := Cond.initialized RX9) 58 rfl)) (ahC (bi11 (w := Cond.code yX9_ofLoan cX9_ofLoan 3 (some .int)) 9 rfl))) rfl (by decide +kernel) ⟨(Nat.le_of_ble_eq_true rfl), (Nat.le_of_ble_eq_true rfl)⟩ hK hP hD hS hA hE [0, 1, 2] [3] rfl (by decide) rfl (by decide) (by decide) 0 rfl rfl rfl hl rfl (Nat.le_of_ble_eq_true rfl) ⟨(Nat.le_of_ble_eq_true rfl), (Nat.le_of_ble_eq_true rfl)⟩ dL_ofLoan_5 (fun ce q9 H locs hP hD hS hce hcv hcl => ?_)
  have hP : va_P G.1 vwCl [(ou, .inl (k.2.2.2.2.2.2, 1, .inr (.inl (fun _ => 0)))), (z, .inr (14, [.ref h, .ref r, .ref x, .ref g, .ref rr, .ref xx, .int 0])), (r, .inr (5, [.ref h, .ref od, .ref ow, .ref ol, .ref oq, .ref r1, .ref r2, .ref r3, .ref r4, .ref r5, .ref r6, .ref r7, .int flg])), (ol, .inr (8, [.ref h, .ref l1, .ref l2, .ref l3, .ref l4, .int 0]))] _ := hP
  have hD : va_D A [(ou, .inl (k.2.2.2.2.2.2, 1, .inr (.inl (fun _ => 0)))), (z, .inr (14, [.ref h, .ref r, .ref x, .ref g, .ref rr, .ref xx, .int 0])), (r, .inr (5, [.ref h, .ref od, .ref ow, .ref ol, .ref oq, .ref r1, .ref r2, .ref r3, .ref r4, .ref r5, .ref r6, .ref r7, .int flg])), (ol, .inr (8, [.ref h, .ref l1, .ref l2, .ref l3, .ref l4, .int 0]))] := hD
  refine vx_catch (own := RL) (name := "java/lang/IndexOutOfBoundsException") (E := "java/lang/IndexOutOfBoundsException") hown [] ⟨0, 10, 13, 25⟩ (tableOf [(0, 10, 17, 13)]) (htb.trans rfl) (fun z hz => absurd hz List.not_mem_nil) (by decide) (by decide) (aw (w := Cond.classLink RL 25 "java/lang/IndexOutOfBoundsException") hts (ai14 (w := Cond.classLink RL 25 "java/lang/IndexOutOfBoundsException") 43 rfl)) (va_Nw.use rfl (hE.1.1 (.castable "java/lang/IndexOutOfBoundsException" "java/lang/IndexOutOfBoundsException") (by simp [pxNl]))) hce hcv hcl ?_
  refine W.widen (k := 1) (n := 6) (Nat.le_of_ble_eq_true rfl) (Nat.le_of_ble_eq_true rfl) ?_
  refine lv_astore (lv' := [(4, .ref q9), (0, .ref z), (1, .int i1), (2, .int i2), (3, .ref ou)]) hx hb dL_ofLoan_13 hl (by decide) rfl (fun ls hl => ?_)
  refine lv_iconst (v := 1) hx hb dL_ofLoan_15 (by decide) ?_
  refine W.widen (k := 1) (n := 6) (Nat.le_of_ble_eq_true rfl) (Nat.le_of_ble_eq_true rfl) ?_
  exact px_ri () hx hb hr hlk (hP.sub [0] rfl) (hD.sub [0] (by decide) rfl) hS rfl (rfl) dL_ofLoan_16

set_option maxHeartbeats 8000000 in
set_option maxRecDepth 100000 in
theorem k_L_fault (l : Launch) (hfl : l.stackTraces = false) (G : sxG) (k : pxC) (z : Nat) (h : Nat) (r : Nat) (x : Nat) (g : Nat) (rr : Nat) (xx : Nat) (od : Nat) (ow : Nat) (ol : Nat) (oq : Nat) (r1 : Nat) (r2 : Nat) (r3 : Nat) (r4 : Nat) (r5 : Nat) (r6 : Nat) (r7 : Nat) (flg : Int32) (m0 : Nat) (m1 : Nat) (m2 : Nat) (m3 : Nat) (i1 : Int32) (i2 : Int32) (ou : Nat)  : pxM l yL_fault (Cond.codeWith yL_fault cL_fault 5 (some .int) [(0, 10, 13, 25), (0, 10, 17, 13)] :: bwA) 7 104 1 6 G k [(z, .inr (14, [.ref h, .ref r, .ref x, .ref g, .ref rr, .ref xx, .int 0])), (r, .inr (5, [.ref h, .ref od, .ref ow, .ref ol, .ref oq, .ref r1, .ref r2, .ref r3, .ref r4, .ref r5, .ref r6, .ref r7, .int flg])), (oq, .inr (7, [.ref m0, .ref m1, .ref m2, .ref m3, .int 0])), (ou, .inl (k.2.2.2.2.2.2, 1, .inr (.inl (fun _ => 0))))] [.ref z, .int i1, .int i2, .ref ou] (fun u : Unit => some (.int 1)) (fun u : Unit => ([(ou, .inl (k.2.2.2.2.2.2, 1, .inr (.inl (fun _ => 0))))] : va_W)) := by
  refine pxM.ofH (cc := cL_fault) (maxL := 5) (by decide) rfl (Nat.le_of_ble_eq_true rfl) ?_
  intro p e s m args below meth c ⟨hx, hb, hr, hml, hown, hlk, hts, hK⟩ htb A hA hP hD hS hE ls hl
  have hl : lv_has ls 5 [(0, .ref z), (1, .int i1), (2, .int i2), (3, .ref ou)] := hl
  refine lv_aload_n hx hb dL_fault_0 rfl (lv_at hl 3 rfl) ?_
  refine lv_iconst (v := 0) hx hb dL_fault_1 (by decide) ?_
  refine lv_aload_n hx hb dL_fault_2 rfl (lv_at hl 0 rfl) ?_
  refine lv_iload_n hx hb dL_fault_3 rfl (lv_at hl 1 rfl) ?_
  refine lv_iload_n hx hb dL_fault_4 rfl (lv_at hl 2 rfl) ?_
  refine px_xv (As := [.int i1, .int i2]) (rest := [.int 0, .ref ou]) (wr := [(ou, .inl (k.2.2.2.2.2.2, 1, .inr (.inl (fun _ => 0))))]) (E := "java/lang/IndexOutOfBoundsException") hx hb hml hown hts (kx_x_fault l hfl G k z h r x g rr xx od ow ol oq r1 r2 r3 r4 r5 r6 r7 flg m0 m1 m2 m3 i1 i2 ) 2 (gAV idA (ai15 (w := Cond.methodLink RL 51 yX9_fault) 4 rfl) (ahC (bi12 (w := Cond.instanceMethod yX9_fault) 43 rfl)) (ahC (bi12 (w := Cond.selects RX9 yX9_fault yX9_fault) 44 rfl)) (ahC (bi1 (w := Cond.initialized RX9) 58 rfl)) (ahC (bi11 (w := Cond.code yX9_fault cX9_fault 3 (some .int)) 15 rfl))) rfl (by decide +kernel) ⟨(Nat.le_of_ble_eq_true rfl), (Nat.le_of_ble_eq_true rfl)⟩ hK hP hD hS hA hE [0, 1, 2] [3] rfl (by decide) rfl (by decide) (by decide) 0 rfl rfl rfl hl rfl (Nat.le_of_ble_eq_true rfl) ⟨(Nat.le_of_ble_eq_true rfl), (Nat.le_of_ble_eq_true rfl)⟩ dL_fault_5 (fun ce q9 H locs hP hD hS hce hcv hcl => ?_)
  have hP : va_P G.1 vwCl [(ou, .inl (k.2.2.2.2.2.2, 1, .inr (.inl (fun _ => 0)))), (z, .inr (14, [.ref h, .ref r, .ref x, .ref g, .ref rr, .ref xx, .int 0])), (r, .inr (5, [.ref h, .ref od, .ref ow, .ref ol, .ref oq, .ref r1, .ref r2, .ref r3, .ref r4, .ref r5, .ref r6, .ref r7, .int flg])), (oq, .inr (7, [.ref m0, .ref m1, .ref m2, .ref m3, .int 0]))] _ := hP
  have hD : va_D A [(ou, .inl (k.2.2.2.2.2.2, 1, .inr (.inl (fun _ => 0)))), (z, .inr (14, [.ref h, .ref r, .ref x, .ref g, .ref rr, .ref xx, .int 0])), (r, .inr (5, [.ref h, .ref od, .ref ow, .ref ol, .ref oq, .ref r1, .ref r2, .ref r3, .ref r4, .ref r5, .ref r6, .ref r7, .int flg])), (oq, .inr (7, [.ref m0, .ref m1, .ref m2, .ref m3, .int 0]))] := hD
  refine vx_catch (own := RL) (name := "java/lang/IndexOutOfBoundsException") (E := "java/lang/IndexOutOfBoundsException") hown [] ⟨0, 10, 13, 25⟩ (tableOf [(0, 10, 17, 13)]) (htb.trans rfl) (fun z hz => absurd hz List.not_mem_nil) (by decide) (by decide) (aw (w := Cond.classLink RL 25 "java/lang/IndexOutOfBoundsException") hts (ai14 (w := Cond.classLink RL 25 "java/lang/IndexOutOfBoundsException") 43 rfl)) (va_Nw.use rfl (hE.1.1 (.castable "java/lang/IndexOutOfBoundsException" "java/lang/IndexOutOfBoundsException") (by simp [pxNl]))) hce hcv hcl ?_
  refine W.widen (k := 1) (n := 6) (Nat.le_of_ble_eq_true rfl) (Nat.le_of_ble_eq_true rfl) ?_
  refine lv_astore (lv' := [(4, .ref q9), (0, .ref z), (1, .int i1), (2, .int i2), (3, .ref ou)]) hx hb dL_fault_13 hl (by decide) rfl (fun ls hl => ?_)
  refine lv_iconst (v := 1) hx hb dL_fault_15 (by decide) ?_
  refine W.widen (k := 1) (n := 6) (Nat.le_of_ble_eq_true rfl) (Nat.le_of_ble_eq_true rfl) ?_
  exact px_ri () hx hb hr hlk (hP.sub [0] rfl) (hD.sub [0] (by decide) rfl) hS rfl (rfl) dL_fault_16

set_option maxHeartbeats 8000000 in
set_option maxRecDepth 100000 in
theorem k_L_ofVariable (l : Launch) (hfl : l.stackTraces = false) (G : sxG) (k : pxC) (z : Nat) (h : Nat) (r : Nat) (x : Nat) (g : Nat) (rr : Nat) (xx : Nat) (k0 : Nat) (k1 : Nat) (k2 : Nat) (k3 : Nat) (i1 : Int32) (i2 : Int32) (ou : Nat)  : pxM l yL_ofVariable (Cond.codeWith yL_ofVariable cL_ofVariable 5 (some .int) [(0, 10, 13, 25), (0, 10, 17, 13)] :: bwA) 7 104 1 6 G k [(z, .inr (14, [.ref h, .ref r, .ref x, .ref g, .ref rr, .ref xx, .int 0])), (h, .inr (10, [.ref k0, .ref k1, .ref k2, .ref k3, .int 0, .int 0])), (ou, .inl (k.2.2.2.2.2.2, 1, .inr (.inl (fun _ => 0))))] [.ref z, .int i1, .int i2, .ref ou] (fun u : Unit => some (.int 1)) (fun u : Unit => ([(ou, .inl (k.2.2.2.2.2.2, 1, .inr (.inl (fun _ => 0))))] : va_W)) := by
  refine pxM.ofH (cc := cL_ofVariable) (maxL := 5) (by decide) rfl (Nat.le_of_ble_eq_true rfl) ?_
  intro p e s m args below meth c ⟨hx, hb, hr, hml, hown, hlk, hts, hK⟩ htb A hA hP hD hS hE ls hl
  have hl : lv_has ls 5 [(0, .ref z), (1, .int i1), (2, .int i2), (3, .ref ou)] := hl
  refine lv_aload_n hx hb dL_ofVariable_0 rfl (lv_at hl 3 rfl) ?_
  refine lv_iconst (v := 0) hx hb dL_ofVariable_1 (by decide) ?_
  refine lv_aload_n hx hb dL_ofVariable_2 rfl (lv_at hl 0 rfl) ?_
  refine lv_iload_n hx hb dL_ofVariable_3 rfl (lv_at hl 1 rfl) ?_
  refine lv_iload_n hx hb dL_ofVariable_4 rfl (lv_at hl 2 rfl) ?_
  refine px_xv (As := [.int i1, .int i2]) (rest := [.int 0, .ref ou]) (wr := [(ou, .inl (k.2.2.2.2.2.2, 1, .inr (.inl (fun _ => 0))))]) (E := "java/lang/IndexOutOfBoundsException") hx hb hml hown hts (kx_x_ofVariable l hfl G k z h r x g rr xx k0 k1 k2 k3 i1 i2 ) 2 (gAV idA (ai15 (w := Cond.methodLink RL 54 yX9_ofVariable) 6 rfl) (ahC (bi12 (w := Cond.instanceMethod yX9_ofVariable) 59 rfl)) (ahC (bi13 (w := Cond.selects RX9 yX9_ofVariable yX9_ofVariable) 0 rfl)) (ahC (bi1 (w := Cond.initialized RX9) 58 rfl)) (ahC (bi11 (w := Cond.code yX9_ofVariable cX9_ofVariable 3 (some .int)) 27 rfl))) rfl (by decide +kernel) ⟨(Nat.le_of_ble_eq_true rfl), (Nat.le_of_ble_eq_true rfl)⟩ hK hP hD hS hA hE [0, 1] [2] rfl (by decide) rfl (by decide) (by decide) 0 rfl rfl rfl hl rfl (Nat.le_of_ble_eq_true rfl) ⟨(Nat.le_of_ble_eq_true rfl), (Nat.le_of_ble_eq_true rfl)⟩ dL_ofVariable_5 (fun ce q9 H locs hP hD hS hce hcv hcl => ?_)
  have hP : va_P G.1 vwCl [(ou, .inl (k.2.2.2.2.2.2, 1, .inr (.inl (fun _ => 0)))), (z, .inr (14, [.ref h, .ref r, .ref x, .ref g, .ref rr, .ref xx, .int 0])), (h, .inr (10, [.ref k0, .ref k1, .ref k2, .ref k3, .int 0, .int 0]))] _ := hP
  have hD : va_D A [(ou, .inl (k.2.2.2.2.2.2, 1, .inr (.inl (fun _ => 0)))), (z, .inr (14, [.ref h, .ref r, .ref x, .ref g, .ref rr, .ref xx, .int 0])), (h, .inr (10, [.ref k0, .ref k1, .ref k2, .ref k3, .int 0, .int 0]))] := hD
  refine vx_catch (own := RL) (name := "java/lang/IndexOutOfBoundsException") (E := "java/lang/IndexOutOfBoundsException") hown [] ⟨0, 10, 13, 25⟩ (tableOf [(0, 10, 17, 13)]) (htb.trans rfl) (fun z hz => absurd hz List.not_mem_nil) (by decide) (by decide) (aw (w := Cond.classLink RL 25 "java/lang/IndexOutOfBoundsException") hts (ai14 (w := Cond.classLink RL 25 "java/lang/IndexOutOfBoundsException") 43 rfl)) (va_Nw.use rfl (hE.1.1 (.castable "java/lang/IndexOutOfBoundsException" "java/lang/IndexOutOfBoundsException") (by simp [pxNl]))) hce hcv hcl ?_
  refine W.widen (k := 1) (n := 6) (Nat.le_of_ble_eq_true rfl) (Nat.le_of_ble_eq_true rfl) ?_
  refine lv_astore (lv' := [(4, .ref q9), (0, .ref z), (1, .int i1), (2, .int i2), (3, .ref ou)]) hx hb dL_ofVariable_13 hl (by decide) rfl (fun ls hl => ?_)
  refine lv_iconst (v := 1) hx hb dL_ofVariable_15 (by decide) ?_
  refine W.widen (k := 1) (n := 6) (Nat.le_of_ble_eq_true rfl) (Nat.le_of_ble_eq_true rfl) ?_
  exact px_ri () hx hb hr hlk (hP.sub [0] rfl) (hD.sub [0] (by decide) rfl) hS rfl (rfl) dL_ofVariable_16

set_option maxHeartbeats 8000000 in
set_option maxRecDepth 100000 in
theorem k_L_told (l : Launch) (hfl : l.stackTraces = false) (G : sxG) (k : pxC) (z : Nat) (h : Nat) (r : Nat) (x : Nat) (g : Nat) (rr : Nat) (xx : Nat) (ow : Nat) (os : Nat) (on : Nat) (v1 : Nat) (v2 : Nat) (v3 : Nat) (v4 : Nat) (okd : Int32) (oct : Nat) (hre : Int32) (oco : Int32) (stp : Nat) (bxm : Int32) (bxd : Int32) (pnl : Int32) (iab : Int32) (t0 : Nat) (t1 : Nat) (t2 : Nat) (i1 : Int32) (i2 : Int32) (ou : Nat)  : pxM l yL_told (Cond.codeWith yL_told cL_told 5 (some .int) [(0, 10, 13, 25), (0, 10, 17, 13)] :: bwA) 7 104 1 6 G k [(z, .inr (14, [.ref h, .ref r, .ref x, .ref g, .ref rr, .ref xx, .int 0])), (x, .inr (11, [.ref h, .ref ow, .ref os, .ref on, .ref v1, .ref v2, .ref v3, .ref v4, .int okd, .int (nI oct), .int hre, .int oco, .int (nI stp), .int bxm, .int bxd, .int pnl, .int iab])), (os, .inr (12, [.ref t0, .ref t1, .ref t2, .int 0])), (ou, .inl (k.2.2.2.2.2.2, 1, .inr (.inl (fun _ => 0))))] [.ref z, .int i1, .int i2, .ref ou] (fun u : Unit => some (.int 1)) (fun u : Unit => ([(ou, .inl (k.2.2.2.2.2.2, 1, .inr (.inl (fun _ => 0))))] : va_W)) := by
  refine pxM.ofH (cc := cL_told) (maxL := 5) (by decide) rfl (Nat.le_of_ble_eq_true rfl) ?_
  intro p e s m args below meth c ⟨hx, hb, hr, hml, hown, hlk, hts, hK⟩ htb A hA hP hD hS hE ls hl
  have hl : lv_has ls 5 [(0, .ref z), (1, .int i1), (2, .int i2), (3, .ref ou)] := hl
  refine lv_aload_n hx hb dL_told_0 rfl (lv_at hl 3 rfl) ?_
  refine lv_iconst (v := 0) hx hb dL_told_1 (by decide) ?_
  refine lv_aload_n hx hb dL_told_2 rfl (lv_at hl 0 rfl) ?_
  refine lv_iload_n hx hb dL_told_3 rfl (lv_at hl 1 rfl) ?_
  refine lv_iload_n hx hb dL_told_4 rfl (lv_at hl 2 rfl) ?_
  refine px_xv (As := [.int i1, .int i2]) (rest := [.int 0, .ref ou]) (wr := [(ou, .inl (k.2.2.2.2.2.2, 1, .inr (.inl (fun _ => 0))))]) (E := "java/lang/IndexOutOfBoundsException") hx hb hml hown hts (kx_x_told l hfl G k z h r x g rr xx ow os on v1 v2 v3 v4 okd oct hre oco stp bxm bxd pnl iab t0 t1 t2 i1 i2 ) 2 (gAV idA (ai15 (w := Cond.methodLink RL 63 yX9_told) 14 rfl) (ahC (bi12 (w := Cond.instanceMethod yX9_told) 51 rfl)) (ahC (bi12 (w := Cond.selects RX9 yX9_told yX9_told) 52 rfl)) (ahC (bi1 (w := Cond.initialized RX9) 58 rfl)) (ahC (bi11 (w := Cond.code yX9_told cX9_told 3 (some .int)) 51 rfl))) rfl (by decide +kernel) ⟨(Nat.le_of_ble_eq_true rfl), (Nat.le_of_ble_eq_true rfl)⟩ hK hP hD hS hA hE [0, 1, 2] [3] rfl (by decide) rfl (by decide) (by decide) 0 rfl rfl rfl hl rfl (Nat.le_of_ble_eq_true rfl) ⟨(Nat.le_of_ble_eq_true rfl), (Nat.le_of_ble_eq_true rfl)⟩ dL_told_5 (fun ce q9 H locs hP hD hS hce hcv hcl => ?_)
  have hP : va_P G.1 vwCl [(ou, .inl (k.2.2.2.2.2.2, 1, .inr (.inl (fun _ => 0)))), (z, .inr (14, [.ref h, .ref r, .ref x, .ref g, .ref rr, .ref xx, .int 0])), (x, .inr (11, [.ref h, .ref ow, .ref os, .ref on, .ref v1, .ref v2, .ref v3, .ref v4, .int okd, .int (nI oct), .int hre, .int oco, .int (nI stp), .int bxm, .int bxd, .int pnl, .int iab])), (os, .inr (12, [.ref t0, .ref t1, .ref t2, .int 0]))] _ := hP
  have hD : va_D A [(ou, .inl (k.2.2.2.2.2.2, 1, .inr (.inl (fun _ => 0)))), (z, .inr (14, [.ref h, .ref r, .ref x, .ref g, .ref rr, .ref xx, .int 0])), (x, .inr (11, [.ref h, .ref ow, .ref os, .ref on, .ref v1, .ref v2, .ref v3, .ref v4, .int okd, .int (nI oct), .int hre, .int oco, .int (nI stp), .int bxm, .int bxd, .int pnl, .int iab])), (os, .inr (12, [.ref t0, .ref t1, .ref t2, .int 0]))] := hD
  refine vx_catch (own := RL) (name := "java/lang/IndexOutOfBoundsException") (E := "java/lang/IndexOutOfBoundsException") hown [] ⟨0, 10, 13, 25⟩ (tableOf [(0, 10, 17, 13)]) (htb.trans rfl) (fun z hz => absurd hz List.not_mem_nil) (by decide) (by decide) (aw (w := Cond.classLink RL 25 "java/lang/IndexOutOfBoundsException") hts (ai14 (w := Cond.classLink RL 25 "java/lang/IndexOutOfBoundsException") 43 rfl)) (va_Nw.use rfl (hE.1.1 (.castable "java/lang/IndexOutOfBoundsException" "java/lang/IndexOutOfBoundsException") (by simp [pxNl]))) hce hcv hcl ?_
  refine W.widen (k := 1) (n := 6) (Nat.le_of_ble_eq_true rfl) (Nat.le_of_ble_eq_true rfl) ?_
  refine lv_astore (lv' := [(4, .ref q9), (0, .ref z), (1, .int i1), (2, .int i2), (3, .ref ou)]) hx hb dL_told_13 hl (by decide) rfl (fun ls hl => ?_)
  refine lv_iconst (v := 1) hx hb dL_told_15 (by decide) ?_
  refine W.widen (k := 1) (n := 6) (Nat.le_of_ble_eq_true rfl) (Nat.le_of_ble_eq_true rfl) ?_
  exact px_ri () hx hb hr hlk (hP.sub [0] rfl) (hD.sub [0] (by decide) rfl) hS rfl (rfl) dL_told_16

set_option maxHeartbeats 8000000 in
set_option maxRecDepth 100000 in
theorem k_L_faultsWithout (l : Launch) (hfl : l.stackTraces = false) (G : sxG) (k : pxC) (z : Nat) (h : Nat) (r : Nat) (x : Nat) (g : Nat) (rr : Nat) (xx : Nat) (k0 : Nat) (k1 : Nat) (k2 : Nat) (k3 : Nat) (i1 : Int32) (ou : Nat)  : pxM l yL_faultsWithout (Cond.codeWith yL_faultsWithout cL_faultsWithout 4 (some .int) [(0, 9, 12, 25)] :: bwA) 7 103 1 6 G k [(z, .inr (14, [.ref h, .ref r, .ref x, .ref g, .ref rr, .ref xx, .int 0])), (h, .inr (10, [.ref k0, .ref k1, .ref k2, .ref k3, .int 0, .int 0])), (ou, .inl (k.2.2.2.2.2.2, 1, .inr (.inl (fun _ => 0))))] [.ref z, .int i1, .ref ou] (fun u : Unit => some (.int 1)) (fun u : Unit => ([(ou, .inl (k.2.2.2.2.2.2, 1, .inr (.inl (fun _ => 0))))] : va_W)) := by
  refine pxM.ofH (cc := cL_faultsWithout) (maxL := 4) (by decide) rfl (Nat.le_of_ble_eq_true rfl) ?_
  intro p e s m args below meth c ⟨hx, hb, hr, hml, hown, hlk, hts, hK⟩ htb A hA hP hD hS hE ls hl
  have hl : lv_has ls 4 [(0, .ref z), (1, .int i1), (2, .ref ou)] := hl
  refine lv_aload_n hx hb dL_faultsWithout_0 rfl (lv_at hl 2 rfl) ?_
  refine lv_iconst (v := 0) hx hb dL_faultsWithout_1 (by decide) ?_
  refine lv_aload_n hx hb dL_faultsWithout_2 rfl (lv_at hl 0 rfl) ?_
  refine lv_iload_n hx hb dL_faultsWithout_3 rfl (lv_at hl 1 rfl) ?_
  refine px_xv (As := [.int i1]) (rest := [.int 0, .ref ou]) (wr := [(ou, .inl (k.2.2.2.2.2.2, 1, .inr (.inl (fun _ => 0))))]) (E := "java/lang/IndexOutOfBoundsException") hx hb hml hown hts (kx_x_faultsWithout l hfl G k z h r x g rr xx k0 k1 k2 k3 i1 ) 1 (gAV idA (ai15 (w := Cond.methodLink RL 69 yX9_faultsWithout) 18 rfl) (ahC (bi12 (w := Cond.instanceMethod yX9_faultsWithout) 36 rfl)) (ahC (bi12 (w := Cond.selects RX9 yX9_faultsWithout yX9_faultsWithout) 37 rfl)) (ahC (bi1 (w := Cond.initialized RX9) 58 rfl)) (ahC (bi12 (w := Cond.code yX9_faultsWithout cX9_faultsWithout 2 (some .int)) 9 rfl))) rfl (by decide +kernel) ⟨(Nat.le_of_ble_eq_true rfl), (Nat.le_of_ble_eq_true rfl)⟩ hK hP hD hS hA hE [0, 1] [2] rfl (by decide) rfl (by decide) (by decide) 0 rfl rfl rfl hl rfl (Nat.le_of_ble_eq_true rfl) ⟨(Nat.le_of_ble_eq_true rfl), (Nat.le_of_ble_eq_true rfl)⟩ dL_faultsWithout_4 (fun ce q9 H locs hP hD hS hce hcv hcl => ?_)
  have hP : va_P G.1 vwCl [(ou, .inl (k.2.2.2.2.2.2, 1, .inr (.inl (fun _ => 0)))), (z, .inr (14, [.ref h, .ref r, .ref x, .ref g, .ref rr, .ref xx, .int 0])), (h, .inr (10, [.ref k0, .ref k1, .ref k2, .ref k3, .int 0, .int 0]))] _ := hP
  have hD : va_D A [(ou, .inl (k.2.2.2.2.2.2, 1, .inr (.inl (fun _ => 0)))), (z, .inr (14, [.ref h, .ref r, .ref x, .ref g, .ref rr, .ref xx, .int 0])), (h, .inr (10, [.ref k0, .ref k1, .ref k2, .ref k3, .int 0, .int 0]))] := hD
  refine vx_catch (own := RL) (name := "java/lang/IndexOutOfBoundsException") (E := "java/lang/IndexOutOfBoundsException") hown [] ⟨0, 9, 12, 25⟩ (tableOf []) (htb.trans rfl) (fun z hz => absurd hz List.not_mem_nil) (by decide) (by decide) (aw (w := Cond.classLink RL 25 "java/lang/IndexOutOfBoundsException") hts (ai14 (w := Cond.classLink RL 25 "java/lang/IndexOutOfBoundsException") 43 rfl)) (va_Nw.use rfl (hE.1.1 (.castable "java/lang/IndexOutOfBoundsException" "java/lang/IndexOutOfBoundsException") (by simp [pxNl]))) hce hcv hcl ?_
  refine W.widen (k := 1) (n := 6) (Nat.le_of_ble_eq_true rfl) (Nat.le_of_ble_eq_true rfl) ?_
  refine lv_astore_n (lv' := [(3, .ref q9), (0, .ref z), (1, .int i1), (2, .ref ou)]) hx hb dL_faultsWithout_12 rfl hl (by decide) rfl (fun ls hl => ?_)
  refine lv_iconst (v := 1) hx hb dL_faultsWithout_13 (by decide) ?_
  refine W.widen (k := 1) (n := 6) (Nat.le_of_ble_eq_true rfl) (Nat.le_of_ble_eq_true rfl) ?_
  exact px_ri () hx hb hr hlk (hP.sub [0] rfl) (hD.sub [0] (by decide) rfl) hS rfl (rfl) dL_faultsWithout_14

set_option maxHeartbeats 8000000 in
set_option maxRecDepth 100000 in
theorem k_L_couldDrop (l : Launch) (hfl : l.stackTraces = false) (G : sxG) (k : pxC) (z : Nat) (h : Nat) (r : Nat) (x : Nat) (g : Nat) (rr : Nat) (xx : Nat) (k0 : Nat) (k1 : Nat) (k2 : Nat) (k3 : Nat) (fk : Nat → Int32) (i1 : Int32) (i2 : Int32) (ou : Nat)  : pxM l yL_couldDrop (Cond.codeWith yL_couldDrop cL_couldDrop 5 (some .int) [(0, 10, 13, 25)] :: bwA) 7 104 1 6 G k [(z, .inr (14, [.ref h, .ref r, .ref x, .ref g, .ref rr, .ref xx, .int 0])), (h, .inr (10, [.ref k0, .ref k1, .ref k2, .ref k3, .int 0, .int 0])), (k0, .inl (G.2.1, 8, .inl fk)), (ou, .inl (k.2.2.2.2.2.2, 1, .inr (.inl (fun _ => 0))))] [.ref z, .int i1, .int i2, .ref ou] (fun u : Unit => some (.int 1)) (fun u : Unit => ([(ou, .inl (k.2.2.2.2.2.2, 1, .inr (.inl (fun _ => 0))))] : va_W)) := by
  refine pxM.ofH (cc := cL_couldDrop) (maxL := 5) (by decide) rfl (Nat.le_of_ble_eq_true rfl) ?_
  intro p e s m args below meth c ⟨hx, hb, hr, hml, hown, hlk, hts, hK⟩ htb A hA hP hD hS hE ls hl
  have hl : lv_has ls 5 [(0, .ref z), (1, .int i1), (2, .int i2), (3, .ref ou)] := hl
  refine lv_aload_n hx hb dL_couldDrop_0 rfl (lv_at hl 3 rfl) ?_
  refine lv_iconst (v := 0) hx hb dL_couldDrop_1 (by decide) ?_
  refine lv_aload_n hx hb dL_couldDrop_2 rfl (lv_at hl 0 rfl) ?_
  refine lv_iload_n hx hb dL_couldDrop_3 rfl (lv_at hl 1 rfl) ?_
  refine lv_iload_n hx hb dL_couldDrop_4 rfl (lv_at hl 2 rfl) ?_
  refine px_xv (As := [.int i1, .int i2]) (rest := [.int 0, .ref ou]) (wr := [(ou, .inl (k.2.2.2.2.2.2, 1, .inr (.inl (fun _ => 0))))]) (E := "java/lang/IndexOutOfBoundsException") hx hb hml hown hts (kx_x_couldDrop l hfl G k z h r x g rr xx k0 k1 k2 k3 fk i1 i2 ) 2 (gAV idA (ai15 (w := Cond.methodLink RL 72 yX9_couldDrop) 20 rfl) (ai15 (w := Cond.instanceMethod yX9_couldDrop) 21 rfl) (ai15 (w := Cond.selects RX9 yX9_couldDrop yX9_couldDrop) 22 rfl) (ahC (bi1 (w := Cond.initialized RX9) 58 rfl)) (ahC (bi12 (w := Cond.code yX9_couldDrop cX9_couldDrop 3 (some .int)) 15 rfl))) rfl (by decide +kernel) ⟨(Nat.le_of_ble_eq_true rfl), (Nat.le_of_ble_eq_true rfl)⟩ hK hP hD hS hA hE [0, 1, 2] [3] rfl (by decide) rfl (by decide) (by decide) 0 rfl rfl rfl hl rfl (Nat.le_of_ble_eq_true rfl) ⟨(Nat.le_of_ble_eq_true rfl), (Nat.le_of_ble_eq_true rfl)⟩ dL_couldDrop_5 (fun ce q9 H locs hP hD hS hce hcv hcl => ?_)
  have hP : va_P G.1 vwCl [(ou, .inl (k.2.2.2.2.2.2, 1, .inr (.inl (fun _ => 0)))), (z, .inr (14, [.ref h, .ref r, .ref x, .ref g, .ref rr, .ref xx, .int 0])), (h, .inr (10, [.ref k0, .ref k1, .ref k2, .ref k3, .int 0, .int 0])), (k0, .inl (G.2.1, 8, .inl fk))] _ := hP
  have hD : va_D A [(ou, .inl (k.2.2.2.2.2.2, 1, .inr (.inl (fun _ => 0)))), (z, .inr (14, [.ref h, .ref r, .ref x, .ref g, .ref rr, .ref xx, .int 0])), (h, .inr (10, [.ref k0, .ref k1, .ref k2, .ref k3, .int 0, .int 0])), (k0, .inl (G.2.1, 8, .inl fk))] := hD
  refine vx_catch (own := RL) (name := "java/lang/IndexOutOfBoundsException") (E := "java/lang/IndexOutOfBoundsException") hown [] ⟨0, 10, 13, 25⟩ (tableOf []) (htb.trans rfl) (fun z hz => absurd hz List.not_mem_nil) (by decide) (by decide) (aw (w := Cond.classLink RL 25 "java/lang/IndexOutOfBoundsException") hts (ai14 (w := Cond.classLink RL 25 "java/lang/IndexOutOfBoundsException") 43 rfl)) (va_Nw.use rfl (hE.1.1 (.castable "java/lang/IndexOutOfBoundsException" "java/lang/IndexOutOfBoundsException") (by simp [pxNl]))) hce hcv hcl ?_
  refine W.widen (k := 1) (n := 6) (Nat.le_of_ble_eq_true rfl) (Nat.le_of_ble_eq_true rfl) ?_
  refine lv_astore (lv' := [(4, .ref q9), (0, .ref z), (1, .int i1), (2, .int i2), (3, .ref ou)]) hx hb dL_couldDrop_13 hl (by decide) rfl (fun ls hl => ?_)
  refine lv_iconst (v := 1) hx hb dL_couldDrop_15 (by decide) ?_
  refine W.widen (k := 1) (n := 6) (Nat.le_of_ble_eq_true rfl) (Nat.le_of_ble_eq_true rfl) ?_
  exact px_ri () hx hb hr hlk (hP.sub [0] rfl) (hD.sub [0] (by decide) rfl) hS rfl (rfl) dL_couldDrop_16

set_option maxHeartbeats 8000000 in
set_option maxRecDepth 100000 in
theorem k_L_leakedBy (l : Launch) (hfl : l.stackTraces = false) (G : sxG) (k : pxC) (z : Nat) (h : Nat) (r : Nat) (x : Nat) (g : Nat) (rr : Nat) (xx : Nat) (k0 : Nat) (k1 : Nat) (k2 : Nat) (k3 : Nat) (i1 : Int32) (ou : Nat)  : pxM l yL_leakedBy (Cond.codeWith yL_leakedBy cL_leakedBy 4 (some .int) [(0, 9, 12, 25)] :: bwA) 7 103 1 6 G k [(z, .inr (14, [.ref h, .ref r, .ref x, .ref g, .ref rr, .ref xx, .int 0])), (h, .inr (10, [.ref k0, .ref k1, .ref k2, .ref k3, .int 0, .int 0])), (ou, .inl (k.2.2.2.2.2.2, 1, .inr (.inl (fun _ => 0))))] [.ref z, .int i1, .ref ou] (fun u : Unit => some (.int 1)) (fun u : Unit => ([(ou, .inl (k.2.2.2.2.2.2, 1, .inr (.inl (fun _ => 0))))] : va_W)) := by
  refine pxM.ofH (cc := cL_leakedBy) (maxL := 4) (by decide) rfl (Nat.le_of_ble_eq_true rfl) ?_
  intro p e s m args below meth c ⟨hx, hb, hr, hml, hown, hlk, hts, hK⟩ htb A hA hP hD hS hE ls hl
  have hl : lv_has ls 4 [(0, .ref z), (1, .int i1), (2, .ref ou)] := hl
  refine lv_aload_n hx hb dL_leakedBy_0 rfl (lv_at hl 2 rfl) ?_
  refine lv_iconst (v := 0) hx hb dL_leakedBy_1 (by decide) ?_
  refine lv_aload_n hx hb dL_leakedBy_2 rfl (lv_at hl 0 rfl) ?_
  refine lv_iload_n hx hb dL_leakedBy_3 rfl (lv_at hl 1 rfl) ?_
  refine px_xv (As := [.int i1]) (rest := [.int 0, .ref ou]) (wr := [(ou, .inl (k.2.2.2.2.2.2, 1, .inr (.inl (fun _ => 0))))]) (E := "java/lang/IndexOutOfBoundsException") hx hb hml hown hts (kx_x_leakedBy l hfl G k z h r x g rr xx k0 k1 k2 k3 i1 ) 1 (gAV idA (ai15 (w := Cond.methodLink RL 75 yX9_leakedBy) 24 rfl) (ahC (bi13 (w := Cond.instanceMethod yX9_leakedBy) 11 rfl)) (ahC (bi13 (w := Cond.selects RX9 yX9_leakedBy yX9_leakedBy) 12 rfl)) (ahC (bi1 (w := Cond.initialized RX9) 58 rfl)) (ahC (bi12 (w := Cond.code yX9_leakedBy cX9_leakedBy 2 (some .int)) 16 rfl))) rfl (by decide +kernel) ⟨(Nat.le_of_ble_eq_true rfl), (Nat.le_of_ble_eq_true rfl)⟩ hK hP hD hS hA hE [0, 1] [2] rfl (by decide) rfl (by decide) (by decide) 0 rfl rfl rfl hl rfl (Nat.le_of_ble_eq_true rfl) ⟨(Nat.le_of_ble_eq_true rfl), (Nat.le_of_ble_eq_true rfl)⟩ dL_leakedBy_4 (fun ce q9 H locs hP hD hS hce hcv hcl => ?_)
  have hP : va_P G.1 vwCl [(ou, .inl (k.2.2.2.2.2.2, 1, .inr (.inl (fun _ => 0)))), (z, .inr (14, [.ref h, .ref r, .ref x, .ref g, .ref rr, .ref xx, .int 0])), (h, .inr (10, [.ref k0, .ref k1, .ref k2, .ref k3, .int 0, .int 0]))] _ := hP
  have hD : va_D A [(ou, .inl (k.2.2.2.2.2.2, 1, .inr (.inl (fun _ => 0)))), (z, .inr (14, [.ref h, .ref r, .ref x, .ref g, .ref rr, .ref xx, .int 0])), (h, .inr (10, [.ref k0, .ref k1, .ref k2, .ref k3, .int 0, .int 0]))] := hD
  refine vx_catch (own := RL) (name := "java/lang/IndexOutOfBoundsException") (E := "java/lang/IndexOutOfBoundsException") hown [] ⟨0, 9, 12, 25⟩ (tableOf []) (htb.trans rfl) (fun z hz => absurd hz List.not_mem_nil) (by decide) (by decide) (aw (w := Cond.classLink RL 25 "java/lang/IndexOutOfBoundsException") hts (ai14 (w := Cond.classLink RL 25 "java/lang/IndexOutOfBoundsException") 43 rfl)) (va_Nw.use rfl (hE.1.1 (.castable "java/lang/IndexOutOfBoundsException" "java/lang/IndexOutOfBoundsException") (by simp [pxNl]))) hce hcv hcl ?_
  refine W.widen (k := 1) (n := 6) (Nat.le_of_ble_eq_true rfl) (Nat.le_of_ble_eq_true rfl) ?_
  refine lv_astore_n (lv' := [(3, .ref q9), (0, .ref z), (1, .int i1), (2, .ref ou)]) hx hb dL_leakedBy_12 rfl hl (by decide) rfl (fun ls hl => ?_)
  refine lv_iconst (v := 1) hx hb dL_leakedBy_13 (by decide) ?_
  refine W.widen (k := 1) (n := 6) (Nat.le_of_ble_eq_true rfl) (Nat.le_of_ble_eq_true rfl) ?_
  exact px_ri () hx hb hr hlk (hP.sub [0] rfl) (hD.sub [0] (by decide) rfl) hS rfl (rfl) dL_leakedBy_14

set_option maxHeartbeats 8000000 in
set_option maxRecDepth 100000 in
theorem k_L_outcomeWith (l : Launch) (hfl : l.stackTraces = false) (G : sxG) (k : pxC) (z : Nat) (h : Nat) (r : Nat) (x : Nat) (g : Nat) (rr : Nat) (xx : Nat) (k0 : Nat) (k1 : Nat) (k2 : Nat) (k3 : Nat) (fs : Nat → Int32) (i1 : Int32) (i2 : Int32) (ou : Nat)  : pxM l yL_outcomeWith (Cond.codeWith yL_outcomeWith cL_outcomeWith 5 (some .int) [(0, 10, 13, 25), (0, 10, 17, 13)] :: bwA) 7 105 1 6 G k [(z, .inr (14, [.ref h, .ref r, .ref x, .ref g, .ref rr, .ref xx, .int 0])), (h, .inr (10, [.ref k0, .ref k1, .ref k2, .ref k3, .int 0, .int 0])), (k1, .inl (G.2.1, 34, .inl fs)), (ou, .inl (k.2.2.2.2.2.2, 1, .inr (.inl (fun _ => 0))))] [.ref z, .int i1, .int i2, .ref ou] (fun u : Unit => some (.int 1)) (fun u : Unit => ([(ou, .inl (k.2.2.2.2.2.2, 1, .inr (.inl (fun _ => 0))))] : va_W)) := by
  refine pxM.ofH (cc := cL_outcomeWith) (maxL := 5) (by decide) rfl (Nat.le_of_ble_eq_true rfl) ?_
  intro p e s m args below meth c ⟨hx, hb, hr, hml, hown, hlk, hts, hK⟩ htb A hA hP hD hS hE ls hl
  have hl : lv_has ls 5 [(0, .ref z), (1, .int i1), (2, .int i2), (3, .ref ou)] := hl
  refine lv_aload_n hx hb dL_outcomeWith_0 rfl (lv_at hl 3 rfl) ?_
  refine lv_iconst (v := 0) hx hb dL_outcomeWith_1 (by decide) ?_
  refine lv_aload_n hx hb dL_outcomeWith_2 rfl (lv_at hl 0 rfl) ?_
  refine lv_iload_n hx hb dL_outcomeWith_3 rfl (lv_at hl 1 rfl) ?_
  refine lv_iload_n hx hb dL_outcomeWith_4 rfl (lv_at hl 2 rfl) ?_
  refine px_xv (As := [.int i1, .int i2]) (rest := [.int 0, .ref ou]) (wr := [(ou, .inl (k.2.2.2.2.2.2, 1, .inr (.inl (fun _ => 0))))]) (E := "java/lang/IndexOutOfBoundsException") hx hb hml hown hts (kx_x_outcomeWith l hfl G k z h r x g rr xx k0 k1 k2 k3 fs i1 i2 ) 2 (gAV idA (ai15 (w := Cond.methodLink RL 78 yX9_outcomeWith) 26 rfl) (ai15 (w := Cond.instanceMethod yX9_outcomeWith) 27 rfl) (ai15 (w := Cond.selects RX9 yX9_outcomeWith yX9_outcomeWith) 28 rfl) (ahC (bi1 (w := Cond.initialized RX9) 58 rfl)) (ahC (bi12 (w := Cond.code yX9_outcomeWith cX9_outcomeWith 4 (some .int)) 18 rfl))) rfl (by decide +kernel) ⟨(Nat.le_of_ble_eq_true rfl), (Nat.le_of_ble_eq_true rfl)⟩ hK hP hD hS hA hE [0, 1, 2] [3] rfl (by decide) rfl (by decide) (by decide) 0 rfl rfl rfl hl rfl (Nat.le_of_ble_eq_true rfl) ⟨(Nat.le_of_ble_eq_true rfl), (Nat.le_of_ble_eq_true rfl)⟩ dL_outcomeWith_5 (fun ce q9 H locs hP hD hS hce hcv hcl => ?_)
  have hP : va_P G.1 vwCl [(ou, .inl (k.2.2.2.2.2.2, 1, .inr (.inl (fun _ => 0)))), (z, .inr (14, [.ref h, .ref r, .ref x, .ref g, .ref rr, .ref xx, .int 0])), (h, .inr (10, [.ref k0, .ref k1, .ref k2, .ref k3, .int 0, .int 0])), (k1, .inl (G.2.1, 34, .inl fs))] _ := hP
  have hD : va_D A [(ou, .inl (k.2.2.2.2.2.2, 1, .inr (.inl (fun _ => 0)))), (z, .inr (14, [.ref h, .ref r, .ref x, .ref g, .ref rr, .ref xx, .int 0])), (h, .inr (10, [.ref k0, .ref k1, .ref k2, .ref k3, .int 0, .int 0])), (k1, .inl (G.2.1, 34, .inl fs))] := hD
  refine vx_catch (own := RL) (name := "java/lang/IndexOutOfBoundsException") (E := "java/lang/IndexOutOfBoundsException") hown [] ⟨0, 10, 13, 25⟩ (tableOf [(0, 10, 17, 13)]) (htb.trans rfl) (fun z hz => absurd hz List.not_mem_nil) (by decide) (by decide) (aw (w := Cond.classLink RL 25 "java/lang/IndexOutOfBoundsException") hts (ai14 (w := Cond.classLink RL 25 "java/lang/IndexOutOfBoundsException") 43 rfl)) (va_Nw.use rfl (hE.1.1 (.castable "java/lang/IndexOutOfBoundsException" "java/lang/IndexOutOfBoundsException") (by simp [pxNl]))) hce hcv hcl ?_
  refine W.widen (k := 1) (n := 6) (Nat.le_of_ble_eq_true rfl) (Nat.le_of_ble_eq_true rfl) ?_
  refine lv_astore (lv' := [(4, .ref q9), (0, .ref z), (1, .int i1), (2, .int i2), (3, .ref ou)]) hx hb dL_outcomeWith_13 hl (by decide) rfl (fun ls hl => ?_)
  refine lv_iconst (v := 1) hx hb dL_outcomeWith_15 (by decide) ?_
  refine W.widen (k := 1) (n := 6) (Nat.le_of_ble_eq_true rfl) (Nat.le_of_ble_eq_true rfl) ?_
  exact px_ri () hx hb hr hlk (hP.sub [0] rfl) (hD.sub [0] (by decide) rfl) hS rfl (rfl) dL_outcomeWith_16

set_option maxHeartbeats 8000000 in
set_option maxRecDepth 100000 in
theorem k_L_variableF (l : Launch) (hfl : l.stackTraces = false) (G : sxG) (k : pxC) (z : Nat) (h : Nat) (r : Nat) (x : Nat) (g : Nat) (rr : Nat) (xx : Nat) (i1 : Int32) (ou : Nat) (hF : s_isIn i1 0 5 = 0) : pxM l yL_variable (Cond.codeWith yL_variable cL_variable 4 (some .int) [(0, 9, 12, 13), (0, 9, 15, 15)] :: bwA) 7 104 1 6 G k [(z, .inr (14, [.ref h, .ref r, .ref x, .ref g, .ref rr, .ref xx, .int 0])), (ou, .inl (k.2.2.2.2.2.2, 1, .inr (.inl (fun _ => 0))))] [.ref z, .int i1, .ref ou] (fun u : Unit => some (.int 1)) (fun u : Unit => ([(ou, .inl (k.2.2.2.2.2.2, 1, .inr (.inl (fun _ => 0))))] : va_W)) := by
  refine pxM.ofH (cc := cL_variable) (maxL := 4) (by decide) rfl (Nat.le_of_ble_eq_true rfl) ?_
  intro p e s m args below meth c ⟨hx, hb, hr, hml, hown, hlk, hts, hK⟩ htb A hA hP hD hS hE ls hl
  have hl : lv_has ls 4 [(0, .ref z), (1, .int i1), (2, .ref ou)] := hl
  refine lv_aload_n hx hb dL_variable_0 rfl (lv_at hl 2 rfl) ?_
  refine lv_iconst (v := 0) hx hb dL_variable_1 (by decide) ?_
  refine lv_aload_n hx hb dL_variable_2 rfl (lv_at hl 0 rfl) ?_
  refine lv_iload_n hx hb dL_variable_3 rfl (lv_at hl 1 rfl) ?_
  refine px_xv (As := [.int i1]) (rest := [.int 0, .ref ou]) (wr := [(ou, .inl (k.2.2.2.2.2.2, 1, .inr (.inl (fun _ => 0))))]) (E := "java/lang/IllegalArgumentException") hx hb hml hown hts (kx_x_variable l hfl G k z h r x g rr xx i1 (hF)) 1 (gAV idA (ai14 (w := Cond.methodLink RL 7 yX9_variable) 35 rfl) (ai14 (w := Cond.instanceMethod yX9_variable) 36 rfl) (ai14 (w := Cond.selects RX9 yX9_variable yX9_variable) 37 rfl) (ahC (bi1 (w := Cond.initialized RX9) 58 rfl)) (ahC (bi10 (w := Cond.code yX9_variable cX9_variable 3 (some .int)) 15 rfl))) rfl (by decide +kernel) ⟨(Nat.le_of_ble_eq_true rfl), (Nat.le_of_ble_eq_true rfl)⟩ hK hP hD hS hA hE [0] [1] rfl (by decide) rfl (by decide) (by decide) 0 rfl rfl rfl hl rfl (Nat.le_of_ble_eq_true rfl) ⟨(Nat.le_of_ble_eq_true rfl), (Nat.le_of_ble_eq_true rfl)⟩ dL_variable_4 (fun ce q9 H locs hP hD hS hce hcv hcl => ?_)
  have hP : va_P G.1 vwCl [(ou, .inl (k.2.2.2.2.2.2, 1, .inr (.inl (fun _ => 0)))), (z, .inr (14, [.ref h, .ref r, .ref x, .ref g, .ref rr, .ref xx, .int 0]))] _ := hP
  have hD : va_D A [(ou, .inl (k.2.2.2.2.2.2, 1, .inr (.inl (fun _ => 0)))), (z, .inr (14, [.ref h, .ref r, .ref x, .ref g, .ref rr, .ref xx, .int 0]))] := hD
  refine vx_catch (own := RL) (name := "java/lang/IllegalArgumentException") (E := "java/lang/IllegalArgumentException") hown [] ⟨0, 9, 12, 13⟩ (tableOf [(0, 9, 15, 15)]) (htb.trans rfl) (fun z hz => absurd hz List.not_mem_nil) (by decide) (by decide) (aw (w := Cond.classLink RL 13 "java/lang/IllegalArgumentException") hts (ai14 (w := Cond.classLink RL 13 "java/lang/IllegalArgumentException") 33 rfl)) (va_Nw.use rfl (hE.1.1 (.castable "java/lang/IllegalArgumentException" "java/lang/IllegalArgumentException") (by simp [pxNl]))) hce hcv hcl ?_
  refine W.widen (k := 1) (n := 6) (Nat.le_of_ble_eq_true rfl) (Nat.le_of_ble_eq_true rfl) ?_
  refine lv_astore_n (lv' := [(3, .ref q9), (0, .ref z), (1, .int i1), (2, .ref ou)]) hx hb dL_variable_12 rfl hl (by decide) rfl (fun ls hl => ?_)
  refine lv_iconst (v := 1) hx hb dL_variable_13 (by decide) ?_
  refine W.widen (k := 1) (n := 6) (Nat.le_of_ble_eq_true rfl) (Nat.le_of_ble_eq_true rfl) ?_
  exact px_ri () hx hb hr hlk (hP.sub [0] rfl) (hD.sub [0] (by decide) rfl) hS rfl (rfl) dL_variable_14

set_option maxHeartbeats 8000000 in
set_option maxRecDepth 100000 in
theorem k_L_addF (l : Launch) (hfl : l.stackTraces = false) (G : sxG) (k : pxC) (z : Nat) (h : Nat) (r : Nat) (x : Nat) (g : Nat) (rr : Nat) (xx : Nat) (k0 : Nat) (k1 : Nat) (k2 : Nat) (k3 : Nat) (fk : Nat → Int32) (i1 : Int32) (i2 : Int32) (i3 : Int32) (ou : Nat) (hF : s_X5_fits 0 fk i1 i2 i3 = 0) : pxM l yL_add (Cond.codeWith yL_add cL_add 6 (some .int) [(0, 12, 15, 13), (0, 12, 19, 15)] :: bwA) 7 105 1 6 G k [(z, .inr (14, [.ref h, .ref r, .ref x, .ref g, .ref rr, .ref xx, .int 0])), (h, .inr (10, [.ref k0, .ref k1, .ref k2, .ref k3, .int 0, .int 0])), (k0, .inl (G.2.1, 8, .inl fk)), (ou, .inl (k.2.2.2.2.2.2, 1, .inr (.inl (fun _ => 0))))] [.ref z, .int i1, .int i2, .int i3, .ref ou] (fun u : Unit => some (.int 1)) (fun u : Unit => ([(ou, .inl (k.2.2.2.2.2.2, 1, .inr (.inl (fun _ => 0))))] : va_W)) := by
  refine pxM.ofH (cc := cL_add) (maxL := 6) (by decide) rfl (Nat.le_of_ble_eq_true rfl) ?_
  intro p e s m args below meth c ⟨hx, hb, hr, hml, hown, hlk, hts, hK⟩ htb A hA hP hD hS hE ls hl
  have hl : lv_has ls 6 [(0, .ref z), (1, .int i1), (2, .int i2), (3, .int i3), (4, .ref ou)] := hl
  refine lv_aload hx hb dL_add_0 (lv_at hl 4 rfl) ?_
  refine lv_iconst (v := 0) hx hb dL_add_2 (by decide) ?_
  refine lv_aload_n hx hb dL_add_3 rfl (lv_at hl 0 rfl) ?_
  refine lv_iload_n hx hb dL_add_4 rfl (lv_at hl 1 rfl) ?_
  refine lv_iload_n hx hb dL_add_5 rfl (lv_at hl 2 rfl) ?_
  refine lv_iload_n hx hb dL_add_6 rfl (lv_at hl 3 rfl) ?_
  refine px_xv (As := [.int i1, .int i2, .int i3]) (rest := [.int 0, .ref ou]) (wr := [(ou, .inl (k.2.2.2.2.2.2, 1, .inr (.inl (fun _ => 0))))]) (E := "java/lang/IllegalArgumentException") hx hb hml hown hts (kx_x_add l hfl G k z h r x g rr xx k0 k1 k2 k3 fk i1 i2 i3 (hF)) 3 (gAV idA (ai14 (w := Cond.methodLink RL 17 yX9_add) 39 rfl) (ai14 (w := Cond.instanceMethod yX9_add) 40 rfl) (ai14 (w := Cond.selects RX9 yX9_add yX9_add) 41 rfl) (ahC (bi1 (w := Cond.initialized RX9) 58 rfl)) (ahC (bi10 (w := Cond.code yX9_add cX9_add 4 (some .int)) 27 rfl))) rfl (by decide +kernel) ⟨(Nat.le_of_ble_eq_true rfl), (Nat.le_of_ble_eq_true rfl)⟩ hK hP hD hS hA hE [0, 1, 2] [3] rfl (by decide) rfl (by decide) (by decide) 0 rfl rfl rfl hl rfl (Nat.le_of_ble_eq_true rfl) ⟨(Nat.le_of_ble_eq_true rfl), (Nat.le_of_ble_eq_true rfl)⟩ dL_add_7 (fun ce q9 H locs hP hD hS hce hcv hcl => ?_)
  have hP : va_P G.1 vwCl [(ou, .inl (k.2.2.2.2.2.2, 1, .inr (.inl (fun _ => 0)))), (z, .inr (14, [.ref h, .ref r, .ref x, .ref g, .ref rr, .ref xx, .int 0])), (h, .inr (10, [.ref k0, .ref k1, .ref k2, .ref k3, .int 0, .int 0])), (k0, .inl (G.2.1, 8, .inl fk))] _ := hP
  have hD : va_D A [(ou, .inl (k.2.2.2.2.2.2, 1, .inr (.inl (fun _ => 0)))), (z, .inr (14, [.ref h, .ref r, .ref x, .ref g, .ref rr, .ref xx, .int 0])), (h, .inr (10, [.ref k0, .ref k1, .ref k2, .ref k3, .int 0, .int 0])), (k0, .inl (G.2.1, 8, .inl fk))] := hD
  refine vx_catch (own := RL) (name := "java/lang/IllegalArgumentException") (E := "java/lang/IllegalArgumentException") hown [] ⟨0, 12, 15, 13⟩ (tableOf [(0, 12, 19, 15)]) (htb.trans rfl) (fun z hz => absurd hz List.not_mem_nil) (by decide) (by decide) (aw (w := Cond.classLink RL 13 "java/lang/IllegalArgumentException") hts (ai14 (w := Cond.classLink RL 13 "java/lang/IllegalArgumentException") 33 rfl)) (va_Nw.use rfl (hE.1.1 (.castable "java/lang/IllegalArgumentException" "java/lang/IllegalArgumentException") (by simp [pxNl]))) hce hcv hcl ?_
  refine W.widen (k := 1) (n := 6) (Nat.le_of_ble_eq_true rfl) (Nat.le_of_ble_eq_true rfl) ?_
  refine lv_astore (lv' := [(5, .ref q9), (0, .ref z), (1, .int i1), (2, .int i2), (3, .int i3), (4, .ref ou)]) hx hb dL_add_15 hl (by decide) rfl (fun ls hl => ?_)
  refine lv_iconst (v := 1) hx hb dL_add_17 (by decide) ?_
  refine W.widen (k := 1) (n := 6) (Nat.le_of_ble_eq_true rfl) (Nat.le_of_ble_eq_true rfl) ?_
  exact px_ri () hx hb hr hlk (hP.sub [0] rfl) (hD.sub [0] (by decide) rfl) hS rfl (rfl) dL_add_18

set_option maxHeartbeats 8000000 in
set_option maxRecDepth 100000 in
theorem k_L_ofRunF (l : Launch) (hfl : l.stackTraces = false) (G : sxG) (k : pxC) (z : Nat) (h : Nat) (r : Nat) (x : Nat) (g : Nat) (rr : Nat) (xx : Nat) (i1 : Int32) (ou : Nat) (hF : s_isIn i1 0 9 = 0) : pxM l yL_ofRun (Cond.codeWith yL_ofRun cL_ofRun 4 (some .int) [(0, 9, 12, 13)] :: bwA) 7 103 1 6 G k [(z, .inr (14, [.ref h, .ref r, .ref x, .ref g, .ref rr, .ref xx, .int 0])), (ou, .inl (k.2.2.2.2.2.2, 1, .inr (.inl (fun _ => 0))))] [.ref z, .int i1, .ref ou] (fun u : Unit => some (.int 1)) (fun u : Unit => ([(ou, .inl (k.2.2.2.2.2.2, 1, .inr (.inl (fun _ => 0))))] : va_W)) := by
  refine pxM.ofH (cc := cL_ofRun) (maxL := 4) (by decide) rfl (Nat.le_of_ble_eq_true rfl) ?_
  intro p e s m args below meth c ⟨hx, hb, hr, hml, hown, hlk, hts, hK⟩ htb A hA hP hD hS hE ls hl
  have hl : lv_has ls 4 [(0, .ref z), (1, .int i1), (2, .ref ou)] := hl
  refine lv_aload_n hx hb dL_ofRun_0 rfl (lv_at hl 2 rfl) ?_
  refine lv_iconst (v := 0) hx hb dL_ofRun_1 (by decide) ?_
  refine lv_aload_n hx hb dL_ofRun_2 rfl (lv_at hl 0 rfl) ?_
  refine lv_iload_n hx hb dL_ofRun_3 rfl (lv_at hl 1 rfl) ?_
  refine px_xv (As := [.int i1]) (rest := [.int 0, .ref ou]) (wr := [(ou, .inl (k.2.2.2.2.2.2, 1, .inr (.inl (fun _ => 0))))]) (E := "java/lang/IllegalArgumentException") hx hb hml hown hts (kx_x_ofRun l hfl G k z h r x g rr xx i1 (hF)) 1 (gAV idA (ai15 (w := Cond.methodLink RL 60 yX9_ofRun) 12 rfl) (ahC (bi12 (w := Cond.instanceMethod yX9_ofRun) 47 rfl)) (ahC (bi12 (w := Cond.selects RX9 yX9_ofRun yX9_ofRun) 48 rfl)) (ahC (bi1 (w := Cond.initialized RX9) 58 rfl)) (ahC (bi11 (w := Cond.code yX9_ofRun cX9_ofRun 2 (some .int)) 34 rfl))) rfl (by decide +kernel) ⟨(Nat.le_of_ble_eq_true rfl), (Nat.le_of_ble_eq_true rfl)⟩ hK hP hD hS hA hE [0] [1] rfl (by decide) rfl (by decide) (by decide) 0 rfl rfl rfl hl rfl (Nat.le_of_ble_eq_true rfl) ⟨(Nat.le_of_ble_eq_true rfl), (Nat.le_of_ble_eq_true rfl)⟩ dL_ofRun_4 (fun ce q9 H locs hP hD hS hce hcv hcl => ?_)
  have hP : va_P G.1 vwCl [(ou, .inl (k.2.2.2.2.2.2, 1, .inr (.inl (fun _ => 0)))), (z, .inr (14, [.ref h, .ref r, .ref x, .ref g, .ref rr, .ref xx, .int 0]))] _ := hP
  have hD : va_D A [(ou, .inl (k.2.2.2.2.2.2, 1, .inr (.inl (fun _ => 0)))), (z, .inr (14, [.ref h, .ref r, .ref x, .ref g, .ref rr, .ref xx, .int 0]))] := hD
  refine vx_catch (own := RL) (name := "java/lang/IllegalArgumentException") (E := "java/lang/IllegalArgumentException") hown [] ⟨0, 9, 12, 13⟩ (tableOf []) (htb.trans rfl) (fun z hz => absurd hz List.not_mem_nil) (by decide) (by decide) (aw (w := Cond.classLink RL 13 "java/lang/IllegalArgumentException") hts (ai14 (w := Cond.classLink RL 13 "java/lang/IllegalArgumentException") 33 rfl)) (va_Nw.use rfl (hE.1.1 (.castable "java/lang/IllegalArgumentException" "java/lang/IllegalArgumentException") (by simp [pxNl]))) hce hcv hcl ?_
  refine W.widen (k := 1) (n := 6) (Nat.le_of_ble_eq_true rfl) (Nat.le_of_ble_eq_true rfl) ?_
  refine lv_astore_n (lv' := [(3, .ref q9), (0, .ref z), (1, .int i1), (2, .ref ou)]) hx hb dL_ofRun_12 rfl hl (by decide) rfl (fun ls hl => ?_)
  refine lv_iconst (v := 1) hx hb dL_ofRun_13 (by decide) ?_
  refine W.widen (k := 1) (n := 6) (Nat.le_of_ble_eq_true rfl) (Nat.le_of_ble_eq_true rfl) ?_
  exact px_ri () hx hb hr hlk (hP.sub [0] rfl) (hD.sub [0] (by decide) rfl) hS rfl (rfl) dL_ofRun_14

set_option maxHeartbeats 8000000 in
set_option maxRecDepth 100000 in
theorem k_L_manyF (l : Launch) (hfl : l.stackTraces = false) (G : sxG) (k : pxC) (z : Nat) (h : Nat) (r : Nat) (x : Nat) (g : Nat) (rr : Nat) (xx : Nat) (i1 : Int32) (ou : Nat) (hF : s_isIn i1 0 6 = 0) : pxM l yL_many (Cond.codeWith yL_many cL_many 4 (some .int) [(0, 9, 12, 13)] :: bwA) 7 103 1 6 G k [(z, .inr (14, [.ref h, .ref r, .ref x, .ref g, .ref rr, .ref xx, .int 0])), (ou, .inl (k.2.2.2.2.2.2, 1, .inr (.inl (fun _ => 0))))] [.ref z, .int i1, .ref ou] (fun u : Unit => some (.int 1)) (fun u : Unit => ([(ou, .inl (k.2.2.2.2.2.2, 1, .inr (.inl (fun _ => 0))))] : va_W)) := by
  refine pxM.ofH (cc := cL_many) (maxL := 4) (by decide) rfl (Nat.le_of_ble_eq_true rfl) ?_
  intro p e s m args below meth c ⟨hx, hb, hr, hml, hown, hlk, hts, hK⟩ htb A hA hP hD hS hE ls hl
  have hl : lv_has ls 4 [(0, .ref z), (1, .int i1), (2, .ref ou)] := hl
  refine lv_aload_n hx hb dL_many_0 rfl (lv_at hl 2 rfl) ?_
  refine lv_iconst (v := 0) hx hb dL_many_1 (by decide) ?_
  refine lv_aload_n hx hb dL_many_2 rfl (lv_at hl 0 rfl) ?_
  refine lv_iload_n hx hb dL_many_3 rfl (lv_at hl 1 rfl) ?_
  refine px_xv (As := [.int i1]) (rest := [.int 0, .ref ou]) (wr := [(ou, .inl (k.2.2.2.2.2.2, 1, .inr (.inl (fun _ => 0))))]) (E := "java/lang/IllegalArgumentException") hx hb hml hown hts (kx_x_many l hfl G k z h r x g rr xx i1 (hF)) 1 (gAV idA (ai15 (w := Cond.methodLink RL 66 yX9_many) 16 rfl) (ahC (bi12 (w := Cond.instanceMethod yX9_many) 56 rfl)) (ahC (bi12 (w := Cond.selects RX9 yX9_many yX9_many) 57 rfl)) (ahC (bi1 (w := Cond.initialized RX9) 58 rfl)) (ahC (bi12 (w := Cond.code yX9_many cX9_many 2 (some .int)) 1 rfl))) rfl (by decide +kernel) ⟨(Nat.le_of_ble_eq_true rfl), (Nat.le_of_ble_eq_true rfl)⟩ hK hP hD hS hA hE [0] [1] rfl (by decide) rfl (by decide) (by decide) 0 rfl rfl rfl hl rfl (Nat.le_of_ble_eq_true rfl) ⟨(Nat.le_of_ble_eq_true rfl), (Nat.le_of_ble_eq_true rfl)⟩ dL_many_4 (fun ce q9 H locs hP hD hS hce hcv hcl => ?_)
  have hP : va_P G.1 vwCl [(ou, .inl (k.2.2.2.2.2.2, 1, .inr (.inl (fun _ => 0)))), (z, .inr (14, [.ref h, .ref r, .ref x, .ref g, .ref rr, .ref xx, .int 0]))] _ := hP
  have hD : va_D A [(ou, .inl (k.2.2.2.2.2.2, 1, .inr (.inl (fun _ => 0)))), (z, .inr (14, [.ref h, .ref r, .ref x, .ref g, .ref rr, .ref xx, .int 0]))] := hD
  refine vx_catch (own := RL) (name := "java/lang/IllegalArgumentException") (E := "java/lang/IllegalArgumentException") hown [] ⟨0, 9, 12, 13⟩ (tableOf []) (htb.trans rfl) (fun z hz => absurd hz List.not_mem_nil) (by decide) (by decide) (aw (w := Cond.classLink RL 13 "java/lang/IllegalArgumentException") hts (ai14 (w := Cond.classLink RL 13 "java/lang/IllegalArgumentException") 33 rfl)) (va_Nw.use rfl (hE.1.1 (.castable "java/lang/IllegalArgumentException" "java/lang/IllegalArgumentException") (by simp [pxNl]))) hce hcv hcl ?_
  refine W.widen (k := 1) (n := 6) (Nat.le_of_ble_eq_true rfl) (Nat.le_of_ble_eq_true rfl) ?_
  refine lv_astore_n (lv' := [(3, .ref q9), (0, .ref z), (1, .int i1), (2, .ref ou)]) hx hb dL_many_12 rfl hl (by decide) rfl (fun ls hl => ?_)
  refine lv_iconst (v := 1) hx hb dL_many_13 (by decide) ?_
  refine W.widen (k := 1) (n := 6) (Nat.le_of_ble_eq_true rfl) (Nat.le_of_ble_eq_true rfl) ?_
  exact px_ri () hx hb hr hlk (hP.sub [0] rfl) (hD.sub [0] (by decide) rfl) hS rfl (rfl) dL_many_14
