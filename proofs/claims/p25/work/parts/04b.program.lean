abbrev wdX5_sortAt : List Cond := Cond.code yX5_sortAt cX5_sortAt 2 (some .int) :: bwC
def s_X5_sortAt (pn : Nat) (fs : Nat → Int32) (p1 : Int32) : Int32 := if (s_X5_isLine pn p1) = 0 then (-1) else fs p1.toNatClampNeg
set_option maxHeartbeats 4000000 in
set_option maxRecDepth 100000 in
theorem c_X5_sortAt (l : Launch) (G : sxG) (h : Nat) (k0 : Nat) (k1 : Nat) (k2 : Nat) (k3 : Nat) (pv : Nat) (pn : Nat) (fs : Nat → Int32) (p1 : Int32) (hn : pn ≤ 34) : sxM l yX5_sortAt wdX5_sortAt 1 21 G [(h, .inr (5, [.ref k0, .ref k1, .ref k2, .ref k3, .int (nI pv), .int (nI pn)])), (k1, .inl (G.2.1, 34, .inl fs))] [.ref h, .int p1] (fun r => r = s_X5_sortAt pn fs p1) := by
  refine sxM.of (cc := cX5_sortAt) (maxL := 2) (by decide) rfl (Nat.le_of_ble_eq_true rfl) ?_
  intro p e s m args below meth c ⟨hx, hb, hr, hml, hown, hlk, hts, hK⟩ hP ls hl
  have hl : lv_has ls 2 [(0, .ref h), (1, .int p1)] := hl
  refine lv_aload_n hx hb dX5_sortAt_0 rfl (lv_at hl 0 rfl) ?_
  refine lv_iload_n hx hb dX5_sortAt_1 rfl (lv_at hl 1 rfl) ?_
  refine sx_v (As := [.int p1]) (rest := []) hx hb hml hown hts (c_X5_isLine l G h k0 k1 k2 k3 pv pn p1 ) 1 (sxGV (bi1 (w := Cond.methodLink RX5 49 yX5_isLine) 27 rfl) (bi1 (w := Cond.instanceMethod yX5_isLine) 28 rfl) (bi1 (w := Cond.selects RX5 yX5_isLine yX5_isLine) 29 rfl) (bi1 (w := Cond.initialized RX5) 30 rfl) (bi1 (w := Cond.code yX5_isLine cX5_isLine 2 (some .boolean)) 23 rfl)) rfl (by decide +kernel) ⟨Nat.le_of_ble_eq_true rfl, Nat.le_of_ble_eq_true rfl⟩ hK hP [0] rfl 0 rfl rfl rfl hl rfl (Nat.le_of_ble_eq_true rfl) ⟨Nat.zero_le _, Nat.zero_le _⟩ dX5_sortAt_2 (fun r er => ?_)
  subst er
  refine lv_if_eq (tgt := 17) hx hb dX5_sortAt_5 (by decide) (fun c1 => ?_) (fun c1 => ?_)
  · refine lv_iconst (v := (-1)) hx hb dX5_sortAt_17 (by decide) ?_
    exact sx_ret hx hb hr hlk rfl (by simp only [s_X5_sortAt, if_pos c1]) dX5_sortAt_18
  · refine lv_aload_n hx hb dX5_sortAt_8 rfl (lv_at hl 0 rfl) ?_
    refine va_get (D := G.1) (ci := 5) (v := .ref k1) (C := RX5) (T := TX5) (N := 6) hx hb hts owX5 hown hK.1 hP 0 rfl rfl 1 (by decide) (bw1 (w := Cond.fieldLink RX5 15 "DropflagMill$Program" "sorts" "[I") hts 26 rfl) (fun _ h9 => h9) rfl dX5_sortAt_9 ?_
    refine lv_iload_n hx hb dX5_sortAt_12 rfl (lv_at hl 1 rfl) ?_
    refine va_iald hx hb hK.1 hP 1 0 rfl rfl (i := p1) (sx_in_line hn c1) dX5_sortAt_13 ?_
    refine lv_goto (tgt := 18) hx hb dX5_sortAt_14 (by decide) ?_
    exact sx_ret hx hb hr hlk rfl (by simp only [s_X5_sortAt, if_neg c1]) dX5_sortAt_18

abbrev wdX5_aAt : List Cond := Cond.code yX5_aAt cX5_aAt 2 (some .int) :: bwC
def s_X5_aAt (pn : Nat) (fa : Nat → Int32) (p1 : Int32) : Int32 := if (s_X5_isLine pn p1) = 0 then (-1) else fa p1.toNatClampNeg
set_option maxHeartbeats 4000000 in
set_option maxRecDepth 100000 in
theorem c_X5_aAt (l : Launch) (G : sxG) (h : Nat) (k0 : Nat) (k1 : Nat) (k2 : Nat) (k3 : Nat) (pv : Nat) (pn : Nat) (fa : Nat → Int32) (p1 : Int32) (hn : pn ≤ 34) : sxM l yX5_aAt wdX5_aAt 1 21 G [(h, .inr (5, [.ref k0, .ref k1, .ref k2, .ref k3, .int (nI pv), .int (nI pn)])), (k2, .inl (G.2.1, 34, .inl fa))] [.ref h, .int p1] (fun r => r = s_X5_aAt pn fa p1) := by
  refine sxM.of (cc := cX5_aAt) (maxL := 2) (by decide) rfl (Nat.le_of_ble_eq_true rfl) ?_
  intro p e s m args below meth c ⟨hx, hb, hr, hml, hown, hlk, hts, hK⟩ hP ls hl
  have hl : lv_has ls 2 [(0, .ref h), (1, .int p1)] := hl
  refine lv_aload_n hx hb dX5_aAt_0 rfl (lv_at hl 0 rfl) ?_
  refine lv_iload_n hx hb dX5_aAt_1 rfl (lv_at hl 1 rfl) ?_
  refine sx_v (As := [.int p1]) (rest := []) hx hb hml hown hts (c_X5_isLine l G h k0 k1 k2 k3 pv pn p1 ) 1 (sxGV (bi1 (w := Cond.methodLink RX5 49 yX5_isLine) 27 rfl) (bi1 (w := Cond.instanceMethod yX5_isLine) 28 rfl) (bi1 (w := Cond.selects RX5 yX5_isLine yX5_isLine) 29 rfl) (bi1 (w := Cond.initialized RX5) 30 rfl) (bi1 (w := Cond.code yX5_isLine cX5_isLine 2 (some .boolean)) 23 rfl)) rfl (by decide +kernel) ⟨Nat.le_of_ble_eq_true rfl, Nat.le_of_ble_eq_true rfl⟩ hK hP [0] rfl 0 rfl rfl rfl hl rfl (Nat.le_of_ble_eq_true rfl) ⟨Nat.zero_le _, Nat.zero_le _⟩ dX5_aAt_2 (fun r er => ?_)
  subst er
  refine lv_if_eq (tgt := 17) hx hb dX5_aAt_5 (by decide) (fun c1 => ?_) (fun c1 => ?_)
  · refine lv_iconst (v := (-1)) hx hb dX5_aAt_17 (by decide) ?_
    exact sx_ret hx hb hr hlk rfl (by simp only [s_X5_aAt, if_pos c1]) dX5_aAt_18
  · refine lv_aload_n hx hb dX5_aAt_8 rfl (lv_at hl 0 rfl) ?_
    refine va_get (D := G.1) (ci := 5) (v := .ref k2) (C := RX5) (T := TX5) (N := 6) hx hb hts owX5 hown hK.1 hP 0 rfl rfl 2 (by decide) (bw1 (w := Cond.fieldLink RX5 18 "DropflagMill$Program" "as" "[I") hts 34 rfl) (fun _ h9 => h9) rfl dX5_aAt_9 ?_
    refine lv_iload_n hx hb dX5_aAt_12 rfl (lv_at hl 1 rfl) ?_
    refine va_iald hx hb hK.1 hP 1 0 rfl rfl (i := p1) (sx_in_line hn c1) dX5_aAt_13 ?_
    refine lv_goto (tgt := 18) hx hb dX5_aAt_14 (by decide) ?_
    exact sx_ret hx hb hr hlk rfl (by simp only [s_X5_aAt, if_neg c1]) dX5_aAt_18

abbrev wdX5_bAt : List Cond := Cond.code yX5_bAt cX5_bAt 2 (some .int) :: bwC
def s_X5_bAt (pn : Nat) (fb : Nat → Int32) (p1 : Int32) : Int32 := if (s_X5_isLine pn p1) = 0 then (-1) else fb p1.toNatClampNeg
set_option maxHeartbeats 4000000 in
set_option maxRecDepth 100000 in
theorem c_X5_bAt (l : Launch) (G : sxG) (h : Nat) (k0 : Nat) (k1 : Nat) (k2 : Nat) (k3 : Nat) (pv : Nat) (pn : Nat) (fb : Nat → Int32) (p1 : Int32) (hn : pn ≤ 34) : sxM l yX5_bAt wdX5_bAt 1 21 G [(h, .inr (5, [.ref k0, .ref k1, .ref k2, .ref k3, .int (nI pv), .int (nI pn)])), (k3, .inl (G.2.1, 34, .inl fb))] [.ref h, .int p1] (fun r => r = s_X5_bAt pn fb p1) := by
  refine sxM.of (cc := cX5_bAt) (maxL := 2) (by decide) rfl (Nat.le_of_ble_eq_true rfl) ?_
  intro p e s m args below meth c ⟨hx, hb, hr, hml, hown, hlk, hts, hK⟩ hP ls hl
  have hl : lv_has ls 2 [(0, .ref h), (1, .int p1)] := hl
  refine lv_aload_n hx hb dX5_bAt_0 rfl (lv_at hl 0 rfl) ?_
  refine lv_iload_n hx hb dX5_bAt_1 rfl (lv_at hl 1 rfl) ?_
  refine sx_v (As := [.int p1]) (rest := []) hx hb hml hown hts (c_X5_isLine l G h k0 k1 k2 k3 pv pn p1 ) 1 (sxGV (bi1 (w := Cond.methodLink RX5 49 yX5_isLine) 27 rfl) (bi1 (w := Cond.instanceMethod yX5_isLine) 28 rfl) (bi1 (w := Cond.selects RX5 yX5_isLine yX5_isLine) 29 rfl) (bi1 (w := Cond.initialized RX5) 30 rfl) (bi1 (w := Cond.code yX5_isLine cX5_isLine 2 (some .boolean)) 23 rfl)) rfl (by decide +kernel) ⟨Nat.le_of_ble_eq_true rfl, Nat.le_of_ble_eq_true rfl⟩ hK hP [0] rfl 0 rfl rfl rfl hl rfl (Nat.le_of_ble_eq_true rfl) ⟨Nat.zero_le _, Nat.zero_le _⟩ dX5_bAt_2 (fun r er => ?_)
  subst er
  refine lv_if_eq (tgt := 17) hx hb dX5_bAt_5 (by decide) (fun c1 => ?_) (fun c1 => ?_)
  · refine lv_iconst (v := (-1)) hx hb dX5_bAt_17 (by decide) ?_
    exact sx_ret hx hb hr hlk rfl (by simp only [s_X5_bAt, if_pos c1]) dX5_bAt_18
  · refine lv_aload_n hx hb dX5_bAt_8 rfl (lv_at hl 0 rfl) ?_
    refine va_get (D := G.1) (ci := 5) (v := .ref k3) (C := RX5) (T := TX5) (N := 6) hx hb hts owX5 hown hK.1 hP 0 rfl rfl 3 (by decide) (bw1 (w := Cond.fieldLink RX5 21 "DropflagMill$Program" "bs" "[I") hts 32 rfl) (fun _ h9 => h9) rfl dX5_bAt_9 ?_
    refine lv_iload_n hx hb dX5_bAt_12 rfl (lv_at hl 1 rfl) ?_
    refine va_iald hx hb hK.1 hP 1 0 rfl rfl (i := p1) (sx_in_line hn c1) dX5_bAt_13 ?_
    refine lv_goto (tgt := 18) hx hb dX5_bAt_14 (by decide) ?_
    exact sx_ret hx hb hr hlk rfl (by simp only [s_X5_bAt, if_neg c1]) dX5_bAt_18

abbrev wdX5_isBorrow : List Cond := Cond.code yX5_isBorrow cX5_isBorrow 2 (some .boolean) :: bwC
def s_X5_isBorrow (pv : Nat) (fk : Nat → Int32) (p1 : Int32) : Int32 := if (s_X5_isVariable pv p1) = 0 then 0 else (if (s_X9_isBorrowKind (fk p1.toNatClampNeg)) = 0 then 0 else 1)
set_option maxHeartbeats 4000000 in
set_option maxRecDepth 100000 in
theorem c_X5_isBorrow (l : Launch) (G : sxG) (h : Nat) (k0 : Nat) (k1 : Nat) (k2 : Nat) (k3 : Nat) (pv : Nat) (pn : Nat) (fk : Nat → Int32) (p1 : Int32) (hv : pv ≤ 8) : sxM l yX5_isBorrow wdX5_isBorrow 1 21 G [(h, .inr (5, [.ref k0, .ref k1, .ref k2, .ref k3, .int (nI pv), .int (nI pn)])), (k0, .inl (G.2.1, 8, .inl fk))] [.ref h, .int p1] (fun r => r = s_X5_isBorrow pv fk p1) := by
  refine sxM.of (cc := cX5_isBorrow) (maxL := 2) (by decide) rfl (Nat.le_of_ble_eq_true rfl) ?_
  intro p e s m args below meth c ⟨hx, hb, hr, hml, hown, hlk, hts, hK⟩ hP ls hl
  have hl : lv_has ls 2 [(0, .ref h), (1, .int p1)] := hl
  refine lv_aload_n hx hb dX5_isBorrow_0 rfl (lv_at hl 0 rfl) ?_
  refine lv_iload_n hx hb dX5_isBorrow_1 rfl (lv_at hl 1 rfl) ?_
  refine sx_v (As := [.int p1]) (rest := []) hx hb hml hown hts (c_X5_isVariable l G h k0 k1 k2 k3 pv pn p1 ) 1 (sxGV (bi6 (w := Cond.methodLink RX5 52 yX5_isVariable) 16 rfl) (bi6 (w := Cond.instanceMethod yX5_isVariable) 17 rfl) (bi6 (w := Cond.selects RX5 yX5_isVariable yX5_isVariable) 18 rfl) (bi1 (w := Cond.initialized RX5) 30 rfl) (bi6 (w := Cond.code yX5_isVariable cX5_isVariable 2 (some .boolean)) 14 rfl)) rfl (by decide +kernel) ⟨Nat.le_of_ble_eq_true rfl, Nat.le_of_ble_eq_true rfl⟩ hK hP [0] rfl 0 rfl rfl rfl hl rfl (Nat.le_of_ble_eq_true rfl) ⟨Nat.zero_le _, Nat.zero_le _⟩ dX5_isBorrow_2 (fun r er => ?_)
  subst er
  refine lv_if_eq (tgt := 24) hx hb dX5_isBorrow_5 (by decide) (fun c1 => ?_) (fun c1 => ?_)
  · refine lv_iconst (v := 0) hx hb dX5_isBorrow_24 (by decide) ?_
    exact sx_ret hx hb hr hlk rfl (by simp only [s_X5_isBorrow, if_pos c1]) dX5_isBorrow_25
  · refine lv_aload_n hx hb dX5_isBorrow_8 rfl (lv_at hl 0 rfl) ?_
    refine va_get (D := G.1) (ci := 5) (v := .ref k0) (C := RX5) (T := TX5) (N := 6) hx hb hts owX5 hown hK.1 hP 0 rfl rfl 0 (by decide) (bw1 (w := Cond.fieldLink RX5 9 "DropflagMill$Program" "kinds" "[I") hts 48 rfl) (fun _ h9 => h9) rfl dX5_isBorrow_9 ?_
    refine lv_iload_n hx hb dX5_isBorrow_12 rfl (lv_at hl 1 rfl) ?_
    refine va_iald hx hb hK.1 hP 1 0 rfl rfl (i := p1) (sx_in_var hv c1) dX5_isBorrow_13 ?_
    refine sx_sn (As := [.int (fk p1.toNatClampNeg)]) (rest := []) hx hb hml hown hts (c_X9_isBorrowKind l G (fk p1.toNatClampNeg) ) 1 (sxGC (bi1 (w := Cond.code yX9_isBorrowKind cX9_isBorrowKind 1 (some .boolean)) 54 rfl)) rfl (hK.2.at 8 rfl) (List.mem_cons_of_mem _ (bi1 (w := Cond.initialized RX9) 58 rfl)) (List.mem_cons_of_mem _ (bi1 (w := Cond.static yX9_isBorrowKind) 57 rfl)) (by decide +kernel) ⟨Nat.le_of_ble_eq_true rfl, Nat.le_of_ble_eq_true rfl⟩ hK hP [] rfl rfl hl rfl (Nat.le_of_ble_eq_true rfl) ⟨Nat.zero_le _, Nat.zero_le _⟩ dX5_isBorrow_14 (fun r er => ?_)
    subst er
    refine lv_if_eq (tgt := 24) hx hb dX5_isBorrow_17 (by decide) (fun c2 => ?_) (fun c2 => ?_)
    · refine lv_iconst (v := 0) hx hb dX5_isBorrow_24 (by decide) ?_
      exact sx_ret hx hb hr hlk rfl (by simp only [s_X5_isBorrow, if_neg c1, if_pos c2]) dX5_isBorrow_25
    · refine lv_iconst (v := 1) hx hb dX5_isBorrow_20 (by decide) ?_
      refine lv_goto (tgt := 25) hx hb dX5_isBorrow_21 (by decide) ?_
      exact sx_ret hx hb hr hlk rfl (by simp only [s_X5_isBorrow, if_neg c1, if_neg c2]) dX5_isBorrow_25

abbrev wdX5_kindAt : List Cond := Cond.code yX5_kindAt cX5_kindAt 3 (some .int) :: bwC
def s_X5_kindAt (pv : Nat) (fk : Nat → Int32) (p1 : Int32) : Int32 := if p1 < 0 then (-1) else (if (p1 / 3) < (nI pv) then (if (p1 - p1 / 3 * 3) = 0 then fk (p1 / 3).toNatClampNeg else (if (fk (p1 / 3).toNatClampNeg) = 2 then 1 else (-1))) else (-1))
set_option maxHeartbeats 4000000 in
set_option maxRecDepth 100000 in
theorem c_X5_kindAt (l : Launch) (G : sxG) (h : Nat) (k0 : Nat) (k1 : Nat) (k2 : Nat) (k3 : Nat) (pv : Nat) (pn : Nat) (fk : Nat → Int32) (p1 : Int32) (hv : pv ≤ 8) : sxM l yX5_kindAt wdX5_kindAt 0 0 G [(h, .inr (5, [.ref k0, .ref k1, .ref k2, .ref k3, .int (nI pv), .int (nI pn)])), (k0, .inl (G.2.1, 8, .inl fk))] [.ref h, .int p1] (fun r => r = s_X5_kindAt pv fk p1) := by
  refine sxM.of (cc := cX5_kindAt) (maxL := 3) (by decide) rfl (Nat.le_of_ble_eq_true rfl) ?_
  intro p e s m args below meth c ⟨hx, hb, hr, hml, hown, hlk, hts, hK⟩ hP ls hl
  have hl : lv_has ls 3 [(0, .ref h), (1, .int p1)] := hl
  refine lv_iload_n hx hb dX5_kindAt_0 rfl (lv_at hl 1 rfl) ?_
  refine lv_if_lt (tgt := 14) hx hb dX5_kindAt_1 (by decide) (fun c1 => ?_) (fun c1 => ?_)
  · refine lv_iconst (v := (-1)) hx hb dX5_kindAt_14 (by decide) ?_
    exact sx_ret hx hb hr hlk rfl (by simp only [s_X5_kindAt, if_pos c1]) dX5_kindAt_15
  · refine lv_iload_n hx hb dX5_kindAt_4 rfl (lv_at hl 1 rfl) ?_
    refine lv_iconst (v := 3) hx hb dX5_kindAt_5 (by decide) ?_
    refine lv_idiv hx hb dX5_kindAt_6 (by decide) ?_
    refine lv_aload_n hx hb dX5_kindAt_7 rfl (lv_at hl 0 rfl) ?_
    refine va_get (D := G.1) (ci := 5) (v := .int (nI pv)) (C := RX5) (T := TX5) (N := 6) hx hb hts owX5 hown hK.1 hP 0 rfl rfl 4 (by decide) (bw1 (w := Cond.fieldLink RX5 24 "DropflagMill$Program" "variables" "I") hts 47 rfl) (fun _ h9 => h9) rfl dX5_kindAt_8 ?_
    refine lv_icmp_lt (tgt := 16) hx hb dX5_kindAt_11 (by decide) (fun c2 => ?_) (fun c2 => ?_)
    · refine lv_aload_n hx hb dX5_kindAt_16 rfl (lv_at hl 0 rfl) ?_
      refine va_get (D := G.1) (ci := 5) (v := .ref k0) (C := RX5) (T := TX5) (N := 6) hx hb hts owX5 hown hK.1 hP 0 rfl rfl 0 (by decide) (bw1 (w := Cond.fieldLink RX5 9 "DropflagMill$Program" "kinds" "[I") hts 48 rfl) (fun _ h9 => h9) rfl dX5_kindAt_17 ?_
      refine lv_iload_n hx hb dX5_kindAt_20 rfl (lv_at hl 1 rfl) ?_
      refine lv_iconst (v := 3) hx hb dX5_kindAt_21 (by decide) ?_
      refine lv_idiv hx hb dX5_kindAt_22 (by decide) ?_
      refine va_iald hx hb hK.1 hP 1 0 rfl rfl (i := p1 / 3) (sx_in_kind hv c1 c2) dX5_kindAt_23 ?_
      refine lv_istore_n (lv' := [(2, .int (fk (p1 / 3).toNatClampNeg)), (0, .ref h), (1, .int p1)]) hx hb dX5_kindAt_24 rfl hl (by decide) rfl (fun ls hl => ?_)
      refine lv_iload_n hx hb dX5_kindAt_25 rfl (lv_at hl 2 rfl) ?_
      refine lv_iconst (v := 3) hx hb dX5_kindAt_26 (by decide) ?_
      refine lv_irem hx hb dX5_kindAt_27 (by decide) ?_
      refine lv_if_ne (tgt := 33) hx hb dX5_kindAt_28 (by decide) (fun c3 => ?_) (fun c3 => ?_)
      · refine lv_iload_n hx hb dX5_kindAt_33 rfl (lv_at hl 0 rfl) ?_
        refine lv_iconst (v := 2) hx hb dX5_kindAt_34 (by decide) ?_
        refine lv_icmp_ne (tgt := 42) hx hb dX5_kindAt_35 (by decide) (fun c4 => ?_) (fun c4 => ?_)
        · refine lv_iconst (v := (-1)) hx hb dX5_kindAt_42 (by decide) ?_
          exact sx_ret hx hb hr hlk rfl (by simp only [s_X5_kindAt, if_neg c1, if_pos c2, if_neg c3, if_neg c4]) dX5_kindAt_43
        · refine lv_iconst (v := 1) hx hb dX5_kindAt_38 (by decide) ?_
          refine lv_goto (tgt := 43) hx hb dX5_kindAt_39 (by decide) ?_
          exact sx_ret hx hb hr hlk rfl (by simp only [s_X5_kindAt, if_neg c1, if_pos c2, if_neg c3, if_pos c4]) dX5_kindAt_43
      · refine lv_iload_n hx hb dX5_kindAt_31 rfl (lv_at hl 0 rfl) ?_
        exact sx_ret hx hb hr hlk rfl (by simp only [s_X5_kindAt, if_neg c1, if_pos c2, if_pos c3]) dX5_kindAt_32
    · refine lv_iconst (v := (-1)) hx hb dX5_kindAt_14 (by decide) ?_
      exact sx_ret hx hb hr hlk rfl (by simp only [s_X5_kindAt, if_neg c1, if_neg c2]) dX5_kindAt_15

abbrev wdX5_leavesOf : List Cond := Cond.code yX5_leavesOf cX5_leavesOf 3 (some .int) :: bwC
def s_X5_leavesOf (pv : Nat) (fk : Nat → Int32) (p1 : Int32) : Int32 := if (s_X5_kindAt pv fk p1) = (-1) then 0 else (if (s_X5_kindAt pv fk p1) = 2 then 6 <<< (p1 &&& 31) else 1 <<< (p1 &&& 31))
set_option maxHeartbeats 4000000 in
set_option maxRecDepth 100000 in
theorem c_X5_leavesOf (l : Launch) (G : sxG) (h : Nat) (k0 : Nat) (k1 : Nat) (k2 : Nat) (k3 : Nat) (pv : Nat) (pn : Nat) (fk : Nat → Int32) (p1 : Int32) (hv : pv ≤ 8) : sxM l yX5_leavesOf wdX5_leavesOf 1 22 G [(h, .inr (5, [.ref k0, .ref k1, .ref k2, .ref k3, .int (nI pv), .int (nI pn)])), (k0, .inl (G.2.1, 8, .inl fk))] [.ref h, .int p1] (fun r => r = s_X5_leavesOf pv fk p1) := by
  refine sxM.of (cc := cX5_leavesOf) (maxL := 3) (by decide) rfl (Nat.le_of_ble_eq_true rfl) ?_
  intro p e s m args below meth c ⟨hx, hb, hr, hml, hown, hlk, hts, hK⟩ hP ls hl
  have hl : lv_has ls 3 [(0, .ref h), (1, .int p1)] := hl
  refine lv_aload_n hx hb dX5_leavesOf_0 rfl (lv_at hl 0 rfl) ?_
  refine lv_iload_n hx hb dX5_leavesOf_1 rfl (lv_at hl 1 rfl) ?_
  refine sx_v (As := [.int p1]) (rest := []) hx hb hml hown hts (c_X5_kindAt l G h k0 k1 k2 k3 pv pn fk p1 (by omega)) 1 (sxGV (bi1 (w := Cond.methodLink RX5 58 yX5_kindAt) 50 rfl) (bi1 (w := Cond.instanceMethod yX5_kindAt) 51 rfl) (bi1 (w := Cond.selects RX5 yX5_kindAt yX5_kindAt) 52 rfl) (bi1 (w := Cond.initialized RX5) 30 rfl) (bi1 (w := Cond.code yX5_kindAt cX5_kindAt 3 (some .int)) 46 rfl)) rfl (by decide +kernel) ⟨Nat.le_of_ble_eq_true rfl, Nat.le_of_ble_eq_true rfl⟩ hK hP [0, 1] rfl 0 rfl rfl rfl hl rfl (Nat.le_of_ble_eq_true rfl) ⟨Nat.zero_le _, Nat.zero_le _⟩ dX5_leavesOf_2 (fun r er => ?_)
  subst er
  refine lv_istore_n (lv' := [(2, .int (s_X5_kindAt pv fk p1)), (0, .ref h), (1, .int p1)]) hx hb dX5_leavesOf_5 rfl hl (by decide) rfl (fun ls hl => ?_)
  refine lv_iload_n hx hb dX5_leavesOf_6 rfl (lv_at hl 0 rfl) ?_
  refine lv_iconst (v := (-1)) hx hb dX5_leavesOf_7 (by decide) ?_
  refine lv_icmp_ne (tgt := 13) hx hb dX5_leavesOf_8 (by decide) (fun c1 => ?_) (fun c1 => ?_)
  · refine lv_iload_n hx hb dX5_leavesOf_13 rfl (lv_at hl 0 rfl) ?_
    refine lv_iconst (v := 2) hx hb dX5_leavesOf_14 (by decide) ?_
    refine lv_icmp_ne (tgt := 25) hx hb dX5_leavesOf_15 (by decide) (fun c2 => ?_) (fun c2 => ?_)
    · refine lv_iconst (v := 1) hx hb dX5_leavesOf_25 (by decide) ?_
      refine lv_iload_n hx hb dX5_leavesOf_26 rfl (lv_at hl 2 rfl) ?_
      refine lv_ishl hx hb dX5_leavesOf_27 ?_
      exact sx_ret hx hb hr hlk rfl (by simp only [s_X5_leavesOf, if_neg c1, if_neg c2]) dX5_leavesOf_28
    · refine lv_bipush (v := 6) hx hb dX5_leavesOf_18 (by decide) ?_
      refine lv_iload_n hx hb dX5_leavesOf_20 rfl (lv_at hl 2 rfl) ?_
      refine lv_ishl hx hb dX5_leavesOf_21 ?_
      refine lv_goto (tgt := 28) hx hb dX5_leavesOf_22 (by decide) ?_
      exact sx_ret hx hb hr hlk rfl (by simp only [s_X5_leavesOf, if_neg c1, if_pos c2]) dX5_leavesOf_28
  · refine lv_iconst (v := 0) hx hb dX5_leavesOf_11 (by decide) ?_
    exact sx_ret hx hb hr hlk rfl (by simp only [s_X5_leavesOf, if_pos c1]) dX5_leavesOf_12

abbrev wdX5_fits : List Cond := Cond.code yX5_fits cX5_fits 6 (some .boolean) :: bwC
def s_X5_fits (pv : Nat) (fk : Nat → Int32) (p1 : Int32) (p2 : Int32) (p3 : Int32) : Int32 := if p1 = 0 then (if (s_X5_kindAt pv fk p2) = (-1) then 0 else (if (s_X9_isBorrowKind (s_X5_kindAt pv fk p2)) = 0 then (if (s_X9_isSmall p3) = 0 then 0 else 1) else 0)) else (if p1 = 1 then (if (s_X5_kindAt pv fk p2) = (s_X5_kindAt pv fk p3) then (if (s_X9_isOwned (s_X5_kindAt pv fk p2)) = 0 then (if (s_X5_kindAt pv fk p2) = 4 then 1 else 0) else 1) else 0) else (if p1 = 2 then (if (s_X5_kindAt pv fk p2) = (s_X5_kindAt pv fk p3) then (if (s_X5_kindAt pv fk p2) = 0 then 1 else (if (s_X5_kindAt pv fk p2) = 3 then 1 else (if (s_X5_kindAt pv fk p2) = 5 then 1 else 0))) else 0) else (if p1 = 3 then (if (s_X5_kindAt pv fk p2) = 3 then (if (s_X9_canBeLent (s_X5_kindAt pv fk p3)) = 0 then 0 else 1) else 0) else (if p1 = 4 then (if (s_X5_kindAt pv fk p2) = 4 then (if (s_X9_canBeLent (s_X5_kindAt pv fk p3)) = 0 then 0 else 1) else 0) else (if p1 = 5 then (if (s_X5_kindAt pv fk p2) = (-1) then 0 else (if p3 = 0 then 1 else 0)) else (if p1 = 6 then (if (s_X5_kindAt pv fk p2) = (-1) then 0 else (if (s_X5_kindAt pv fk p2) = 2 then 0 else (if (s_X5_kindAt pv fk p2) = 3 then 0 else (if (s_X9_isSmall p3) = 0 then 0 else 1)))) else (if p1 = 7 then (if (s_X9_isOwned (s_X5_kindAt pv fk p2)) = 0 then 0 else (if p3 = 0 then 1 else 0)) else (if p1 = 8 then (if (s_X5_kindAt pv fk p2) = 0 then (if p3 = 0 then 1 else 0) else 0) else (if p1 = 9 then (if p2 = 0 then (if p3 = 0 then 1 else 0) else 0) else (if p1 = 10 then (if p2 < 1 then 0 else (if 4 < p2 then 0 else (if p3 = 0 then 1 else 0))) else (if p1 = 11 then (if p2 = 0 then (if p3 = 0 then 1 else 0) else 0) else (if p1 = 12 then (if (s_X5_kindAt pv fk p2) = 5 then (if (s_X5_kindAt pv fk p3) = 5 then 1 else 0) else 0) else (if p1 = 13 then (if (s_X5_kindAt pv fk p2) = 5 then (if p3 = 0 then 1 else 0) else 0) else (if p1 = 14 then (if (s_X5_kindAt pv fk p2) = 5 then (if p3 = 0 then 1 else 0) else 0) else (if p1 = 15 then (if p2 = 0 then (if p3 = 0 then 1 else 0) else 0) else (if p1 = 16 then (if (s_X5_kindAt pv fk p2) = 0 then (if (s_X9_isSmall p3) = 0 then 0 else 1) else 0) else 0))))))))))))))))
set_option maxHeartbeats 4000000 in
set_option maxRecDepth 100000 in
theorem c_X5_fits (l : Launch) (G : sxG) (h : Nat) (k0 : Nat) (k1 : Nat) (k2 : Nat) (k3 : Nat) (pv : Nat) (pn : Nat) (fk : Nat → Int32) (p1 : Int32) (p2 : Int32) (p3 : Int32) (hv : pv ≤ 8) : sxM l yX5_fits wdX5_fits 1 22 G [(h, .inr (5, [.ref k0, .ref k1, .ref k2, .ref k3, .int (nI pv), .int (nI pn)])), (k0, .inl (G.2.1, 8, .inl fk))] [.ref h, .int p1, .int p2, .int p3] (fun r => r = s_X5_fits pv fk p1 p2 p3) := by
  refine sxM.of (cc := cX5_fits) (maxL := 6) (by decide) rfl (Nat.le_of_ble_eq_true rfl) ?_
  intro p e s m args below meth c ⟨hx, hb, hr, hml, hown, hlk, hts, hK⟩ hP ls hl
  have hl : lv_has ls 6 [(0, .ref h), (1, .int p1), (2, .int p2), (3, .int p3)] := hl
  refine lv_aload_n hx hb dX5_fits_0 rfl (lv_at hl 0 rfl) ?_
  refine lv_iload_n hx hb dX5_fits_1 rfl (lv_at hl 2 rfl) ?_
  refine sx_v (As := [.int p2]) (rest := []) hx hb hml hown hts (c_X5_kindAt l G h k0 k1 k2 k3 pv pn fk p2 (by omega)) 1 (sxGV (bi1 (w := Cond.methodLink RX5 58 yX5_kindAt) 50 rfl) (bi1 (w := Cond.instanceMethod yX5_kindAt) 51 rfl) (bi1 (w := Cond.selects RX5 yX5_kindAt yX5_kindAt) 52 rfl) (bi1 (w := Cond.initialized RX5) 30 rfl) (bi1 (w := Cond.code yX5_kindAt cX5_kindAt 3 (some .int)) 46 rfl)) rfl (by decide +kernel) ⟨Nat.le_of_ble_eq_true rfl, Nat.le_of_ble_eq_true rfl⟩ hK hP [0, 1] rfl 0 rfl rfl rfl hl rfl (Nat.le_of_ble_eq_true rfl) ⟨Nat.zero_le _, Nat.zero_le _⟩ dX5_fits_2 (fun r er => ?_)
  subst er
  refine lv_istore (lv' := [(4, .int (s_X5_kindAt pv fk p2)), (0, .ref h), (1, .int p1), (2, .int p2), (3, .int p3)]) hx hb dX5_fits_5 hl (by decide) rfl (fun ls hl => ?_)
  refine lv_aload_n hx hb dX5_fits_7 rfl (lv_at hl 1 rfl) ?_
  refine lv_iload_n hx hb dX5_fits_8 rfl (lv_at hl 4 rfl) ?_
  refine sx_v (As := [.int p3]) (rest := []) hx hb hml hown hts (c_X5_kindAt l G h k0 k1 k2 k3 pv pn fk p3 (by omega)) 1 (sxGV (bi1 (w := Cond.methodLink RX5 58 yX5_kindAt) 50 rfl) (bi1 (w := Cond.instanceMethod yX5_kindAt) 51 rfl) (bi1 (w := Cond.selects RX5 yX5_kindAt yX5_kindAt) 52 rfl) (bi1 (w := Cond.initialized RX5) 30 rfl) (bi1 (w := Cond.code yX5_kindAt cX5_kindAt 3 (some .int)) 46 rfl)) rfl (by decide +kernel) ⟨Nat.le_of_ble_eq_true rfl, Nat.le_of_ble_eq_true rfl⟩ hK hP [0, 1] rfl 0 rfl rfl rfl hl rfl (Nat.le_of_ble_eq_true rfl) ⟨Nat.zero_le _, Nat.zero_le _⟩ dX5_fits_9 (fun r er => ?_)
  subst er
  refine lv_istore (lv' := [(5, .int (s_X5_kindAt pv fk p3)), (4, .int (s_X5_kindAt pv fk p2)), (0, .ref h), (1, .int p1), (2, .int p2), (3, .int p3)]) hx hb dX5_fits_12 hl (by decide) rfl (fun ls hl => ?_)
  refine lv_iload_n hx hb dX5_fits_14 rfl (lv_at hl 3 rfl) ?_
  by_cases c1 : p1 = 0
  · refine lv_tableIn (off := 81) (tgt := 96) hx hb dX5_fits_15 (by rw [c1]; decide) (by rw [c1]; decide) (by rw [c1]; rfl) (by decide) ?_
    refine lv_iload hx hb dX5_fits_96 (lv_at hl 1 rfl) ?_
    refine lv_iconst (v := (-1)) hx hb dX5_fits_98 (by decide) ?_
    refine lv_icmp_eq (tgt := 121) hx hb dX5_fits_99 (by decide) (fun c2 => ?_) (fun c2 => ?_)
    · refine lv_iconst (v := 0) hx hb dX5_fits_121 (by decide) ?_
      exact sx_ret hx hb hr hlk rfl (by simp only [s_X5_fits, if_pos c1, if_pos c2]) dX5_fits_122
    · refine lv_iload hx hb dX5_fits_102 (lv_at hl 1 rfl) ?_
      refine sx_sn (As := [.int (s_X5_kindAt pv fk p2)]) (rest := []) hx hb hml hown hts (c_X9_isBorrowKind l G (s_X5_kindAt pv fk p2) ) 1 (sxGC (bi1 (w := Cond.code yX9_isBorrowKind cX9_isBorrowKind 1 (some .boolean)) 54 rfl)) rfl (hK.2.at 8 rfl) (List.mem_cons_of_mem _ (bi1 (w := Cond.initialized RX9) 58 rfl)) (List.mem_cons_of_mem _ (bi1 (w := Cond.static yX9_isBorrowKind) 57 rfl)) (by decide +kernel) ⟨Nat.le_of_ble_eq_true rfl, Nat.le_of_ble_eq_true rfl⟩ hK hP [] rfl rfl hl rfl (Nat.le_of_ble_eq_true rfl) ⟨Nat.zero_le _, Nat.zero_le _⟩ dX5_fits_104 (fun r er => ?_)
      subst er
      refine lv_if_ne (tgt := 121) hx hb dX5_fits_107 (by decide) (fun c3 => ?_) (fun c3 => ?_)
      · refine lv_iconst (v := 0) hx hb dX5_fits_121 (by decide) ?_
        exact sx_ret hx hb hr hlk rfl (by simp only [s_X5_fits, if_pos c1, if_neg c2, if_neg c3]) dX5_fits_122
      · refine lv_iload_n hx hb dX5_fits_110 rfl (lv_at hl 5 rfl) ?_
        refine sx_sn (As := [.int p3]) (rest := []) hx hb hml hown hts (c_X9_isSmall l G p3 ) 1 (sxGC (bi6 (w := Cond.code yX9_isSmall cX9_isSmall 1 (some .boolean)) 19 rfl)) rfl (hK.2.at 15 rfl) (List.mem_cons_of_mem _ (bi1 (w := Cond.initialized RX9) 58 rfl)) (List.mem_cons_of_mem _ (bi6 (w := Cond.static yX9_isSmall) 22 rfl)) (by decide +kernel) ⟨Nat.le_of_ble_eq_true rfl, Nat.le_of_ble_eq_true rfl⟩ hK hP [] rfl rfl hl rfl (Nat.le_of_ble_eq_true rfl) ⟨Nat.zero_le _, Nat.zero_le _⟩ dX5_fits_111 (fun r er => ?_)
        subst er
        refine lv_if_eq (tgt := 121) hx hb dX5_fits_114 (by decide) (fun c4 => ?_) (fun c4 => ?_)
        · refine lv_iconst (v := 0) hx hb dX5_fits_121 (by decide) ?_
          exact sx_ret hx hb hr hlk rfl (by simp only [s_X5_fits, if_pos c1, if_neg c2, if_pos c3, if_pos c4]) dX5_fits_122
        · refine lv_iconst (v := 1) hx hb dX5_fits_117 (by decide) ?_
          refine lv_goto (tgt := 122) hx hb dX5_fits_118 (by decide) ?_
          exact sx_ret hx hb hr hlk rfl (by simp only [s_X5_fits, if_pos c1, if_neg c2, if_pos c3, if_neg c4]) dX5_fits_122
  · by_cases c5 : p1 = 1
    · refine lv_tableIn (off := 108) (tgt := 123) hx hb dX5_fits_15 (by rw [c5]; decide) (by rw [c5]; decide) (by rw [c5]; rfl) (by decide) ?_
      refine lv_iload hx hb dX5_fits_123 (lv_at hl 1 rfl) ?_
      refine lv_iload hx hb dX5_fits_125 (lv_at hl 0 rfl) ?_
      refine lv_icmp_ne (tgt := 148) hx hb dX5_fits_127 (by decide) (fun c6 => ?_) (fun c6 => ?_)
      · refine lv_iconst (v := 0) hx hb dX5_fits_148 (by decide) ?_
        exact sx_ret hx hb hr hlk rfl (by simp only [s_X5_fits, if_neg c1, if_pos c5, if_neg c6]) dX5_fits_149
      · refine lv_iload hx hb dX5_fits_130 (lv_at hl 1 rfl) ?_
        refine sx_sn (As := [.int (s_X5_kindAt pv fk p2)]) (rest := []) hx hb hml hown hts (c_X9_isOwned l G (s_X5_kindAt pv fk p2) ) 1 (sxGC (bi4 (w := Cond.code yX9_isOwned cX9_isOwned 1 (some .boolean)) 24 rfl)) rfl (hK.2.at 7 rfl) (List.mem_cons_of_mem _ (bi1 (w := Cond.initialized RX9) 58 rfl)) (List.mem_cons_of_mem _ (bi4 (w := Cond.static yX9_isOwned) 26 rfl)) (by decide +kernel) ⟨Nat.le_of_ble_eq_true rfl, Nat.le_of_ble_eq_true rfl⟩ hK hP [] rfl rfl hl rfl (Nat.le_of_ble_eq_true rfl) ⟨Nat.zero_le _, Nat.zero_le _⟩ dX5_fits_132 (fun r er => ?_)
        subst er
        refine lv_if_ne (tgt := 144) hx hb dX5_fits_135 (by decide) (fun c7 => ?_) (fun c7 => ?_)
        · refine lv_iconst (v := 1) hx hb dX5_fits_144 (by decide) ?_
          refine lv_goto (tgt := 149) hx hb dX5_fits_145 (by decide) ?_
          exact sx_ret hx hb hr hlk rfl (by simp only [s_X5_fits, if_neg c1, if_pos c5, if_pos c6, if_neg c7]) dX5_fits_149
        · refine lv_iload hx hb dX5_fits_138 (lv_at hl 1 rfl) ?_
          refine lv_iconst (v := 4) hx hb dX5_fits_140 (by decide) ?_
          refine lv_icmp_ne (tgt := 148) hx hb dX5_fits_141 (by decide) (fun c8 => ?_) (fun c8 => ?_)
          · refine lv_iconst (v := 0) hx hb dX5_fits_148 (by decide) ?_
            exact sx_ret hx hb hr hlk rfl (by simp only [s_X5_fits, if_neg c1, if_pos c5, if_pos c6, if_pos c7, if_neg c8]) dX5_fits_149
          · refine lv_iconst (v := 1) hx hb dX5_fits_144 (by decide) ?_
            refine lv_goto (tgt := 149) hx hb dX5_fits_145 (by decide) ?_
            exact sx_ret hx hb hr hlk rfl (by simp only [s_X5_fits, if_neg c1, if_pos c5, if_pos c6, if_pos c7, if_pos c8]) dX5_fits_149
    · by_cases c9 : p1 = 2
      · refine lv_tableIn (off := 135) (tgt := 150) hx hb dX5_fits_15 (by rw [c9]; decide) (by rw [c9]; decide) (by rw [c9]; rfl) (by decide) ?_
        refine lv_iload hx hb dX5_fits_150 (lv_at hl 1 rfl) ?_
        refine lv_iload hx hb dX5_fits_152 (lv_at hl 0 rfl) ?_
        refine lv_icmp_ne (tgt := 178) hx hb dX5_fits_154 (by decide) (fun c10 => ?_) (fun c10 => ?_)
        · refine lv_iconst (v := 0) hx hb dX5_fits_178 (by decide) ?_
          exact sx_ret hx hb hr hlk rfl (by simp only [s_X5_fits, if_neg c1, if_neg c5, if_pos c9, if_neg c10]) dX5_fits_179
        · refine lv_iload hx hb dX5_fits_157 (lv_at hl 1 rfl) ?_
          refine lv_if_eq (tgt := 174) hx hb dX5_fits_159 (by decide) (fun c11 => ?_) (fun c11 => ?_)
          · refine lv_iconst (v := 1) hx hb dX5_fits_174 (by decide) ?_
            refine lv_goto (tgt := 179) hx hb dX5_fits_175 (by decide) ?_
            exact sx_ret hx hb hr hlk rfl (by simp only [s_X5_fits, if_neg c1, if_neg c5, if_pos c9, if_pos c10, if_pos c11]) dX5_fits_179
          · refine lv_iload hx hb dX5_fits_162 (lv_at hl 1 rfl) ?_
            refine lv_iconst (v := 3) hx hb dX5_fits_164 (by decide) ?_
            refine lv_icmp_eq (tgt := 174) hx hb dX5_fits_165 (by decide) (fun c12 => ?_) (fun c12 => ?_)
            · refine lv_iconst (v := 1) hx hb dX5_fits_174 (by decide) ?_
              refine lv_goto (tgt := 179) hx hb dX5_fits_175 (by decide) ?_
              exact sx_ret hx hb hr hlk rfl (by simp only [s_X5_fits, if_neg c1, if_neg c5, if_pos c9, if_pos c10, if_neg c11, if_pos c12]) dX5_fits_179
            · refine lv_iload hx hb dX5_fits_168 (lv_at hl 1 rfl) ?_
              refine lv_iconst (v := 5) hx hb dX5_fits_170 (by decide) ?_
              refine lv_icmp_ne (tgt := 178) hx hb dX5_fits_171 (by decide) (fun c13 => ?_) (fun c13 => ?_)
              · refine lv_iconst (v := 0) hx hb dX5_fits_178 (by decide) ?_
                exact sx_ret hx hb hr hlk rfl (by simp only [s_X5_fits, if_neg c1, if_neg c5, if_pos c9, if_pos c10, if_neg c11, if_neg c12, if_neg c13]) dX5_fits_179
              · refine lv_iconst (v := 1) hx hb dX5_fits_174 (by decide) ?_
                refine lv_goto (tgt := 179) hx hb dX5_fits_175 (by decide) ?_
                exact sx_ret hx hb hr hlk rfl (by simp only [s_X5_fits, if_neg c1, if_neg c5, if_pos c9, if_pos c10, if_neg c11, if_neg c12, if_pos c13]) dX5_fits_179
      · by_cases c14 : p1 = 3
        · refine lv_tableIn (off := 165) (tgt := 180) hx hb dX5_fits_15 (by rw [c14]; decide) (by rw [c14]; decide) (by rw [c14]; rfl) (by decide) ?_
          refine lv_iload hx hb dX5_fits_180 (lv_at hl 1 rfl) ?_
          refine lv_iconst (v := 3) hx hb dX5_fits_182 (by decide) ?_
          refine lv_icmp_ne (tgt := 198) hx hb dX5_fits_183 (by decide) (fun c15 => ?_) (fun c15 => ?_)
          · refine lv_iconst (v := 0) hx hb dX5_fits_198 (by decide) ?_
            exact sx_ret hx hb hr hlk rfl (by simp only [s_X5_fits, if_neg c1, if_neg c5, if_neg c9, if_pos c14, if_neg c15]) dX5_fits_199
          · refine lv_iload hx hb dX5_fits_186 (lv_at hl 0 rfl) ?_
            refine sx_sn (As := [.int (s_X5_kindAt pv fk p3)]) (rest := []) hx hb hml hown hts (c_X9_canBeLent l G (s_X5_kindAt pv fk p3) ) 1 (sxGC (bi6 (w := Cond.code yX9_canBeLent cX9_canBeLent 1 (some .boolean)) 20 rfl)) rfl (hK.2.at 16 rfl) (List.mem_cons_of_mem _ (bi1 (w := Cond.initialized RX9) 58 rfl)) (List.mem_cons_of_mem _ (bi6 (w := Cond.static yX9_canBeLent) 23 rfl)) (by decide +kernel) ⟨Nat.le_of_ble_eq_true rfl, Nat.le_of_ble_eq_true rfl⟩ hK hP [] rfl rfl hl rfl (Nat.le_of_ble_eq_true rfl) ⟨Nat.zero_le _, Nat.zero_le _⟩ dX5_fits_188 (fun r er => ?_)
            subst er
            refine lv_if_eq (tgt := 198) hx hb dX5_fits_191 (by decide) (fun c16 => ?_) (fun c16 => ?_)
            · refine lv_iconst (v := 0) hx hb dX5_fits_198 (by decide) ?_
              exact sx_ret hx hb hr hlk rfl (by simp only [s_X5_fits, if_neg c1, if_neg c5, if_neg c9, if_pos c14, if_pos c15, if_pos c16]) dX5_fits_199
            · refine lv_iconst (v := 1) hx hb dX5_fits_194 (by decide) ?_
              refine lv_goto (tgt := 199) hx hb dX5_fits_195 (by decide) ?_
              exact sx_ret hx hb hr hlk rfl (by simp only [s_X5_fits, if_neg c1, if_neg c5, if_neg c9, if_pos c14, if_pos c15, if_neg c16]) dX5_fits_199
        · by_cases c17 : p1 = 4
          · refine lv_tableIn (off := 185) (tgt := 200) hx hb dX5_fits_15 (by rw [c17]; decide) (by rw [c17]; decide) (by rw [c17]; rfl) (by decide) ?_
            refine lv_iload hx hb dX5_fits_200 (lv_at hl 1 rfl) ?_
            refine lv_iconst (v := 4) hx hb dX5_fits_202 (by decide) ?_
            refine lv_icmp_ne (tgt := 218) hx hb dX5_fits_203 (by decide) (fun c18 => ?_) (fun c18 => ?_)
            · refine lv_iconst (v := 0) hx hb dX5_fits_218 (by decide) ?_
              exact sx_ret hx hb hr hlk rfl (by simp only [s_X5_fits, if_neg c1, if_neg c5, if_neg c9, if_neg c14, if_pos c17, if_neg c18]) dX5_fits_219
            · refine lv_iload hx hb dX5_fits_206 (lv_at hl 0 rfl) ?_
              refine sx_sn (As := [.int (s_X5_kindAt pv fk p3)]) (rest := []) hx hb hml hown hts (c_X9_canBeLent l G (s_X5_kindAt pv fk p3) ) 1 (sxGC (bi6 (w := Cond.code yX9_canBeLent cX9_canBeLent 1 (some .boolean)) 20 rfl)) rfl (hK.2.at 16 rfl) (List.mem_cons_of_mem _ (bi1 (w := Cond.initialized RX9) 58 rfl)) (List.mem_cons_of_mem _ (bi6 (w := Cond.static yX9_canBeLent) 23 rfl)) (by decide +kernel) ⟨Nat.le_of_ble_eq_true rfl, Nat.le_of_ble_eq_true rfl⟩ hK hP [] rfl rfl hl rfl (Nat.le_of_ble_eq_true rfl) ⟨Nat.zero_le _, Nat.zero_le _⟩ dX5_fits_208 (fun r er => ?_)
              subst er
              refine lv_if_eq (tgt := 218) hx hb dX5_fits_211 (by decide) (fun c19 => ?_) (fun c19 => ?_)
              · refine lv_iconst (v := 0) hx hb dX5_fits_218 (by decide) ?_
                exact sx_ret hx hb hr hlk rfl (by simp only [s_X5_fits, if_neg c1, if_neg c5, if_neg c9, if_neg c14, if_pos c17, if_pos c18, if_pos c19]) dX5_fits_219
              · refine lv_iconst (v := 1) hx hb dX5_fits_214 (by decide) ?_
                refine lv_goto (tgt := 219) hx hb dX5_fits_215 (by decide) ?_
                exact sx_ret hx hb hr hlk rfl (by simp only [s_X5_fits, if_neg c1, if_neg c5, if_neg c9, if_neg c14, if_pos c17, if_pos c18, if_neg c19]) dX5_fits_219
          · by_cases c20 : p1 = 5
            · refine lv_tableIn (off := 205) (tgt := 220) hx hb dX5_fits_15 (by rw [c20]; decide) (by rw [c20]; decide) (by rw [c20]; rfl) (by decide) ?_
              refine lv_iload hx hb dX5_fits_220 (lv_at hl 1 rfl) ?_
              refine lv_iconst (v := (-1)) hx hb dX5_fits_222 (by decide) ?_
              refine lv_icmp_eq (tgt := 234) hx hb dX5_fits_223 (by decide) (fun c21 => ?_) (fun c21 => ?_)
              · refine lv_iconst (v := 0) hx hb dX5_fits_234 (by decide) ?_
                exact sx_ret hx hb hr hlk rfl (by simp only [s_X5_fits, if_neg c1, if_neg c5, if_neg c9, if_neg c14, if_neg c17, if_pos c20, if_pos c21]) dX5_fits_235
              · refine lv_iload_n hx hb dX5_fits_226 rfl (lv_at hl 5 rfl) ?_
                refine lv_if_ne (tgt := 234) hx hb dX5_fits_227 (by decide) (fun c22 => ?_) (fun c22 => ?_)
                · refine lv_iconst (v := 0) hx hb dX5_fits_234 (by decide) ?_
                  exact sx_ret hx hb hr hlk rfl (by simp only [s_X5_fits, if_neg c1, if_neg c5, if_neg c9, if_neg c14, if_neg c17, if_pos c20, if_neg c21, if_neg c22]) dX5_fits_235
                · refine lv_iconst (v := 1) hx hb dX5_fits_230 (by decide) ?_
                  refine lv_goto (tgt := 235) hx hb dX5_fits_231 (by decide) ?_
                  exact sx_ret hx hb hr hlk rfl (by simp only [s_X5_fits, if_neg c1, if_neg c5, if_neg c9, if_neg c14, if_neg c17, if_pos c20, if_neg c21, if_pos c22]) dX5_fits_235
            · by_cases c23 : p1 = 6
              · refine lv_tableIn (off := 221) (tgt := 236) hx hb dX5_fits_15 (by rw [c23]; decide) (by rw [c23]; decide) (by rw [c23]; rfl) (by decide) ?_
                refine lv_iload hx hb dX5_fits_236 (lv_at hl 1 rfl) ?_
                refine lv_iconst (v := (-1)) hx hb dX5_fits_238 (by decide) ?_
                refine lv_icmp_eq (tgt := 265) hx hb dX5_fits_239 (by decide) (fun c24 => ?_) (fun c24 => ?_)
                · refine lv_iconst (v := 0) hx hb dX5_fits_265 (by decide) ?_
                  exact sx_ret hx hb hr hlk rfl (by simp only [s_X5_fits, if_neg c1, if_neg c5, if_neg c9, if_neg c14, if_neg c17, if_neg c20, if_pos c23, if_pos c24]) dX5_fits_266
                · refine lv_iload hx hb dX5_fits_242 (lv_at hl 1 rfl) ?_
                  refine lv_iconst (v := 2) hx hb dX5_fits_244 (by decide) ?_
                  refine lv_icmp_eq (tgt := 265) hx hb dX5_fits_245 (by decide) (fun c25 => ?_) (fun c25 => ?_)
                  · refine lv_iconst (v := 0) hx hb dX5_fits_265 (by decide) ?_
                    exact sx_ret hx hb hr hlk rfl (by simp only [s_X5_fits, if_neg c1, if_neg c5, if_neg c9, if_neg c14, if_neg c17, if_neg c20, if_pos c23, if_neg c24, if_pos c25]) dX5_fits_266
                  · refine lv_iload hx hb dX5_fits_248 (lv_at hl 1 rfl) ?_
                    refine lv_iconst (v := 3) hx hb dX5_fits_250 (by decide) ?_
                    refine lv_icmp_eq (tgt := 265) hx hb dX5_fits_251 (by decide) (fun c26 => ?_) (fun c26 => ?_)
                    · refine lv_iconst (v := 0) hx hb dX5_fits_265 (by decide) ?_
                      exact sx_ret hx hb hr hlk rfl ((((if_neg c1).trans ((if_neg c5).trans ((if_neg c9).trans ((if_neg c14).trans ((if_neg c17).trans ((if_neg c20).trans ((if_pos c23).trans ((if_neg c24).trans ((if_neg c25).trans (if_pos c26))))))))))).symm) dX5_fits_266
                    · refine lv_iload_n hx hb dX5_fits_254 rfl (lv_at hl 5 rfl) ?_
                      refine sx_sn (As := [.int p3]) (rest := []) hx hb hml hown hts (c_X9_isSmall l G p3 ) 1 (sxGC (bi6 (w := Cond.code yX9_isSmall cX9_isSmall 1 (some .boolean)) 19 rfl)) rfl (hK.2.at 15 rfl) (List.mem_cons_of_mem _ (bi1 (w := Cond.initialized RX9) 58 rfl)) (List.mem_cons_of_mem _ (bi6 (w := Cond.static yX9_isSmall) 22 rfl)) (by decide +kernel) ⟨Nat.le_of_ble_eq_true rfl, Nat.le_of_ble_eq_true rfl⟩ hK hP [] rfl rfl hl rfl (Nat.le_of_ble_eq_true rfl) ⟨Nat.zero_le _, Nat.zero_le _⟩ dX5_fits_255 (fun r er => ?_)
                      subst er
                      refine lv_if_eq (tgt := 265) hx hb dX5_fits_258 (by decide) (fun c27 => ?_) (fun c27 => ?_)
                      · refine lv_iconst (v := 0) hx hb dX5_fits_265 (by decide) ?_
                        exact sx_ret hx hb hr hlk rfl ((((if_neg c1).trans ((if_neg c5).trans ((if_neg c9).trans ((if_neg c14).trans ((if_neg c17).trans ((if_neg c20).trans ((if_pos c23).trans ((if_neg c24).trans ((if_neg c25).trans ((if_neg c26).trans (if_pos c27)))))))))))).symm) dX5_fits_266
                      · refine lv_iconst (v := 1) hx hb dX5_fits_261 (by decide) ?_
                        refine lv_goto (tgt := 266) hx hb dX5_fits_262 (by decide) ?_
                        exact sx_ret hx hb hr hlk rfl ((((if_neg c1).trans ((if_neg c5).trans ((if_neg c9).trans ((if_neg c14).trans ((if_neg c17).trans ((if_neg c20).trans ((if_pos c23).trans ((if_neg c24).trans ((if_neg c25).trans ((if_neg c26).trans (if_neg c27)))))))))))).symm) dX5_fits_266
              · by_cases c28 : p1 = 7
                · refine lv_tableIn (off := 252) (tgt := 267) hx hb dX5_fits_15 (by rw [c28]; decide) (by rw [c28]; decide) (by rw [c28]; rfl) (by decide) ?_
                  refine lv_iload hx hb dX5_fits_267 (lv_at hl 1 rfl) ?_
                  refine sx_sn (As := [.int (s_X5_kindAt pv fk p2)]) (rest := []) hx hb hml hown hts (c_X9_isOwned l G (s_X5_kindAt pv fk p2) ) 1 (sxGC (bi4 (w := Cond.code yX9_isOwned cX9_isOwned 1 (some .boolean)) 24 rfl)) rfl (hK.2.at 7 rfl) (List.mem_cons_of_mem _ (bi1 (w := Cond.initialized RX9) 58 rfl)) (List.mem_cons_of_mem _ (bi4 (w := Cond.static yX9_isOwned) 26 rfl)) (by decide +kernel) ⟨Nat.le_of_ble_eq_true rfl, Nat.le_of_ble_eq_true rfl⟩ hK hP [] rfl rfl hl rfl (Nat.le_of_ble_eq_true rfl) ⟨Nat.zero_le _, Nat.zero_le _⟩ dX5_fits_269 (fun r er => ?_)
                  subst er
                  refine lv_if_eq (tgt := 283) hx hb dX5_fits_272 (by decide) (fun c29 => ?_) (fun c29 => ?_)
                  · refine lv_iconst (v := 0) hx hb dX5_fits_283 (by decide) ?_
                    exact sx_ret hx hb hr hlk rfl (by simp only [s_X5_fits, if_neg c1, if_neg c5, if_neg c9, if_neg c14, if_neg c17, if_neg c20, if_neg c23, if_pos c28, if_pos c29]) dX5_fits_284
                  · refine lv_iload_n hx hb dX5_fits_275 rfl (lv_at hl 5 rfl) ?_
                    refine lv_if_ne (tgt := 283) hx hb dX5_fits_276 (by decide) (fun c30 => ?_) (fun c30 => ?_)
                    · refine lv_iconst (v := 0) hx hb dX5_fits_283 (by decide) ?_
                      exact sx_ret hx hb hr hlk rfl ((((if_neg c1).trans ((if_neg c5).trans ((if_neg c9).trans ((if_neg c14).trans ((if_neg c17).trans ((if_neg c20).trans ((if_neg c23).trans ((if_pos c28).trans ((if_neg c29).trans (if_neg c30))))))))))).symm) dX5_fits_284
                    · refine lv_iconst (v := 1) hx hb dX5_fits_279 (by decide) ?_
                      refine lv_goto (tgt := 284) hx hb dX5_fits_280 (by decide) ?_
                      exact sx_ret hx hb hr hlk rfl ((((if_neg c1).trans ((if_neg c5).trans ((if_neg c9).trans ((if_neg c14).trans ((if_neg c17).trans ((if_neg c20).trans ((if_neg c23).trans ((if_pos c28).trans ((if_neg c29).trans (if_pos c30))))))))))).symm) dX5_fits_284
                · by_cases c31 : p1 = 8
                  · refine lv_tableIn (off := 270) (tgt := 285) hx hb dX5_fits_15 (by rw [c31]; decide) (by rw [c31]; decide) (by rw [c31]; rfl) (by decide) ?_
                    refine lv_iload hx hb dX5_fits_285 (lv_at hl 1 rfl) ?_
                    refine lv_if_ne (tgt := 298) hx hb dX5_fits_287 (by decide) (fun c32 => ?_) (fun c32 => ?_)
                    · refine lv_iconst (v := 0) hx hb dX5_fits_298 (by decide) ?_
                      exact sx_ret hx hb hr hlk rfl ((((if_neg c1).trans ((if_neg c5).trans ((if_neg c9).trans ((if_neg c14).trans ((if_neg c17).trans ((if_neg c20).trans ((if_neg c23).trans ((if_neg c28).trans ((if_pos c31).trans (if_neg c32))))))))))).symm) dX5_fits_299
                    · refine lv_iload_n hx hb dX5_fits_290 rfl (lv_at hl 5 rfl) ?_
                      refine lv_if_ne (tgt := 298) hx hb dX5_fits_291 (by decide) (fun c33 => ?_) (fun c33 => ?_)
                      · refine lv_iconst (v := 0) hx hb dX5_fits_298 (by decide) ?_
                        exact sx_ret hx hb hr hlk rfl ((((if_neg c1).trans ((if_neg c5).trans ((if_neg c9).trans ((if_neg c14).trans ((if_neg c17).trans ((if_neg c20).trans ((if_neg c23).trans ((if_neg c28).trans ((if_pos c31).trans ((if_pos c32).trans (if_neg c33)))))))))))).symm) dX5_fits_299
                      · refine lv_iconst (v := 1) hx hb dX5_fits_294 (by decide) ?_
                        refine lv_goto (tgt := 299) hx hb dX5_fits_295 (by decide) ?_
                        exact sx_ret hx hb hr hlk rfl ((((if_neg c1).trans ((if_neg c5).trans ((if_neg c9).trans ((if_neg c14).trans ((if_neg c17).trans ((if_neg c20).trans ((if_neg c23).trans ((if_neg c28).trans ((if_pos c31).trans ((if_pos c32).trans (if_pos c33)))))))))))).symm) dX5_fits_299
                  · by_cases c34 : p1 = 9
                    · refine lv_tableIn (off := 339) (tgt := 354) hx hb dX5_fits_15 (by rw [c34]; decide) (by rw [c34]; decide) (by rw [c34]; rfl) (by decide) ?_
                      refine lv_iload_n hx hb dX5_fits_354 rfl (lv_at hl 4 rfl) ?_
                      refine lv_if_ne (tgt := 366) hx hb dX5_fits_355 (by decide) (fun c35 => ?_) (fun c35 => ?_)
                      · refine lv_iconst (v := 0) hx hb dX5_fits_366 (by decide) ?_
                        exact sx_ret hx hb hr hlk rfl ((((if_neg c1).trans ((if_neg c5).trans ((if_neg c9).trans ((if_neg c14).trans ((if_neg c17).trans ((if_neg c20).trans ((if_neg c23).trans ((if_neg c28).trans ((if_neg c31).trans ((if_pos c34).trans (if_neg c35)))))))))))).symm) dX5_fits_367
                      · refine lv_iload_n hx hb dX5_fits_358 rfl (lv_at hl 5 rfl) ?_
                        refine lv_if_ne (tgt := 366) hx hb dX5_fits_359 (by decide) (fun c36 => ?_) (fun c36 => ?_)
                        · refine lv_iconst (v := 0) hx hb dX5_fits_366 (by decide) ?_
                          exact sx_ret hx hb hr hlk rfl ((((if_neg c1).trans ((if_neg c5).trans ((if_neg c9).trans ((if_neg c14).trans ((if_neg c17).trans ((if_neg c20).trans ((if_neg c23).trans ((if_neg c28).trans ((if_neg c31).trans ((if_pos c34).trans ((if_pos c35).trans (if_neg c36))))))))))))).symm) dX5_fits_367
                        · refine lv_iconst (v := 1) hx hb dX5_fits_362 (by decide) ?_
                          refine lv_goto (tgt := 367) hx hb dX5_fits_363 (by decide) ?_
                          exact sx_ret hx hb hr hlk rfl ((((if_neg c1).trans ((if_neg c5).trans ((if_neg c9).trans ((if_neg c14).trans ((if_neg c17).trans ((if_neg c20).trans ((if_neg c23).trans ((if_neg c28).trans ((if_neg c31).trans ((if_pos c34).trans ((if_pos c35).trans (if_pos c36))))))))))))).symm) dX5_fits_367
                    · by_cases c37 : p1 = 10
                      · refine lv_tableIn (off := 285) (tgt := 300) hx hb dX5_fits_15 (by rw [c37]; decide) (by rw [c37]; decide) (by rw [c37]; rfl) (by decide) ?_
                        refine lv_iload_n hx hb dX5_fits_300 rfl (lv_at hl 4 rfl) ?_
                        refine lv_iconst (v := 1) hx hb dX5_fits_301 (by decide) ?_
                        refine lv_icmp_lt (tgt := 318) hx hb dX5_fits_302 (by decide) (fun c38 => ?_) (fun c38 => ?_)
                        · refine lv_iconst (v := 0) hx hb dX5_fits_318 (by decide) ?_
                          exact sx_ret hx hb hr hlk rfl ((((if_neg c1).trans ((if_neg c5).trans ((if_neg c9).trans ((if_neg c14).trans ((if_neg c17).trans ((if_neg c20).trans ((if_neg c23).trans ((if_neg c28).trans ((if_neg c31).trans ((if_neg c34).trans ((if_pos c37).trans (if_pos c38))))))))))))).symm) dX5_fits_319
                        · refine lv_iload_n hx hb dX5_fits_305 rfl (lv_at hl 4 rfl) ?_
                          refine lv_iconst (v := 4) hx hb dX5_fits_306 (by decide) ?_
                          refine lv_icmp_gt (tgt := 318) hx hb dX5_fits_307 (by decide) (fun c39 => ?_) (fun c39 => ?_)
                          · refine lv_iconst (v := 0) hx hb dX5_fits_318 (by decide) ?_
                            exact sx_ret hx hb hr hlk rfl ((((if_neg c1).trans ((if_neg c5).trans ((if_neg c9).trans ((if_neg c14).trans ((if_neg c17).trans ((if_neg c20).trans ((if_neg c23).trans ((if_neg c28).trans ((if_neg c31).trans ((if_neg c34).trans ((if_pos c37).trans ((if_neg c38).trans (if_pos c39)))))))))))))).symm) dX5_fits_319
                          · refine lv_iload_n hx hb dX5_fits_310 rfl (lv_at hl 5 rfl) ?_
                            refine lv_if_ne (tgt := 318) hx hb dX5_fits_311 (by decide) (fun c40 => ?_) (fun c40 => ?_)
                            · refine lv_iconst (v := 0) hx hb dX5_fits_318 (by decide) ?_
                              exact sx_ret hx hb hr hlk rfl ((((if_neg c1).trans ((if_neg c5).trans ((if_neg c9).trans ((if_neg c14).trans ((if_neg c17).trans ((if_neg c20).trans ((if_neg c23).trans ((if_neg c28).trans ((if_neg c31).trans ((if_neg c34).trans ((if_pos c37).trans ((if_neg c38).trans ((if_neg c39).trans (if_neg c40))))))))))))))).symm) dX5_fits_319
                            · refine lv_iconst (v := 1) hx hb dX5_fits_314 (by decide) ?_
                              refine lv_goto (tgt := 319) hx hb dX5_fits_315 (by decide) ?_
                              exact sx_ret hx hb hr hlk rfl ((((if_neg c1).trans ((if_neg c5).trans ((if_neg c9).trans ((if_neg c14).trans ((if_neg c17).trans ((if_neg c20).trans ((if_neg c23).trans ((if_neg c28).trans ((if_neg c31).trans ((if_neg c34).trans ((if_pos c37).trans ((if_neg c38).trans ((if_neg c39).trans (if_pos c40))))))))))))))).symm) dX5_fits_319
                      · by_cases c41 : p1 = 11
                        · refine lv_tableIn (off := 339) (tgt := 354) hx hb dX5_fits_15 (by rw [c41]; decide) (by rw [c41]; decide) (by rw [c41]; rfl) (by decide) ?_
                          refine lv_iload_n hx hb dX5_fits_354 rfl (lv_at hl 4 rfl) ?_
                          refine lv_if_ne (tgt := 366) hx hb dX5_fits_355 (by decide) (fun c42 => ?_) (fun c42 => ?_)
                          · refine lv_iconst (v := 0) hx hb dX5_fits_366 (by decide) ?_
                            exact sx_ret hx hb hr hlk rfl ((((if_neg c1).trans ((if_neg c5).trans ((if_neg c9).trans ((if_neg c14).trans ((if_neg c17).trans ((if_neg c20).trans ((if_neg c23).trans ((if_neg c28).trans ((if_neg c31).trans ((if_neg c34).trans ((if_neg c37).trans ((if_pos c41).trans (if_neg c42)))))))))))))).symm) dX5_fits_367
                          · refine lv_iload_n hx hb dX5_fits_358 rfl (lv_at hl 5 rfl) ?_
                            refine lv_if_ne (tgt := 366) hx hb dX5_fits_359 (by decide) (fun c43 => ?_) (fun c43 => ?_)
                            · refine lv_iconst (v := 0) hx hb dX5_fits_366 (by decide) ?_
                              exact sx_ret hx hb hr hlk rfl ((((if_neg c1).trans ((if_neg c5).trans ((if_neg c9).trans ((if_neg c14).trans ((if_neg c17).trans ((if_neg c20).trans ((if_neg c23).trans ((if_neg c28).trans ((if_neg c31).trans ((if_neg c34).trans ((if_neg c37).trans ((if_pos c41).trans ((if_pos c42).trans (if_neg c43))))))))))))))).symm) dX5_fits_367
                            · refine lv_iconst (v := 1) hx hb dX5_fits_362 (by decide) ?_
                              refine lv_goto (tgt := 367) hx hb dX5_fits_363 (by decide) ?_
                              exact sx_ret hx hb hr hlk rfl ((((if_neg c1).trans ((if_neg c5).trans ((if_neg c9).trans ((if_neg c14).trans ((if_neg c17).trans ((if_neg c20).trans ((if_neg c23).trans ((if_neg c28).trans ((if_neg c31).trans ((if_neg c34).trans ((if_neg c37).trans ((if_pos c41).trans ((if_pos c42).trans (if_pos c43))))))))))))))).symm) dX5_fits_367
                        · by_cases c44 : p1 = 12
                          · refine lv_tableIn (off := 305) (tgt := 320) hx hb dX5_fits_15 (by rw [c44]; decide) (by rw [c44]; decide) (by rw [c44]; rfl) (by decide) ?_
                            refine lv_iload hx hb dX5_fits_320 (lv_at hl 1 rfl) ?_
                            refine lv_iconst (v := 5) hx hb dX5_fits_322 (by decide) ?_
                            refine lv_icmp_ne (tgt := 336) hx hb dX5_fits_323 (by decide) (fun c45 => ?_) (fun c45 => ?_)
                            · refine lv_iconst (v := 0) hx hb dX5_fits_336 (by decide) ?_
                              exact sx_ret hx hb hr hlk rfl ((((if_neg c1).trans ((if_neg c5).trans ((if_neg c9).trans ((if_neg c14).trans ((if_neg c17).trans ((if_neg c20).trans ((if_neg c23).trans ((if_neg c28).trans ((if_neg c31).trans ((if_neg c34).trans ((if_neg c37).trans ((if_neg c41).trans ((if_pos c44).trans (if_neg c45))))))))))))))).symm) dX5_fits_337
                            · refine lv_iload hx hb dX5_fits_326 (lv_at hl 0 rfl) ?_
                              refine lv_iconst (v := 5) hx hb dX5_fits_328 (by decide) ?_
                              refine lv_icmp_ne (tgt := 336) hx hb dX5_fits_329 (by decide) (fun c46 => ?_) (fun c46 => ?_)
                              · refine lv_iconst (v := 0) hx hb dX5_fits_336 (by decide) ?_
                                exact sx_ret hx hb hr hlk rfl ((((if_neg c1).trans ((if_neg c5).trans ((if_neg c9).trans ((if_neg c14).trans ((if_neg c17).trans ((if_neg c20).trans ((if_neg c23).trans ((if_neg c28).trans ((if_neg c31).trans ((if_neg c34).trans ((if_neg c37).trans ((if_neg c41).trans ((if_pos c44).trans ((if_pos c45).trans (if_neg c46)))))))))))))))).symm) dX5_fits_337
                              · refine lv_iconst (v := 1) hx hb dX5_fits_332 (by decide) ?_
                                refine lv_goto (tgt := 337) hx hb dX5_fits_333 (by decide) ?_
                                exact sx_ret hx hb hr hlk rfl ((((if_neg c1).trans ((if_neg c5).trans ((if_neg c9).trans ((if_neg c14).trans ((if_neg c17).trans ((if_neg c20).trans ((if_neg c23).trans ((if_neg c28).trans ((if_neg c31).trans ((if_neg c34).trans ((if_neg c37).trans ((if_neg c41).trans ((if_pos c44).trans ((if_pos c45).trans (if_pos c46)))))))))))))))).symm) dX5_fits_337
                          · by_cases c47 : p1 = 13
                            · refine lv_tableIn (off := 323) (tgt := 338) hx hb dX5_fits_15 (by rw [c47]; decide) (by rw [c47]; decide) (by rw [c47]; rfl) (by decide) ?_
                              refine lv_iload hx hb dX5_fits_338 (lv_at hl 1 rfl) ?_
                              refine lv_iconst (v := 5) hx hb dX5_fits_340 (by decide) ?_
                              refine lv_icmp_ne (tgt := 352) hx hb dX5_fits_341 (by decide) (fun c48 => ?_) (fun c48 => ?_)
                              · refine lv_iconst (v := 0) hx hb dX5_fits_352 (by decide) ?_
                                exact sx_ret hx hb hr hlk rfl ((((if_neg c1).trans ((if_neg c5).trans ((if_neg c9).trans ((if_neg c14).trans ((if_neg c17).trans ((if_neg c20).trans ((if_neg c23).trans ((if_neg c28).trans ((if_neg c31).trans ((if_neg c34).trans ((if_neg c37).trans ((if_neg c41).trans ((if_neg c44).trans ((if_pos c47).trans (if_neg c48)))))))))))))))).symm) dX5_fits_353
                              · refine lv_iload_n hx hb dX5_fits_344 rfl (lv_at hl 5 rfl) ?_
                                refine lv_if_ne (tgt := 352) hx hb dX5_fits_345 (by decide) (fun c49 => ?_) (fun c49 => ?_)
                                · refine lv_iconst (v := 0) hx hb dX5_fits_352 (by decide) ?_
                                  exact sx_ret hx hb hr hlk rfl ((((if_neg c1).trans ((if_neg c5).trans ((if_neg c9).trans ((if_neg c14).trans ((if_neg c17).trans ((if_neg c20).trans ((if_neg c23).trans ((if_neg c28).trans ((if_neg c31).trans ((if_neg c34).trans ((if_neg c37).trans ((if_neg c41).trans ((if_neg c44).trans ((if_pos c47).trans ((if_pos c48).trans (if_neg c49))))))))))))))))).symm) dX5_fits_353
                                · refine lv_iconst (v := 1) hx hb dX5_fits_348 (by decide) ?_
                                  refine lv_goto (tgt := 353) hx hb dX5_fits_349 (by decide) ?_
                                  exact sx_ret hx hb hr hlk rfl ((((if_neg c1).trans ((if_neg c5).trans ((if_neg c9).trans ((if_neg c14).trans ((if_neg c17).trans ((if_neg c20).trans ((if_neg c23).trans ((if_neg c28).trans ((if_neg c31).trans ((if_neg c34).trans ((if_neg c37).trans ((if_neg c41).trans ((if_neg c44).trans ((if_pos c47).trans ((if_pos c48).trans (if_pos c49))))))))))))))))).symm) dX5_fits_353
                            · by_cases c50 : p1 = 14
                              · refine lv_tableIn (off := 323) (tgt := 338) hx hb dX5_fits_15 (by rw [c50]; decide) (by rw [c50]; decide) (by rw [c50]; rfl) (by decide) ?_
                                refine lv_iload hx hb dX5_fits_338 (lv_at hl 1 rfl) ?_
                                refine lv_iconst (v := 5) hx hb dX5_fits_340 (by decide) ?_
                                refine lv_icmp_ne (tgt := 352) hx hb dX5_fits_341 (by decide) (fun c51 => ?_) (fun c51 => ?_)
                                · refine lv_iconst (v := 0) hx hb dX5_fits_352 (by decide) ?_
                                  exact sx_ret hx hb hr hlk rfl ((((if_neg c1).trans ((if_neg c5).trans ((if_neg c9).trans ((if_neg c14).trans ((if_neg c17).trans ((if_neg c20).trans ((if_neg c23).trans ((if_neg c28).trans ((if_neg c31).trans ((if_neg c34).trans ((if_neg c37).trans ((if_neg c41).trans ((if_neg c44).trans ((if_neg c47).trans ((if_pos c50).trans (if_neg c51))))))))))))))))).symm) dX5_fits_353
                                · refine lv_iload_n hx hb dX5_fits_344 rfl (lv_at hl 5 rfl) ?_
                                  refine lv_if_ne (tgt := 352) hx hb dX5_fits_345 (by decide) (fun c52 => ?_) (fun c52 => ?_)
                                  · refine lv_iconst (v := 0) hx hb dX5_fits_352 (by decide) ?_
                                    exact sx_ret hx hb hr hlk rfl ((((if_neg c1).trans ((if_neg c5).trans ((if_neg c9).trans ((if_neg c14).trans ((if_neg c17).trans ((if_neg c20).trans ((if_neg c23).trans ((if_neg c28).trans ((if_neg c31).trans ((if_neg c34).trans ((if_neg c37).trans ((if_neg c41).trans ((if_neg c44).trans ((if_neg c47).trans ((if_pos c50).trans ((if_pos c51).trans (if_neg c52)))))))))))))))))).symm) dX5_fits_353
                                  · refine lv_iconst (v := 1) hx hb dX5_fits_348 (by decide) ?_
                                    refine lv_goto (tgt := 353) hx hb dX5_fits_349 (by decide) ?_
                                    exact sx_ret hx hb hr hlk rfl ((((if_neg c1).trans ((if_neg c5).trans ((if_neg c9).trans ((if_neg c14).trans ((if_neg c17).trans ((if_neg c20).trans ((if_neg c23).trans ((if_neg c28).trans ((if_neg c31).trans ((if_neg c34).trans ((if_neg c37).trans ((if_neg c41).trans ((if_neg c44).trans ((if_neg c47).trans ((if_pos c50).trans ((if_pos c51).trans (if_pos c52)))))))))))))))))).symm) dX5_fits_353
                              · by_cases c53 : p1 = 15
                                · refine lv_tableIn (off := 339) (tgt := 354) hx hb dX5_fits_15 (by rw [c53]; decide) (by rw [c53]; decide) (by rw [c53]; rfl) (by decide) ?_
                                  refine lv_iload_n hx hb dX5_fits_354 rfl (lv_at hl 4 rfl) ?_
                                  refine lv_if_ne (tgt := 366) hx hb dX5_fits_355 (by decide) (fun c54 => ?_) (fun c54 => ?_)
                                  · refine lv_iconst (v := 0) hx hb dX5_fits_366 (by decide) ?_
                                    exact sx_ret hx hb hr hlk rfl ((((if_neg c1).trans ((if_neg c5).trans ((if_neg c9).trans ((if_neg c14).trans ((if_neg c17).trans ((if_neg c20).trans ((if_neg c23).trans ((if_neg c28).trans ((if_neg c31).trans ((if_neg c34).trans ((if_neg c37).trans ((if_neg c41).trans ((if_neg c44).trans ((if_neg c47).trans ((if_neg c50).trans ((if_pos c53).trans (if_neg c54)))))))))))))))))).symm) dX5_fits_367
                                  · refine lv_iload_n hx hb dX5_fits_358 rfl (lv_at hl 5 rfl) ?_
                                    refine lv_if_ne (tgt := 366) hx hb dX5_fits_359 (by decide) (fun c55 => ?_) (fun c55 => ?_)
                                    · refine lv_iconst (v := 0) hx hb dX5_fits_366 (by decide) ?_
                                      exact sx_ret hx hb hr hlk rfl ((((if_neg c1).trans ((if_neg c5).trans ((if_neg c9).trans ((if_neg c14).trans ((if_neg c17).trans ((if_neg c20).trans ((if_neg c23).trans ((if_neg c28).trans ((if_neg c31).trans ((if_neg c34).trans ((if_neg c37).trans ((if_neg c41).trans ((if_neg c44).trans ((if_neg c47).trans ((if_neg c50).trans ((if_pos c53).trans ((if_pos c54).trans (if_neg c55))))))))))))))))))).symm) dX5_fits_367
                                    · refine lv_iconst (v := 1) hx hb dX5_fits_362 (by decide) ?_
                                      refine lv_goto (tgt := 367) hx hb dX5_fits_363 (by decide) ?_
                                      exact sx_ret hx hb hr hlk rfl ((((if_neg c1).trans ((if_neg c5).trans ((if_neg c9).trans ((if_neg c14).trans ((if_neg c17).trans ((if_neg c20).trans ((if_neg c23).trans ((if_neg c28).trans ((if_neg c31).trans ((if_neg c34).trans ((if_neg c37).trans ((if_neg c41).trans ((if_neg c44).trans ((if_neg c47).trans ((if_neg c50).trans ((if_pos c53).trans ((if_pos c54).trans (if_pos c55))))))))))))))))))).symm) dX5_fits_367
                                · by_cases c56 : p1 = 16
                                  · refine lv_tableIn (off := 353) (tgt := 368) hx hb dX5_fits_15 (by rw [c56]; decide) (by rw [c56]; decide) (by rw [c56]; rfl) (by decide) ?_
                                    refine lv_iload hx hb dX5_fits_368 (lv_at hl 1 rfl) ?_
                                    refine lv_if_ne (tgt := 384) hx hb dX5_fits_370 (by decide) (fun c57 => ?_) (fun c57 => ?_)
                                    · refine lv_iconst (v := 0) hx hb dX5_fits_384 (by decide) ?_
                                      exact sx_ret hx hb hr hlk rfl ((((if_neg c1).trans ((if_neg c5).trans ((if_neg c9).trans ((if_neg c14).trans ((if_neg c17).trans ((if_neg c20).trans ((if_neg c23).trans ((if_neg c28).trans ((if_neg c31).trans ((if_neg c34).trans ((if_neg c37).trans ((if_neg c41).trans ((if_neg c44).trans ((if_neg c47).trans ((if_neg c50).trans ((if_neg c53).trans ((if_pos c56).trans (if_neg c57))))))))))))))))))).symm) dX5_fits_385
                                    · refine lv_iload_n hx hb dX5_fits_373 rfl (lv_at hl 5 rfl) ?_
                                      refine sx_sn (As := [.int p3]) (rest := []) hx hb hml hown hts (c_X9_isSmall l G p3 ) 1 (sxGC (bi6 (w := Cond.code yX9_isSmall cX9_isSmall 1 (some .boolean)) 19 rfl)) rfl (hK.2.at 15 rfl) (List.mem_cons_of_mem _ (bi1 (w := Cond.initialized RX9) 58 rfl)) (List.mem_cons_of_mem _ (bi6 (w := Cond.static yX9_isSmall) 22 rfl)) (by decide +kernel) ⟨Nat.le_of_ble_eq_true rfl, Nat.le_of_ble_eq_true rfl⟩ hK hP [] rfl rfl hl rfl (Nat.le_of_ble_eq_true rfl) ⟨Nat.zero_le _, Nat.zero_le _⟩ dX5_fits_374 (fun r er => ?_)
                                      subst er
                                      refine lv_if_eq (tgt := 384) hx hb dX5_fits_377 (by decide) (fun c58 => ?_) (fun c58 => ?_)
                                      · refine lv_iconst (v := 0) hx hb dX5_fits_384 (by decide) ?_
                                        exact sx_ret hx hb hr hlk rfl ((((if_neg c1).trans ((if_neg c5).trans ((if_neg c9).trans ((if_neg c14).trans ((if_neg c17).trans ((if_neg c20).trans ((if_neg c23).trans ((if_neg c28).trans ((if_neg c31).trans ((if_neg c34).trans ((if_neg c37).trans ((if_neg c41).trans ((if_neg c44).trans ((if_neg c47).trans ((if_neg c50).trans ((if_neg c53).trans ((if_pos c56).trans ((if_pos c57).trans (if_pos c58)))))))))))))))))))).symm) dX5_fits_385
                                      · refine lv_iconst (v := 1) hx hb dX5_fits_380 (by decide) ?_
                                        refine lv_goto (tgt := 385) hx hb dX5_fits_381 (by decide) ?_
                                        exact sx_ret hx hb hr hlk rfl ((((if_neg c1).trans ((if_neg c5).trans ((if_neg c9).trans ((if_neg c14).trans ((if_neg c17).trans ((if_neg c20).trans ((if_neg c23).trans ((if_neg c28).trans ((if_neg c31).trans ((if_neg c34).trans ((if_neg c37).trans ((if_neg c41).trans ((if_neg c44).trans ((if_neg c47).trans ((if_neg c50).trans ((if_neg c53).trans ((if_pos c56).trans ((if_pos c57).trans (if_neg c58)))))))))))))))))))).symm) dX5_fits_385
                                  · refine lv_tableOut (tgt := 386) hx hb dX5_fits_15 (by have := lv_neT (a := 0) c1 rfl; have := lv_neT (a := 1) c5 rfl; have := lv_neT (a := 2) c9 rfl; have := lv_neT (a := 3) c14 rfl; have := lv_neT (a := 4) c17 rfl; have := lv_neT (a := 5) c20 rfl; have := lv_neT (a := 6) c23 rfl; have := lv_neT (a := 7) c28 rfl; have := lv_neT (a := 8) c31 rfl; have := lv_neT (a := 9) c34 rfl; have := lv_neT (a := 10) c37 rfl; have := lv_neT (a := 11) c41 rfl; have := lv_neT (a := 12) c44 rfl; have := lv_neT (a := 13) c47 rfl; have := lv_neT (a := 14) c50 rfl; have := lv_neT (a := 15) c53 rfl; have := lv_neT (a := 16) c56 rfl; omega) (by decide) ?_
                                    refine lv_iconst (v := 0) hx hb dX5_fits_386 (by decide) ?_
                                    exact sx_ret hx hb hr hlk rfl ((((if_neg c1).trans ((if_neg c5).trans ((if_neg c9).trans ((if_neg c14).trans ((if_neg c17).trans ((if_neg c20).trans ((if_neg c23).trans ((if_neg c28).trans ((if_neg c31).trans ((if_neg c34).trans ((if_neg c37).trans ((if_neg c41).trans ((if_neg c44).trans ((if_neg c47).trans ((if_neg c50).trans ((if_neg c53).trans (if_neg c56)))))))))))))))))).symm) dX5_fits_387
