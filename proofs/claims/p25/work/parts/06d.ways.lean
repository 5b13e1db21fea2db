abbrev wdX8_isWhole : List Cond := Cond.code yX8_isWhole cX8_isWhole 1 (some .boolean) :: bwC
def s_X8_isWhole (wwr : Int32) : Int32 := if wwr = (-1) then 1 else 0
set_option maxHeartbeats 4000000 in
set_option maxRecDepth 100000 in
theorem c_X8_isWhole (l : Launch) (G : sxG) (o : Nat) (h : Nat) (w1 : Nat) (w2 : Nat) (w3 : Nat) (w4 : Nat) (w5 : Nat) (w6 : Nat) (wdp : Int32) (wwr : Int32)  : sxM l yX8_isWhole wdX8_isWhole 0 0 G [(o, .inr (8, [.ref h, .ref w1, .ref w2, .ref w3, .ref w4, .ref w5, .ref w6, .int wdp, .int wwr]))] [.ref o] (fun r => r = s_X8_isWhole wwr) := by
  refine sxM.of (cc := cX8_isWhole) (maxL := 1) (by decide) rfl (Nat.le_of_ble_eq_true rfl) ?_
  intro p e s m args below meth c ⟨hx, hb, hr, hml, hown, hlk, hts, hK⟩ hP ls hl
  have hl : lv_has ls 1 [(0, .ref o)] := hl
  refine lv_aload_n hx hb dX8_isWhole_0 rfl (lv_at hl 0 rfl) ?_
  refine va_get (D := G.1) (ci := 8) (v := .int wwr) (C := RX8) (T := TX8) (N := 9) hx hb hts owX8 hown hK.1 hP 0 rfl rfl 8 (by decide) (bw0 (w := Cond.fieldLink RX8 38 "DropflagMill$Ways" "wrong" "I") hts 25 rfl) (fun _ h9 => h9) rfl dX8_isWhole_1 ?_
  refine lv_iconst (v := (-1)) hx hb dX8_isWhole_4 (by decide) ?_
  refine lv_icmp_ne (tgt := 12) hx hb dX8_isWhole_5 (by decide) (fun c1 => ?_) (fun c1 => ?_)
  · refine lv_iconst (v := 0) hx hb dX8_isWhole_12 (by decide) ?_
    exact sx_ret hx hb hr hlk rfl (by simp only [s_X8_isWhole, if_neg c1]) dX8_isWhole_13
  · refine lv_iconst (v := 1) hx hb dX8_isWhole_8 (by decide) ?_
    refine lv_goto (tgt := 13) hx hb dX8_isWhole_9 (by decide) ?_
    exact sx_ret hx hb hr hlk rfl (by simp only [s_X8_isWhole, if_pos c1]) dX8_isWhole_13

abbrev wdX8_firstAt : List Cond := Cond.code yX8_firstAt cX8_firstAt 2 (some .int) :: bwC
def s_X8_firstAt (wwr : Int32) (pn : Nat) (yf : Nat → Int32) (p1 : Int32) : Int32 := if (s_X8_isWhole wwr) = 0 then (-1) else (if (s_X5_isLine pn p1) = 0 then (-1) else yf p1.toNatClampNeg)
set_option maxHeartbeats 4000000 in
set_option maxRecDepth 100000 in
theorem c_X8_firstAt (l : Launch) (G : sxG) (o : Nat) (h : Nat) (w1 : Nat) (w2 : Nat) (w3 : Nat) (w4 : Nat) (w5 : Nat) (w6 : Nat) (wdp : Int32) (wwr : Int32) (k0 : Nat) (k1 : Nat) (k2 : Nat) (k3 : Nat) (pv : Nat) (pn : Nat) (yf : Nat → Int32) (p1 : Int32) (hn : pn ≤ 33) : sxM l yX8_firstAt wdX8_firstAt 1 21 G [(o, .inr (8, [.ref h, .ref w1, .ref w2, .ref w3, .ref w4, .ref w5, .ref w6, .int wdp, .int wwr])), (h, .inr (5, [.ref k0, .ref k1, .ref k2, .ref k3, .int (nI pv), .int (nI pn)])), (w1, .inl (G.2.1, 34, .inl yf))] [.ref o, .int p1] (fun r => r = s_X8_firstAt wwr pn yf p1) := by
  refine sxM.of (cc := cX8_firstAt) (maxL := 2) (by decide) rfl (Nat.le_of_ble_eq_true rfl) ?_
  intro p e s m args below meth c ⟨hx, hb, hr, hml, hown, hlk, hts, hK⟩ hP ls hl
  have hl : lv_has ls 2 [(0, .ref o), (1, .int p1)] := hl
  refine lv_aload_n hx hb dX8_firstAt_0 rfl (lv_at hl 0 rfl) ?_
  refine sx_v (As := []) (rest := []) hx hb hml hown hts (c_X8_isWhole l G o h w1 w2 w3 w4 w5 w6 wdp wwr ) 0 (sxGV (bi2 (w := Cond.methodLink RX8 41 yX8_isWhole) 54 rfl) (bi2 (w := Cond.instanceMethod yX8_isWhole) 55 rfl) (bi2 (w := Cond.selects RX8 yX8_isWhole yX8_isWhole) 56 rfl) (bi0 (w := Cond.initialized RX8) 50 rfl) (bi2 (w := Cond.code yX8_isWhole cX8_isWhole 1 (some .boolean)) 40 rfl)) rfl (by decide +kernel) ⟨Nat.le_of_ble_eq_true rfl, Nat.le_of_ble_eq_true rfl⟩ hK hP [0] rfl 0 rfl rfl rfl hl rfl (Nat.le_of_ble_eq_true rfl) ⟨Nat.zero_le _, Nat.zero_le _⟩ dX8_firstAt_1 (fun r er => ?_)
  subst er
  refine lv_if_eq (tgt := 27) hx hb dX8_firstAt_4 (by decide) (fun c1 => ?_) (fun c1 => ?_)
  · refine lv_iconst (v := (-1)) hx hb dX8_firstAt_27 (by decide) ?_
    exact sx_ret hx hb hr hlk rfl (by simp only [s_X8_firstAt, if_pos c1]) dX8_firstAt_28
  · refine lv_aload_n hx hb dX8_firstAt_7 rfl (lv_at hl 0 rfl) ?_
    refine va_get (D := G.1) (ci := 8) (v := .ref h) (C := RX8) (T := TX8) (N := 9) hx hb hts owX8 hown hK.1 hP 0 rfl rfl 0 (by decide) (bw0 (w := Cond.fieldLink RX8 9 "DropflagMill$Ways" "program" "LDropflagMill$Program;") hts 17 rfl) (fun _ h9 => h9) rfl dX8_firstAt_8 ?_
    refine lv_iload_n hx hb dX8_firstAt_11 rfl (lv_at hl 1 rfl) ?_
    refine sx_v (As := [.int p1]) (rest := []) hx hb hml hown hts (c_X5_isLine l G h k0 k1 k2 k3 pv pn p1 ) 1 (sxGV (bi2 (w := Cond.methodLink RX8 45 yX5_isLine) 57 rfl) (bi1 (w := Cond.instanceMethod yX5_isLine) 28 rfl) (bi1 (w := Cond.selects RX5 yX5_isLine yX5_isLine) 29 rfl) (bi1 (w := Cond.initialized RX5) 30 rfl) (bi1 (w := Cond.code yX5_isLine cX5_isLine 2 (some .boolean)) 23 rfl)) rfl (by decide +kernel) ⟨Nat.le_of_ble_eq_true rfl, Nat.le_of_ble_eq_true rfl⟩ hK hP [1] rfl 0 rfl rfl rfl hl rfl (Nat.le_of_ble_eq_true rfl) ⟨Nat.zero_le _, Nat.zero_le _⟩ dX8_firstAt_12 (fun r er => ?_)
    subst er
    refine lv_if_eq (tgt := 27) hx hb dX8_firstAt_15 (by decide) (fun c2 => ?_) (fun c2 => ?_)
    · refine lv_iconst (v := (-1)) hx hb dX8_firstAt_27 (by decide) ?_
      exact sx_ret hx hb hr hlk rfl (by simp only [s_X8_firstAt, if_neg c1, if_pos c2]) dX8_firstAt_28
    · refine lv_aload_n hx hb dX8_firstAt_18 rfl (lv_at hl 0 rfl) ?_
      refine va_get (D := G.1) (ci := 8) (v := .ref w1) (C := RX8) (T := TX8) (N := 9) hx hb hts owX8 hown hK.1 hP 0 rfl rfl 1 (by decide) (bw0 (w := Cond.fieldLink RX8 15 "DropflagMill$Ways" "first" "[I") hts 18 rfl) (fun _ h9 => h9) rfl dX8_firstAt_19 ?_
      refine lv_iload_n hx hb dX8_firstAt_22 rfl (lv_at hl 1 rfl) ?_
      refine va_iald hx hb hK.1 hP 2 0 rfl rfl (i := p1) (sx_in_lt (by decide) ⟨pn, by omega, rfl⟩ (sx_isLine c2).1 (sx_isLine c2).2) dX8_firstAt_23 ?_
      refine lv_goto (tgt := 28) hx hb dX8_firstAt_24 (by decide) ?_
      exact sx_ret hx hb hr hlk rfl (by simp only [s_X8_firstAt, if_neg c1, if_neg c2]) dX8_firstAt_28

abbrev wdX8_secondAt : List Cond := Cond.code yX8_secondAt cX8_secondAt 2 (some .int) :: bwC
def s_X8_secondAt (wwr : Int32) (pn : Nat) (ys : Nat → Int32) (p1 : Int32) : Int32 := if (s_X8_isWhole wwr) = 0 then (-1) else (if (s_X5_isLine pn p1) = 0 then (-1) else ys p1.toNatClampNeg)
set_option maxHeartbeats 4000000 in
set_option maxRecDepth 100000 in
theorem c_X8_secondAt (l : Launch) (G : sxG) (o : Nat) (h : Nat) (w1 : Nat) (w2 : Nat) (w3 : Nat) (w4 : Nat) (w5 : Nat) (w6 : Nat) (wdp : Int32) (wwr : Int32) (k0 : Nat) (k1 : Nat) (k2 : Nat) (k3 : Nat) (pv : Nat) (pn : Nat) (ys : Nat → Int32) (p1 : Int32) (hn : pn ≤ 33) : sxM l yX8_secondAt wdX8_secondAt 1 21 G [(o, .inr (8, [.ref h, .ref w1, .ref w2, .ref w3, .ref w4, .ref w5, .ref w6, .int wdp, .int wwr])), (h, .inr (5, [.ref k0, .ref k1, .ref k2, .ref k3, .int (nI pv), .int (nI pn)])), (w2, .inl (G.2.1, 34, .inl ys))] [.ref o, .int p1] (fun r => r = s_X8_secondAt wwr pn ys p1) := by
  refine sxM.of (cc := cX8_secondAt) (maxL := 2) (by decide) rfl (Nat.le_of_ble_eq_true rfl) ?_
  intro p e s m args below meth c ⟨hx, hb, hr, hml, hown, hlk, hts, hK⟩ hP ls hl
  have hl : lv_has ls 2 [(0, .ref o), (1, .int p1)] := hl
  refine lv_aload_n hx hb dX8_secondAt_0 rfl (lv_at hl 0 rfl) ?_
  refine sx_v (As := []) (rest := []) hx hb hml hown hts (c_X8_isWhole l G o h w1 w2 w3 w4 w5 w6 wdp wwr ) 0 (sxGV (bi2 (w := Cond.methodLink RX8 41 yX8_isWhole) 54 rfl) (bi2 (w := Cond.instanceMethod yX8_isWhole) 55 rfl) (bi2 (w := Cond.selects RX8 yX8_isWhole yX8_isWhole) 56 rfl) (bi0 (w := Cond.initialized RX8) 50 rfl) (bi2 (w := Cond.code yX8_isWhole cX8_isWhole 1 (some .boolean)) 40 rfl)) rfl (by decide +kernel) ⟨Nat.le_of_ble_eq_true rfl, Nat.le_of_ble_eq_true rfl⟩ hK hP [0] rfl 0 rfl rfl rfl hl rfl (Nat.le_of_ble_eq_true rfl) ⟨Nat.zero_le _, Nat.zero_le _⟩ dX8_secondAt_1 (fun r er => ?_)
  subst er
  refine lv_if_eq (tgt := 27) hx hb dX8_secondAt_4 (by decide) (fun c1 => ?_) (fun c1 => ?_)
  · refine lv_iconst (v := (-1)) hx hb dX8_secondAt_27 (by decide) ?_
    exact sx_ret hx hb hr hlk rfl (by simp only [s_X8_secondAt, if_pos c1]) dX8_secondAt_28
  · refine lv_aload_n hx hb dX8_secondAt_7 rfl (lv_at hl 0 rfl) ?_
    refine va_get (D := G.1) (ci := 8) (v := .ref h) (C := RX8) (T := TX8) (N := 9) hx hb hts owX8 hown hK.1 hP 0 rfl rfl 0 (by decide) (bw0 (w := Cond.fieldLink RX8 9 "DropflagMill$Ways" "program" "LDropflagMill$Program;") hts 17 rfl) (fun _ h9 => h9) rfl dX8_secondAt_8 ?_
    refine lv_iload_n hx hb dX8_secondAt_11 rfl (lv_at hl 1 rfl) ?_
    refine sx_v (As := [.int p1]) (rest := []) hx hb hml hown hts (c_X5_isLine l G h k0 k1 k2 k3 pv pn p1 ) 1 (sxGV (bi2 (w := Cond.methodLink RX8 45 yX5_isLine) 57 rfl) (bi1 (w := Cond.instanceMethod yX5_isLine) 28 rfl) (bi1 (w := Cond.selects RX5 yX5_isLine yX5_isLine) 29 rfl) (bi1 (w := Cond.initialized RX5) 30 rfl) (bi1 (w := Cond.code yX5_isLine cX5_isLine 2 (some .boolean)) 23 rfl)) rfl (by decide +kernel) ⟨Nat.le_of_ble_eq_true rfl, Nat.le_of_ble_eq_true rfl⟩ hK hP [1] rfl 0 rfl rfl rfl hl rfl (Nat.le_of_ble_eq_true rfl) ⟨Nat.zero_le _, Nat.zero_le _⟩ dX8_secondAt_12 (fun r er => ?_)
    subst er
    refine lv_if_eq (tgt := 27) hx hb dX8_secondAt_15 (by decide) (fun c2 => ?_) (fun c2 => ?_)
    · refine lv_iconst (v := (-1)) hx hb dX8_secondAt_27 (by decide) ?_
      exact sx_ret hx hb hr hlk rfl (by simp only [s_X8_secondAt, if_neg c1, if_pos c2]) dX8_secondAt_28
    · refine lv_aload_n hx hb dX8_secondAt_18 rfl (lv_at hl 0 rfl) ?_
      refine va_get (D := G.1) (ci := 8) (v := .ref w2) (C := RX8) (T := TX8) (N := 9) hx hb hts owX8 hown hK.1 hP 0 rfl rfl 2 (by decide) (bw0 (w := Cond.fieldLink RX8 19 "DropflagMill$Ways" "second" "[I") hts 19 rfl) (fun _ h9 => h9) rfl dX8_secondAt_19 ?_
      refine lv_iload_n hx hb dX8_secondAt_22 rfl (lv_at hl 1 rfl) ?_
      refine va_iald hx hb hK.1 hP 2 0 rfl rfl (i := p1) (sx_in_lt (by decide) ⟨pn, by omega, rfl⟩ (sx_isLine c2).1 (sx_isLine c2).2) dX8_secondAt_23 ?_
      refine lv_goto (tgt := 28) hx hb dX8_secondAt_24 (by decide) ?_
      exact sx_ret hx hb hr hlk rfl (by simp only [s_X8_secondAt, if_neg c1, if_neg c2]) dX8_secondAt_28

abbrev wdX8_openerAt : List Cond := Cond.code yX8_openerAt cX8_openerAt 2 (some .int) :: bwC
def s_X8_openerAt (pn : Nat) (yop : Nat → Int32) (p1 : Int32) : Int32 := if (s_X5_isLine pn p1) = 0 then (-1) else yop p1.toNatClampNeg
set_option maxHeartbeats 4000000 in
set_option maxRecDepth 100000 in
theorem c_X8_openerAt (l : Launch) (G : sxG) (o : Nat) (h : Nat) (w1 : Nat) (w2 : Nat) (w3 : Nat) (w4 : Nat) (w5 : Nat) (w6 : Nat) (wdp : Int32) (wwr : Int32) (k0 : Nat) (k1 : Nat) (k2 : Nat) (k3 : Nat) (pv : Nat) (pn : Nat) (yop : Nat → Int32) (p1 : Int32) (hn : pn ≤ 33) : sxM l yX8_openerAt wdX8_openerAt 1 21 G [(o, .inr (8, [.ref h, .ref w1, .ref w2, .ref w3, .ref w4, .ref w5, .ref w6, .int wdp, .int wwr])), (h, .inr (5, [.ref k0, .ref k1, .ref k2, .ref k3, .int (nI pv), .int (nI pn)])), (w3, .inl (G.2.1, 34, .inl yop))] [.ref o, .int p1] (fun r => r = s_X8_openerAt pn yop p1) := by
  refine sxM.of (cc := cX8_openerAt) (maxL := 2) (by decide) rfl (Nat.le_of_ble_eq_true rfl) ?_
  intro p e s m args below meth c ⟨hx, hb, hr, hml, hown, hlk, hts, hK⟩ hP ls hl
  have hl : lv_has ls 2 [(0, .ref o), (1, .int p1)] := hl
  refine lv_aload_n hx hb dX8_openerAt_0 rfl (lv_at hl 0 rfl) ?_
  refine va_get (D := G.1) (ci := 8) (v := .ref h) (C := RX8) (T := TX8) (N := 9) hx hb hts owX8 hown hK.1 hP 0 rfl rfl 0 (by decide) (bw0 (w := Cond.fieldLink RX8 9 "DropflagMill$Ways" "program" "LDropflagMill$Program;") hts 17 rfl) (fun _ h9 => h9) rfl dX8_openerAt_1 ?_
  refine lv_iload_n hx hb dX8_openerAt_4 rfl (lv_at hl 1 rfl) ?_
  refine sx_v (As := [.int p1]) (rest := []) hx hb hml hown hts (c_X5_isLine l G h k0 k1 k2 k3 pv pn p1 ) 1 (sxGV (bi2 (w := Cond.methodLink RX8 45 yX5_isLine) 57 rfl) (bi1 (w := Cond.instanceMethod yX5_isLine) 28 rfl) (bi1 (w := Cond.selects RX5 yX5_isLine yX5_isLine) 29 rfl) (bi1 (w := Cond.initialized RX5) 30 rfl) (bi1 (w := Cond.code yX5_isLine cX5_isLine 2 (some .boolean)) 23 rfl)) rfl (by decide +kernel) ⟨Nat.le_of_ble_eq_true rfl, Nat.le_of_ble_eq_true rfl⟩ hK hP [1] rfl 0 rfl rfl rfl hl rfl (Nat.le_of_ble_eq_true rfl) ⟨Nat.zero_le _, Nat.zero_le _⟩ dX8_openerAt_5 (fun r er => ?_)
  subst er
  refine lv_if_eq (tgt := 20) hx hb dX8_openerAt_8 (by decide) (fun c1 => ?_) (fun c1 => ?_)
  · refine lv_iconst (v := (-1)) hx hb dX8_openerAt_20 (by decide) ?_
    exact sx_ret hx hb hr hlk rfl (by simp only [s_X8_openerAt, if_pos c1]) dX8_openerAt_21
  · refine lv_aload_n hx hb dX8_openerAt_11 rfl (lv_at hl 0 rfl) ?_
    refine va_get (D := G.1) (ci := 8) (v := .ref w3) (C := RX8) (T := TX8) (N := 9) hx hb hts owX8 hown hK.1 hP 0 rfl rfl 3 (by decide) (bw0 (w := Cond.fieldLink RX8 22 "DropflagMill$Ways" "opener" "[I") hts 20 rfl) (fun _ h9 => h9) rfl dX8_openerAt_12 ?_
    refine lv_iload_n hx hb dX8_openerAt_15 rfl (lv_at hl 1 rfl) ?_
    refine va_iald hx hb hK.1 hP 2 0 rfl rfl (i := p1) (sx_in_lt (by decide) ⟨pn, by omega, rfl⟩ (sx_isLine c1).1 (sx_isLine c1).2) dX8_openerAt_16 ?_
    refine lv_goto (tgt := 21) hx hb dX8_openerAt_17 (by decide) ?_
    exact sx_ret hx hb hr hlk rfl (by simp only [s_X8_openerAt, if_neg c1]) dX8_openerAt_21

abbrev wdX8_lastOpen : List Cond := Cond.code yX8_lastOpen cX8_lastOpen 1 (some .int) :: bwC
def s_X8_lastOpen (wdp : Int32) (yst : Nat → Int32) : Int32 := if (s_X9_isIndexOf 34 (wdp - 1)) = 0 then (-1) else yst (wdp - 1).toNatClampNeg
set_option maxHeartbeats 4000000 in
set_option maxRecDepth 100000 in
theorem c_X8_lastOpen (l : Launch) (G : sxG) (o : Nat) (h : Nat) (w1 : Nat) (w2 : Nat) (w3 : Nat) (w4 : Nat) (w5 : Nat) (w6 : Nat) (wdp : Int32) (wwr : Int32) (yst : Nat → Int32)  : sxM l yX8_lastOpen wdX8_lastOpen 1 21 G [(o, .inr (8, [.ref h, .ref w1, .ref w2, .ref w3, .ref w4, .ref w5, .ref w6, .int wdp, .int wwr])), (w6, .inl (G.2.1, 34, .inl yst))] [.ref o] (fun r => r = s_X8_lastOpen wdp yst) := by
  refine sxM.of (cc := cX8_lastOpen) (maxL := 1) (by decide) rfl (Nat.le_of_ble_eq_true rfl) ?_
  intro p e s m args below meth c ⟨hx, hb, hr, hml, hown, hlk, hts, hK⟩ hP ls hl
  have hl : lv_has ls 1 [(0, .ref o)] := hl
  refine lv_aload_n hx hb dX8_lastOpen_0 rfl (lv_at hl 0 rfl) ?_
  refine va_get (D := G.1) (ci := 8) (v := .ref w6) (C := RX8) (T := TX8) (N := 9) hx hb hts owX8 hown hK.1 hP 0 rfl rfl 6 (by decide) (bw0 (w := Cond.fieldLink RX8 31 "DropflagMill$Ways" "open" "[I") hts 23 rfl) (fun _ h9 => h9) rfl dX8_lastOpen_1 ?_
  refine lv_aload_n hx hb dX8_lastOpen_4 rfl (lv_at hl 0 rfl) ?_
  refine va_get (D := G.1) (ci := 8) (v := .int wdp) (C := RX8) (T := TX8) (N := 9) hx hb hts owX8 hown hK.1 hP 0 rfl rfl 7 (by decide) (bw0 (w := Cond.fieldLink RX8 34 "DropflagMill$Ways" "depth" "I") hts 24 rfl) (fun _ h9 => h9) rfl dX8_lastOpen_5 ?_
  refine lv_iconst (v := 1) hx hb dX8_lastOpen_8 (by decide) ?_
  refine lv_isub hx hb dX8_lastOpen_9 ?_
  refine sx_sn (As := [.ref w6, .int (wdp - 1)]) (rest := []) hx hb hml hown hts (c_X9_isIndexOf l G w6 34 yst (wdp - 1) ) 2 (sxGC (bi2 (w := Cond.code yX9_isIndexOf cX9_isIndexOf 2 (some .boolean)) 17 rfl)) rfl (hK.2.at 3 rfl) (List.mem_cons_of_mem _ (bi1 (w := Cond.initialized RX9) 58 rfl)) (List.mem_cons_of_mem _ (bi2 (w := Cond.static yX9_isIndexOf) 21 rfl)) (by decide +kernel) ⟨Nat.le_of_ble_eq_true rfl, Nat.le_of_ble_eq_true rfl⟩ hK hP [1] rfl rfl hl rfl (Nat.le_of_ble_eq_true rfl) ⟨Nat.zero_le _, Nat.zero_le _⟩ dX8_lastOpen_10 (fun r er => ?_)
  subst er
  refine lv_if_eq (tgt := 30) hx hb dX8_lastOpen_13 (by decide) (fun c1 => ?_) (fun c1 => ?_)
  · refine lv_iconst (v := (-1)) hx hb dX8_lastOpen_30 (by decide) ?_
    exact sx_ret hx hb hr hlk rfl (by simp only [s_X8_lastOpen, if_pos c1]) dX8_lastOpen_31
  · refine lv_aload_n hx hb dX8_lastOpen_16 rfl (lv_at hl 0 rfl) ?_
    refine va_get (D := G.1) (ci := 8) (v := .ref w6) (C := RX8) (T := TX8) (N := 9) hx hb hts owX8 hown hK.1 hP 0 rfl rfl 6 (by decide) (bw0 (w := Cond.fieldLink RX8 31 "DropflagMill$Ways" "open" "[I") hts 23 rfl) (fun _ h9 => h9) rfl dX8_lastOpen_17 ?_
    refine lv_aload_n hx hb dX8_lastOpen_20 rfl (lv_at hl 0 rfl) ?_
    refine va_get (D := G.1) (ci := 8) (v := .int wdp) (C := RX8) (T := TX8) (N := 9) hx hb hts owX8 hown hK.1 hP 0 rfl rfl 7 (by decide) (bw0 (w := Cond.fieldLink RX8 34 "DropflagMill$Ways" "depth" "I") hts 24 rfl) (fun _ h9 => h9) rfl dX8_lastOpen_21 ?_
    refine lv_iconst (v := 1) hx hb dX8_lastOpen_24 (by decide) ?_
    refine lv_isub hx hb dX8_lastOpen_25 ?_
    refine va_iald hx hb hK.1 hP 1 0 rfl rfl (i := wdp - 1) (sx_in_ix (by decide) c1) dX8_lastOpen_26 ?_
    refine lv_goto (tgt := 31) hx hb dX8_lastOpen_27 (by decide) ?_
    exact sx_ret hx hb hr hlk rfl (by simp only [s_X8_lastOpen, if_neg c1]) dX8_lastOpen_31

abbrev wdX8_isMatched : List Cond := Cond.code yX8_isMatched cX8_isMatched 4 (some .boolean) :: bwC
def s_X8_isMatched (wdp : Int32) (yop : Nat → Int32) (yel : Nat → Int32) (yen : Nat → Int32) (yst : Nat → Int32) (pn : Nat) (fs : Nat → Int32) (p1 : Int32) : ((Nat → Int32) × (Nat → Int32) × (Nat → Int32) × (Nat → Int32) × Int32) × Int32 := if (s_X5_sortAt pn fs p1) = 8 then (if (s_X9_isIndexOf 34 wdp) = 0 then ((yop, yel, yen, yst, wdp), 1) else ((yop, yel, yen, upd yst wdp.toNatClampNeg p1, wdp + 1), 1)) else (if (s_X5_sortAt pn fs p1) = 10 then (if (s_X9_isIndexOf 34 wdp) = 0 then ((yop, yel, yen, yst, wdp), 1) else ((yop, yel, yen, upd yst wdp.toNatClampNeg p1, wdp + 1), 1)) else (if (s_X5_sortAt pn fs p1) = 9 then (if (s_X9_isIndexOf 34 p1) = 0 then ((yop, yel, yen, yst, wdp), 0) else (if (s_X9_isIndexOf 34 (s_X8_lastOpen wdp yst)) = 0 then ((yop, yel, yen, yst, wdp), 0) else (if (s_X5_sortAt pn fs (s_X8_lastOpen wdp yst)) = 8 then (if (yel (s_X8_lastOpen wdp yst).toNatClampNeg) = (-1) then ((upd yop p1.toNatClampNeg (s_X8_lastOpen wdp yst), upd yel (s_X8_lastOpen wdp yst).toNatClampNeg p1, yen, yst, wdp), 1) else ((yop, yel, yen, yst, wdp), 0)) else ((yop, yel, yen, yst, wdp), 0)))) else (if (s_X5_sortAt pn fs p1) = 11 then (if (s_X9_isIndexOf 34 p1) = 0 then ((yop, yel, yen, yst, wdp), 0) else (if (s_X9_isIndexOf 34 (s_X8_lastOpen wdp yst)) = 0 then ((yop, yel, yen, yst, wdp), 0) else ((upd yop p1.toNatClampNeg (s_X8_lastOpen wdp yst), yel, upd yen (s_X8_lastOpen wdp yst).toNatClampNeg p1, yst, wdp - 1), 1))) else ((yop, yel, yen, yst, wdp), 1))))
set_option maxHeartbeats 4000000 in
set_option maxRecDepth 100000 in
theorem c_X8_isMatched (l : Launch) (G : sxG) (o : Nat) (h : Nat) (w1 : Nat) (w2 : Nat) (w3 : Nat) (w4 : Nat) (w5 : Nat) (w6 : Nat) (wdp : Int32) (wwr : Int32) (yop : Nat → Int32) (yel : Nat → Int32) (yen : Nat → Int32) (yst : Nat → Int32) (k0 : Nat) (k1 : Nat) (k2 : Nat) (k3 : Nat) (pv : Nat) (pn : Nat) (fs : Nat → Int32) (p1 : Int32) (hn : pn ≤ 33) : sxC l yX8_isMatched wdX8_isMatched 2 42 G [(o, .inr (8, [.ref h, .ref w1, .ref w2, .ref w3, .ref w4, .ref w5, .ref w6, .int wdp, .int wwr])), (w3, .inl (G.2.1, 34, .inl yop)), (w4, .inl (G.2.1, 34, .inl yel)), (w5, .inl (G.2.1, 34, .inl yen)), (w6, .inl (G.2.1, 34, .inl yst)), (h, .inr (5, [.ref k0, .ref k1, .ref k2, .ref k3, .int (nI pv), .int (nI pn)])), (k1, .inl (G.2.1, 34, .inl fs))] [.ref o, .int p1] (fun u : (Nat → Int32) × (Nat → Int32) × (Nat → Int32) × (Nat → Int32) × Int32 => ([(o, .inr (8, [.ref h, .ref w1, .ref w2, .ref w3, .ref w4, .ref w5, .ref w6, .int u.2.2.2.2, .int wwr])), (w3, .inl (G.2.1, 34, .inl u.1)), (w4, .inl (G.2.1, 34, .inl u.2.1)), (w5, .inl (G.2.1, 34, .inl u.2.2.1)), (w6, .inl (G.2.1, 34, .inl u.2.2.2.1)), (h, .inr (5, [.ref k0, .ref k1, .ref k2, .ref k3, .int (nI pv), .int (nI pn)])), (k1, .inl (G.2.1, 34, .inl fs))] : va_W)) (s_X8_isMatched wdp yop yel yen yst pn fs p1) := by
  refine sxC.of (cc := cX8_isMatched) (maxL := 4) (by decide) rfl (Nat.le_of_ble_eq_true rfl) ?_
  intro p e s m args below meth c ⟨hx, hb, hr, hml, hown, hlk, hts, hK⟩ A hA hP hD hS ls hl
  have hl : lv_has ls 4 [(0, .ref o), (1, .int p1)] := hl
  refine lv_aload_n hx hb dX8_isMatched_0 rfl (lv_at hl 0 rfl) ?_
  refine va_get (D := G.1) (ci := 8) (v := .ref h) (C := RX8) (T := TX8) (N := 9) hx hb hts owX8 hown hK.1 hP 0 rfl rfl 0 (by decide) (bw0 (w := Cond.fieldLink RX8 9 "DropflagMill$Ways" "program" "LDropflagMill$Program;") hts 17 rfl) (fun _ h9 => h9) rfl dX8_isMatched_1 ?_
  refine lv_iload_n hx hb dX8_isMatched_4 rfl (lv_at hl 1 rfl) ?_
  refine sx_v (As := [.int p1]) (rest := []) hx hb hml hown hts (c_X5_sortAt l G h k0 k1 k2 k3 pv pn fs p1 (by omega)) 1 (sxGV (bi2 (w := Cond.methodLink RX8 75 yX5_sortAt) 25 rfl) (bi1 (w := Cond.instanceMethod yX5_sortAt) 37 rfl) (bi1 (w := Cond.selects RX5 yX5_sortAt yX5_sortAt) 38 rfl) (bi1 (w := Cond.initialized RX5) 30 rfl) (bi1 (w := Cond.code yX5_sortAt cX5_sortAt 2 (some .int)) 25 rfl)) rfl (by decide +kernel) ⟨Nat.le_of_ble_eq_true rfl, Nat.le_of_ble_eq_true rfl⟩ hK hP [5, 6] rfl 0 rfl rfl rfl hl rfl (Nat.le_of_ble_eq_true rfl) ⟨Nat.zero_le _, Nat.zero_le _⟩ dX8_isMatched_5 (fun r er => ?_)
  subst er
  refine lv_istore_n (lv' := [(2, .int (s_X5_sortAt pn fs p1)), (0, .ref o), (1, .int p1)]) hx hb dX8_isMatched_8 rfl hl (by decide) rfl (fun ls hl => ?_)
  refine lv_iload_n hx hb dX8_isMatched_9 rfl (lv_at hl 0 rfl) ?_
  refine lv_bipush (v := 8) hx hb dX8_isMatched_10 (by decide) ?_
  refine lv_icmp_eq (tgt := 21) hx hb dX8_isMatched_12 (by decide) (fun c1 => ?_) (fun c1 => ?_)
  · refine lv_aload_n hx hb dX8_isMatched_21 rfl (lv_at hl 1 rfl) ?_
    refine va_get (D := G.1) (ci := 8) (v := .ref w6) (C := RX8) (T := TX8) (N := 9) hx hb hts owX8 hown hK.1 hP 0 rfl rfl 6 (by decide) (bw0 (w := Cond.fieldLink RX8 31 "DropflagMill$Ways" "open" "[I") hts 23 rfl) (fun _ h9 => h9) rfl dX8_isMatched_22 ?_
    refine lv_aload_n hx hb dX8_isMatched_25 rfl (lv_at hl 1 rfl) ?_
    refine va_get (D := G.1) (ci := 8) (v := .int wdp) (C := RX8) (T := TX8) (N := 9) hx hb hts owX8 hown hK.1 hP 0 rfl rfl 7 (by decide) (bw0 (w := Cond.fieldLink RX8 34 "DropflagMill$Ways" "depth" "I") hts 24 rfl) (fun _ h9 => h9) rfl dX8_isMatched_26 ?_
    refine sx_sn (As := [.ref w6, .int wdp]) (rest := []) hx hb hml hown hts (c_X9_isIndexOf l G w6 34 yst wdp ) 2 (sxGC (bi2 (w := Cond.code yX9_isIndexOf cX9_isIndexOf 2 (some .boolean)) 17 rfl)) rfl (hK.2.at 3 rfl) (List.mem_cons_of_mem _ (bi1 (w := Cond.initialized RX9) 58 rfl)) (List.mem_cons_of_mem _ (bi2 (w := Cond.static yX9_isIndexOf) 21 rfl)) (by decide +kernel) ⟨Nat.le_of_ble_eq_true rfl, Nat.le_of_ble_eq_true rfl⟩ hK hP [4] rfl rfl hl rfl (Nat.le_of_ble_eq_true rfl) ⟨Nat.zero_le _, Nat.zero_le _⟩ dX8_isMatched_29 (fun r er => ?_)
    subst er
    refine lv_if_eq (tgt := 55) hx hb dX8_isMatched_32 (by decide) (fun c2 => ?_) (fun c2 => ?_)
    · refine lv_iconst (v := 1) hx hb dX8_isMatched_55 (by decide) ?_
      exact sx_retI (u := (yop, yel, yen, yst, wdp)) hx hb hr hlk hK hP hD hS rfl (by simp only [s_X8_isMatched, if_pos c1, if_pos c2]) (by simp only [s_X8_isMatched, if_pos c1, if_pos c2]) dX8_isMatched_56
    · refine lv_aload_n hx hb dX8_isMatched_35 rfl (lv_at hl 1 rfl) ?_
      refine va_get (D := G.1) (ci := 8) (v := .ref w6) (C := RX8) (T := TX8) (N := 9) hx hb hts owX8 hown hK.1 hP 0 rfl rfl 6 (by decide) (bw0 (w := Cond.fieldLink RX8 31 "DropflagMill$Ways" "open" "[I") hts 23 rfl) (fun _ h9 => h9) rfl dX8_isMatched_36 ?_
      refine lv_aload_n hx hb dX8_isMatched_39 rfl (lv_at hl 1 rfl) ?_
      refine va_get (D := G.1) (ci := 8) (v := .int wdp) (C := RX8) (T := TX8) (N := 9) hx hb hts owX8 hown hK.1 hP 0 rfl rfl 7 (by decide) (bw0 (w := Cond.fieldLink RX8 34 "DropflagMill$Ways" "depth" "I") hts 24 rfl) (fun _ h9 => h9) rfl dX8_isMatched_40 ?_
      refine lv_iload_n hx hb dX8_isMatched_43 rfl (lv_at hl 2 rfl) ?_
      refine va_iast hx hb hK.1 hP hD hS 4 0 rfl rfl (i := wdp) (sx_in_ix (by decide) c2) dX8_isMatched_44 (fun H locs hP hD hS => ?_)
      have hP : va_P G.1 vwCl [(o, .inr (8, [.ref h, .ref w1, .ref w2, .ref w3, .ref w4, .ref w5, .ref w6, .int wdp, .int wwr])), (w3, .inl (G.2.1, 34, .inl yop)), (w4, .inl (G.2.1, 34, .inl yel)), (w5, .inl (G.2.1, 34, .inl yen)), (w6, .inl (G.2.1, 34, .inl (upd yst wdp.toNatClampNeg p1))), (h, .inr (5, [.ref k0, .ref k1, .ref k2, .ref k3, .int (nI pv), .int (nI pn)])), (k1, .inl (G.2.1, 34, .inl fs))] H := hP
      have hD : va_D A [(o, .inr (8, [.ref h, .ref w1, .ref w2, .ref w3, .ref w4, .ref w5, .ref w6, .int wdp, .int wwr])), (w3, .inl (G.2.1, 34, .inl yop)), (w4, .inl (G.2.1, 34, .inl yel)), (w5, .inl (G.2.1, 34, .inl yen)), (w6, .inl (G.2.1, 34, .inl (upd yst wdp.toNatClampNeg p1))), (h, .inr (5, [.ref k0, .ref k1, .ref k2, .ref k3, .int (nI pv), .int (nI pn)])), (k1, .inl (G.2.1, 34, .inl fs))] := hD
      refine lv_aload_n hx hb dX8_isMatched_45 rfl (lv_at hl 1 rfl) ?_
      refine lv_dup hx hb dX8_isMatched_46 rfl ?_
      refine va_get (D := G.1) (ci := 8) (v := .int wdp) (C := RX8) (T := TX8) (N := 9) hx hb hts owX8 hown hK.1 hP 0 rfl rfl 7 (by decide) (bw0 (w := Cond.fieldLink RX8 34 "DropflagMill$Ways" "depth" "I") hts 24 rfl) (fun _ h9 => h9) rfl dX8_isMatched_47 ?_
      refine lv_iconst (v := 1) hx hb dX8_isMatched_50 (by decide) ?_
      refine lv_iadd hx hb dX8_isMatched_51 ?_
      refine va_put (D := G.1) (ci := 8) (v := .int (wdp + 1)) (ty := .int) (C := RX8) (T := TX8) (N := 9) hx hb hts owX8 tyX8 tyX8_ok nmX8 hown hK.1 hP hD hS 0 rfl rfl 7 (by decide) (bw0 (w := Cond.fieldLink RX8 34 "DropflagMill$Ways" "depth" "I") hts 24 rfl) (fun _ h9 => h9) rfl (by decide +kernel) rfl rfl (Nat.le_of_ble_eq_true rfl) dX8_isMatched_52 (fun H locs hP hD hS => ?_)
      have hP : va_P G.1 vwCl [(o, .inr (8, [.ref h, .ref w1, .ref w2, .ref w3, .ref w4, .ref w5, .ref w6, .int (wdp + 1), .int wwr])), (w3, .inl (G.2.1, 34, .inl yop)), (w4, .inl (G.2.1, 34, .inl yel)), (w5, .inl (G.2.1, 34, .inl yen)), (w6, .inl (G.2.1, 34, .inl (upd yst wdp.toNatClampNeg p1))), (h, .inr (5, [.ref k0, .ref k1, .ref k2, .ref k3, .int (nI pv), .int (nI pn)])), (k1, .inl (G.2.1, 34, .inl fs))] H := hP
      have hD : va_D A [(o, .inr (8, [.ref h, .ref w1, .ref w2, .ref w3, .ref w4, .ref w5, .ref w6, .int (wdp + 1), .int wwr])), (w3, .inl (G.2.1, 34, .inl yop)), (w4, .inl (G.2.1, 34, .inl yel)), (w5, .inl (G.2.1, 34, .inl yen)), (w6, .inl (G.2.1, 34, .inl (upd yst wdp.toNatClampNeg p1))), (h, .inr (5, [.ref k0, .ref k1, .ref k2, .ref k3, .int (nI pv), .int (nI pn)])), (k1, .inl (G.2.1, 34, .inl fs))] := hD
      refine lv_iconst (v := 1) hx hb dX8_isMatched_55 (by decide) ?_
      exact sx_retI (u := (yop, yel, yen, upd yst wdp.toNatClampNeg p1, wdp + 1)) hx hb hr hlk hK hP hD hS rfl (by simp only [s_X8_isMatched, if_pos c1, if_neg c2]) (by simp only [s_X8_isMatched, if_pos c1, if_neg c2]) dX8_isMatched_56
  · refine lv_iload_n hx hb dX8_isMatched_15 rfl (lv_at hl 0 rfl) ?_
    refine lv_bipush (v := 10) hx hb dX8_isMatched_16 (by decide) ?_
    refine lv_icmp_ne (tgt := 57) hx hb dX8_isMatched_18 (by decide) (fun c3 => ?_) (fun c3 => ?_)
    · refine lv_iload_n hx hb dX8_isMatched_57 rfl (lv_at hl 0 rfl) ?_
      refine lv_bipush (v := 9) hx hb dX8_isMatched_58 (by decide) ?_
      refine lv_icmp_eq (tgt := 71) hx hb dX8_isMatched_60 (by decide) (fun c4 => ?_) (fun c4 => ?_)
      · refine lv_aload_n hx hb dX8_isMatched_71 rfl (lv_at hl 1 rfl) ?_
        refine sx_v (As := []) (rest := []) hx hb hml hown hts (c_X8_lastOpen l G o h w1 w2 w3 w4 w5 w6 wdp wwr yst ) 0 (sxGV (bi2 (w := Cond.methodLink RX8 63 yX8_lastOpen) 26 rfl) (bi2 (w := Cond.instanceMethod yX8_lastOpen) 27 rfl) (bi2 (w := Cond.selects RX8 yX8_lastOpen yX8_lastOpen) 28 rfl) (bi0 (w := Cond.initialized RX8) 50 rfl) (bi2 (w := Cond.code yX8_lastOpen cX8_lastOpen 1 (some .int)) 24 rfl)) rfl (by decide +kernel) ⟨Nat.le_of_ble_eq_true rfl, Nat.le_of_ble_eq_true rfl⟩ hK hP [0, 4] rfl 0 rfl rfl rfl hl rfl (Nat.le_of_ble_eq_true rfl) ⟨Nat.zero_le _, Nat.zero_le _⟩ dX8_isMatched_72 (fun r er => ?_)
        subst er
        refine lv_istore_n (lv' := [(3, .int (s_X8_lastOpen wdp yst)), (2, .int (s_X5_sortAt pn fs p1)), (0, .ref o), (1, .int p1)]) hx hb dX8_isMatched_75 rfl hl (by decide) rfl (fun ls hl => ?_)
        refine lv_aload_n hx hb dX8_isMatched_76 rfl (lv_at hl 2 rfl) ?_
        refine va_get (D := G.1) (ci := 8) (v := .ref w3) (C := RX8) (T := TX8) (N := 9) hx hb hts owX8 hown hK.1 hP 0 rfl rfl 3 (by decide) (bw0 (w := Cond.fieldLink RX8 22 "DropflagMill$Ways" "opener" "[I") hts 20 rfl) (fun _ h9 => h9) rfl dX8_isMatched_77 ?_
        refine lv_iload_n hx hb dX8_isMatched_80 rfl (lv_at hl 3 rfl) ?_
        refine sx_sn (As := [.ref w3, .int p1]) (rest := []) hx hb hml hown hts (c_X9_isIndexOf l G w3 34 yop p1 ) 2 (sxGC (bi2 (w := Cond.code yX9_isIndexOf cX9_isIndexOf 2 (some .boolean)) 17 rfl)) rfl (hK.2.at 3 rfl) (List.mem_cons_of_mem _ (bi1 (w := Cond.initialized RX9) 58 rfl)) (List.mem_cons_of_mem _ (bi2 (w := Cond.static yX9_isIndexOf) 21 rfl)) (by decide +kernel) ⟨Nat.le_of_ble_eq_true rfl, Nat.le_of_ble_eq_true rfl⟩ hK hP [1] rfl rfl hl rfl (Nat.le_of_ble_eq_true rfl) ⟨Nat.zero_le _, Nat.zero_le _⟩ dX8_isMatched_81 (fun r er => ?_)
        subst er
        refine lv_if_eq (tgt := 98) hx hb dX8_isMatched_84 (by decide) (fun c5 => ?_) (fun c5 => ?_)
        · refine lv_iconst (v := 0) hx hb dX8_isMatched_98 (by decide) ?_
          exact sx_retI (u := (yop, yel, yen, yst, wdp)) hx hb hr hlk hK hP hD hS rfl (by simp only [s_X8_isMatched, if_neg c1, if_neg c3, if_pos c4, if_pos c5]) (by simp only [s_X8_isMatched, if_neg c1, if_neg c3, if_pos c4, if_pos c5]) dX8_isMatched_99
        · refine lv_aload_n hx hb dX8_isMatched_87 rfl (lv_at hl 2 rfl) ?_
          refine va_get (D := G.1) (ci := 8) (v := .ref w4) (C := RX8) (T := TX8) (N := 9) hx hb hts owX8 hown hK.1 hP 0 rfl rfl 4 (by decide) (bw0 (w := Cond.fieldLink RX8 25 "DropflagMill$Ways" "elseOf" "[I") hts 21 rfl) (fun _ h9 => h9) rfl dX8_isMatched_88 ?_
          refine lv_iload_n hx hb dX8_isMatched_91 rfl (lv_at hl 0 rfl) ?_
          refine sx_sn (As := [.ref w4, .int (s_X8_lastOpen wdp yst)]) (rest := []) hx hb hml hown hts (c_X9_isIndexOf l G w4 34 yel (s_X8_lastOpen wdp yst) ) 2 (sxGC (bi2 (w := Cond.code yX9_isIndexOf cX9_isIndexOf 2 (some .boolean)) 17 rfl)) rfl (hK.2.at 3 rfl) (List.mem_cons_of_mem _ (bi1 (w := Cond.initialized RX9) 58 rfl)) (List.mem_cons_of_mem _ (bi2 (w := Cond.static yX9_isIndexOf) 21 rfl)) (by decide +kernel) ⟨Nat.le_of_ble_eq_true rfl, Nat.le_of_ble_eq_true rfl⟩ hK hP [2] rfl rfl hl rfl (Nat.le_of_ble_eq_true rfl) ⟨Nat.zero_le _, Nat.zero_le _⟩ dX8_isMatched_92 (fun r er => ?_)
          subst er
          refine lv_if_ne (tgt := 100) hx hb dX8_isMatched_95 (by decide) (fun c6 => ?_) (fun c6 => ?_)
          · refine lv_iload_n hx hb dX8_isMatched_100 rfl (lv_at hl 1 rfl) ?_
            refine lv_bipush (v := 9) hx hb dX8_isMatched_101 (by decide) ?_
            refine lv_icmp_ne (tgt := 141) hx hb dX8_isMatched_103 (by decide) (fun c7 => absurd c4 c7) (fun c7 => ?_)
            refine lv_aload_n hx hb dX8_isMatched_106 rfl (lv_at hl 2 rfl) ?_
            refine va_get (D := G.1) (ci := 8) (v := .ref h) (C := RX8) (T := TX8) (N := 9) hx hb hts owX8 hown hK.1 hP 0 rfl rfl 0 (by decide) (bw0 (w := Cond.fieldLink RX8 9 "DropflagMill$Ways" "program" "LDropflagMill$Program;") hts 17 rfl) (fun _ h9 => h9) rfl dX8_isMatched_107 ?_
            refine lv_iload_n hx hb dX8_isMatched_110 rfl (lv_at hl 0 rfl) ?_
            refine sx_v (As := [.int (s_X8_lastOpen wdp yst)]) (rest := []) hx hb hml hown hts (c_X5_sortAt l G h k0 k1 k2 k3 pv pn fs (s_X8_lastOpen wdp yst) (by omega)) 1 (sxGV (bi2 (w := Cond.methodLink RX8 75 yX5_sortAt) 25 rfl) (bi1 (w := Cond.instanceMethod yX5_sortAt) 37 rfl) (bi1 (w := Cond.selects RX5 yX5_sortAt yX5_sortAt) 38 rfl) (bi1 (w := Cond.initialized RX5) 30 rfl) (bi1 (w := Cond.code yX5_sortAt cX5_sortAt 2 (some .int)) 25 rfl)) rfl (by decide +kernel) ⟨Nat.le_of_ble_eq_true rfl, Nat.le_of_ble_eq_true rfl⟩ hK hP [5, 6] rfl 0 rfl rfl rfl hl rfl (Nat.le_of_ble_eq_true rfl) ⟨Nat.zero_le _, Nat.zero_le _⟩ dX8_isMatched_111 (fun r er => ?_)
            subst er
            refine lv_bipush (v := 8) hx hb dX8_isMatched_114 (by decide) ?_
            refine lv_icmp_ne (tgt := 129) hx hb dX8_isMatched_116 (by decide) (fun c8 => ?_) (fun c8 => ?_)
            · refine lv_iconst (v := 0) hx hb dX8_isMatched_129 (by decide) ?_
              exact sx_retI (u := (yop, yel, yen, yst, wdp)) hx hb hr hlk hK hP hD hS rfl (by simp only [s_X8_isMatched, if_neg c1, if_neg c3, if_pos c4, if_neg c5, if_neg c6, if_neg c8]) (by simp only [s_X8_isMatched, if_neg c1, if_neg c3, if_pos c4, if_neg c5, if_neg c6, if_neg c8]) dX8_isMatched_130
            · refine lv_aload_n hx hb dX8_isMatched_119 rfl (lv_at hl 2 rfl) ?_
              refine va_get (D := G.1) (ci := 8) (v := .ref w4) (C := RX8) (T := TX8) (N := 9) hx hb hts owX8 hown hK.1 hP 0 rfl rfl 4 (by decide) (bw0 (w := Cond.fieldLink RX8 25 "DropflagMill$Ways" "elseOf" "[I") hts 21 rfl) (fun _ h9 => h9) rfl dX8_isMatched_120 ?_
              refine lv_iload_n hx hb dX8_isMatched_123 rfl (lv_at hl 0 rfl) ?_
              refine va_iald hx hb hK.1 hP 2 0 rfl rfl (i := s_X8_lastOpen wdp yst) (sx_in_ix (by decide) c6) dX8_isMatched_124 ?_
              refine lv_iconst (v := (-1)) hx hb dX8_isMatched_125 (by decide) ?_
              refine lv_icmp_eq (tgt := 131) hx hb dX8_isMatched_126 (by decide) (fun c9 => ?_) (fun c9 => ?_)
              · refine lv_aload_n hx hb dX8_isMatched_131 rfl (lv_at hl 2 rfl) ?_
                refine va_get (D := G.1) (ci := 8) (v := .ref w4) (C := RX8) (T := TX8) (N := 9) hx hb hts owX8 hown hK.1 hP 0 rfl rfl 4 (by decide) (bw0 (w := Cond.fieldLink RX8 25 "DropflagMill$Ways" "elseOf" "[I") hts 21 rfl) (fun _ h9 => h9) rfl dX8_isMatched_132 ?_
                refine lv_iload_n hx hb dX8_isMatched_135 rfl (lv_at hl 0 rfl) ?_
                refine lv_iload_n hx hb dX8_isMatched_136 rfl (lv_at hl 3 rfl) ?_
                refine va_iast hx hb hK.1 hP hD hS 2 0 rfl rfl (i := s_X8_lastOpen wdp yst) (sx_in_ix (by decide) c6) dX8_isMatched_137 (fun H locs hP hD hS => ?_)
                have hP : va_P G.1 vwCl [(o, .inr (8, [.ref h, .ref w1, .ref w2, .ref w3, .ref w4, .ref w5, .ref w6, .int wdp, .int wwr])), (w3, .inl (G.2.1, 34, .inl yop)), (w4, .inl (G.2.1, 34, .inl (upd yel (s_X8_lastOpen wdp yst).toNatClampNeg p1))), (w5, .inl (G.2.1, 34, .inl yen)), (w6, .inl (G.2.1, 34, .inl yst)), (h, .inr (5, [.ref k0, .ref k1, .ref k2, .ref k3, .int (nI pv), .int (nI pn)])), (k1, .inl (G.2.1, 34, .inl fs))] H := hP
                have hD : va_D A [(o, .inr (8, [.ref h, .ref w1, .ref w2, .ref w3, .ref w4, .ref w5, .ref w6, .int wdp, .int wwr])), (w3, .inl (G.2.1, 34, .inl yop)), (w4, .inl (G.2.1, 34, .inl (upd yel (s_X8_lastOpen wdp yst).toNatClampNeg p1))), (w5, .inl (G.2.1, 34, .inl yen)), (w6, .inl (G.2.1, 34, .inl yst)), (h, .inr (5, [.ref k0, .ref k1, .ref k2, .ref k3, .int (nI pv), .int (nI pn)])), (k1, .inl (G.2.1, 34, .inl fs))] := hD
                refine lv_goto (tgt := 158) hx hb dX8_isMatched_138 (by decide) ?_
                refine lv_aload_n hx hb dX8_isMatched_158 rfl (lv_at hl 2 rfl) ?_
                refine va_get (D := G.1) (ci := 8) (v := .ref w3) (C := RX8) (T := TX8) (N := 9) hx hb hts owX8 hown hK.1 hP 0 rfl rfl 3 (by decide) (bw0 (w := Cond.fieldLink RX8 22 "DropflagMill$Ways" "opener" "[I") hts 20 rfl) (fun _ h9 => h9) rfl dX8_isMatched_159 ?_
                refine lv_iload_n hx hb dX8_isMatched_162 rfl (lv_at hl 3 rfl) ?_
                refine lv_iload_n hx hb dX8_isMatched_163 rfl (lv_at hl 0 rfl) ?_
                refine va_iast hx hb hK.1 hP hD hS 1 0 rfl rfl (i := p1) (sx_in_ix (by decide) c5) dX8_isMatched_164 (fun H locs hP hD hS => ?_)
                have hP : va_P G.1 vwCl [(o, .inr (8, [.ref h, .ref w1, .ref w2, .ref w3, .ref w4, .ref w5, .ref w6, .int wdp, .int wwr])), (w3, .inl (G.2.1, 34, .inl (upd yop p1.toNatClampNeg (s_X8_lastOpen wdp yst)))), (w4, .inl (G.2.1, 34, .inl (upd yel (s_X8_lastOpen wdp yst).toNatClampNeg p1))), (w5, .inl (G.2.1, 34, .inl yen)), (w6, .inl (G.2.1, 34, .inl yst)), (h, .inr (5, [.ref k0, .ref k1, .ref k2, .ref k3, .int (nI pv), .int (nI pn)])), (k1, .inl (G.2.1, 34, .inl fs))] H := hP
                have hD : va_D A [(o, .inr (8, [.ref h, .ref w1, .ref w2, .ref w3, .ref w4, .ref w5, .ref w6, .int wdp, .int wwr])), (w3, .inl (G.2.1, 34, .inl (upd yop p1.toNatClampNeg (s_X8_lastOpen wdp yst)))), (w4, .inl (G.2.1, 34, .inl (upd yel (s_X8_lastOpen wdp yst).toNatClampNeg p1))), (w5, .inl (G.2.1, 34, .inl yen)), (w6, .inl (G.2.1, 34, .inl yst)), (h, .inr (5, [.ref k0, .ref k1, .ref k2, .ref k3, .int (nI pv), .int (nI pn)])), (k1, .inl (G.2.1, 34, .inl fs))] := hD
                refine lv_iconst (v := 1) hx hb dX8_isMatched_165 (by decide) ?_
                exact sx_retI (u := (upd yop p1.toNatClampNeg (s_X8_lastOpen wdp yst), upd yel (s_X8_lastOpen wdp yst).toNatClampNeg p1, yen, yst, wdp)) hx hb hr hlk hK hP hD hS rfl (by simp only [s_X8_isMatched, if_neg c1, if_neg c3, if_pos c4, if_neg c5, if_neg c6, if_pos c8, if_pos c9]) (by simp only [s_X8_isMatched, if_neg c1, if_neg c3, if_pos c4, if_neg c5, if_neg c6, if_pos c8, if_pos c9]) dX8_isMatched_166
              · refine lv_iconst (v := 0) hx hb dX8_isMatched_129 (by decide) ?_
                exact sx_retI (u := (yop, yel, yen, yst, wdp)) hx hb hr hlk hK hP hD hS rfl (by simp only [s_X8_isMatched, if_neg c1, if_neg c3, if_pos c4, if_neg c5, if_neg c6, if_pos c8, if_neg c9]) (by simp only [s_X8_isMatched, if_neg c1, if_neg c3, if_pos c4, if_neg c5, if_neg c6, if_pos c8, if_neg c9]) dX8_isMatched_130
          · refine lv_iconst (v := 0) hx hb dX8_isMatched_98 (by decide) ?_
            exact sx_retI (u := (yop, yel, yen, yst, wdp)) hx hb hr hlk hK hP hD hS rfl (by simp only [s_X8_isMatched, if_neg c1, if_neg c3, if_pos c4, if_neg c5, if_pos c6]) (by simp only [s_X8_isMatched, if_neg c1, if_neg c3, if_pos c4, if_neg c5, if_pos c6]) dX8_isMatched_99
      · refine lv_iload_n hx hb dX8_isMatched_63 rfl (lv_at hl 0 rfl) ?_
        refine lv_bipush (v := 11) hx hb dX8_isMatched_64 (by decide) ?_
        refine lv_icmp_eq (tgt := 71) hx hb dX8_isMatched_66 (by decide) (fun c10 => ?_) (fun c10 => ?_)
        · refine lv_aload_n hx hb dX8_isMatched_71 rfl (lv_at hl 1 rfl) ?_
          refine sx_v (As := []) (rest := []) hx hb hml hown hts (c_X8_lastOpen l G o h w1 w2 w3 w4 w5 w6 wdp wwr yst ) 0 (sxGV (bi2 (w := Cond.methodLink RX8 63 yX8_lastOpen) 26 rfl) (bi2 (w := Cond.instanceMethod yX8_lastOpen) 27 rfl) (bi2 (w := Cond.selects RX8 yX8_lastOpen yX8_lastOpen) 28 rfl) (bi0 (w := Cond.initialized RX8) 50 rfl) (bi2 (w := Cond.code yX8_lastOpen cX8_lastOpen 1 (some .int)) 24 rfl)) rfl (by decide +kernel) ⟨Nat.le_of_ble_eq_true rfl, Nat.le_of_ble_eq_true rfl⟩ hK hP [0, 4] rfl 0 rfl rfl rfl hl rfl (Nat.le_of_ble_eq_true rfl) ⟨Nat.zero_le _, Nat.zero_le _⟩ dX8_isMatched_72 (fun r er => ?_)
          subst er
          refine lv_istore_n (lv' := [(3, .int (s_X8_lastOpen wdp yst)), (2, .int (s_X5_sortAt pn fs p1)), (0, .ref o), (1, .int p1)]) hx hb dX8_isMatched_75 rfl hl (by decide) rfl (fun ls hl => ?_)
          refine lv_aload_n hx hb dX8_isMatched_76 rfl (lv_at hl 2 rfl) ?_
          refine va_get (D := G.1) (ci := 8) (v := .ref w3) (C := RX8) (T := TX8) (N := 9) hx hb hts owX8 hown hK.1 hP 0 rfl rfl 3 (by decide) (bw0 (w := Cond.fieldLink RX8 22 "DropflagMill$Ways" "opener" "[I") hts 20 rfl) (fun _ h9 => h9) rfl dX8_isMatched_77 ?_
          refine lv_iload_n hx hb dX8_isMatched_80 rfl (lv_at hl 3 rfl) ?_
          refine sx_sn (As := [.ref w3, .int p1]) (rest := []) hx hb hml hown hts (c_X9_isIndexOf l G w3 34 yop p1 ) 2 (sxGC (bi2 (w := Cond.code yX9_isIndexOf cX9_isIndexOf 2 (some .boolean)) 17 rfl)) rfl (hK.2.at 3 rfl) (List.mem_cons_of_mem _ (bi1 (w := Cond.initialized RX9) 58 rfl)) (List.mem_cons_of_mem _ (bi2 (w := Cond.static yX9_isIndexOf) 21 rfl)) (by decide +kernel) ⟨Nat.le_of_ble_eq_true rfl, Nat.le_of_ble_eq_true rfl⟩ hK hP [1] rfl rfl hl rfl (Nat.le_of_ble_eq_true rfl) ⟨Nat.zero_le _, Nat.zero_le _⟩ dX8_isMatched_81 (fun r er => ?_)
          subst er
          refine lv_if_eq (tgt := 98) hx hb dX8_isMatched_84 (by decide) (fun c11 => ?_) (fun c11 => ?_)
          · refine lv_iconst (v := 0) hx hb dX8_isMatched_98 (by decide) ?_
            exact sx_retI (u := (yop, yel, yen, yst, wdp)) hx hb hr hlk hK hP hD hS rfl (by simp only [s_X8_isMatched, if_neg c1, if_neg c3, if_neg c4, if_pos c10, if_pos c11]) (by simp only [s_X8_isMatched, if_neg c1, if_neg c3, if_neg c4, if_pos c10, if_pos c11]) dX8_isMatched_99
          · refine lv_aload_n hx hb dX8_isMatched_87 rfl (lv_at hl 2 rfl) ?_
            refine va_get (D := G.1) (ci := 8) (v := .ref w4) (C := RX8) (T := TX8) (N := 9) hx hb hts owX8 hown hK.1 hP 0 rfl rfl 4 (by decide) (bw0 (w := Cond.fieldLink RX8 25 "DropflagMill$Ways" "elseOf" "[I") hts 21 rfl) (fun _ h9 => h9) rfl dX8_isMatched_88 ?_
            refine lv_iload_n hx hb dX8_isMatched_91 rfl (lv_at hl 0 rfl) ?_
            refine sx_sn (As := [.ref w4, .int (s_X8_lastOpen wdp yst)]) (rest := []) hx hb hml hown hts (c_X9_isIndexOf l G w4 34 yel (s_X8_lastOpen wdp yst) ) 2 (sxGC (bi2 (w := Cond.code yX9_isIndexOf cX9_isIndexOf 2 (some .boolean)) 17 rfl)) rfl (hK.2.at 3 rfl) (List.mem_cons_of_mem _ (bi1 (w := Cond.initialized RX9) 58 rfl)) (List.mem_cons_of_mem _ (bi2 (w := Cond.static yX9_isIndexOf) 21 rfl)) (by decide +kernel) ⟨Nat.le_of_ble_eq_true rfl, Nat.le_of_ble_eq_true rfl⟩ hK hP [2] rfl rfl hl rfl (Nat.le_of_ble_eq_true rfl) ⟨Nat.zero_le _, Nat.zero_le _⟩ dX8_isMatched_92 (fun r er => ?_)
            subst er
            refine lv_if_ne (tgt := 100) hx hb dX8_isMatched_95 (by decide) (fun c12 => ?_) (fun c12 => ?_)
            · refine lv_iload_n hx hb dX8_isMatched_100 rfl (lv_at hl 1 rfl) ?_
              refine lv_bipush (v := 9) hx hb dX8_isMatched_101 (by decide) ?_
              refine lv_icmp_ne (tgt := 141) hx hb dX8_isMatched_103 (by decide) (fun c13 => ?_) (fun c13 => absurd c13 c4)
              refine lv_aload_n hx hb dX8_isMatched_141 rfl (lv_at hl 2 rfl) ?_
              refine va_get (D := G.1) (ci := 8) (v := .ref w5) (C := RX8) (T := TX8) (N := 9) hx hb hts owX8 hown hK.1 hP 0 rfl rfl 5 (by decide) (bw0 (w := Cond.fieldLink RX8 28 "DropflagMill$Ways" "endOf" "[I") hts 22 rfl) (fun _ h9 => h9) rfl dX8_isMatched_142 ?_
              refine lv_iload_n hx hb dX8_isMatched_145 rfl (lv_at hl 0 rfl) ?_
              refine lv_iload_n hx hb dX8_isMatched_146 rfl (lv_at hl 3 rfl) ?_
              refine va_iast hx hb hK.1 hP hD hS 3 0 rfl rfl (i := s_X8_lastOpen wdp yst) (sx_in_ix (by decide) c12) dX8_isMatched_147 (fun H locs hP hD hS => ?_)
              have hP : va_P G.1 vwCl [(o, .inr (8, [.ref h, .ref w1, .ref w2, .ref w3, .ref w4, .ref w5, .ref w6, .int wdp, .int wwr])), (w3, .inl (G.2.1, 34, .inl yop)), (w4, .inl (G.2.1, 34, .inl yel)), (w5, .inl (G.2.1, 34, .inl (upd yen (s_X8_lastOpen wdp yst).toNatClampNeg p1))), (w6, .inl (G.2.1, 34, .inl yst)), (h, .inr (5, [.ref k0, .ref k1, .ref k2, .ref k3, .int (nI pv), .int (nI pn)])), (k1, .inl (G.2.1, 34, .inl fs))] H := hP
              have hD : va_D A [(o, .inr (8, [.ref h, .ref w1, .ref w2, .ref w3, .ref w4, .ref w5, .ref w6, .int wdp, .int wwr])), (w3, .inl (G.2.1, 34, .inl yop)), (w4, .inl (G.2.1, 34, .inl yel)), (w5, .inl (G.2.1, 34, .inl (upd yen (s_X8_lastOpen wdp yst).toNatClampNeg p1))), (w6, .inl (G.2.1, 34, .inl yst)), (h, .inr (5, [.ref k0, .ref k1, .ref k2, .ref k3, .int (nI pv), .int (nI pn)])), (k1, .inl (G.2.1, 34, .inl fs))] := hD
              refine lv_aload_n hx hb dX8_isMatched_148 rfl (lv_at hl 2 rfl) ?_
              refine lv_dup hx hb dX8_isMatched_149 rfl ?_
              refine va_get (D := G.1) (ci := 8) (v := .int wdp) (C := RX8) (T := TX8) (N := 9) hx hb hts owX8 hown hK.1 hP 0 rfl rfl 7 (by decide) (bw0 (w := Cond.fieldLink RX8 34 "DropflagMill$Ways" "depth" "I") hts 24 rfl) (fun _ h9 => h9) rfl dX8_isMatched_150 ?_
              refine lv_iconst (v := 1) hx hb dX8_isMatched_153 (by decide) ?_
              refine lv_isub hx hb dX8_isMatched_154 ?_
              refine va_put (D := G.1) (ci := 8) (v := .int (wdp - 1)) (ty := .int) (C := RX8) (T := TX8) (N := 9) hx hb hts owX8 tyX8 tyX8_ok nmX8 hown hK.1 hP hD hS 0 rfl rfl 7 (by decide) (bw0 (w := Cond.fieldLink RX8 34 "DropflagMill$Ways" "depth" "I") hts 24 rfl) (fun _ h9 => h9) rfl (by decide +kernel) rfl rfl (Nat.le_of_ble_eq_true rfl) dX8_isMatched_155 (fun H locs hP hD hS => ?_)
              have hP : va_P G.1 vwCl [(o, .inr (8, [.ref h, .ref w1, .ref w2, .ref w3, .ref w4, .ref w5, .ref w6, .int (wdp - 1), .int wwr])), (w3, .inl (G.2.1, 34, .inl yop)), (w4, .inl (G.2.1, 34, .inl yel)), (w5, .inl (G.2.1, 34, .inl (upd yen (s_X8_lastOpen wdp yst).toNatClampNeg p1))), (w6, .inl (G.2.1, 34, .inl yst)), (h, .inr (5, [.ref k0, .ref k1, .ref k2, .ref k3, .int (nI pv), .int (nI pn)])), (k1, .inl (G.2.1, 34, .inl fs))] H := hP
              have hD : va_D A [(o, .inr (8, [.ref h, .ref w1, .ref w2, .ref w3, .ref w4, .ref w5, .ref w6, .int (wdp - 1), .int wwr])), (w3, .inl (G.2.1, 34, .inl yop)), (w4, .inl (G.2.1, 34, .inl yel)), (w5, .inl (G.2.1, 34, .inl (upd yen (s_X8_lastOpen wdp yst).toNatClampNeg p1))), (w6, .inl (G.2.1, 34, .inl yst)), (h, .inr (5, [.ref k0, .ref k1, .ref k2, .ref k3, .int (nI pv), .int (nI pn)])), (k1, .inl (G.2.1, 34, .inl fs))] := hD
              refine lv_aload_n hx hb dX8_isMatched_158 rfl (lv_at hl 2 rfl) ?_
              refine va_get (D := G.1) (ci := 8) (v := .ref w3) (C := RX8) (T := TX8) (N := 9) hx hb hts owX8 hown hK.1 hP 0 rfl rfl 3 (by decide) (bw0 (w := Cond.fieldLink RX8 22 "DropflagMill$Ways" "opener" "[I") hts 20 rfl) (fun _ h9 => h9) rfl dX8_isMatched_159 ?_
              refine lv_iload_n hx hb dX8_isMatched_162 rfl (lv_at hl 3 rfl) ?_
              refine lv_iload_n hx hb dX8_isMatched_163 rfl (lv_at hl 0 rfl) ?_
              refine va_iast hx hb hK.1 hP hD hS 1 0 rfl rfl (i := p1) (sx_in_ix (by decide) c11) dX8_isMatched_164 (fun H locs hP hD hS => ?_)
              have hP : va_P G.1 vwCl [(o, .inr (8, [.ref h, .ref w1, .ref w2, .ref w3, .ref w4, .ref w5, .ref w6, .int (wdp - 1), .int wwr])), (w3, .inl (G.2.1, 34, .inl (upd yop p1.toNatClampNeg (s_X8_lastOpen wdp yst)))), (w4, .inl (G.2.1, 34, .inl yel)), (w5, .inl (G.2.1, 34, .inl (upd yen (s_X8_lastOpen wdp yst).toNatClampNeg p1))), (w6, .inl (G.2.1, 34, .inl yst)), (h, .inr (5, [.ref k0, .ref k1, .ref k2, .ref k3, .int (nI pv), .int (nI pn)])), (k1, .inl (G.2.1, 34, .inl fs))] H := hP
              have hD : va_D A [(o, .inr (8, [.ref h, .ref w1, .ref w2, .ref w3, .ref w4, .ref w5, .ref w6, .int (wdp - 1), .int wwr])), (w3, .inl (G.2.1, 34, .inl (upd yop p1.toNatClampNeg (s_X8_lastOpen wdp yst)))), (w4, .inl (G.2.1, 34, .inl yel)), (w5, .inl (G.2.1, 34, .inl (upd yen (s_X8_lastOpen wdp yst).toNatClampNeg p1))), (w6, .inl (G.2.1, 34, .inl yst)), (h, .inr (5, [.ref k0, .ref k1, .ref k2, .ref k3, .int (nI pv), .int (nI pn)])), (k1, .inl (G.2.1, 34, .inl fs))] := hD
              refine lv_iconst (v := 1) hx hb dX8_isMatched_165 (by decide) ?_
              exact sx_retI (u := (upd yop p1.toNatClampNeg (s_X8_lastOpen wdp yst), yel, upd yen (s_X8_lastOpen wdp yst).toNatClampNeg p1, yst, wdp - 1)) hx hb hr hlk hK hP hD hS rfl (by simp only [s_X8_isMatched, if_neg c1, if_neg c3, if_neg c4, if_pos c10, if_neg c11, if_neg c12]) (by simp only [s_X8_isMatched, if_neg c1, if_neg c3, if_neg c4, if_pos c10, if_neg c11, if_neg c12]) dX8_isMatched_166
            · refine lv_iconst (v := 0) hx hb dX8_isMatched_98 (by decide) ?_
              exact sx_retI (u := (yop, yel, yen, yst, wdp)) hx hb hr hlk hK hP hD hS rfl (by simp only [s_X8_isMatched, if_neg c1, if_neg c3, if_neg c4, if_pos c10, if_neg c11, if_pos c12]) (by simp only [s_X8_isMatched, if_neg c1, if_neg c3, if_neg c4, if_pos c10, if_neg c11, if_pos c12]) dX8_isMatched_99
        · refine lv_iconst (v := 1) hx hb dX8_isMatched_69 (by decide) ?_
          exact sx_retI (u := (yop, yel, yen, yst, wdp)) hx hb hr hlk hK hP hD hS rfl (by simp only [s_X8_isMatched, if_neg c1, if_neg c3, if_neg c4, if_neg c10]) (by simp only [s_X8_isMatched, if_neg c1, if_neg c3, if_neg c4, if_neg c10]) dX8_isMatched_70
    · refine lv_aload_n hx hb dX8_isMatched_21 rfl (lv_at hl 1 rfl) ?_
      refine va_get (D := G.1) (ci := 8) (v := .ref w6) (C := RX8) (T := TX8) (N := 9) hx hb hts owX8 hown hK.1 hP 0 rfl rfl 6 (by decide) (bw0 (w := Cond.fieldLink RX8 31 "DropflagMill$Ways" "open" "[I") hts 23 rfl) (fun _ h9 => h9) rfl dX8_isMatched_22 ?_
      refine lv_aload_n hx hb dX8_isMatched_25 rfl (lv_at hl 1 rfl) ?_
      refine va_get (D := G.1) (ci := 8) (v := .int wdp) (C := RX8) (T := TX8) (N := 9) hx hb hts owX8 hown hK.1 hP 0 rfl rfl 7 (by decide) (bw0 (w := Cond.fieldLink RX8 34 "DropflagMill$Ways" "depth" "I") hts 24 rfl) (fun _ h9 => h9) rfl dX8_isMatched_26 ?_
      refine sx_sn (As := [.ref w6, .int wdp]) (rest := []) hx hb hml hown hts (c_X9_isIndexOf l G w6 34 yst wdp ) 2 (sxGC (bi2 (w := Cond.code yX9_isIndexOf cX9_isIndexOf 2 (some .boolean)) 17 rfl)) rfl (hK.2.at 3 rfl) (List.mem_cons_of_mem _ (bi1 (w := Cond.initialized RX9) 58 rfl)) (List.mem_cons_of_mem _ (bi2 (w := Cond.static yX9_isIndexOf) 21 rfl)) (by decide +kernel) ⟨Nat.le_of_ble_eq_true rfl, Nat.le_of_ble_eq_true rfl⟩ hK hP [4] rfl rfl hl rfl (Nat.le_of_ble_eq_true rfl) ⟨Nat.zero_le _, Nat.zero_le _⟩ dX8_isMatched_29 (fun r er => ?_)
      subst er
      refine lv_if_eq (tgt := 55) hx hb dX8_isMatched_32 (by decide) (fun c14 => ?_) (fun c14 => ?_)
      · refine lv_iconst (v := 1) hx hb dX8_isMatched_55 (by decide) ?_
        exact sx_retI (u := (yop, yel, yen, yst, wdp)) hx hb hr hlk hK hP hD hS rfl (by simp only [s_X8_isMatched, if_neg c1, if_pos c3, if_pos c14]) (by simp only [s_X8_isMatched, if_neg c1, if_pos c3, if_pos c14]) dX8_isMatched_56
      · refine lv_aload_n hx hb dX8_isMatched_35 rfl (lv_at hl 1 rfl) ?_
        refine va_get (D := G.1) (ci := 8) (v := .ref w6) (C := RX8) (T := TX8) (N := 9) hx hb hts owX8 hown hK.1 hP 0 rfl rfl 6 (by decide) (bw0 (w := Cond.fieldLink RX8 31 "DropflagMill$Ways" "open" "[I") hts 23 rfl) (fun _ h9 => h9) rfl dX8_isMatched_36 ?_
        refine lv_aload_n hx hb dX8_isMatched_39 rfl (lv_at hl 1 rfl) ?_
        refine va_get (D := G.1) (ci := 8) (v := .int wdp) (C := RX8) (T := TX8) (N := 9) hx hb hts owX8 hown hK.1 hP 0 rfl rfl 7 (by decide) (bw0 (w := Cond.fieldLink RX8 34 "DropflagMill$Ways" "depth" "I") hts 24 rfl) (fun _ h9 => h9) rfl dX8_isMatched_40 ?_
        refine lv_iload_n hx hb dX8_isMatched_43 rfl (lv_at hl 2 rfl) ?_
        refine va_iast hx hb hK.1 hP hD hS 4 0 rfl rfl (i := wdp) (sx_in_ix (by decide) c14) dX8_isMatched_44 (fun H locs hP hD hS => ?_)
        have hP : va_P G.1 vwCl [(o, .inr (8, [.ref h, .ref w1, .ref w2, .ref w3, .ref w4, .ref w5, .ref w6, .int wdp, .int wwr])), (w3, .inl (G.2.1, 34, .inl yop)), (w4, .inl (G.2.1, 34, .inl yel)), (w5, .inl (G.2.1, 34, .inl yen)), (w6, .inl (G.2.1, 34, .inl (upd yst wdp.toNatClampNeg p1))), (h, .inr (5, [.ref k0, .ref k1, .ref k2, .ref k3, .int (nI pv), .int (nI pn)])), (k1, .inl (G.2.1, 34, .inl fs))] H := hP
        have hD : va_D A [(o, .inr (8, [.ref h, .ref w1, .ref w2, .ref w3, .ref w4, .ref w5, .ref w6, .int wdp, .int wwr])), (w3, .inl (G.2.1, 34, .inl yop)), (w4, .inl (G.2.1, 34, .inl yel)), (w5, .inl (G.2.1, 34, .inl yen)), (w6, .inl (G.2.1, 34, .inl (upd yst wdp.toNatClampNeg p1))), (h, .inr (5, [.ref k0, .ref k1, .ref k2, .ref k3, .int (nI pv), .int (nI pn)])), (k1, .inl (G.2.1, 34, .inl fs))] := hD
        refine lv_aload_n hx hb dX8_isMatched_45 rfl (lv_at hl 1 rfl) ?_
        refine lv_dup hx hb dX8_isMatched_46 rfl ?_
        refine va_get (D := G.1) (ci := 8) (v := .int wdp) (C := RX8) (T := TX8) (N := 9) hx hb hts owX8 hown hK.1 hP 0 rfl rfl 7 (by decide) (bw0 (w := Cond.fieldLink RX8 34 "DropflagMill$Ways" "depth" "I") hts 24 rfl) (fun _ h9 => h9) rfl dX8_isMatched_47 ?_
        refine lv_iconst (v := 1) hx hb dX8_isMatched_50 (by decide) ?_
        refine lv_iadd hx hb dX8_isMatched_51 ?_
        refine va_put (D := G.1) (ci := 8) (v := .int (wdp + 1)) (ty := .int) (C := RX8) (T := TX8) (N := 9) hx hb hts owX8 tyX8 tyX8_ok nmX8 hown hK.1 hP hD hS 0 rfl rfl 7 (by decide) (bw0 (w := Cond.fieldLink RX8 34 "DropflagMill$Ways" "depth" "I") hts 24 rfl) (fun _ h9 => h9) rfl (by decide +kernel) rfl rfl (Nat.le_of_ble_eq_true rfl) dX8_isMatched_52 (fun H locs hP hD hS => ?_)
        have hP : va_P G.1 vwCl [(o, .inr (8, [.ref h, .ref w1, .ref w2, .ref w3, .ref w4, .ref w5, .ref w6, .int (wdp + 1), .int wwr])), (w3, .inl (G.2.1, 34, .inl yop)), (w4, .inl (G.2.1, 34, .inl yel)), (w5, .inl (G.2.1, 34, .inl yen)), (w6, .inl (G.2.1, 34, .inl (upd yst wdp.toNatClampNeg p1))), (h, .inr (5, [.ref k0, .ref k1, .ref k2, .ref k3, .int (nI pv), .int (nI pn)])), (k1, .inl (G.2.1, 34, .inl fs))] H := hP
        have hD : va_D A [(o, .inr (8, [.ref h, .ref w1, .ref w2, .ref w3, .ref w4, .ref w5, .ref w6, .int (wdp + 1), .int wwr])), (w3, .inl (G.2.1, 34, .inl yop)), (w4, .inl (G.2.1, 34, .inl yel)), (w5, .inl (G.2.1, 34, .inl yen)), (w6, .inl (G.2.1, 34, .inl (upd yst wdp.toNatClampNeg p1))), (h, .inr (5, [.ref k0, .ref k1, .ref k2, .ref k3, .int (nI pv), .int (nI pn)])), (k1, .inl (G.2.1, 34, .inl fs))] := hD
        refine lv_iconst (v := 1) hx hb dX8_isMatched_55 (by decide) ?_
        exact sx_retI (u := (yop, yel, yen, upd yst wdp.toNatClampNeg p1, wdp + 1)) hx hb hr hlk hK hP hD hS rfl (by simp only [s_X8_isMatched, if_neg c1, if_pos c3, if_neg c14]) (by simp only [s_X8_isMatched, if_neg c1, if_pos c3, if_neg c14]) dX8_isMatched_56

abbrev wdX8_setNext : List Cond := Cond.code yX8_setNext cX8_setNext 5 none :: bwC
def s_X8_setNext (yf : Nat → Int32) (ys : Nat → Int32) (yop : Nat → Int32) (yel : Nat → Int32) (yen : Nat → Int32) (pn : Nat) (fs : Nat → Int32) (p1 : Int32) : (Nat → Int32) × (Nat → Int32) := if (s_X9_isIndexOf 34 p1) = 0 then (yf, ys) else (if (s_X5_sortAt pn fs p1) = 8 then (if (yel p1.toNatClampNeg) = (-1) then (upd yf p1.toNatClampNeg (p1 + 1), upd ys p1.toNatClampNeg (yen p1.toNatClampNeg)) else (upd yf p1.toNatClampNeg (p1 + 1), upd ys p1.toNatClampNeg ((yel p1.toNatClampNeg) + 1))) else (if (s_X5_sortAt pn fs p1) = 9 then (if (s_X9_isIndexOf 34 (yop p1.toNatClampNeg)) = 0 then (upd yf p1.toNatClampNeg (-1), upd ys p1.toNatClampNeg (-1)) else (upd yf p1.toNatClampNeg (yen (yop p1.toNatClampNeg).toNatClampNeg), upd ys p1.toNatClampNeg (-1))) else (if (s_X5_sortAt pn fs p1) = 10 then (upd yf p1.toNatClampNeg (p1 + 1), upd ys p1.toNatClampNeg (-1)) else (if (s_X5_sortAt pn fs p1) = 11 then (if (s_X5_sortAt pn fs (yop p1.toNatClampNeg)) = 10 then (upd yf p1.toNatClampNeg ((yop p1.toNatClampNeg) + 1), upd ys p1.toNatClampNeg (p1 + 1)) else (upd yf p1.toNatClampNeg (p1 + 1), upd ys p1.toNatClampNeg (-1))) else (if (s_X5_sortAt pn fs p1) = 12 then (upd yf p1.toNatClampNeg (p1 + 1), upd ys p1.toNatClampNeg (-1)) else (if (s_X5_sortAt pn fs p1) = 13 then (upd yf p1.toNatClampNeg (p1 + 1), upd ys p1.toNatClampNeg (-1)) else (if (s_X5_sortAt pn fs p1) = 14 then (upd yf p1.toNatClampNeg (p1 + 1), upd ys p1.toNatClampNeg (-1)) else (if (s_X5_sortAt pn fs p1) = 15 then (upd yf p1.toNatClampNeg (-1), upd ys p1.toNatClampNeg (-1)) else (upd yf p1.toNatClampNeg (p1 + 1), upd ys p1.toNatClampNeg (-1))))))))))
set_option maxHeartbeats 4000000 in
set_option maxRecDepth 100000 in
theorem c_X8_setNext (l : Launch) (G : sxG) (o : Nat) (h : Nat) (w1 : Nat) (w2 : Nat) (w3 : Nat) (w4 : Nat) (w5 : Nat) (w6 : Nat) (wdp : Int32) (wwr : Int32) (yf : Nat → Int32) (ys : Nat → Int32) (yop : Nat → Int32) (yel : Nat → Int32) (yen : Nat → Int32) (k0 : Nat) (k1 : Nat) (k2 : Nat) (k3 : Nat) (pv : Nat) (pn : Nat) (fs : Nat → Int32) (p1 : Int32) (hn : pn ≤ 33) : sxV l yX8_setNext wdX8_setNext 2 42 G [(o, .inr (8, [.ref h, .ref w1, .ref w2, .ref w3, .ref w4, .ref w5, .ref w6, .int wdp, .int wwr])), (w1, .inl (G.2.1, 34, .inl yf)), (w2, .inl (G.2.1, 34, .inl ys)), (w3, .inl (G.2.1, 34, .inl yop)), (w4, .inl (G.2.1, 34, .inl yel)), (w5, .inl (G.2.1, 34, .inl yen)), (h, .inr (5, [.ref k0, .ref k1, .ref k2, .ref k3, .int (nI pv), .int (nI pn)])), (k1, .inl (G.2.1, 34, .inl fs))] [.ref o, .int p1] (fun u : (Nat → Int32) × (Nat → Int32) => ([(o, .inr (8, [.ref h, .ref w1, .ref w2, .ref w3, .ref w4, .ref w5, .ref w6, .int wdp, .int wwr])), (w1, .inl (G.2.1, 34, .inl u.1)), (w2, .inl (G.2.1, 34, .inl u.2)), (w3, .inl (G.2.1, 34, .inl yop)), (w4, .inl (G.2.1, 34, .inl yel)), (w5, .inl (G.2.1, 34, .inl yen)), (h, .inr (5, [.ref k0, .ref k1, .ref k2, .ref k3, .int (nI pv), .int (nI pn)])), (k1, .inl (G.2.1, 34, .inl fs))] : va_W)) (s_X8_setNext yf ys yop yel yen pn fs p1) := by
  refine sxV.of (cc := cX8_setNext) (maxL := 5) (by decide) rfl (Nat.le_of_ble_eq_true rfl) ?_
  intro p e s m args below meth c ⟨hx, hb, hr, hml, hown, hlk, hts, hK⟩ A hA hP hD hS ls hl
  have hl : lv_has ls 5 [(0, .ref o), (1, .int p1)] := hl
  refine lv_aload_n hx hb dX8_setNext_0 rfl (lv_at hl 0 rfl) ?_
  refine va_get (D := G.1) (ci := 8) (v := .ref w1) (C := RX8) (T := TX8) (N := 9) hx hb hts owX8 hown hK.1 hP 0 rfl rfl 1 (by decide) (bw0 (w := Cond.fieldLink RX8 15 "DropflagMill$Ways" "first" "[I") hts 18 rfl) (fun _ h9 => h9) rfl dX8_setNext_1 ?_
  refine lv_iload_n hx hb dX8_setNext_4 rfl (lv_at hl 1 rfl) ?_
  refine sx_sn (As := [.ref w1, .int p1]) (rest := []) hx hb hml hown hts (c_X9_isIndexOf l G w1 34 yf p1 ) 2 (sxGC (bi2 (w := Cond.code yX9_isIndexOf cX9_isIndexOf 2 (some .boolean)) 17 rfl)) rfl (hK.2.at 3 rfl) (List.mem_cons_of_mem _ (bi1 (w := Cond.initialized RX9) 58 rfl)) (List.mem_cons_of_mem _ (bi2 (w := Cond.static yX9_isIndexOf) 21 rfl)) (by decide +kernel) ⟨Nat.le_of_ble_eq_true rfl, Nat.le_of_ble_eq_true rfl⟩ hK hP [1] rfl rfl hl rfl (Nat.le_of_ble_eq_true rfl) ⟨Nat.zero_le _, Nat.zero_le _⟩ dX8_setNext_5 (fun r er => ?_)
  subst er
  refine lv_if_ne (tgt := 12) hx hb dX8_setNext_8 (by decide) (fun c1 => ?_) (fun c1 => ?_)
  · refine lv_iload_n hx hb dX8_setNext_12 rfl (lv_at hl 1 rfl) ?_
    refine lv_iconst (v := 1) hx hb dX8_setNext_13 (by decide) ?_
    refine lv_iadd hx hb dX8_setNext_14 ?_
    refine lv_istore_n (lv' := [(2, .int (p1 + 1)), (0, .ref o), (1, .int p1)]) hx hb dX8_setNext_15 rfl hl (by decide) rfl (fun ls hl => ?_)
    refine lv_iconst (v := (-1)) hx hb dX8_setNext_16 (by decide) ?_
    refine lv_istore_n (lv' := [(3, .int (-1)), (2, .int (p1 + 1)), (0, .ref o), (1, .int p1)]) hx hb dX8_setNext_17 rfl hl (by decide) rfl (fun ls hl => ?_)
    refine lv_aload_n hx hb dX8_setNext_18 rfl (lv_at hl 2 rfl) ?_
    refine va_get (D := G.1) (ci := 8) (v := .ref w3) (C := RX8) (T := TX8) (N := 9) hx hb hts owX8 hown hK.1 hP 0 rfl rfl 3 (by decide) (bw0 (w := Cond.fieldLink RX8 22 "DropflagMill$Ways" "opener" "[I") hts 20 rfl) (fun _ h9 => h9) rfl dX8_setNext_19 ?_
    refine lv_iload_n hx hb dX8_setNext_22 rfl (lv_at hl 3 rfl) ?_
    refine va_iald hx hb hK.1 hP 3 0 rfl rfl (i := p1) (sx_in_ix (by decide) c1) dX8_setNext_23 ?_
    refine lv_istore (lv' := [(4, .int (yop p1.toNatClampNeg)), (3, .int (-1)), (2, .int (p1 + 1)), (0, .ref o), (1, .int p1)]) hx hb dX8_setNext_24 hl (by decide) rfl (fun ls hl => ?_)
    refine lv_aload_n hx hb dX8_setNext_26 rfl (lv_at hl 3 rfl) ?_
    refine va_get (D := G.1) (ci := 8) (v := .ref h) (C := RX8) (T := TX8) (N := 9) hx hb hts owX8 hown hK.1 hP 0 rfl rfl 0 (by decide) (bw0 (w := Cond.fieldLink RX8 9 "DropflagMill$Ways" "program" "LDropflagMill$Program;") hts 17 rfl) (fun _ h9 => h9) rfl dX8_setNext_27 ?_
    refine lv_iload_n hx hb dX8_setNext_30 rfl (lv_at hl 4 rfl) ?_
    refine sx_v (As := [.int p1]) (rest := []) hx hb hml hown hts (c_X5_sortAt l G h k0 k1 k2 k3 pv pn fs p1 (by omega)) 1 (sxGV (bi2 (w := Cond.methodLink RX8 75 yX5_sortAt) 25 rfl) (bi1 (w := Cond.instanceMethod yX5_sortAt) 37 rfl) (bi1 (w := Cond.selects RX5 yX5_sortAt yX5_sortAt) 38 rfl) (bi1 (w := Cond.initialized RX5) 30 rfl) (bi1 (w := Cond.code yX5_sortAt cX5_sortAt 2 (some .int)) 25 rfl)) rfl (by decide +kernel) ⟨Nat.le_of_ble_eq_true rfl, Nat.le_of_ble_eq_true rfl⟩ hK hP [6, 7] rfl 0 rfl rfl rfl hl rfl (Nat.le_of_ble_eq_true rfl) ⟨Nat.zero_le _, Nat.zero_le _⟩ dX8_setNext_31 (fun r er => ?_)
    subst er
    by_cases c2 : (s_X5_sortAt pn fs p1) = 8
    · refine lv_tableIn (off := 46) (tgt := 80) hx hb dX8_setNext_34 (by rw [c2]; decide) (by rw [c2]; decide) (by rw [c2]; rfl) (by decide) ?_
      refine lv_aload_n hx hb dX8_setNext_80 rfl (lv_at hl 3 rfl) ?_
      refine va_get (D := G.1) (ci := 8) (v := .ref w4) (C := RX8) (T := TX8) (N := 9) hx hb hts owX8 hown hK.1 hP 0 rfl rfl 4 (by decide) (bw0 (w := Cond.fieldLink RX8 25 "DropflagMill$Ways" "elseOf" "[I") hts 21 rfl) (fun _ h9 => h9) rfl dX8_setNext_81 ?_
      refine lv_iload_n hx hb dX8_setNext_84 rfl (lv_at hl 4 rfl) ?_
      refine va_iald hx hb hK.1 hP 4 0 rfl rfl (i := p1) (sx_in_ix (by decide) c1) dX8_setNext_85 ?_
      refine lv_iconst (v := (-1)) hx hb dX8_setNext_86 (by decide) ?_
      refine lv_icmp_ne (tgt := 99) hx hb dX8_setNext_87 (by decide) (fun c3 => ?_) (fun c3 => ?_)
      · refine lv_aload_n hx hb dX8_setNext_99 rfl (lv_at hl 3 rfl) ?_
        refine va_get (D := G.1) (ci := 8) (v := .ref w4) (C := RX8) (T := TX8) (N := 9) hx hb hts owX8 hown hK.1 hP 0 rfl rfl 4 (by decide) (bw0 (w := Cond.fieldLink RX8 25 "DropflagMill$Ways" "elseOf" "[I") hts 21 rfl) (fun _ h9 => h9) rfl dX8_setNext_100 ?_
        refine lv_iload_n hx hb dX8_setNext_103 rfl (lv_at hl 4 rfl) ?_
        refine va_iald hx hb hK.1 hP 4 0 rfl rfl (i := p1) (sx_in_ix (by decide) c1) dX8_setNext_104 ?_
        refine lv_iconst (v := 1) hx hb dX8_setNext_105 (by decide) ?_
        refine lv_iadd hx hb dX8_setNext_106 ?_
        refine lv_istore_n (lv' := [(3, .int ((yel p1.toNatClampNeg) + 1)), (4, .int (yop p1.toNatClampNeg)), (2, .int (p1 + 1)), (0, .ref o), (1, .int p1)]) hx hb dX8_setNext_107 rfl hl (by decide) rfl (fun ls hl => ?_)
        refine lv_goto (tgt := 169) hx hb dX8_setNext_108 (by decide) ?_
        refine lv_aload_n hx hb dX8_setNext_169 rfl (lv_at hl 3 rfl) ?_
        refine va_get (D := G.1) (ci := 8) (v := .ref w1) (C := RX8) (T := TX8) (N := 9) hx hb hts owX8 hown hK.1 hP 0 rfl rfl 1 (by decide) (bw0 (w := Cond.fieldLink RX8 15 "DropflagMill$Ways" "first" "[I") hts 18 rfl) (fun _ h9 => h9) rfl dX8_setNext_170 ?_
        refine lv_iload_n hx hb dX8_setNext_173 rfl (lv_at hl 4 rfl) ?_
        refine lv_iload_n hx hb dX8_setNext_174 rfl (lv_at hl 2 rfl) ?_
        refine va_iast hx hb hK.1 hP hD hS 1 0 rfl rfl (i := p1) (sx_in_ix (by decide) c1) dX8_setNext_175 (fun H locs hP hD hS => ?_)
        have hP : va_P G.1 vwCl [(o, .inr (8, [.ref h, .ref w1, .ref w2, .ref w3, .ref w4, .ref w5, .ref w6, .int wdp, .int wwr])), (w1, .inl (G.2.1, 34, .inl (upd yf p1.toNatClampNeg (p1 + 1)))), (w2, .inl (G.2.1, 34, .inl ys)), (w3, .inl (G.2.1, 34, .inl yop)), (w4, .inl (G.2.1, 34, .inl yel)), (w5, .inl (G.2.1, 34, .inl yen)), (h, .inr (5, [.ref k0, .ref k1, .ref k2, .ref k3, .int (nI pv), .int (nI pn)])), (k1, .inl (G.2.1, 34, .inl fs))] H := hP
        have hD : va_D A [(o, .inr (8, [.ref h, .ref w1, .ref w2, .ref w3, .ref w4, .ref w5, .ref w6, .int wdp, .int wwr])), (w1, .inl (G.2.1, 34, .inl (upd yf p1.toNatClampNeg (p1 + 1)))), (w2, .inl (G.2.1, 34, .inl ys)), (w3, .inl (G.2.1, 34, .inl yop)), (w4, .inl (G.2.1, 34, .inl yel)), (w5, .inl (G.2.1, 34, .inl yen)), (h, .inr (5, [.ref k0, .ref k1, .ref k2, .ref k3, .int (nI pv), .int (nI pn)])), (k1, .inl (G.2.1, 34, .inl fs))] := hD
        refine lv_aload_n hx hb dX8_setNext_176 rfl (lv_at hl 3 rfl) ?_
        refine va_get (D := G.1) (ci := 8) (v := .ref w2) (C := RX8) (T := TX8) (N := 9) hx hb hts owX8 hown hK.1 hP 0 rfl rfl 2 (by decide) (bw0 (w := Cond.fieldLink RX8 19 "DropflagMill$Ways" "second" "[I") hts 19 rfl) (fun _ h9 => h9) rfl dX8_setNext_177 ?_
        refine lv_iload_n hx hb dX8_setNext_180 rfl (lv_at hl 4 rfl) ?_
        refine lv_iload_n hx hb dX8_setNext_181 rfl (lv_at hl 0 rfl) ?_
        refine va_iast hx hb hK.1 hP hD hS 2 0 rfl rfl (i := p1) (sx_in_ix (by decide) c1) dX8_setNext_182 (fun H locs hP hD hS => ?_)
        have hP : va_P G.1 vwCl [(o, .inr (8, [.ref h, .ref w1, .ref w2, .ref w3, .ref w4, .ref w5, .ref w6, .int wdp, .int wwr])), (w1, .inl (G.2.1, 34, .inl (upd yf p1.toNatClampNeg (p1 + 1)))), (w2, .inl (G.2.1, 34, .inl (upd ys p1.toNatClampNeg ((yel p1.toNatClampNeg) + 1)))), (w3, .inl (G.2.1, 34, .inl yop)), (w4, .inl (G.2.1, 34, .inl yel)), (w5, .inl (G.2.1, 34, .inl yen)), (h, .inr (5, [.ref k0, .ref k1, .ref k2, .ref k3, .int (nI pv), .int (nI pn)])), (k1, .inl (G.2.1, 34, .inl fs))] H := hP
        have hD : va_D A [(o, .inr (8, [.ref h, .ref w1, .ref w2, .ref w3, .ref w4, .ref w5, .ref w6, .int wdp, .int wwr])), (w1, .inl (G.2.1, 34, .inl (upd yf p1.toNatClampNeg (p1 + 1)))), (w2, .inl (G.2.1, 34, .inl (upd ys p1.toNatClampNeg ((yel p1.toNatClampNeg) + 1)))), (w3, .inl (G.2.1, 34, .inl yop)), (w4, .inl (G.2.1, 34, .inl yel)), (w5, .inl (G.2.1, 34, .inl yen)), (h, .inr (5, [.ref k0, .ref k1, .ref k2, .ref k3, .int (nI pv), .int (nI pn)])), (k1, .inl (G.2.1, 34, .inl fs))] := hD
        exact sx_retV (u := (upd yf p1.toNatClampNeg (p1 + 1), upd ys p1.toNatClampNeg ((yel p1.toNatClampNeg) + 1))) hx hb hr hlk hK hP hD hS (by simp only [s_X8_setNext, if_neg c1, if_pos c2, if_neg c3]) dX8_setNext_183
      · refine lv_aload_n hx hb dX8_setNext_90 rfl (lv_at hl 3 rfl) ?_
        refine va_get (D := G.1) (ci := 8) (v := .ref w5) (C := RX8) (T := TX8) (N := 9) hx hb hts owX8 hown hK.1 hP 0 rfl rfl 5 (by decide) (bw0 (w := Cond.fieldLink RX8 28 "DropflagMill$Ways" "endOf" "[I") hts 22 rfl) (fun _ h9 => h9) rfl dX8_setNext_91 ?_
        refine lv_iload_n hx hb dX8_setNext_94 rfl (lv_at hl 4 rfl) ?_
        refine va_iald hx hb hK.1 hP 5 0 rfl rfl (i := p1) (sx_in_ix (by decide) c1) dX8_setNext_95 ?_
        refine lv_goto (tgt := 107) hx hb dX8_setNext_96 (by decide) ?_
        refine lv_istore_n (lv' := [(3, .int (yen p1.toNatClampNeg)), (4, .int (yop p1.toNatClampNeg)), (2, .int (p1 + 1)), (0, .ref o), (1, .int p1)]) hx hb dX8_setNext_107 rfl hl (by decide) rfl (fun ls hl => ?_)
        refine lv_goto (tgt := 169) hx hb dX8_setNext_108 (by decide) ?_
        refine lv_aload_n hx hb dX8_setNext_169 rfl (lv_at hl 3 rfl) ?_
        refine va_get (D := G.1) (ci := 8) (v := .ref w1) (C := RX8) (T := TX8) (N := 9) hx hb hts owX8 hown hK.1 hP 0 rfl rfl 1 (by decide) (bw0 (w := Cond.fieldLink RX8 15 "DropflagMill$Ways" "first" "[I") hts 18 rfl) (fun _ h9 => h9) rfl dX8_setNext_170 ?_
        refine lv_iload_n hx hb dX8_setNext_173 rfl (lv_at hl 4 rfl) ?_
        refine lv_iload_n hx hb dX8_setNext_174 rfl (lv_at hl 2 rfl) ?_
        refine va_iast hx hb hK.1 hP hD hS 1 0 rfl rfl (i := p1) (sx_in_ix (by decide) c1) dX8_setNext_175 (fun H locs hP hD hS => ?_)
        have hP : va_P G.1 vwCl [(o, .inr (8, [.ref h, .ref w1, .ref w2, .ref w3, .ref w4, .ref w5, .ref w6, .int wdp, .int wwr])), (w1, .inl (G.2.1, 34, .inl (upd yf p1.toNatClampNeg (p1 + 1)))), (w2, .inl (G.2.1, 34, .inl ys)), (w3, .inl (G.2.1, 34, .inl yop)), (w4, .inl (G.2.1, 34, .inl yel)), (w5, .inl (G.2.1, 34, .inl yen)), (h, .inr (5, [.ref k0, .ref k1, .ref k2, .ref k3, .int (nI pv), .int (nI pn)])), (k1, .inl (G.2.1, 34, .inl fs))] H := hP
        have hD : va_D A [(o, .inr (8, [.ref h, .ref w1, .ref w2, .ref w3, .ref w4, .ref w5, .ref w6, .int wdp, .int wwr])), (w1, .inl (G.2.1, 34, .inl (upd yf p1.toNatClampNeg (p1 + 1)))), (w2, .inl (G.2.1, 34, .inl ys)), (w3, .inl (G.2.1, 34, .inl yop)), (w4, .inl (G.2.1, 34, .inl yel)), (w5, .inl (G.2.1, 34, .inl yen)), (h, .inr (5, [.ref k0, .ref k1, .ref k2, .ref k3, .int (nI pv), .int (nI pn)])), (k1, .inl (G.2.1, 34, .inl fs))] := hD
        refine lv_aload_n hx hb dX8_setNext_176 rfl (lv_at hl 3 rfl) ?_
        refine va_get (D := G.1) (ci := 8) (v := .ref w2) (C := RX8) (T := TX8) (N := 9) hx hb hts owX8 hown hK.1 hP 0 rfl rfl 2 (by decide) (bw0 (w := Cond.fieldLink RX8 19 "DropflagMill$Ways" "second" "[I") hts 19 rfl) (fun _ h9 => h9) rfl dX8_setNext_177 ?_
        refine lv_iload_n hx hb dX8_setNext_180 rfl (lv_at hl 4 rfl) ?_
        refine lv_iload_n hx hb dX8_setNext_181 rfl (lv_at hl 0 rfl) ?_
        refine va_iast hx hb hK.1 hP hD hS 2 0 rfl rfl (i := p1) (sx_in_ix (by decide) c1) dX8_setNext_182 (fun H locs hP hD hS => ?_)
        have hP : va_P G.1 vwCl [(o, .inr (8, [.ref h, .ref w1, .ref w2, .ref w3, .ref w4, .ref w5, .ref w6, .int wdp, .int wwr])), (w1, .inl (G.2.1, 34, .inl (upd yf p1.toNatClampNeg (p1 + 1)))), (w2, .inl (G.2.1, 34, .inl (upd ys p1.toNatClampNeg (yen p1.toNatClampNeg)))), (w3, .inl (G.2.1, 34, .inl yop)), (w4, .inl (G.2.1, 34, .inl yel)), (w5, .inl (G.2.1, 34, .inl yen)), (h, .inr (5, [.ref k0, .ref k1, .ref k2, .ref k3, .int (nI pv), .int (nI pn)])), (k1, .inl (G.2.1, 34, .inl fs))] H := hP
        have hD : va_D A [(o, .inr (8, [.ref h, .ref w1, .ref w2, .ref w3, .ref w4, .ref w5, .ref w6, .int wdp, .int wwr])), (w1, .inl (G.2.1, 34, .inl (upd yf p1.toNatClampNeg (p1 + 1)))), (w2, .inl (G.2.1, 34, .inl (upd ys p1.toNatClampNeg (yen p1.toNatClampNeg)))), (w3, .inl (G.2.1, 34, .inl yop)), (w4, .inl (G.2.1, 34, .inl yel)), (w5, .inl (G.2.1, 34, .inl yen)), (h, .inr (5, [.ref k0, .ref k1, .ref k2, .ref k3, .int (nI pv), .int (nI pn)])), (k1, .inl (G.2.1, 34, .inl fs))] := hD
        exact sx_retV (u := (upd yf p1.toNatClampNeg (p1 + 1), upd ys p1.toNatClampNeg (yen p1.toNatClampNeg))) hx hb hr hlk hK hP hD hS (by simp only [s_X8_setNext, if_neg c1, if_pos c2, if_pos c3]) dX8_setNext_183
    · by_cases c4 : (s_X5_sortAt pn fs p1) = 9
      · refine lv_tableIn (off := 77) (tgt := 111) hx hb dX8_setNext_34 (by rw [c4]; decide) (by rw [c4]; decide) (by rw [c4]; rfl) (by decide) ?_
        refine lv_aload_n hx hb dX8_setNext_111 rfl (lv_at hl 3 rfl) ?_
        refine va_get (D := G.1) (ci := 8) (v := .ref w5) (C := RX8) (T := TX8) (N := 9) hx hb hts owX8 hown hK.1 hP 0 rfl rfl 5 (by decide) (bw0 (w := Cond.fieldLink RX8 28 "DropflagMill$Ways" "endOf" "[I") hts 22 rfl) (fun _ h9 => h9) rfl dX8_setNext_112 ?_
        refine lv_iload hx hb dX8_setNext_115 (lv_at hl 0 rfl) ?_
        refine sx_sn (As := [.ref w5, .int (yop p1.toNatClampNeg)]) (rest := []) hx hb hml hown hts (c_X9_isIndexOf l G w5 34 yen (yop p1.toNatClampNeg) ) 2 (sxGC (bi2 (w := Cond.code yX9_isIndexOf cX9_isIndexOf 2 (some .boolean)) 17 rfl)) rfl (hK.2.at 3 rfl) (List.mem_cons_of_mem _ (bi1 (w := Cond.initialized RX9) 58 rfl)) (List.mem_cons_of_mem _ (bi2 (w := Cond.static yX9_isIndexOf) 21 rfl)) (by decide +kernel) ⟨Nat.le_of_ble_eq_true rfl, Nat.le_of_ble_eq_true rfl⟩ hK hP [5] rfl rfl hl rfl (Nat.le_of_ble_eq_true rfl) ⟨Nat.zero_le _, Nat.zero_le _⟩ dX8_setNext_117 (fun r er => ?_)
        subst er
        refine lv_if_eq (tgt := 133) hx hb dX8_setNext_120 (by decide) (fun c5 => ?_) (fun c5 => ?_)
        · refine lv_iconst (v := (-1)) hx hb dX8_setNext_133 (by decide) ?_
          refine lv_istore_n (lv' := [(2, .int (-1)), (4, .int (yop p1.toNatClampNeg)), (3, .int (-1)), (0, .ref o), (1, .int p1)]) hx hb dX8_setNext_134 rfl hl (by decide) rfl (fun ls hl => ?_)
          refine lv_goto (tgt := 169) hx hb dX8_setNext_135 (by decide) ?_
          refine lv_aload_n hx hb dX8_setNext_169 rfl (lv_at hl 3 rfl) ?_
          refine va_get (D := G.1) (ci := 8) (v := .ref w1) (C := RX8) (T := TX8) (N := 9) hx hb hts owX8 hown hK.1 hP 0 rfl rfl 1 (by decide) (bw0 (w := Cond.fieldLink RX8 15 "DropflagMill$Ways" "first" "[I") hts 18 rfl) (fun _ h9 => h9) rfl dX8_setNext_170 ?_
          refine lv_iload_n hx hb dX8_setNext_173 rfl (lv_at hl 4 rfl) ?_
          refine lv_iload_n hx hb dX8_setNext_174 rfl (lv_at hl 0 rfl) ?_
          refine va_iast hx hb hK.1 hP hD hS 1 0 rfl rfl (i := p1) (sx_in_ix (by decide) c1) dX8_setNext_175 (fun H locs hP hD hS => ?_)
          have hP : va_P G.1 vwCl [(o, .inr (8, [.ref h, .ref w1, .ref w2, .ref w3, .ref w4, .ref w5, .ref w6, .int wdp, .int wwr])), (w1, .inl (G.2.1, 34, .inl (upd yf p1.toNatClampNeg (-1)))), (w2, .inl (G.2.1, 34, .inl ys)), (w3, .inl (G.2.1, 34, .inl yop)), (w4, .inl (G.2.1, 34, .inl yel)), (w5, .inl (G.2.1, 34, .inl yen)), (h, .inr (5, [.ref k0, .ref k1, .ref k2, .ref k3, .int (nI pv), .int (nI pn)])), (k1, .inl (G.2.1, 34, .inl fs))] H := hP
          have hD : va_D A [(o, .inr (8, [.ref h, .ref w1, .ref w2, .ref w3, .ref w4, .ref w5, .ref w6, .int wdp, .int wwr])), (w1, .inl (G.2.1, 34, .inl (upd yf p1.toNatClampNeg (-1)))), (w2, .inl (G.2.1, 34, .inl ys)), (w3, .inl (G.2.1, 34, .inl yop)), (w4, .inl (G.2.1, 34, .inl yel)), (w5, .inl (G.2.1, 34, .inl yen)), (h, .inr (5, [.ref k0, .ref k1, .ref k2, .ref k3, .int (nI pv), .int (nI pn)])), (k1, .inl (G.2.1, 34, .inl fs))] := hD
          refine lv_aload_n hx hb dX8_setNext_176 rfl (lv_at hl 3 rfl) ?_
          refine va_get (D := G.1) (ci := 8) (v := .ref w2) (C := RX8) (T := TX8) (N := 9) hx hb hts owX8 hown hK.1 hP 0 rfl rfl 2 (by decide) (bw0 (w := Cond.fieldLink RX8 19 "DropflagMill$Ways" "second" "[I") hts 19 rfl) (fun _ h9 => h9) rfl dX8_setNext_177 ?_
          refine lv_iload_n hx hb dX8_setNext_180 rfl (lv_at hl 4 rfl) ?_
          refine lv_iload_n hx hb dX8_setNext_181 rfl (lv_at hl 2 rfl) ?_
          refine va_iast hx hb hK.1 hP hD hS 2 0 rfl rfl (i := p1) (sx_in_ix (by decide) c1) dX8_setNext_182 (fun H locs hP hD hS => ?_)
          have hP : va_P G.1 vwCl [(o, .inr (8, [.ref h, .ref w1, .ref w2, .ref w3, .ref w4, .ref w5, .ref w6, .int wdp, .int wwr])), (w1, .inl (G.2.1, 34, .inl (upd yf p1.toNatClampNeg (-1)))), (w2, .inl (G.2.1, 34, .inl (upd ys p1.toNatClampNeg (-1)))), (w3, .inl (G.2.1, 34, .inl yop)), (w4, .inl (G.2.1, 34, .inl yel)), (w5, .inl (G.2.1, 34, .inl yen)), (h, .inr (5, [.ref k0, .ref k1, .ref k2, .ref k3, .int (nI pv), .int (nI pn)])), (k1, .inl (G.2.1, 34, .inl fs))] H := hP
          have hD : va_D A [(o, .inr (8, [.ref h, .ref w1, .ref w2, .ref w3, .ref w4, .ref w5, .ref w6, .int wdp, .int wwr])), (w1, .inl (G.2.1, 34, .inl (upd yf p1.toNatClampNeg (-1)))), (w2, .inl (G.2.1, 34, .inl (upd ys p1.toNatClampNeg (-1)))), (w3, .inl (G.2.1, 34, .inl yop)), (w4, .inl (G.2.1, 34, .inl yel)), (w5, .inl (G.2.1, 34, .inl yen)), (h, .inr (5, [.ref k0, .ref k1, .ref k2, .ref k3, .int (nI pv), .int (nI pn)])), (k1, .inl (G.2.1, 34, .inl fs))] := hD
          exact sx_retV (u := (upd yf p1.toNatClampNeg (-1), upd ys p1.toNatClampNeg (-1))) hx hb hr hlk hK hP hD hS (by simp only [s_X8_setNext, if_neg c1, if_neg c2, if_pos c4, if_pos c5]) dX8_setNext_183
        · refine lv_aload_n hx hb dX8_setNext_123 rfl (lv_at hl 3 rfl) ?_
          refine va_get (D := G.1) (ci := 8) (v := .ref w5) (C := RX8) (T := TX8) (N := 9) hx hb hts owX8 hown hK.1 hP 0 rfl rfl 5 (by decide) (bw0 (w := Cond.fieldLink RX8 28 "DropflagMill$Ways" "endOf" "[I") hts 22 rfl) (fun _ h9 => h9) rfl dX8_setNext_124 ?_
          refine lv_iload hx hb dX8_setNext_127 (lv_at hl 0 rfl) ?_
          refine va_iald hx hb hK.1 hP 5 0 rfl rfl (i := yop p1.toNatClampNeg) (sx_in_ix (by decide) c5) dX8_setNext_129 ?_
          refine lv_goto (tgt := 134) hx hb dX8_setNext_130 (by decide) ?_
          refine lv_istore_n (lv' := [(2, .int (yen (yop p1.toNatClampNeg).toNatClampNeg)), (4, .int (yop p1.toNatClampNeg)), (3, .int (-1)), (0, .ref o), (1, .int p1)]) hx hb dX8_setNext_134 rfl hl (by decide) rfl (fun ls hl => ?_)
          refine lv_goto (tgt := 169) hx hb dX8_setNext_135 (by decide) ?_
          refine lv_aload_n hx hb dX8_setNext_169 rfl (lv_at hl 3 rfl) ?_
          refine va_get (D := G.1) (ci := 8) (v := .ref w1) (C := RX8) (T := TX8) (N := 9) hx hb hts owX8 hown hK.1 hP 0 rfl rfl 1 (by decide) (bw0 (w := Cond.fieldLink RX8 15 "DropflagMill$Ways" "first" "[I") hts 18 rfl) (fun _ h9 => h9) rfl dX8_setNext_170 ?_
          refine lv_iload_n hx hb dX8_setNext_173 rfl (lv_at hl 4 rfl) ?_
          refine lv_iload_n hx hb dX8_setNext_174 rfl (lv_at hl 0 rfl) ?_
          refine va_iast hx hb hK.1 hP hD hS 1 0 rfl rfl (i := p1) (sx_in_ix (by decide) c1) dX8_setNext_175 (fun H locs hP hD hS => ?_)
          have hP : va_P G.1 vwCl [(o, .inr (8, [.ref h, .ref w1, .ref w2, .ref w3, .ref w4, .ref w5, .ref w6, .int wdp, .int wwr])), (w1, .inl (G.2.1, 34, .inl (upd yf p1.toNatClampNeg (yen (yop p1.toNatClampNeg).toNatClampNeg)))), (w2, .inl (G.2.1, 34, .inl ys)), (w3, .inl (G.2.1, 34, .inl yop)), (w4, .inl (G.2.1, 34, .inl yel)), (w5, .inl (G.2.1, 34, .inl yen)), (h, .inr (5, [.ref k0, .ref k1, .ref k2, .ref k3, .int (nI pv), .int (nI pn)])), (k1, .inl (G.2.1, 34, .inl fs))] H := hP
          have hD : va_D A [(o, .inr (8, [.ref h, .ref w1, .ref w2, .ref w3, .ref w4, .ref w5, .ref w6, .int wdp, .int wwr])), (w1, .inl (G.2.1, 34, .inl (upd yf p1.toNatClampNeg (yen (yop p1.toNatClampNeg).toNatClampNeg)))), (w2, .inl (G.2.1, 34, .inl ys)), (w3, .inl (G.2.1, 34, .inl yop)), (w4, .inl (G.2.1, 34, .inl yel)), (w5, .inl (G.2.1, 34, .inl yen)), (h, .inr (5, [.ref k0, .ref k1, .ref k2, .ref k3, .int (nI pv), .int (nI pn)])), (k1, .inl (G.2.1, 34, .inl fs))] := hD
          refine lv_aload_n hx hb dX8_setNext_176 rfl (lv_at hl 3 rfl) ?_
          refine va_get (D := G.1) (ci := 8) (v := .ref w2) (C := RX8) (T := TX8) (N := 9) hx hb hts owX8 hown hK.1 hP 0 rfl rfl 2 (by decide) (bw0 (w := Cond.fieldLink RX8 19 "DropflagMill$Ways" "second" "[I") hts 19 rfl) (fun _ h9 => h9) rfl dX8_setNext_177 ?_
          refine lv_iload_n hx hb dX8_setNext_180 rfl (lv_at hl 4 rfl) ?_
          refine lv_iload_n hx hb dX8_setNext_181 rfl (lv_at hl 2 rfl) ?_
          refine va_iast hx hb hK.1 hP hD hS 2 0 rfl rfl (i := p1) (sx_in_ix (by decide) c1) dX8_setNext_182 (fun H locs hP hD hS => ?_)
          have hP : va_P G.1 vwCl [(o, .inr (8, [.ref h, .ref w1, .ref w2, .ref w3, .ref w4, .ref w5, .ref w6, .int wdp, .int wwr])), (w1, .inl (G.2.1, 34, .inl (upd yf p1.toNatClampNeg (yen (yop p1.toNatClampNeg).toNatClampNeg)))), (w2, .inl (G.2.1, 34, .inl (upd ys p1.toNatClampNeg (-1)))), (w3, .inl (G.2.1, 34, .inl yop)), (w4, .inl (G.2.1, 34, .inl yel)), (w5, .inl (G.2.1, 34, .inl yen)), (h, .inr (5, [.ref k0, .ref k1, .ref k2, .ref k3, .int (nI pv), .int (nI pn)])), (k1, .inl (G.2.1, 34, .inl fs))] H := hP
          have hD : va_D A [(o, .inr (8, [.ref h, .ref w1, .ref w2, .ref w3, .ref w4, .ref w5, .ref w6, .int wdp, .int wwr])), (w1, .inl (G.2.1, 34, .inl (upd yf p1.toNatClampNeg (yen (yop p1.toNatClampNeg).toNatClampNeg)))), (w2, .inl (G.2.1, 34, .inl (upd ys p1.toNatClampNeg (-1)))), (w3, .inl (G.2.1, 34, .inl yop)), (w4, .inl (G.2.1, 34, .inl yel)), (w5, .inl (G.2.1, 34, .inl yen)), (h, .inr (5, [.ref k0, .ref k1, .ref k2, .ref k3, .int (nI pv), .int (nI pn)])), (k1, .inl (G.2.1, 34, .inl fs))] := hD
          exact sx_retV (u := (upd yf p1.toNatClampNeg (yen (yop p1.toNatClampNeg).toNatClampNeg), upd ys p1.toNatClampNeg (-1))) hx hb hr hlk hK hP hD hS (by simp only [s_X8_setNext, if_neg c1, if_neg c2, if_pos c4, if_neg c5]) dX8_setNext_183
      · by_cases c6 : (s_X5_sortAt pn fs p1) = 10
        · refine lv_tableIn (off := 135) (tgt := 169) hx hb dX8_setNext_34 (by rw [c6]; decide) (by rw [c6]; decide) (by rw [c6]; rfl) (by decide) ?_
          refine lv_aload_n hx hb dX8_setNext_169 rfl (lv_at hl 3 rfl) ?_
          refine va_get (D := G.1) (ci := 8) (v := .ref w1) (C := RX8) (T := TX8) (N := 9) hx hb hts owX8 hown hK.1 hP 0 rfl rfl 1 (by decide) (bw0 (w := Cond.fieldLink RX8 15 "DropflagMill$Ways" "first" "[I") hts 18 rfl) (fun _ h9 => h9) rfl dX8_setNext_170 ?_
          refine lv_iload_n hx hb dX8_setNext_173 rfl (lv_at hl 4 rfl) ?_
          refine lv_iload_n hx hb dX8_setNext_174 rfl (lv_at hl 2 rfl) ?_
          refine va_iast hx hb hK.1 hP hD hS 1 0 rfl rfl (i := p1) (sx_in_ix (by decide) c1) dX8_setNext_175 (fun H locs hP hD hS => ?_)
          have hP : va_P G.1 vwCl [(o, .inr (8, [.ref h, .ref w1, .ref w2, .ref w3, .ref w4, .ref w5, .ref w6, .int wdp, .int wwr])), (w1, .inl (G.2.1, 34, .inl (upd yf p1.toNatClampNeg (p1 + 1)))), (w2, .inl (G.2.1, 34, .inl ys)), (w3, .inl (G.2.1, 34, .inl yop)), (w4, .inl (G.2.1, 34, .inl yel)), (w5, .inl (G.2.1, 34, .inl yen)), (h, .inr (5, [.ref k0, .ref k1, .ref k2, .ref k3, .int (nI pv), .int (nI pn)])), (k1, .inl (G.2.1, 34, .inl fs))] H := hP
          have hD : va_D A [(o, .inr (8, [.ref h, .ref w1, .ref w2, .ref w3, .ref w4, .ref w5, .ref w6, .int wdp, .int wwr])), (w1, .inl (G.2.1, 34, .inl (upd yf p1.toNatClampNeg (p1 + 1)))), (w2, .inl (G.2.1, 34, .inl ys)), (w3, .inl (G.2.1, 34, .inl yop)), (w4, .inl (G.2.1, 34, .inl yel)), (w5, .inl (G.2.1, 34, .inl yen)), (h, .inr (5, [.ref k0, .ref k1, .ref k2, .ref k3, .int (nI pv), .int (nI pn)])), (k1, .inl (G.2.1, 34, .inl fs))] := hD
          refine lv_aload_n hx hb dX8_setNext_176 rfl (lv_at hl 3 rfl) ?_
          refine va_get (D := G.1) (ci := 8) (v := .ref w2) (C := RX8) (T := TX8) (N := 9) hx hb hts owX8 hown hK.1 hP 0 rfl rfl 2 (by decide) (bw0 (w := Cond.fieldLink RX8 19 "DropflagMill$Ways" "second" "[I") hts 19 rfl) (fun _ h9 => h9) rfl dX8_setNext_177 ?_
          refine lv_iload_n hx hb dX8_setNext_180 rfl (lv_at hl 4 rfl) ?_
          refine lv_iload_n hx hb dX8_setNext_181 rfl (lv_at hl 1 rfl) ?_
          refine va_iast hx hb hK.1 hP hD hS 2 0 rfl rfl (i := p1) (sx_in_ix (by decide) c1) dX8_setNext_182 (fun H locs hP hD hS => ?_)
          have hP : va_P G.1 vwCl [(o, .inr (8, [.ref h, .ref w1, .ref w2, .ref w3, .ref w4, .ref w5, .ref w6, .int wdp, .int wwr])), (w1, .inl (G.2.1, 34, .inl (upd yf p1.toNatClampNeg (p1 + 1)))), (w2, .inl (G.2.1, 34, .inl (upd ys p1.toNatClampNeg (-1)))), (w3, .inl (G.2.1, 34, .inl yop)), (w4, .inl (G.2.1, 34, .inl yel)), (w5, .inl (G.2.1, 34, .inl yen)), (h, .inr (5, [.ref k0, .ref k1, .ref k2, .ref k3, .int (nI pv), .int (nI pn)])), (k1, .inl (G.2.1, 34, .inl fs))] H := hP
          have hD : va_D A [(o, .inr (8, [.ref h, .ref w1, .ref w2, .ref w3, .ref w4, .ref w5, .ref w6, .int wdp, .int wwr])), (w1, .inl (G.2.1, 34, .inl (upd yf p1.toNatClampNeg (p1 + 1)))), (w2, .inl (G.2.1, 34, .inl (upd ys p1.toNatClampNeg (-1)))), (w3, .inl (G.2.1, 34, .inl yop)), (w4, .inl (G.2.1, 34, .inl yel)), (w5, .inl (G.2.1, 34, .inl yen)), (h, .inr (5, [.ref k0, .ref k1, .ref k2, .ref k3, .int (nI pv), .int (nI pn)])), (k1, .inl (G.2.1, 34, .inl fs))] := hD
          exact sx_retV (u := (upd yf p1.toNatClampNeg (p1 + 1), upd ys p1.toNatClampNeg (-1))) hx hb hr hlk hK hP hD hS (by simp only [s_X8_setNext, if_neg c1, if_neg c2, if_neg c4, if_pos c6]) dX8_setNext_183
        · by_cases c7 : (s_X5_sortAt pn fs p1) = 11
          · refine lv_tableIn (off := 104) (tgt := 138) hx hb dX8_setNext_34 (by rw [c7]; decide) (by rw [c7]; decide) (by rw [c7]; rfl) (by decide) ?_
            refine lv_aload_n hx hb dX8_setNext_138 rfl (lv_at hl 3 rfl) ?_
            refine va_get (D := G.1) (ci := 8) (v := .ref h) (C := RX8) (T := TX8) (N := 9) hx hb hts owX8 hown hK.1 hP 0 rfl rfl 0 (by decide) (bw0 (w := Cond.fieldLink RX8 9 "DropflagMill$Ways" "program" "LDropflagMill$Program;") hts 17 rfl) (fun _ h9 => h9) rfl dX8_setNext_139 ?_
            refine lv_iload hx hb dX8_setNext_142 (lv_at hl 0 rfl) ?_
            refine sx_v (As := [.int (yop p1.toNatClampNeg)]) (rest := []) hx hb hml hown hts (c_X5_sortAt l G h k0 k1 k2 k3 pv pn fs (yop p1.toNatClampNeg) (by omega)) 1 (sxGV (bi2 (w := Cond.methodLink RX8 75 yX5_sortAt) 25 rfl) (bi1 (w := Cond.instanceMethod yX5_sortAt) 37 rfl) (bi1 (w := Cond.selects RX5 yX5_sortAt yX5_sortAt) 38 rfl) (bi1 (w := Cond.initialized RX5) 30 rfl) (bi1 (w := Cond.code yX5_sortAt cX5_sortAt 2 (some .int)) 25 rfl)) rfl (by decide +kernel) ⟨Nat.le_of_ble_eq_true rfl, Nat.le_of_ble_eq_true rfl⟩ hK hP [6, 7] rfl 0 rfl rfl rfl hl rfl (Nat.le_of_ble_eq_true rfl) ⟨Nat.zero_le _, Nat.zero_le _⟩ dX8_setNext_144 (fun r er => ?_)
            subst er
            refine lv_bipush (v := 10) hx hb dX8_setNext_147 (by decide) ?_
            refine lv_icmp_ne (tgt := 169) hx hb dX8_setNext_149 (by decide) (fun c8 => ?_) (fun c8 => ?_)
            · refine lv_aload_n hx hb dX8_setNext_169 rfl (lv_at hl 3 rfl) ?_
              refine va_get (D := G.1) (ci := 8) (v := .ref w1) (C := RX8) (T := TX8) (N := 9) hx hb hts owX8 hown hK.1 hP 0 rfl rfl 1 (by decide) (bw0 (w := Cond.fieldLink RX8 15 "DropflagMill$Ways" "first" "[I") hts 18 rfl) (fun _ h9 => h9) rfl dX8_setNext_170 ?_
              refine lv_iload_n hx hb dX8_setNext_173 rfl (lv_at hl 4 rfl) ?_
              refine lv_iload_n hx hb dX8_setNext_174 rfl (lv_at hl 2 rfl) ?_
              refine va_iast hx hb hK.1 hP hD hS 1 0 rfl rfl (i := p1) (sx_in_ix (by decide) c1) dX8_setNext_175 (fun H locs hP hD hS => ?_)
              have hP : va_P G.1 vwCl [(o, .inr (8, [.ref h, .ref w1, .ref w2, .ref w3, .ref w4, .ref w5, .ref w6, .int wdp, .int wwr])), (w1, .inl (G.2.1, 34, .inl (upd yf p1.toNatClampNeg (p1 + 1)))), (w2, .inl (G.2.1, 34, .inl ys)), (w3, .inl (G.2.1, 34, .inl yop)), (w4, .inl (G.2.1, 34, .inl yel)), (w5, .inl (G.2.1, 34, .inl yen)), (h, .inr (5, [.ref k0, .ref k1, .ref k2, .ref k3, .int (nI pv), .int (nI pn)])), (k1, .inl (G.2.1, 34, .inl fs))] H := hP
              have hD : va_D A [(o, .inr (8, [.ref h, .ref w1, .ref w2, .ref w3, .ref w4, .ref w5, .ref w6, .int wdp, .int wwr])), (w1, .inl (G.2.1, 34, .inl (upd yf p1.toNatClampNeg (p1 + 1)))), (w2, .inl (G.2.1, 34, .inl ys)), (w3, .inl (G.2.1, 34, .inl yop)), (w4, .inl (G.2.1, 34, .inl yel)), (w5, .inl (G.2.1, 34, .inl yen)), (h, .inr (5, [.ref k0, .ref k1, .ref k2, .ref k3, .int (nI pv), .int (nI pn)])), (k1, .inl (G.2.1, 34, .inl fs))] := hD
              refine lv_aload_n hx hb dX8_setNext_176 rfl (lv_at hl 3 rfl) ?_
              refine va_get (D := G.1) (ci := 8) (v := .ref w2) (C := RX8) (T := TX8) (N := 9) hx hb hts owX8 hown hK.1 hP 0 rfl rfl 2 (by decide) (bw0 (w := Cond.fieldLink RX8 19 "DropflagMill$Ways" "second" "[I") hts 19 rfl) (fun _ h9 => h9) rfl dX8_setNext_177 ?_
              refine lv_iload_n hx hb dX8_setNext_180 rfl (lv_at hl 4 rfl) ?_
              refine lv_iload_n hx hb dX8_setNext_181 rfl (lv_at hl 1 rfl) ?_
              refine va_iast hx hb hK.1 hP hD hS 2 0 rfl rfl (i := p1) (sx_in_ix (by decide) c1) dX8_setNext_182 (fun H locs hP hD hS => ?_)
              have hP : va_P G.1 vwCl [(o, .inr (8, [.ref h, .ref w1, .ref w2, .ref w3, .ref w4, .ref w5, .ref w6, .int wdp, .int wwr])), (w1, .inl (G.2.1, 34, .inl (upd yf p1.toNatClampNeg (p1 + 1)))), (w2, .inl (G.2.1, 34, .inl (upd ys p1.toNatClampNeg (-1)))), (w3, .inl (G.2.1, 34, .inl yop)), (w4, .inl (G.2.1, 34, .inl yel)), (w5, .inl (G.2.1, 34, .inl yen)), (h, .inr (5, [.ref k0, .ref k1, .ref k2, .ref k3, .int (nI pv), .int (nI pn)])), (k1, .inl (G.2.1, 34, .inl fs))] H := hP
              have hD : va_D A [(o, .inr (8, [.ref h, .ref w1, .ref w2, .ref w3, .ref w4, .ref w5, .ref w6, .int wdp, .int wwr])), (w1, .inl (G.2.1, 34, .inl (upd yf p1.toNatClampNeg (p1 + 1)))), (w2, .inl (G.2.1, 34, .inl (upd ys p1.toNatClampNeg (-1)))), (w3, .inl (G.2.1, 34, .inl yop)), (w4, .inl (G.2.1, 34, .inl yel)), (w5, .inl (G.2.1, 34, .inl yen)), (h, .inr (5, [.ref k0, .ref k1, .ref k2, .ref k3, .int (nI pv), .int (nI pn)])), (k1, .inl (G.2.1, 34, .inl fs))] := hD
              exact sx_retV (u := (upd yf p1.toNatClampNeg (p1 + 1), upd ys p1.toNatClampNeg (-1))) hx hb hr hlk hK hP hD hS (by simp only [s_X8_setNext, if_neg c1, if_neg c2, if_neg c4, if_neg c6, if_pos c7, if_neg c8]) dX8_setNext_183
            · refine lv_iload hx hb dX8_setNext_152 (lv_at hl 0 rfl) ?_
              refine lv_iconst (v := 1) hx hb dX8_setNext_154 (by decide) ?_
              refine lv_iadd hx hb dX8_setNext_155 ?_
              refine lv_istore_n (lv' := [(2, .int ((yop p1.toNatClampNeg) + 1)), (4, .int (yop p1.toNatClampNeg)), (3, .int (-1)), (0, .ref o), (1, .int p1)]) hx hb dX8_setNext_156 rfl hl (by decide) rfl (fun ls hl => ?_)
              refine lv_iload_n hx hb dX8_setNext_157 rfl (lv_at hl 4 rfl) ?_
              refine lv_iconst (v := 1) hx hb dX8_setNext_158 (by decide) ?_
              refine lv_iadd hx hb dX8_setNext_159 ?_
              refine lv_istore_n (lv' := [(3, .int (p1 + 1)), (2, .int ((yop p1.toNatClampNeg) + 1)), (4, .int (yop p1.toNatClampNeg)), (0, .ref o), (1, .int p1)]) hx hb dX8_setNext_160 rfl hl (by decide) rfl (fun ls hl => ?_)
              refine lv_goto (tgt := 169) hx hb dX8_setNext_161 (by decide) ?_
              refine lv_aload_n hx hb dX8_setNext_169 rfl (lv_at hl 3 rfl) ?_
              refine va_get (D := G.1) (ci := 8) (v := .ref w1) (C := RX8) (T := TX8) (N := 9) hx hb hts owX8 hown hK.1 hP 0 rfl rfl 1 (by decide) (bw0 (w := Cond.fieldLink RX8 15 "DropflagMill$Ways" "first" "[I") hts 18 rfl) (fun _ h9 => h9) rfl dX8_setNext_170 ?_
              refine lv_iload_n hx hb dX8_setNext_173 rfl (lv_at hl 4 rfl) ?_
              refine lv_iload_n hx hb dX8_setNext_174 rfl (lv_at hl 1 rfl) ?_
              refine va_iast hx hb hK.1 hP hD hS 1 0 rfl rfl (i := p1) (sx_in_ix (by decide) c1) dX8_setNext_175 (fun H locs hP hD hS => ?_)
              have hP : va_P G.1 vwCl [(o, .inr (8, [.ref h, .ref w1, .ref w2, .ref w3, .ref w4, .ref w5, .ref w6, .int wdp, .int wwr])), (w1, .inl (G.2.1, 34, .inl (upd yf p1.toNatClampNeg ((yop p1.toNatClampNeg) + 1)))), (w2, .inl (G.2.1, 34, .inl ys)), (w3, .inl (G.2.1, 34, .inl yop)), (w4, .inl (G.2.1, 34, .inl yel)), (w5, .inl (G.2.1, 34, .inl yen)), (h, .inr (5, [.ref k0, .ref k1, .ref k2, .ref k3, .int (nI pv), .int (nI pn)])), (k1, .inl (G.2.1, 34, .inl fs))] H := hP
              have hD : va_D A [(o, .inr (8, [.ref h, .ref w1, .ref w2, .ref w3, .ref w4, .ref w5, .ref w6, .int wdp, .int wwr])), (w1, .inl (G.2.1, 34, .inl (upd yf p1.toNatClampNeg ((yop p1.toNatClampNeg) + 1)))), (w2, .inl (G.2.1, 34, .inl ys)), (w3, .inl (G.2.1, 34, .inl yop)), (w4, .inl (G.2.1, 34, .inl yel)), (w5, .inl (G.2.1, 34, .inl yen)), (h, .inr (5, [.ref k0, .ref k1, .ref k2, .ref k3, .int (nI pv), .int (nI pn)])), (k1, .inl (G.2.1, 34, .inl fs))] := hD
              refine lv_aload_n hx hb dX8_setNext_176 rfl (lv_at hl 3 rfl) ?_
              refine va_get (D := G.1) (ci := 8) (v := .ref w2) (C := RX8) (T := TX8) (N := 9) hx hb hts owX8 hown hK.1 hP 0 rfl rfl 2 (by decide) (bw0 (w := Cond.fieldLink RX8 19 "DropflagMill$Ways" "second" "[I") hts 19 rfl) (fun _ h9 => h9) rfl dX8_setNext_177 ?_
              refine lv_iload_n hx hb dX8_setNext_180 rfl (lv_at hl 4 rfl) ?_
              refine lv_iload_n hx hb dX8_setNext_181 rfl (lv_at hl 0 rfl) ?_
              refine va_iast hx hb hK.1 hP hD hS 2 0 rfl rfl (i := p1) (sx_in_ix (by decide) c1) dX8_setNext_182 (fun H locs hP hD hS => ?_)
              have hP : va_P G.1 vwCl [(o, .inr (8, [.ref h, .ref w1, .ref w2, .ref w3, .ref w4, .ref w5, .ref w6, .int wdp, .int wwr])), (w1, .inl (G.2.1, 34, .inl (upd yf p1.toNatClampNeg ((yop p1.toNatClampNeg) + 1)))), (w2, .inl (G.2.1, 34, .inl (upd ys p1.toNatClampNeg (p1 + 1)))), (w3, .inl (G.2.1, 34, .inl yop)), (w4, .inl (G.2.1, 34, .inl yel)), (w5, .inl (G.2.1, 34, .inl yen)), (h, .inr (5, [.ref k0, .ref k1, .ref k2, .ref k3, .int (nI pv), .int (nI pn)])), (k1, .inl (G.2.1, 34, .inl fs))] H := hP
              have hD : va_D A [(o, .inr (8, [.ref h, .ref w1, .ref w2, .ref w3, .ref w4, .ref w5, .ref w6, .int wdp, .int wwr])), (w1, .inl (G.2.1, 34, .inl (upd yf p1.toNatClampNeg ((yop p1.toNatClampNeg) + 1)))), (w2, .inl (G.2.1, 34, .inl (upd ys p1.toNatClampNeg (p1 + 1)))), (w3, .inl (G.2.1, 34, .inl yop)), (w4, .inl (G.2.1, 34, .inl yel)), (w5, .inl (G.2.1, 34, .inl yen)), (h, .inr (5, [.ref k0, .ref k1, .ref k2, .ref k3, .int (nI pv), .int (nI pn)])), (k1, .inl (G.2.1, 34, .inl fs))] := hD
              exact sx_retV (u := (upd yf p1.toNatClampNeg ((yop p1.toNatClampNeg) + 1), upd ys p1.toNatClampNeg (p1 + 1))) hx hb hr hlk hK hP hD hS (by simp only [s_X8_setNext, if_neg c1, if_neg c2, if_neg c4, if_neg c6, if_pos c7, if_pos c8]) dX8_setNext_183
          · by_cases c9 : (s_X5_sortAt pn fs p1) = 12
            · refine lv_tableIn (off := 135) (tgt := 169) hx hb dX8_setNext_34 (by rw [c9]; decide) (by rw [c9]; decide) (by rw [c9]; rfl) (by decide) ?_
              refine lv_aload_n hx hb dX8_setNext_169 rfl (lv_at hl 3 rfl) ?_
              refine va_get (D := G.1) (ci := 8) (v := .ref w1) (C := RX8) (T := TX8) (N := 9) hx hb hts owX8 hown hK.1 hP 0 rfl rfl 1 (by decide) (bw0 (w := Cond.fieldLink RX8 15 "DropflagMill$Ways" "first" "[I") hts 18 rfl) (fun _ h9 => h9) rfl dX8_setNext_170 ?_
              refine lv_iload_n hx hb dX8_setNext_173 rfl (lv_at hl 4 rfl) ?_
              refine lv_iload_n hx hb dX8_setNext_174 rfl (lv_at hl 2 rfl) ?_
              refine va_iast hx hb hK.1 hP hD hS 1 0 rfl rfl (i := p1) (sx_in_ix (by decide) c1) dX8_setNext_175 (fun H locs hP hD hS => ?_)
              have hP : va_P G.1 vwCl [(o, .inr (8, [.ref h, .ref w1, .ref w2, .ref w3, .ref w4, .ref w5, .ref w6, .int wdp, .int wwr])), (w1, .inl (G.2.1, 34, .inl (upd yf p1.toNatClampNeg (p1 + 1)))), (w2, .inl (G.2.1, 34, .inl ys)), (w3, .inl (G.2.1, 34, .inl yop)), (w4, .inl (G.2.1, 34, .inl yel)), (w5, .inl (G.2.1, 34, .inl yen)), (h, .inr (5, [.ref k0, .ref k1, .ref k2, .ref k3, .int (nI pv), .int (nI pn)])), (k1, .inl (G.2.1, 34, .inl fs))] H := hP
              have hD : va_D A [(o, .inr (8, [.ref h, .ref w1, .ref w2, .ref w3, .ref w4, .ref w5, .ref w6, .int wdp, .int wwr])), (w1, .inl (G.2.1, 34, .inl (upd yf p1.toNatClampNeg (p1 + 1)))), (w2, .inl (G.2.1, 34, .inl ys)), (w3, .inl (G.2.1, 34, .inl yop)), (w4, .inl (G.2.1, 34, .inl yel)), (w5, .inl (G.2.1, 34, .inl yen)), (h, .inr (5, [.ref k0, .ref k1, .ref k2, .ref k3, .int (nI pv), .int (nI pn)])), (k1, .inl (G.2.1, 34, .inl fs))] := hD
              refine lv_aload_n hx hb dX8_setNext_176 rfl (lv_at hl 3 rfl) ?_
              refine va_get (D := G.1) (ci := 8) (v := .ref w2) (C := RX8) (T := TX8) (N := 9) hx hb hts owX8 hown hK.1 hP 0 rfl rfl 2 (by decide) (bw0 (w := Cond.fieldLink RX8 19 "DropflagMill$Ways" "second" "[I") hts 19 rfl) (fun _ h9 => h9) rfl dX8_setNext_177 ?_
              refine lv_iload_n hx hb dX8_setNext_180 rfl (lv_at hl 4 rfl) ?_
              refine lv_iload_n hx hb dX8_setNext_181 rfl (lv_at hl 1 rfl) ?_
              refine va_iast hx hb hK.1 hP hD hS 2 0 rfl rfl (i := p1) (sx_in_ix (by decide) c1) dX8_setNext_182 (fun H locs hP hD hS => ?_)
              have hP : va_P G.1 vwCl [(o, .inr (8, [.ref h, .ref w1, .ref w2, .ref w3, .ref w4, .ref w5, .ref w6, .int wdp, .int wwr])), (w1, .inl (G.2.1, 34, .inl (upd yf p1.toNatClampNeg (p1 + 1)))), (w2, .inl (G.2.1, 34, .inl (upd ys p1.toNatClampNeg (-1)))), (w3, .inl (G.2.1, 34, .inl yop)), (w4, .inl (G.2.1, 34, .inl yel)), (w5, .inl (G.2.1, 34, .inl yen)), (h, .inr (5, [.ref k0, .ref k1, .ref k2, .ref k3, .int (nI pv), .int (nI pn)])), (k1, .inl (G.2.1, 34, .inl fs))] H := hP
              have hD : va_D A [(o, .inr (8, [.ref h, .ref w1, .ref w2, .ref w3, .ref w4, .ref w5, .ref w6, .int wdp, .int wwr])), (w1, .inl (G.2.1, 34, .inl (upd yf p1.toNatClampNeg (p1 + 1)))), (w2, .inl (G.2.1, 34, .inl (upd ys p1.toNatClampNeg (-1)))), (w3, .inl (G.2.1, 34, .inl yop)), (w4, .inl (G.2.1, 34, .inl yel)), (w5, .inl (G.2.1, 34, .inl yen)), (h, .inr (5, [.ref k0, .ref k1, .ref k2, .ref k3, .int (nI pv), .int (nI pn)])), (k1, .inl (G.2.1, 34, .inl fs))] := hD
              exact sx_retV (u := (upd yf p1.toNatClampNeg (p1 + 1), upd ys p1.toNatClampNeg (-1))) hx hb hr hlk hK hP hD hS (by simp only [s_X8_setNext, if_neg c1, if_neg c2, if_neg c4, if_neg c6, if_neg c7, if_pos c9]) dX8_setNext_183
            · by_cases c10 : (s_X5_sortAt pn fs p1) = 13
              · refine lv_tableIn (off := 135) (tgt := 169) hx hb dX8_setNext_34 (by rw [c10]; decide) (by rw [c10]; decide) (by rw [c10]; rfl) (by decide) ?_
                refine lv_aload_n hx hb dX8_setNext_169 rfl (lv_at hl 3 rfl) ?_
                refine va_get (D := G.1) (ci := 8) (v := .ref w1) (C := RX8) (T := TX8) (N := 9) hx hb hts owX8 hown hK.1 hP 0 rfl rfl 1 (by decide) (bw0 (w := Cond.fieldLink RX8 15 "DropflagMill$Ways" "first" "[I") hts 18 rfl) (fun _ h9 => h9) rfl dX8_setNext_170 ?_
                refine lv_iload_n hx hb dX8_setNext_173 rfl (lv_at hl 4 rfl) ?_
                refine lv_iload_n hx hb dX8_setNext_174 rfl (lv_at hl 2 rfl) ?_
                refine va_iast hx hb hK.1 hP hD hS 1 0 rfl rfl (i := p1) (sx_in_ix (by decide) c1) dX8_setNext_175 (fun H locs hP hD hS => ?_)
                have hP : va_P G.1 vwCl [(o, .inr (8, [.ref h, .ref w1, .ref w2, .ref w3, .ref w4, .ref w5, .ref w6, .int wdp, .int wwr])), (w1, .inl (G.2.1, 34, .inl (upd yf p1.toNatClampNeg (p1 + 1)))), (w2, .inl (G.2.1, 34, .inl ys)), (w3, .inl (G.2.1, 34, .inl yop)), (w4, .inl (G.2.1, 34, .inl yel)), (w5, .inl (G.2.1, 34, .inl yen)), (h, .inr (5, [.ref k0, .ref k1, .ref k2, .ref k3, .int (nI pv), .int (nI pn)])), (k1, .inl (G.2.1, 34, .inl fs))] H := hP
                have hD : va_D A [(o, .inr (8, [.ref h, .ref w1, .ref w2, .ref w3, .ref w4, .ref w5, .ref w6, .int wdp, .int wwr])), (w1, .inl (G.2.1, 34, .inl (upd yf p1.toNatClampNeg (p1 + 1)))), (w2, .inl (G.2.1, 34, .inl ys)), (w3, .inl (G.2.1, 34, .inl yop)), (w4, .inl (G.2.1, 34, .inl yel)), (w5, .inl (G.2.1, 34, .inl yen)), (h, .inr (5, [.ref k0, .ref k1, .ref k2, .ref k3, .int (nI pv), .int (nI pn)])), (k1, .inl (G.2.1, 34, .inl fs))] := hD
                refine lv_aload_n hx hb dX8_setNext_176 rfl (lv_at hl 3 rfl) ?_
                refine va_get (D := G.1) (ci := 8) (v := .ref w2) (C := RX8) (T := TX8) (N := 9) hx hb hts owX8 hown hK.1 hP 0 rfl rfl 2 (by decide) (bw0 (w := Cond.fieldLink RX8 19 "DropflagMill$Ways" "second" "[I") hts 19 rfl) (fun _ h9 => h9) rfl dX8_setNext_177 ?_
                refine lv_iload_n hx hb dX8_setNext_180 rfl (lv_at hl 4 rfl) ?_
                refine lv_iload_n hx hb dX8_setNext_181 rfl (lv_at hl 1 rfl) ?_
                refine va_iast hx hb hK.1 hP hD hS 2 0 rfl rfl (i := p1) (sx_in_ix (by decide) c1) dX8_setNext_182 (fun H locs hP hD hS => ?_)
                have hP : va_P G.1 vwCl [(o, .inr (8, [.ref h, .ref w1, .ref w2, .ref w3, .ref w4, .ref w5, .ref w6, .int wdp, .int wwr])), (w1, .inl (G.2.1, 34, .inl (upd yf p1.toNatClampNeg (p1 + 1)))), (w2, .inl (G.2.1, 34, .inl (upd ys p1.toNatClampNeg (-1)))), (w3, .inl (G.2.1, 34, .inl yop)), (w4, .inl (G.2.1, 34, .inl yel)), (w5, .inl (G.2.1, 34, .inl yen)), (h, .inr (5, [.ref k0, .ref k1, .ref k2, .ref k3, .int (nI pv), .int (nI pn)])), (k1, .inl (G.2.1, 34, .inl fs))] H := hP
                have hD : va_D A [(o, .inr (8, [.ref h, .ref w1, .ref w2, .ref w3, .ref w4, .ref w5, .ref w6, .int wdp, .int wwr])), (w1, .inl (G.2.1, 34, .inl (upd yf p1.toNatClampNeg (p1 + 1)))), (w2, .inl (G.2.1, 34, .inl (upd ys p1.toNatClampNeg (-1)))), (w3, .inl (G.2.1, 34, .inl yop)), (w4, .inl (G.2.1, 34, .inl yel)), (w5, .inl (G.2.1, 34, .inl yen)), (h, .inr (5, [.ref k0, .ref k1, .ref k2, .ref k3, .int (nI pv), .int (nI pn)])), (k1, .inl (G.2.1, 34, .inl fs))] := hD
                exact sx_retV (u := (upd yf p1.toNatClampNeg (p1 + 1), upd ys p1.toNatClampNeg (-1))) hx hb hr hlk hK hP hD hS (by simp only [s_X8_setNext, if_neg c1, if_neg c2, if_neg c4, if_neg c6, if_neg c7, if_neg c9, if_pos c10]) dX8_setNext_183
              · by_cases c11 : (s_X5_sortAt pn fs p1) = 14
                · refine lv_tableIn (off := 135) (tgt := 169) hx hb dX8_setNext_34 (by rw [c11]; decide) (by rw [c11]; decide) (by rw [c11]; rfl) (by decide) ?_
                  refine lv_aload_n hx hb dX8_setNext_169 rfl (lv_at hl 3 rfl) ?_
                  refine va_get (D := G.1) (ci := 8) (v := .ref w1) (C := RX8) (T := TX8) (N := 9) hx hb hts owX8 hown hK.1 hP 0 rfl rfl 1 (by decide) (bw0 (w := Cond.fieldLink RX8 15 "DropflagMill$Ways" "first" "[I") hts 18 rfl) (fun _ h9 => h9) rfl dX8_setNext_170 ?_
                  refine lv_iload_n hx hb dX8_setNext_173 rfl (lv_at hl 4 rfl) ?_
                  refine lv_iload_n hx hb dX8_setNext_174 rfl (lv_at hl 2 rfl) ?_
                  refine va_iast hx hb hK.1 hP hD hS 1 0 rfl rfl (i := p1) (sx_in_ix (by decide) c1) dX8_setNext_175 (fun H locs hP hD hS => ?_)
                  have hP : va_P G.1 vwCl [(o, .inr (8, [.ref h, .ref w1, .ref w2, .ref w3, .ref w4, .ref w5, .ref w6, .int wdp, .int wwr])), (w1, .inl (G.2.1, 34, .inl (upd yf p1.toNatClampNeg (p1 + 1)))), (w2, .inl (G.2.1, 34, .inl ys)), (w3, .inl (G.2.1, 34, .inl yop)), (w4, .inl (G.2.1, 34, .inl yel)), (w5, .inl (G.2.1, 34, .inl yen)), (h, .inr (5, [.ref k0, .ref k1, .ref k2, .ref k3, .int (nI pv), .int (nI pn)])), (k1, .inl (G.2.1, 34, .inl fs))] H := hP
                  have hD : va_D A [(o, .inr (8, [.ref h, .ref w1, .ref w2, .ref w3, .ref w4, .ref w5, .ref w6, .int wdp, .int wwr])), (w1, .inl (G.2.1, 34, .inl (upd yf p1.toNatClampNeg (p1 + 1)))), (w2, .inl (G.2.1, 34, .inl ys)), (w3, .inl (G.2.1, 34, .inl yop)), (w4, .inl (G.2.1, 34, .inl yel)), (w5, .inl (G.2.1, 34, .inl yen)), (h, .inr (5, [.ref k0, .ref k1, .ref k2, .ref k3, .int (nI pv), .int (nI pn)])), (k1, .inl (G.2.1, 34, .inl fs))] := hD
                  refine lv_aload_n hx hb dX8_setNext_176 rfl (lv_at hl 3 rfl) ?_
                  refine va_get (D := G.1) (ci := 8) (v := .ref w2) (C := RX8) (T := TX8) (N := 9) hx hb hts owX8 hown hK.1 hP 0 rfl rfl 2 (by decide) (bw0 (w := Cond.fieldLink RX8 19 "DropflagMill$Ways" "second" "[I") hts 19 rfl) (fun _ h9 => h9) rfl dX8_setNext_177 ?_
                  refine lv_iload_n hx hb dX8_setNext_180 rfl (lv_at hl 4 rfl) ?_
                  refine lv_iload_n hx hb dX8_setNext_181 rfl (lv_at hl 1 rfl) ?_
                  refine va_iast hx hb hK.1 hP hD hS 2 0 rfl rfl (i := p1) (sx_in_ix (by decide) c1) dX8_setNext_182 (fun H locs hP hD hS => ?_)
                  have hP : va_P G.1 vwCl [(o, .inr (8, [.ref h, .ref w1, .ref w2, .ref w3, .ref w4, .ref w5, .ref w6, .int wdp, .int wwr])), (w1, .inl (G.2.1, 34, .inl (upd yf p1.toNatClampNeg (p1 + 1)))), (w2, .inl (G.2.1, 34, .inl (upd ys p1.toNatClampNeg (-1)))), (w3, .inl (G.2.1, 34, .inl yop)), (w4, .inl (G.2.1, 34, .inl yel)), (w5, .inl (G.2.1, 34, .inl yen)), (h, .inr (5, [.ref k0, .ref k1, .ref k2, .ref k3, .int (nI pv), .int (nI pn)])), (k1, .inl (G.2.1, 34, .inl fs))] H := hP
                  have hD : va_D A [(o, .inr (8, [.ref h, .ref w1, .ref w2, .ref w3, .ref w4, .ref w5, .ref w6, .int wdp, .int wwr])), (w1, .inl (G.2.1, 34, .inl (upd yf p1.toNatClampNeg (p1 + 1)))), (w2, .inl (G.2.1, 34, .inl (upd ys p1.toNatClampNeg (-1)))), (w3, .inl (G.2.1, 34, .inl yop)), (w4, .inl (G.2.1, 34, .inl yel)), (w5, .inl (G.2.1, 34, .inl yen)), (h, .inr (5, [.ref k0, .ref k1, .ref k2, .ref k3, .int (nI pv), .int (nI pn)])), (k1, .inl (G.2.1, 34, .inl fs))] := hD
                  exact sx_retV (u := (upd yf p1.toNatClampNeg (p1 + 1), upd ys p1.toNatClampNeg (-1))) hx hb hr hlk hK hP hD hS (by simp only [s_X8_setNext, if_neg c1, if_neg c2, if_neg c4, if_neg c6, if_neg c7, if_neg c9, if_neg c10, if_pos c11]) dX8_setNext_183
                · by_cases c12 : (s_X5_sortAt pn fs p1) = 15
                  · refine lv_tableIn (off := 130) (tgt := 164) hx hb dX8_setNext_34 (by rw [c12]; decide) (by rw [c12]; decide) (by rw [c12]; rfl) (by decide) ?_
                    refine lv_iconst (v := (-1)) hx hb dX8_setNext_164 (by decide) ?_
                    refine lv_istore_n (lv' := [(2, .int (-1)), (4, .int (yop p1.toNatClampNeg)), (3, .int (-1)), (0, .ref o), (1, .int p1)]) hx hb dX8_setNext_165 rfl hl (by decide) rfl (fun ls hl => ?_)
                    refine lv_goto (tgt := 169) hx hb dX8_setNext_166 (by decide) ?_
                    refine lv_aload_n hx hb dX8_setNext_169 rfl (lv_at hl 3 rfl) ?_
                    refine va_get (D := G.1) (ci := 8) (v := .ref w1) (C := RX8) (T := TX8) (N := 9) hx hb hts owX8 hown hK.1 hP 0 rfl rfl 1 (by decide) (bw0 (w := Cond.fieldLink RX8 15 "DropflagMill$Ways" "first" "[I") hts 18 rfl) (fun _ h9 => h9) rfl dX8_setNext_170 ?_
                    refine lv_iload_n hx hb dX8_setNext_173 rfl (lv_at hl 4 rfl) ?_
                    refine lv_iload_n hx hb dX8_setNext_174 rfl (lv_at hl 0 rfl) ?_
                    refine va_iast hx hb hK.1 hP hD hS 1 0 rfl rfl (i := p1) (sx_in_ix (by decide) c1) dX8_setNext_175 (fun H locs hP hD hS => ?_)
                    have hP : va_P G.1 vwCl [(o, .inr (8, [.ref h, .ref w1, .ref w2, .ref w3, .ref w4, .ref w5, .ref w6, .int wdp, .int wwr])), (w1, .inl (G.2.1, 34, .inl (upd yf p1.toNatClampNeg (-1)))), (w2, .inl (G.2.1, 34, .inl ys)), (w3, .inl (G.2.1, 34, .inl yop)), (w4, .inl (G.2.1, 34, .inl yel)), (w5, .inl (G.2.1, 34, .inl yen)), (h, .inr (5, [.ref k0, .ref k1, .ref k2, .ref k3, .int (nI pv), .int (nI pn)])), (k1, .inl (G.2.1, 34, .inl fs))] H := hP
                    have hD : va_D A [(o, .inr (8, [.ref h, .ref w1, .ref w2, .ref w3, .ref w4, .ref w5, .ref w6, .int wdp, .int wwr])), (w1, .inl (G.2.1, 34, .inl (upd yf p1.toNatClampNeg (-1)))), (w2, .inl (G.2.1, 34, .inl ys)), (w3, .inl (G.2.1, 34, .inl yop)), (w4, .inl (G.2.1, 34, .inl yel)), (w5, .inl (G.2.1, 34, .inl yen)), (h, .inr (5, [.ref k0, .ref k1, .ref k2, .ref k3, .int (nI pv), .int (nI pn)])), (k1, .inl (G.2.1, 34, .inl fs))] := hD
                    refine lv_aload_n hx hb dX8_setNext_176 rfl (lv_at hl 3 rfl) ?_
                    refine va_get (D := G.1) (ci := 8) (v := .ref w2) (C := RX8) (T := TX8) (N := 9) hx hb hts owX8 hown hK.1 hP 0 rfl rfl 2 (by decide) (bw0 (w := Cond.fieldLink RX8 19 "DropflagMill$Ways" "second" "[I") hts 19 rfl) (fun _ h9 => h9) rfl dX8_setNext_177 ?_
                    refine lv_iload_n hx hb dX8_setNext_180 rfl (lv_at hl 4 rfl) ?_
                    refine lv_iload_n hx hb dX8_setNext_181 rfl (lv_at hl 2 rfl) ?_
                    refine va_iast hx hb hK.1 hP hD hS 2 0 rfl rfl (i := p1) (sx_in_ix (by decide) c1) dX8_setNext_182 (fun H locs hP hD hS => ?_)
                    have hP : va_P G.1 vwCl [(o, .inr (8, [.ref h, .ref w1, .ref w2, .ref w3, .ref w4, .ref w5, .ref w6, .int wdp, .int wwr])), (w1, .inl (G.2.1, 34, .inl (upd yf p1.toNatClampNeg (-1)))), (w2, .inl (G.2.1, 34, .inl (upd ys p1.toNatClampNeg (-1)))), (w3, .inl (G.2.1, 34, .inl yop)), (w4, .inl (G.2.1, 34, .inl yel)), (w5, .inl (G.2.1, 34, .inl yen)), (h, .inr (5, [.ref k0, .ref k1, .ref k2, .ref k3, .int (nI pv), .int (nI pn)])), (k1, .inl (G.2.1, 34, .inl fs))] H := hP
                    have hD : va_D A [(o, .inr (8, [.ref h, .ref w1, .ref w2, .ref w3, .ref w4, .ref w5, .ref w6, .int wdp, .int wwr])), (w1, .inl (G.2.1, 34, .inl (upd yf p1.toNatClampNeg (-1)))), (w2, .inl (G.2.1, 34, .inl (upd ys p1.toNatClampNeg (-1)))), (w3, .inl (G.2.1, 34, .inl yop)), (w4, .inl (G.2.1, 34, .inl yel)), (w5, .inl (G.2.1, 34, .inl yen)), (h, .inr (5, [.ref k0, .ref k1, .ref k2, .ref k3, .int (nI pv), .int (nI pn)])), (k1, .inl (G.2.1, 34, .inl fs))] := hD
                    exact sx_retV (u := (upd yf p1.toNatClampNeg (-1), upd ys p1.toNatClampNeg (-1))) hx hb hr hlk hK hP hD hS (by simp only [s_X8_setNext, if_neg c1, if_neg c2, if_neg c4, if_neg c6, if_neg c7, if_neg c9, if_neg c10, if_neg c11, if_pos c12]) dX8_setNext_183
                  · refine lv_tableOut (tgt := 169) hx hb dX8_setNext_34 (by have := lv_neT (a := 8) c2 rfl; have := lv_neT (a := 9) c4 rfl; have := lv_neT (a := 10) c6 rfl; have := lv_neT (a := 11) c7 rfl; have := lv_neT (a := 12) c9 rfl; have := lv_neT (a := 13) c10 rfl; have := lv_neT (a := 14) c11 rfl; have := lv_neT (a := 15) c12 rfl; omega) (by decide) ?_
                    refine lv_aload_n hx hb dX8_setNext_169 rfl (lv_at hl 3 rfl) ?_
                    refine va_get (D := G.1) (ci := 8) (v := .ref w1) (C := RX8) (T := TX8) (N := 9) hx hb hts owX8 hown hK.1 hP 0 rfl rfl 1 (by decide) (bw0 (w := Cond.fieldLink RX8 15 "DropflagMill$Ways" "first" "[I") hts 18 rfl) (fun _ h9 => h9) rfl dX8_setNext_170 ?_
                    refine lv_iload_n hx hb dX8_setNext_173 rfl (lv_at hl 4 rfl) ?_
                    refine lv_iload_n hx hb dX8_setNext_174 rfl (lv_at hl 2 rfl) ?_
                    refine va_iast hx hb hK.1 hP hD hS 1 0 rfl rfl (i := p1) (sx_in_ix (by decide) c1) dX8_setNext_175 (fun H locs hP hD hS => ?_)
                    have hP : va_P G.1 vwCl [(o, .inr (8, [.ref h, .ref w1, .ref w2, .ref w3, .ref w4, .ref w5, .ref w6, .int wdp, .int wwr])), (w1, .inl (G.2.1, 34, .inl (upd yf p1.toNatClampNeg (p1 + 1)))), (w2, .inl (G.2.1, 34, .inl ys)), (w3, .inl (G.2.1, 34, .inl yop)), (w4, .inl (G.2.1, 34, .inl yel)), (w5, .inl (G.2.1, 34, .inl yen)), (h, .inr (5, [.ref k0, .ref k1, .ref k2, .ref k3, .int (nI pv), .int (nI pn)])), (k1, .inl (G.2.1, 34, .inl fs))] H := hP
                    have hD : va_D A [(o, .inr (8, [.ref h, .ref w1, .ref w2, .ref w3, .ref w4, .ref w5, .ref w6, .int wdp, .int wwr])), (w1, .inl (G.2.1, 34, .inl (upd yf p1.toNatClampNeg (p1 + 1)))), (w2, .inl (G.2.1, 34, .inl ys)), (w3, .inl (G.2.1, 34, .inl yop)), (w4, .inl (G.2.1, 34, .inl yel)), (w5, .inl (G.2.1, 34, .inl yen)), (h, .inr (5, [.ref k0, .ref k1, .ref k2, .ref k3, .int (nI pv), .int (nI pn)])), (k1, .inl (G.2.1, 34, .inl fs))] := hD
                    refine lv_aload_n hx hb dX8_setNext_176 rfl (lv_at hl 3 rfl) ?_
                    refine va_get (D := G.1) (ci := 8) (v := .ref w2) (C := RX8) (T := TX8) (N := 9) hx hb hts owX8 hown hK.1 hP 0 rfl rfl 2 (by decide) (bw0 (w := Cond.fieldLink RX8 19 "DropflagMill$Ways" "second" "[I") hts 19 rfl) (fun _ h9 => h9) rfl dX8_setNext_177 ?_
                    refine lv_iload_n hx hb dX8_setNext_180 rfl (lv_at hl 4 rfl) ?_
                    refine lv_iload_n hx hb dX8_setNext_181 rfl (lv_at hl 1 rfl) ?_
                    refine va_iast hx hb hK.1 hP hD hS 2 0 rfl rfl (i := p1) (sx_in_ix (by decide) c1) dX8_setNext_182 (fun H locs hP hD hS => ?_)
                    have hP : va_P G.1 vwCl [(o, .inr (8, [.ref h, .ref w1, .ref w2, .ref w3, .ref w4, .ref w5, .ref w6, .int wdp, .int wwr])), (w1, .inl (G.2.1, 34, .inl (upd yf p1.toNatClampNeg (p1 + 1)))), (w2, .inl (G.2.1, 34, .inl (upd ys p1.toNatClampNeg (-1)))), (w3, .inl (G.2.1, 34, .inl yop)), (w4, .inl (G.2.1, 34, .inl yel)), (w5, .inl (G.2.1, 34, .inl yen)), (h, .inr (5, [.ref k0, .ref k1, .ref k2, .ref k3, .int (nI pv), .int (nI pn)])), (k1, .inl (G.2.1, 34, .inl fs))] H := hP
                    have hD : va_D A [(o, .inr (8, [.ref h, .ref w1, .ref w2, .ref w3, .ref w4, .ref w5, .ref w6, .int wdp, .int wwr])), (w1, .inl (G.2.1, 34, .inl (upd yf p1.toNatClampNeg (p1 + 1)))), (w2, .inl (G.2.1, 34, .inl (upd ys p1.toNatClampNeg (-1)))), (w3, .inl (G.2.1, 34, .inl yop)), (w4, .inl (G.2.1, 34, .inl yel)), (w5, .inl (G.2.1, 34, .inl yen)), (h, .inr (5, [.ref k0, .ref k1, .ref k2, .ref k3, .int (nI pv), .int (nI pn)])), (k1, .inl (G.2.1, 34, .inl fs))] := hD
                    exact sx_retV (u := (upd yf p1.toNatClampNeg (p1 + 1), upd ys p1.toNatClampNeg (-1))) hx hb hr hlk hK hP hD hS (by simp only [s_X8_setNext, if_neg c1, if_neg c2, if_neg c4, if_neg c6, if_neg c7, if_neg c9, if_neg c10, if_neg c11, if_neg c12]) dX8_setNext_183
  · exact sx_retV (u := (yf, ys)) hx hb hr hlk hK hP hD hS (by simp only [s_X8_setNext, if_pos c1]) dX8_setNext_11
