abbrev wdX5_isLine : List Cond := Cond.code yX5_isLine cX5_isLine 2 (some .boolean) :: bwC
def s_X5_isLine (pn : Nat) (p1 : Int32) : Int32 := if p1 < 0 then 0 else (if (nI pn) ≤ p1 then 0 else 1)
set_option maxHeartbeats 4000000 in
set_option maxRecDepth 100000 in
theorem c_X5_isLine (l : Launch) (G : sxG) (h : Nat) (k0 : Nat) (k1 : Nat) (k2 : Nat) (k3 : Nat) (pv : Nat) (pn : Nat) (p1 : Int32)  : sxM l yX5_isLine wdX5_isLine 0 0 G [(h, .inr (5, [.ref k0, .ref k1, .ref k2, .ref k3, .int (nI pv), .int (nI pn)]))] [.ref h, .int p1] (fun r => r = s_X5_isLine pn p1) := by
  refine sxM.of (cc := cX5_isLine) (maxL := 2) (by decide) rfl (Nat.le_of_ble_eq_true rfl) ?_
  intro p e s m args below meth c ⟨hx, hb, hr, hml, hown, hlk, hts, hK⟩ hP ls hl
  have hl : lv_has ls 2 [(0, .ref h), (1, .int p1)] := hl
  refine lv_iload_n hx hb dX5_isLine_0 rfl (lv_at hl 1 rfl) ?_
  refine lv_if_lt (tgt := 16) hx hb dX5_isLine_1 (by decide) (fun c1 => ?_) (fun c1 => ?_)
  · refine lv_iconst (v := 0) hx hb dX5_isLine_16 (by decide) ?_
    exact sx_ret hx hb hr hlk rfl (by simp only [s_X5_isLine, if_pos c1]) dX5_isLine_17
  · refine lv_iload_n hx hb dX5_isLine_4 rfl (lv_at hl 1 rfl) ?_
    refine lv_aload_n hx hb dX5_isLine_5 rfl (lv_at hl 0 rfl) ?_
    refine va_get (D := G.1) (ci := 5) (v := .int (nI pn)) (C := RX5) (T := TX5) (N := 6) hx hb hts owX5 hown hK.1 hP 0 rfl rfl 5 (by decide) (bw1 (w := Cond.fieldLink RX5 28 "DropflagMill$Program" "lines" "I") hts 24 rfl) (fun _ h9 => h9) rfl dX5_isLine_6 ?_
    refine lv_icmp_ge (tgt := 16) hx hb dX5_isLine_9 (by decide) (fun c2 => ?_) (fun c2 => ?_)
    · refine lv_iconst (v := 0) hx hb dX5_isLine_16 (by decide) ?_
      exact sx_ret hx hb hr hlk rfl (by simp only [s_X5_isLine, if_neg c1, if_pos c2]) dX5_isLine_17
    · refine lv_iconst (v := 1) hx hb dX5_isLine_12 (by decide) ?_
      refine lv_goto (tgt := 17) hx hb dX5_isLine_13 (by decide) ?_
      exact sx_ret hx hb hr hlk rfl (by simp only [s_X5_isLine, if_neg c1, if_neg c2]) dX5_isLine_17

abbrev wdX5_isLineOrEnd : List Cond := Cond.code yX5_isLineOrEnd cX5_isLineOrEnd 2 (some .boolean) :: bwC
def s_X5_isLineOrEnd (pn : Nat) (p1 : Int32) : Int32 := if p1 < 0 then 0 else (if (nI pn) < p1 then 0 else 1)
set_option maxHeartbeats 4000000 in
set_option maxRecDepth 100000 in
theorem c_X5_isLineOrEnd (l : Launch) (G : sxG) (h : Nat) (k0 : Nat) (k1 : Nat) (k2 : Nat) (k3 : Nat) (pv : Nat) (pn : Nat) (p1 : Int32)  : sxM l yX5_isLineOrEnd wdX5_isLineOrEnd 0 0 G [(h, .inr (5, [.ref k0, .ref k1, .ref k2, .ref k3, .int (nI pv), .int (nI pn)]))] [.ref h, .int p1] (fun r => r = s_X5_isLineOrEnd pn p1) := by
  refine sxM.of (cc := cX5_isLineOrEnd) (maxL := 2) (by decide) rfl (Nat.le_of_ble_eq_true rfl) ?_
  intro p e s m args below meth c ⟨hx, hb, hr, hml, hown, hlk, hts, hK⟩ hP ls hl
  have hl : lv_has ls 2 [(0, .ref h), (1, .int p1)] := hl
  refine lv_iload_n hx hb dX5_isLineOrEnd_0 rfl (lv_at hl 1 rfl) ?_
  refine lv_if_lt (tgt := 16) hx hb dX5_isLineOrEnd_1 (by decide) (fun c1 => ?_) (fun c1 => ?_)
  · refine lv_iconst (v := 0) hx hb dX5_isLineOrEnd_16 (by decide) ?_
    exact sx_ret hx hb hr hlk rfl (by simp only [s_X5_isLineOrEnd, if_pos c1]) dX5_isLineOrEnd_17
  · refine lv_iload_n hx hb dX5_isLineOrEnd_4 rfl (lv_at hl 1 rfl) ?_
    refine lv_aload_n hx hb dX5_isLineOrEnd_5 rfl (lv_at hl 0 rfl) ?_
    refine va_get (D := G.1) (ci := 5) (v := .int (nI pn)) (C := RX5) (T := TX5) (N := 6) hx hb hts owX5 hown hK.1 hP 0 rfl rfl 5 (by decide) (bw1 (w := Cond.fieldLink RX5 28 "DropflagMill$Program" "lines" "I") hts 24 rfl) (fun _ h9 => h9) rfl dX5_isLineOrEnd_6 ?_
    refine lv_icmp_gt (tgt := 16) hx hb dX5_isLineOrEnd_9 (by decide) (fun c2 => ?_) (fun c2 => ?_)
    · refine lv_iconst (v := 0) hx hb dX5_isLineOrEnd_16 (by decide) ?_
      exact sx_ret hx hb hr hlk rfl (by simp only [s_X5_isLineOrEnd, if_neg c1, if_pos c2]) dX5_isLineOrEnd_17
    · refine lv_iconst (v := 1) hx hb dX5_isLineOrEnd_12 (by decide) ?_
      refine lv_goto (tgt := 17) hx hb dX5_isLineOrEnd_13 (by decide) ?_
      exact sx_ret hx hb hr hlk rfl (by simp only [s_X5_isLineOrEnd, if_neg c1, if_neg c2]) dX5_isLineOrEnd_17

abbrev wdX5_isVariable : List Cond := Cond.code yX5_isVariable cX5_isVariable 2 (some .boolean) :: bwC
def s_X5_isVariable (pv : Nat) (p1 : Int32) : Int32 := if p1 < 0 then 0 else (if (nI pv) ≤ p1 then 0 else 1)
set_option maxHeartbeats 4000000 in
set_option maxRecDepth 100000 in
theorem c_X5_isVariable (l : Launch) (G : sxG) (h : Nat) (k0 : Nat) (k1 : Nat) (k2 : Nat) (k3 : Nat) (pv : Nat) (pn : Nat) (p1 : Int32)  : sxM l yX5_isVariable wdX5_isVariable 0 0 G [(h, .inr (5, [.ref k0, .ref k1, .ref k2, .ref k3, .int (nI pv), .int (nI pn)]))] [.ref h, .int p1] (fun r => r = s_X5_isVariable pv p1) := by
  refine sxM.of (cc := cX5_isVariable) (maxL := 2) (by decide) rfl (Nat.le_of_ble_eq_true rfl) ?_
  intro p e s m args below meth c ⟨hx, hb, hr, hml, hown, hlk, hts, hK⟩ hP ls hl
  have hl : lv_has ls 2 [(0, .ref h), (1, .int p1)] := hl
  refine lv_iload_n hx hb dX5_isVariable_0 rfl (lv_at hl 1 rfl) ?_
  refine lv_if_lt (tgt := 16) hx hb dX5_isVariable_1 (by decide) (fun c1 => ?_) (fun c1 => ?_)
  · refine lv_iconst (v := 0) hx hb dX5_isVariable_16 (by decide) ?_
    exact sx_ret hx hb hr hlk rfl (by simp only [s_X5_isVariable, if_pos c1]) dX5_isVariable_17
  · refine lv_iload_n hx hb dX5_isVariable_4 rfl (lv_at hl 1 rfl) ?_
    refine lv_aload_n hx hb dX5_isVariable_5 rfl (lv_at hl 0 rfl) ?_
    refine va_get (D := G.1) (ci := 5) (v := .int (nI pv)) (C := RX5) (T := TX5) (N := 6) hx hb hts owX5 hown hK.1 hP 0 rfl rfl 4 (by decide) (bw1 (w := Cond.fieldLink RX5 24 "DropflagMill$Program" "variables" "I") hts 47 rfl) (fun _ h9 => h9) rfl dX5_isVariable_6 ?_
    refine lv_icmp_ge (tgt := 16) hx hb dX5_isVariable_9 (by decide) (fun c2 => ?_) (fun c2 => ?_)
    · refine lv_iconst (v := 0) hx hb dX5_isVariable_16 (by decide) ?_
      exact sx_ret hx hb hr hlk rfl (by simp only [s_X5_isVariable, if_neg c1, if_pos c2]) dX5_isVariable_17
    · refine lv_iconst (v := 1) hx hb dX5_isVariable_12 (by decide) ?_
      refine lv_goto (tgt := 17) hx hb dX5_isVariable_13 (by decide) ?_
      exact sx_ret hx hb hr hlk rfl (by simp only [s_X5_isVariable, if_neg c1, if_neg c2]) dX5_isVariable_17
