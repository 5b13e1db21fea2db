abbrev wdX2_isFault : List Cond := Cond.code yX2_isFault cX2_isFault 2 (some .boolean) :: bwC
def s_X2_isFault (fc : Nat) (p1 : Int32) : Int32 := if p1 < 0 then 0 else (if (nI fc) ≤ p1 then 0 else 1)
set_option maxHeartbeats 4000000 in
set_option maxRecDepth 100000 in
theorem c_X2_isFault (l : Launch) (G : sxG) (o : Nat) (m0 : Nat) (m1 : Nat) (m2 : Nat) (m3 : Nat) (fc : Nat) (p1 : Int32)  : sxM l yX2_isFault wdX2_isFault 0 0 G [(o, .inr (2, [.ref m0, .ref m1, .ref m2, .ref m3, .int (nI fc)]))] [.ref o, .int p1] (fun r => r = s_X2_isFault fc p1) := by
  refine sxM.of (cc := cX2_isFault) (maxL := 2) (by decide) rfl (Nat.le_of_ble_eq_true rfl) ?_
  intro p e s m args below meth c ⟨hx, hb, hr, hml, hown, hlk, hts, hK⟩ hP ls hl
  have hl : lv_has ls 2 [(0, .ref o), (1, .int p1)] := hl
  refine lv_iload_n hx hb dX2_isFault_0 rfl (lv_at hl 1 rfl) ?_
  refine lv_if_lt (tgt := 16) hx hb dX2_isFault_1 (by decide) (fun c1 => ?_) (fun c1 => ?_)
  · refine lv_iconst (v := 0) hx hb dX2_isFault_16 (by decide) ?_
    exact sx_ret hx hb hr hlk rfl (by simp only [s_X2_isFault, if_pos c1]) dX2_isFault_17
  · refine lv_iload_n hx hb dX2_isFault_4 rfl (lv_at hl 1 rfl) ?_
    refine lv_aload_n hx hb dX2_isFault_5 rfl (lv_at hl 0 rfl) ?_
    refine va_get (D := G.1) (ci := 2) (v := .int (nI fc)) (C := RX2) (T := TX2) (N := 5) hx hb hts owX2 hown hK.1 hP 0 rfl rfl 4 (by decide) (bw0 (w := Cond.fieldLink RX2 24 "DropflagMill$Faults" "count" "I") hts 41 rfl) (fun _ h9 => h9) rfl dX2_isFault_6 ?_
    refine lv_icmp_ge (tgt := 16) hx hb dX2_isFault_9 (by decide) (fun c2 => ?_) (fun c2 => ?_)
    · refine lv_iconst (v := 0) hx hb dX2_isFault_16 (by decide) ?_
      exact sx_ret hx hb hr hlk rfl (by simp only [s_X2_isFault, if_neg c1, if_pos c2]) dX2_isFault_17
    · refine lv_iconst (v := 1) hx hb dX2_isFault_12 (by decide) ?_
      refine lv_goto (tgt := 17) hx hb dX2_isFault_13 (by decide) ?_
      exact sx_ret hx hb hr hlk rfl (by simp only [s_X2_isFault, if_neg c1, if_neg c2]) dX2_isFault_17

abbrev wdX3_isLoan : List Cond := Cond.code yX3_isLoan cX3_isLoan 2 (some .boolean) :: bwC
def s_X3_isLoan (lc : Nat) (p1 : Int32) : Int32 := if p1 < 0 then 0 else (if (nI lc) ≤ p1 then 0 else 1)
set_option maxHeartbeats 4000000 in
set_option maxRecDepth 100000 in
theorem c_X3_isLoan (l : Launch) (G : sxG) (o : Nat) (h : Nat) (l1 : Nat) (l2 : Nat) (l3 : Nat) (l4 : Nat) (lc : Nat) (p1 : Int32)  : sxM l yX3_isLoan wdX3_isLoan 0 0 G [(o, .inr (3, [.ref h, .ref l1, .ref l2, .ref l3, .ref l4, .int (nI lc)]))] [.ref o, .int p1] (fun r => r = s_X3_isLoan lc p1) := by
  refine sxM.of (cc := cX3_isLoan) (maxL := 2) (by decide) rfl (Nat.le_of_ble_eq_true rfl) ?_
  intro p e s m args below meth c ⟨hx, hb, hr, hml, hown, hlk, hts, hK⟩ hP ls hl
  have hl : lv_has ls 2 [(0, .ref o), (1, .int p1)] := hl
  refine lv_iload_n hx hb dX3_isLoan_0 rfl (lv_at hl 1 rfl) ?_
  refine lv_if_lt (tgt := 16) hx hb dX3_isLoan_1 (by decide) (fun c1 => ?_) (fun c1 => ?_)
  · refine lv_iconst (v := 0) hx hb dX3_isLoan_16 (by decide) ?_
    exact sx_ret hx hb hr hlk rfl (by simp only [s_X3_isLoan, if_pos c1]) dX3_isLoan_17
  · refine lv_iload_n hx hb dX3_isLoan_4 rfl (lv_at hl 1 rfl) ?_
    refine lv_aload_n hx hb dX3_isLoan_5 rfl (lv_at hl 0 rfl) ?_
    refine va_get (D := G.1) (ci := 3) (v := .int (nI lc)) (C := RX3) (T := TX3) (N := 6) hx hb hts owX3 hown hK.1 hP 0 rfl rfl 5 (by decide) (bw0 (w := Cond.fieldLink RX3 29 "DropflagMill$Loans" "count" "I") hts 34 rfl) (fun _ h9 => h9) rfl dX3_isLoan_6 ?_
    refine lv_icmp_ge (tgt := 16) hx hb dX3_isLoan_9 (by decide) (fun c2 => ?_) (fun c2 => ?_)
    · refine lv_iconst (v := 0) hx hb dX3_isLoan_16 (by decide) ?_
      exact sx_ret hx hb hr hlk rfl (by simp only [s_X3_isLoan, if_neg c1, if_pos c2]) dX3_isLoan_17
    · refine lv_iconst (v := 1) hx hb dX3_isLoan_12 (by decide) ?_
      refine lv_goto (tgt := 17) hx hb dX3_isLoan_13 (by decide) ?_
      exact sx_ret hx hb hr hlk rfl (by simp only [s_X3_isLoan, if_neg c1, if_neg c2]) dX3_isLoan_17

abbrev wdX7_countKept : List Cond := Cond.code yX7_countKept cX7_countKept 1 (some .int) :: bwC
def s_X7_countKept (sc : Int32) : Int32 := s_mmin sc 60
set_option maxHeartbeats 4000000 in
set_option maxRecDepth 100000 in
theorem c_X7_countKept (l : Launch) (G : sxG) (o : Nat) (t0 : Nat) (t1 : Nat) (t2 : Nat) (sc : Int32)  : sxM l yX7_countKept wdX7_countKept 1 21 G [(o, .inr (7, [.ref t0, .ref t1, .ref t2, .int sc]))] [.ref o] (fun r => r = s_X7_countKept sc) := by
  refine sxM.of (cc := cX7_countKept) (maxL := 1) (by decide) rfl (Nat.le_of_ble_eq_true rfl) ?_
  intro p e s m args below meth c ⟨hx, hb, hr, hml, hown, hlk, hts, hK⟩ hP ls hl
  have hl : lv_has ls 1 [(0, .ref o)] := hl
  refine lv_aload_n hx hb dX7_countKept_0 rfl (lv_at hl 0 rfl) ?_
  refine va_get (D := G.1) (ci := 7) (v := .int sc) (C := RX7) (T := TX7) (N := 4) hx hb hts owX7 hown hK.1 hP 0 rfl rfl 3 (by decide) (bw6 (w := Cond.fieldLink RX7 21 "DropflagMill$Story" "count" "I") hts 30 rfl) (fun _ h9 => h9) rfl dX7_countKept_1 ?_
  refine lv_bipush (v := 60) hx hb dX7_countKept_4 (by decide) ?_
  refine sx_mmin hx hb (hml.trans hl.1.symm) hown (bw9 (w := Cond.methodLink RX7 29 Lib.Math.min.name) hts 30 rfl) (bw9 (w := Cond.static Lib.Math.min.name) hts 31 rfl) (bw5 (w := Cond.initialized "java/lang/Math") hts 20 rfl) (bw9 (w := Cond.code Lib.Math.min.name Lib.Math.min.code 2 (some .int)) hts 32 rfl) (Nat.le_of_ble_eq_true rfl) (Nat.le_of_ble_eq_true rfl) (Nat.zero_le _) (Nat.zero_le _) (x := sc) (y := 60) dX7_countKept_6 ?_
  exact sx_ret hx hb hr hlk rfl (by simp only [s_X7_countKept]) dX7_countKept_9

abbrev wdX7_isKept : List Cond := Cond.code yX7_isKept cX7_isKept 2 (some .boolean) :: bwC
def s_X7_isKept (sc : Int32) (p1 : Int32) : Int32 := if p1 < 0 then 0 else (if (s_X7_countKept sc) ≤ p1 then 0 else 1)
set_option maxHeartbeats 4000000 in
set_option maxRecDepth 100000 in
theorem c_X7_isKept (l : Launch) (G : sxG) (o : Nat) (t0 : Nat) (t1 : Nat) (t2 : Nat) (sc : Int32) (p1 : Int32)  : sxM l yX7_isKept wdX7_isKept 2 41 G [(o, .inr (7, [.ref t0, .ref t1, .ref t2, .int sc]))] [.ref o, .int p1] (fun r => r = s_X7_isKept sc p1) := by
  refine sxM.of (cc := cX7_isKept) (maxL := 2) (by decide) rfl (Nat.le_of_ble_eq_true rfl) ?_
  intro p e s m args below meth c ⟨hx, hb, hr, hml, hown, hlk, hts, hK⟩ hP ls hl
  have hl : lv_has ls 2 [(0, .ref o), (1, .int p1)] := hl
  refine lv_iload_n hx hb dX7_isKept_0 rfl (lv_at hl 1 rfl) ?_
  refine lv_if_lt (tgt := 16) hx hb dX7_isKept_1 (by decide) (fun c1 => ?_) (fun c1 => ?_)
  · refine lv_iconst (v := 0) hx hb dX7_isKept_16 (by decide) ?_
    exact sx_ret hx hb hr hlk rfl (by simp only [s_X7_isKept, if_pos c1]) dX7_isKept_17
  · refine lv_iload_n hx hb dX7_isKept_4 rfl (lv_at hl 1 rfl) ?_
    refine lv_aload_n hx hb dX7_isKept_5 rfl (lv_at hl 0 rfl) ?_
    refine sx_v (As := []) (rest := [.int p1]) hx hb hml hown hts (c_X7_countKept l G o t0 t1 t2 sc ) 0 (sxGV (bi9 (w := Cond.methodLink RX7 35 yX7_countKept) 34 rfl) (bi9 (w := Cond.instanceMethod yX7_countKept) 35 rfl) (bi9 (w := Cond.selects RX7 yX7_countKept yX7_countKept) 36 rfl) (bi6 (w := Cond.initialized RX7) 36 rfl) (bi9 (w := Cond.code yX7_countKept cX7_countKept 1 (some .int)) 29 rfl)) rfl (by decide +kernel) ⟨Nat.le_of_ble_eq_true rfl, Nat.le_of_ble_eq_true rfl⟩ hK hP [0] rfl 0 rfl rfl rfl hl rfl (Nat.le_of_ble_eq_true rfl) ⟨Nat.zero_le _, Nat.zero_le _⟩ dX7_isKept_6 (fun r er => ?_)
    subst er
    refine lv_icmp_ge (tgt := 16) hx hb dX7_isKept_9 (by decide) (fun c2 => ?_) (fun c2 => ?_)
    · refine lv_iconst (v := 0) hx hb dX7_isKept_16 (by decide) ?_
      exact sx_ret hx hb hr hlk rfl (by simp only [s_X7_isKept, if_neg c1, if_pos c2]) dX7_isKept_17
    · refine lv_iconst (v := 1) hx hb dX7_isKept_12 (by decide) ?_
      refine lv_goto (tgt := 17) hx hb dX7_isKept_13 (by decide) ?_
      exact sx_ret hx hb hr hlk rfl (by simp only [s_X7_isKept, if_neg c1, if_neg c2]) dX7_isKept_17

abbrev wdX4_isNode : List Cond := Cond.code yX4_isNode cX4_isNode 2 (some .boolean) :: bwC
def s_X4_isNode (nm : Nat) (p1 : Int32) : Int32 := if p1 < 0 then 0 else (if (nI nm) ≤ p1 then 0 else 1)
set_option maxHeartbeats 4000000 in
set_option maxRecDepth 100000 in
theorem c_X4_isNode (l : Launch) (G : sxG) (o : Nat) (u0 : Nat) (u1 : Nat) (u2 : Nat) (u3 : Nat) (nm : Nat) (ng : Int32) (p1 : Int32)  : sxM l yX4_isNode wdX4_isNode 0 0 G [(o, .inr (4, [.ref u0, .ref u1, .ref u2, .ref u3, .int (nI nm), .int ng]))] [.ref o, .int p1] (fun r => r = s_X4_isNode nm p1) := by
  refine sxM.of (cc := cX4_isNode) (maxL := 2) (by decide) rfl (Nat.le_of_ble_eq_true rfl) ?_
  intro p e s m args below meth c ⟨hx, hb, hr, hml, hown, hlk, hts, hK⟩ hP ls hl
  have hl : lv_has ls 2 [(0, .ref o), (1, .int p1)] := hl
  refine lv_iload_n hx hb dX4_isNode_0 rfl (lv_at hl 1 rfl) ?_
  refine lv_if_lt (tgt := 16) hx hb dX4_isNode_1 (by decide) (fun c1 => ?_) (fun c1 => ?_)
  · refine lv_iconst (v := 0) hx hb dX4_isNode_16 (by decide) ?_
    exact sx_ret hx hb hr hlk rfl (by simp only [s_X4_isNode, if_pos c1]) dX4_isNode_17
  · refine lv_iload_n hx hb dX4_isNode_4 rfl (lv_at hl 1 rfl) ?_
    refine lv_aload_n hx hb dX4_isNode_5 rfl (lv_at hl 0 rfl) ?_
    refine va_get (D := G.1) (ci := 4) (v := .int (nI nm)) (C := RX4) (T := TX4) (N := 6) hx hb hts owX4 hown hK.1 hP 0 rfl rfl 4 (by decide) (bw5 (w := Cond.fieldLink RX4 25 "DropflagMill$Nodes" "made" "I") hts 42 rfl) (fun _ h9 => h9) rfl dX4_isNode_6 ?_
    refine lv_icmp_ge (tgt := 16) hx hb dX4_isNode_9 (by decide) (fun c2 => ?_) (fun c2 => ?_)
    · refine lv_iconst (v := 0) hx hb dX4_isNode_16 (by decide) ?_
      exact sx_ret hx hb hr hlk rfl (by simp only [s_X4_isNode, if_neg c1, if_pos c2]) dX4_isNode_17
    · refine lv_iconst (v := 1) hx hb dX4_isNode_12 (by decide) ?_
      refine lv_goto (tgt := 17) hx hb dX4_isNode_13 (by decide) ?_
      exact sx_ret hx hb hr hlk rfl (by simp only [s_X4_isNode, if_neg c1, if_neg c2]) dX4_isNode_17
