abbrev wdX0_heldBy : List Cond := Cond.code yX0_heldBy cX0_heldBy 4 (some .int) :: bwC
def s_X0_heldBy (cd : Nat → Int32) (p1 : Int32) (p2 : Int32) : Int32 := if p1 < 0 then 0 else (if 34 ≤ p1 then 0 else (if p2 < 0 then 0 else (if 8 ≤ p2 then 0 else cd ((p1 * 8) + p2).toNatClampNeg)))
set_option maxHeartbeats 4000000 in
set_option maxRecDepth 100000 in
theorem c_X0_heldBy (l : Launch) (G : sxG) (r : Nat) (h : Nat) (od : Nat) (ow : Nat) (ol : Nat) (oq : Nat) (r1 : Nat) (r2 : Nat) (r3 : Nat) (r4 : Nat) (r5 : Nat) (r6 : Nat) (r7 : Nat) (flg : Int32) (cd : Nat → Int32) (p1 : Int32) (p2 : Int32)  : sxM l yX0_heldBy wdX0_heldBy 0 0 G [(r, .inr (0, [.ref h, .ref od, .ref ow, .ref ol, .ref oq, .ref r1, .ref r2, .ref r3, .ref r4, .ref r5, .ref r6, .ref r7, .int flg])), (r5, .inl (G.2.1, 272, .inl cd))] [.ref r, .int p1, .int p2] (fun r => r = s_X0_heldBy cd p1 p2) := by
  refine sxM.of (cc := cX0_heldBy) (maxL := 4) (by decide) rfl (Nat.le_of_ble_eq_true rfl) ?_
  intro p e s m args below meth c ⟨hx, hb, hr, hml, hown, hlk, hts, hK⟩ hP ls hl
  have hl : lv_has ls 4 [(0, .ref r), (1, .int p1), (2, .int p2)] := hl
  refine lv_iload_n hx hb dX0_heldBy_0 rfl (lv_at hl 1 rfl) ?_
  refine lv_if_lt (tgt := 24) hx hb dX0_heldBy_1 (by decide) (fun c1 => ?_) (fun c1 => ?_)
  · refine lv_iconst (v := 0) hx hb dX0_heldBy_24 (by decide) ?_
    refine lv_istore_n (lv' := [(3, .int 0), (0, .ref r), (1, .int p1), (2, .int p2)]) hx hb dX0_heldBy_25 rfl hl (by decide) rfl (fun ls hl => ?_)
    refine lv_iload_n hx hb dX0_heldBy_26 rfl (lv_at hl 0 rfl) ?_
    refine lv_if_eq (tgt := 44) hx hb dX0_heldBy_27 (by decide) (fun c2 => ?_) (fun c2 => absurd c2 (by decide))
    refine lv_iconst (v := 0) hx hb dX0_heldBy_44 (by decide) ?_
    exact sx_ret hx hb hr hlk rfl (by simp only [s_X0_heldBy, if_pos c1]) dX0_heldBy_45
  · refine lv_iload_n hx hb dX0_heldBy_4 rfl (lv_at hl 1 rfl) ?_
    refine lv_bipush (v := 34) hx hb dX0_heldBy_5 (by decide) ?_
    refine lv_icmp_ge (tgt := 24) hx hb dX0_heldBy_7 (by decide) (fun c3 => ?_) (fun c3 => ?_)
    · refine lv_iconst (v := 0) hx hb dX0_heldBy_24 (by decide) ?_
      refine lv_istore_n (lv' := [(3, .int 0), (0, .ref r), (1, .int p1), (2, .int p2)]) hx hb dX0_heldBy_25 rfl hl (by decide) rfl (fun ls hl => ?_)
      refine lv_iload_n hx hb dX0_heldBy_26 rfl (lv_at hl 0 rfl) ?_
      refine lv_if_eq (tgt := 44) hx hb dX0_heldBy_27 (by decide) (fun c4 => ?_) (fun c4 => absurd c4 (by decide))
      refine lv_iconst (v := 0) hx hb dX0_heldBy_44 (by decide) ?_
      exact sx_ret hx hb hr hlk rfl (by simp only [s_X0_heldBy, if_neg c1, if_pos c3]) dX0_heldBy_45
    · refine lv_iload_n hx hb dX0_heldBy_10 rfl (lv_at hl 2 rfl) ?_
      refine lv_if_lt (tgt := 24) hx hb dX0_heldBy_11 (by decide) (fun c5 => ?_) (fun c5 => ?_)
      · refine lv_iconst (v := 0) hx hb dX0_heldBy_24 (by decide) ?_
        refine lv_istore_n (lv' := [(3, .int 0), (0, .ref r), (1, .int p1), (2, .int p2)]) hx hb dX0_heldBy_25 rfl hl (by decide) rfl (fun ls hl => ?_)
        refine lv_iload_n hx hb dX0_heldBy_26 rfl (lv_at hl 0 rfl) ?_
        refine lv_if_eq (tgt := 44) hx hb dX0_heldBy_27 (by decide) (fun c6 => ?_) (fun c6 => absurd c6 (by decide))
        refine lv_iconst (v := 0) hx hb dX0_heldBy_44 (by decide) ?_
        exact sx_ret hx hb hr hlk rfl (by simp only [s_X0_heldBy, if_neg c1, if_neg c3, if_pos c5]) dX0_heldBy_45
      · refine lv_iload_n hx hb dX0_heldBy_14 rfl (lv_at hl 2 rfl) ?_
        refine lv_bipush (v := 8) hx hb dX0_heldBy_15 (by decide) ?_
        refine lv_icmp_ge (tgt := 24) hx hb dX0_heldBy_17 (by decide) (fun c7 => ?_) (fun c7 => ?_)
        · refine lv_iconst (v := 0) hx hb dX0_heldBy_24 (by decide) ?_
          refine lv_istore_n (lv' := [(3, .int 0), (0, .ref r), (1, .int p1), (2, .int p2)]) hx hb dX0_heldBy_25 rfl hl (by decide) rfl (fun ls hl => ?_)
          refine lv_iload_n hx hb dX0_heldBy_26 rfl (lv_at hl 0 rfl) ?_
          refine lv_if_eq (tgt := 44) hx hb dX0_heldBy_27 (by decide) (fun c8 => ?_) (fun c8 => absurd c8 (by decide))
          refine lv_iconst (v := 0) hx hb dX0_heldBy_44 (by decide) ?_
          exact sx_ret hx hb hr hlk rfl (by simp only [s_X0_heldBy, if_neg c1, if_neg c3, if_neg c5, if_pos c7]) dX0_heldBy_45
        · refine lv_iconst (v := 1) hx hb dX0_heldBy_20 (by decide) ?_
          refine lv_goto (tgt := 25) hx hb dX0_heldBy_21 (by decide) ?_
          refine lv_istore_n (lv' := [(3, .int 1), (0, .ref r), (1, .int p1), (2, .int p2)]) hx hb dX0_heldBy_25 rfl hl (by decide) rfl (fun ls hl => ?_)
          refine lv_iload_n hx hb dX0_heldBy_26 rfl (lv_at hl 0 rfl) ?_
          refine lv_if_eq (tgt := 44) hx hb dX0_heldBy_27 (by decide) (fun c9 => absurd c9 (by decide)) (fun c9 => ?_)
          refine lv_aload_n hx hb dX0_heldBy_30 rfl (lv_at hl 1 rfl) ?_
          refine va_get (D := G.1) (ci := 0) (v := .ref r5) (C := RX0) (T := TX0) (N := 13) hx hb hts owX0 hown hK.1 hP 0 rfl rfl 9 (by decide) (bw1 (w := Cond.fieldLink RX0 59 "DropflagMill$Check" "held" "[I") hts 4 rfl) (fun _ h9 => h9) rfl dX0_heldBy_31 ?_
          refine lv_iload_n hx hb dX0_heldBy_34 rfl (lv_at hl 2 rfl) ?_
          refine lv_bipush (v := 8) hx hb dX0_heldBy_35 (by decide) ?_
          refine lv_imul hx hb dX0_heldBy_37 ?_
          refine lv_iload_n hx hb dX0_heldBy_38 rfl (lv_at hl 3 rfl) ?_
          refine lv_iadd hx hb dX0_heldBy_39 ?_
          refine va_iald hx hb hK.1 hP 1 0 rfl rfl (i := (p1 * 8) + p2) (sx_in_held c1 c3 c5 c7) dX0_heldBy_40 ?_
          refine lv_goto (tgt := 45) hx hb dX0_heldBy_41 (by decide) ?_
          exact sx_ret hx hb hr hlk rfl (by simp only [s_X0_heldBy, if_neg c1, if_neg c3, if_neg c5, if_neg c7]) dX0_heldBy_45

abbrev wdX0_heldByAny : List Cond := Cond.code yX0_heldByAny cX0_heldByAny 5 (some .int) :: bwC
def sl_X0_heldByAny_L5 (pv : Nat) (cd : Nat → Int32) (p1 : Int32) (p2 : Int32)  : Nat → (Int32) → (Nat) → Int32
  | 0, _, _ => 0
  | k + 1, va, i => if (nI pv) ≤ (nI i) then va else (if (p2 &&& (1 <<< ((nI i) &&& 31))) = 0 then sl_X0_heldByAny_L5 pv cd p1 p2 k va (i + 1) else sl_X0_heldByAny_L5 pv cd p1 p2 k (va ||| (s_X0_heldBy cd p1 (nI i))) (i + 1))
set_option maxHeartbeats 4000000 in
set_option maxRecDepth 100000 in
theorem l_X0_heldByAny_L5 (l : Launch) (G : sxG) (r : Nat) (h : Nat) (od : Nat) (ow : Nat) (ol : Nat) (oq : Nat) (r1 : Nat) (r2 : Nat) (r3 : Nat) (r4 : Nat) (r5 : Nat) (r6 : Nat) (r7 : Nat) (flg : Int32) (k0 : Nat) (k1 : Nat) (k2 : Nat) (k3 : Nat) (pv : Nat) (pn : Nat) (cd : Nat → Int32) (p1 : Int32) (p2 : Int32) (hv : pv ≤ 8)   {p : Program} {e : Env} {s : State} {m : MethodId} {args : Array Value} {below : List Frame} {meth : Method} {c : Code} (hB : sxB G yX0_heldByAny wdX0_heldByAny cX0_heldByAny 5 (.int) p s m args meth c) (hP : va_P G.1 vwCl [(r, .inr (0, [.ref h, .ref od, .ref ow, .ref ol, .ref oq, .ref r1, .ref r2, .ref r3, .ref r4, .ref r5, .ref r6, .ref r7, .int flg])), (h, .inr (5, [.ref k0, .ref k1, .ref k2, .ref k3, .int (nI pv), .int (nI pn)])), (r5, .inl (G.2.1, 272, .inl cd))] s.heap) (S0 : Int32) : ∀ (k : Nat) (va : Int32) (i : Nat), i ≤ pv → 8 - i < k → S0 = sl_X0_heldByAny_L5 pv cd p1 p2 k va i → ∀ ls : Array Slot, lv_has ls 5 [(0, .ref r), (1, .int p1), (2, .int p2), (3, .int va), (4, .int (nI i))] → W p l e ({ frames := 1, cells := 0, slots := 0, locals := 23 }) s m args below meth c s.heap [] 0 0 (MQ below (vp_Si (fun r => r = S0)) args s 0 0 (fun _ => False)) (F0 m 5 ls []) := by
  obtain ⟨hx, hb, hr, hml, hown, hlk, hts, hK⟩ := id hB
  intro k
  induction k with
  | zero =>
    intro va i _ hm
    exact absurd hm (Nat.not_lt_zero _)
  | succ k ih =>
    intro va i hi hm hE ls hl
    refine lv_iload hx hb dX0_heldByAny_5 (lv_at hl 4 rfl) ?_
    refine lv_aload_n hx hb dX0_heldByAny_7 rfl (lv_at hl 0 rfl) ?_
    refine va_get (D := G.1) (ci := 0) (v := .ref h) (C := RX0) (T := TX0) (N := 13) hx hb hts owX0 hown hK.1 hP 0 rfl rfl 0 (by decide) (bw0 (w := Cond.fieldLink RX0 9 "DropflagMill$Check" "program" "LDropflagMill$Program;") hts 43 rfl) (fun _ h9 => h9) rfl dX0_heldByAny_8 ?_
    refine va_get (D := G.1) (ci := 5) (v := .int (nI pv)) (C := RX5) (T := TX5) (N := 6) hx hb hts owX5 hown hK.1 hP 1 rfl rfl 4 (by decide) (bw3 (w := Cond.fieldLink RX0 132 "DropflagMill$Program" "variables" "I") hts 0 rfl) (fun _ h9 => h9) rfl dX0_heldByAny_11 ?_
    refine lv_icmp_ge (tgt := 42) hx hb dX0_heldByAny_14 (by decide) (fun c1 => ?_) (fun c1 => ?_)
    · have nc1 := (nI_leI (a := pv) (b := i) (by omega) (by omega)).mp c1
      refine lv_iload_n hx hb dX0_heldByAny_42 rfl (lv_at hl 3 rfl) ?_
      exact sx_ret hx hb hr hlk rfl (by rw [hE]; simp only [sl_X0_heldByAny_L5, if_pos c1]) dX0_heldByAny_43
    · have nc1 := (not_congr (nI_leI (a := pv) (b := i) (by omega) (by omega))).mp c1
      refine lv_iload_n hx hb dX0_heldByAny_17 rfl (lv_at hl 2 rfl) ?_
      refine lv_iconst (v := 1) hx hb dX0_heldByAny_18 (by decide) ?_
      refine lv_iload hx hb dX0_heldByAny_19 (lv_at hl 4 rfl) ?_
      refine lv_ishl hx hb dX0_heldByAny_21 ?_
      refine lv_iand hx hb dX0_heldByAny_22 ?_
      refine lv_if_eq (tgt := 36) hx hb dX0_heldByAny_23 (by decide) (fun c2 => ?_) (fun c2 => ?_)
      · refine lv_iinc (v := nI (i + 1)) (lv' := [(4, .int (nI (i + 1))), (0, .ref r), (1, .int p1), (2, .int p2), (3, .int va)]) hx hb dX0_heldByAny_36 hl (k := 4) rfl (nI_1 i) (by decide) rfl (fun ls hl => ?_)
        refine lv_goto (tgt := 5) hx hb dX0_heldByAny_39 (by decide) ?_
        exact ih va (i + 1) (by omega) (by omega) (by rw [hE]; simp only [sl_X0_heldByAny_L5, if_neg c1, if_pos c2]) ls (lv_sub hl [1, 2, 3, 4, 0] rfl)
      · refine lv_iload_n hx hb dX0_heldByAny_26 rfl (lv_at hl 3 rfl) ?_
        refine lv_aload_n hx hb dX0_heldByAny_27 rfl (lv_at hl 0 rfl) ?_
        refine lv_iload_n hx hb dX0_heldByAny_28 rfl (lv_at hl 1 rfl) ?_
        refine lv_iload hx hb dX0_heldByAny_29 (lv_at hl 4 rfl) ?_
        refine sx_v (As := [.int p1, .int (nI i)]) (rest := [.int va]) hx hb hml hown hts (c_X0_heldBy l G r h od ow ol oq r1 r2 r3 r4 r5 r6 r7 flg cd p1 (nI i) ) 2 (sxGV (bi2 (w := Cond.methodLink RX0 165 yX0_heldBy) 49 rfl) (bi2 (w := Cond.instanceMethod yX0_heldBy) 50 rfl) (bi2 (w := Cond.selects RX0 yX0_heldBy yX0_heldBy) 51 rfl) (bi2 (w := Cond.initialized RX0) 52 rfl) (bi2 (w := Cond.code yX0_heldBy cX0_heldBy 4 (some .int)) 44 rfl)) rfl (by decide +kernel) ⟨Nat.le_of_ble_eq_true rfl, Nat.le_of_ble_eq_true rfl⟩ hK hP [0, 2] rfl 0 rfl rfl rfl hl rfl (Nat.le_of_ble_eq_true rfl) ⟨Nat.zero_le _, Nat.zero_le _⟩ dX0_heldByAny_31 (fun r er => ?_)
        subst er
        refine lv_ior hx hb dX0_heldByAny_34 ?_
        refine lv_istore_n (lv' := [(3, .int (va ||| (s_X0_heldBy cd p1 (nI i)))), (0, .ref r), (1, .int p1), (2, .int p2), (4, .int (nI i))]) hx hb dX0_heldByAny_35 rfl hl (by decide) rfl (fun ls hl => ?_)
        refine lv_iinc (v := nI (i + 1)) (lv' := [(4, .int (nI (i + 1))), (3, .int (va ||| (s_X0_heldBy cd p1 (nI i)))), (0, .ref r), (1, .int p1), (2, .int p2)]) hx hb dX0_heldByAny_36 hl (k := 4) rfl (nI_1 i) (by decide) rfl (fun ls hl => ?_)
        refine lv_goto (tgt := 5) hx hb dX0_heldByAny_39 (by decide) ?_
        exact ih (va ||| (s_X0_heldBy cd p1 (nI i))) (i + 1) (by omega) (by omega) (by rw [hE]; simp only [sl_X0_heldByAny_L5, if_neg c1, if_neg c2]) ls (lv_sub hl [2, 3, 4, 1, 0] rfl)
def s_X0_heldByAny (pv : Nat) (cd : Nat → Int32) (p1 : Int32) (p2 : Int32) : Int32 := sl_X0_heldByAny_L5 pv cd p1 p2  9 0 0
set_option maxHeartbeats 4000000 in
set_option maxRecDepth 100000 in
theorem c_X0_heldByAny (l : Launch) (G : sxG) (r : Nat) (h : Nat) (od : Nat) (ow : Nat) (ol : Nat) (oq : Nat) (r1 : Nat) (r2 : Nat) (r3 : Nat) (r4 : Nat) (r5 : Nat) (r6 : Nat) (r7 : Nat) (flg : Int32) (k0 : Nat) (k1 : Nat) (k2 : Nat) (k3 : Nat) (pv : Nat) (pn : Nat) (cd : Nat → Int32) (p1 : Int32) (p2 : Int32) (hv : pv ≤ 8) : sxM l yX0_heldByAny wdX0_heldByAny 1 23 G [(r, .inr (0, [.ref h, .ref od, .ref ow, .ref ol, .ref oq, .ref r1, .ref r2, .ref r3, .ref r4, .ref r5, .ref r6, .ref r7, .int flg])), (h, .inr (5, [.ref k0, .ref k1, .ref k2, .ref k3, .int (nI pv), .int (nI pn)])), (r5, .inl (G.2.1, 272, .inl cd))] [.ref r, .int p1, .int p2] (fun r => r = s_X0_heldByAny pv cd p1 p2) := by
  refine sxM.of (cc := cX0_heldByAny) (maxL := 5) (by decide) rfl (Nat.le_of_ble_eq_true rfl) ?_
  intro p e s m args below meth c ⟨hx, hb, hr, hml, hown, hlk, hts, hK⟩ hP ls hl
  have hl : lv_has ls 5 [(0, .ref r), (1, .int p1), (2, .int p2)] := hl
  refine lv_iconst (v := 0) hx hb dX0_heldByAny_0 (by decide) ?_
  refine lv_istore_n (lv' := [(3, .int 0), (0, .ref r), (1, .int p1), (2, .int p2)]) hx hb dX0_heldByAny_1 rfl hl (by decide) rfl (fun ls hl => ?_)
  refine lv_iconst (v := 0) hx hb dX0_heldByAny_2 (by decide) ?_
  refine lv_istore (lv' := [(4, .int 0), (3, .int 0), (0, .ref r), (1, .int p1), (2, .int p2)]) hx hb dX0_heldByAny_3 hl (by decide) rfl (fun ls hl => ?_)
  have hB0 : sxB G yX0_heldByAny wdX0_heldByAny cX0_heldByAny 5 (.int) p s m args meth c := ⟨hx, hb, hr, hml, hown, hlk, hts, hK⟩
  exact l_X0_heldByAny_L5 l G r h od ow ol oq r1 r2 r3 r4 r5 r6 r7 flg k0 k1 k2 k3 pv pn cd p1 p2 hv   hB0 hP _  9 0 0 (Nat.zero_le _) (by omega) (by simp only [s_X0_heldByAny]) ls (lv_sub hl [2, 3, 4, 1, 0] rfl)

abbrev wdX0_wantedAt : List Cond := Cond.code yX0_wantedAt cX0_wantedAt 2 (some .int) :: bwC
def s_X0_wantedAt (pn : Nat) (cn : Nat → Int32) (p1 : Int32) : Int32 := if (s_X5_isLine pn p1) = 0 then 0 else cn p1.toNatClampNeg
set_option maxHeartbeats 4000000 in
set_option maxRecDepth 100000 in
theorem c_X0_wantedAt (l : Launch) (G : sxG) (r : Nat) (h : Nat) (od : Nat) (ow : Nat) (ol : Nat) (oq : Nat) (r1 : Nat) (r2 : Nat) (r3 : Nat) (r4 : Nat) (r5 : Nat) (r6 : Nat) (r7 : Nat) (flg : Int32) (k0 : Nat) (k1 : Nat) (k2 : Nat) (k3 : Nat) (pv : Nat) (pn : Nat) (cn : Nat → Int32) (p1 : Int32) (hn : pn ≤ 33) : sxM l yX0_wantedAt wdX0_wantedAt 1 21 G [(r, .inr (0, [.ref h, .ref od, .ref ow, .ref ol, .ref oq, .ref r1, .ref r2, .ref r3, .ref r4, .ref r5, .ref r6, .ref r7, .int flg])), (h, .inr (5, [.ref k0, .ref k1, .ref k2, .ref k3, .int (nI pv), .int (nI pn)])), (r7, .inl (G.2.1, 34, .inl cn))] [.ref r, .int p1] (fun r => r = s_X0_wantedAt pn cn p1) := by
  refine sxM.of (cc := cX0_wantedAt) (maxL := 2) (by decide) rfl (Nat.le_of_ble_eq_true rfl) ?_
  intro p e s m args below meth c ⟨hx, hb, hr, hml, hown, hlk, hts, hK⟩ hP ls hl
  have hl : lv_has ls 2 [(0, .ref r), (1, .int p1)] := hl
  refine lv_aload_n hx hb dX0_wantedAt_0 rfl (lv_at hl 0 rfl) ?_
  refine va_get (D := G.1) (ci := 0) (v := .ref h) (C := RX0) (T := TX0) (N := 13) hx hb hts owX0 hown hK.1 hP 0 rfl rfl 0 (by decide) (bw0 (w := Cond.fieldLink RX0 9 "DropflagMill$Check" "program" "LDropflagMill$Program;") hts 43 rfl) (fun _ h9 => h9) rfl dX0_wantedAt_1 ?_
  refine lv_iload_n hx hb dX0_wantedAt_4 rfl (lv_at hl 1 rfl) ?_
  refine sx_v (As := [.int p1]) (rest := []) hx hb hml hown hts (c_X5_isLine l G h k0 k1 k2 k3 pv pn p1 ) 1 (sxGV (bi3 (w := Cond.methodLink RX0 182 yX5_isLine) 31 rfl) (bi1 (w := Cond.instanceMethod yX5_isLine) 28 rfl) (bi1 (w := Cond.selects RX5 yX5_isLine yX5_isLine) 29 rfl) (bi1 (w := Cond.initialized RX5) 30 rfl) (bi1 (w := Cond.code yX5_isLine cX5_isLine 2 (some .boolean)) 23 rfl)) rfl (by decide +kernel) ⟨Nat.le_of_ble_eq_true rfl, Nat.le_of_ble_eq_true rfl⟩ hK hP [1] rfl 0 rfl rfl rfl hl rfl (Nat.le_of_ble_eq_true rfl) ⟨Nat.zero_le _, Nat.zero_le _⟩ dX0_wantedAt_5 (fun r er => ?_)
  subst er
  refine lv_if_eq (tgt := 20) hx hb dX0_wantedAt_8 (by decide) (fun c1 => ?_) (fun c1 => ?_)
  · refine lv_iconst (v := 0) hx hb dX0_wantedAt_20 (by decide) ?_
    exact sx_ret hx hb hr hlk rfl (by simp only [s_X0_wantedAt, if_pos c1]) dX0_wantedAt_21
  · refine lv_aload_n hx hb dX0_wantedAt_11 rfl (lv_at hl 0 rfl) ?_
    refine va_get (D := G.1) (ci := 0) (v := .ref r7) (C := RX0) (T := TX0) (N := 13) hx hb hts owX0 hown hK.1 hP 0 rfl rfl 11 (by decide) (bw1 (w := Cond.fieldLink RX0 65 "DropflagMill$Check" "wanted" "[I") hts 6 rfl) (fun _ h9 => h9) rfl dX0_wantedAt_12 ?_
    refine lv_iload_n hx hb dX0_wantedAt_15 rfl (lv_at hl 1 rfl) ?_
    refine va_iald hx hb hK.1 hP 2 0 rfl rfl (i := p1) (sx_in_lt (by decide) ⟨pn, by omega, rfl⟩ (sx_isLine c1).1 (sx_isLine c1).2) dX0_wantedAt_16 ?_
    refine lv_goto (tgt := 21) hx hb dX0_wantedAt_17 (by decide) ?_
    exact sx_ret hx hb hr hlk rfl (by simp only [s_X0_wantedAt, if_neg c1]) dX0_wantedAt_21

abbrev wdX0_wantedBehind : List Cond := Cond.code yX0_wantedBehind cX0_wantedBehind 2 (some .int) :: bwC
def s_X0_wantedBehind (wwr : Int32) (yf : Nat → Int32) (ys : Nat → Int32) (pn : Nat) (cn : Nat → Int32) (p1 : Int32) : Int32 := (s_X0_wantedAt pn cn (s_X8_firstAt wwr pn yf p1)) ||| (s_X0_wantedAt pn cn (s_X8_secondAt wwr pn ys p1))
set_option maxHeartbeats 4000000 in
set_option maxRecDepth 100000 in
theorem c_X0_wantedBehind (l : Launch) (G : sxG) (r : Nat) (h : Nat) (od : Nat) (ow : Nat) (ol : Nat) (oq : Nat) (r1 : Nat) (r2 : Nat) (r3 : Nat) (r4 : Nat) (r5 : Nat) (r6 : Nat) (r7 : Nat) (flg : Int32) (w1 : Nat) (w2 : Nat) (w3 : Nat) (w4 : Nat) (w5 : Nat) (w6 : Nat) (wdp : Int32) (wwr : Int32) (yf : Nat → Int32) (ys : Nat → Int32) (k0 : Nat) (k1 : Nat) (k2 : Nat) (k3 : Nat) (pv : Nat) (pn : Nat) (cn : Nat → Int32) (p1 : Int32) (hn : pn ≤ 33) : sxM l yX0_wantedBehind wdX0_wantedBehind 2 42 G [(r, .inr (0, [.ref h, .ref od, .ref ow, .ref ol, .ref oq, .ref r1, .ref r2, .ref r3, .ref r4, .ref r5, .ref r6, .ref r7, .int flg])), (ow, .inr (8, [.ref h, .ref w1, .ref w2, .ref w3, .ref w4, .ref w5, .ref w6, .int wdp, .int wwr])), (w1, .inl (G.2.1, 34, .inl yf)), (w2, .inl (G.2.1, 34, .inl ys)), (h, .inr (5, [.ref k0, .ref k1, .ref k2, .ref k3, .int (nI pv), .int (nI pn)])), (r7, .inl (G.2.1, 34, .inl cn))] [.ref r, .int p1] (fun r => r = s_X0_wantedBehind wwr yf ys pn cn p1) := by
  refine sxM.of (cc := cX0_wantedBehind) (maxL := 2) (by decide) rfl (Nat.le_of_ble_eq_true rfl) ?_
  intro p e s m args below meth c ⟨hx, hb, hr, hml, hown, hlk, hts, hK⟩ hP ls hl
  have hl : lv_has ls 2 [(0, .ref r), (1, .int p1)] := hl
  refine lv_aload_n hx hb dX0_wantedBehind_0 rfl (lv_at hl 0 rfl) ?_
  refine lv_aload_n hx hb dX0_wantedBehind_1 rfl (lv_at hl 0 rfl) ?_
  refine va_get (D := G.1) (ci := 0) (v := .ref ow) (C := RX0) (T := TX0) (N := 13) hx hb hts owX0 hown hK.1 hP 0 rfl rfl 2 (by decide) (bw0 (w := Cond.fieldLink RX0 27 "DropflagMill$Check" "ways" "LDropflagMill$Ways;") hts 51 rfl) (fun _ h9 => h9) rfl dX0_wantedBehind_2 ?_
  refine lv_iload_n hx hb dX0_wantedBehind_5 rfl (lv_at hl 1 rfl) ?_
  refine sx_v (As := [.int p1]) (rest := [.ref r]) hx hb hml hown hts (c_X8_firstAt l G ow h w1 w2 w3 w4 w5 w6 wdp wwr k0 k1 k2 k3 pv pn yf p1 (by omega)) 1 (sxGV (bi3 (w := Cond.methodLink RX0 141 yX8_firstAt) 11 rfl) (bi3 (w := Cond.instanceMethod yX8_firstAt) 12 rfl) (bi3 (w := Cond.selects RX8 yX8_firstAt yX8_firstAt) 13 rfl) (bi0 (w := Cond.initialized RX8) 50 rfl) (bi2 (w := Cond.code yX8_firstAt cX8_firstAt 2 (some .int)) 53 rfl)) rfl (by decide +kernel) ⟨Nat.le_of_ble_eq_true rfl, Nat.le_of_ble_eq_true rfl⟩ hK hP [1, 4, 2] rfl 0 rfl rfl rfl hl rfl (Nat.le_of_ble_eq_true rfl) ⟨Nat.zero_le _, Nat.zero_le _⟩ dX0_wantedBehind_6 (fun r er => ?_)
  subst er
  refine sx_v (As := [.int (s_X8_firstAt wwr pn yf p1)]) (rest := []) hx hb hml hown hts (c_X0_wantedAt l G r h od ow ol oq r1 r2 r3 r4 r5 r6 r7 flg k0 k1 k2 k3 pv pn cn (s_X8_firstAt wwr pn yf p1) (by omega)) 1 (sxGV (bi3 (w := Cond.methodLink RX0 179 yX0_wantedAt) 32 rfl) (bi3 (w := Cond.instanceMethod yX0_wantedAt) 33 rfl) (bi3 (w := Cond.selects RX0 yX0_wantedAt yX0_wantedAt) 34 rfl) (bi2 (w := Cond.initialized RX0) 52 rfl) (bi3 (w := Cond.code yX0_wantedAt cX0_wantedAt 2 (some .int)) 30 rfl)) rfl (by decide +kernel) ⟨Nat.le_of_ble_eq_true rfl, Nat.le_of_ble_eq_true rfl⟩ hK hP [0, 4, 5] rfl 0 rfl rfl rfl hl rfl (Nat.le_of_ble_eq_true rfl) ⟨Nat.zero_le _, Nat.zero_le _⟩ dX0_wantedBehind_9 (fun r er => ?_)
  subst er
  refine lv_aload_n hx hb dX0_wantedBehind_12 rfl (lv_at hl 0 rfl) ?_
  refine lv_aload_n hx hb dX0_wantedBehind_13 rfl (lv_at hl 0 rfl) ?_
  refine va_get (D := G.1) (ci := 0) (v := .ref ow) (C := RX0) (T := TX0) (N := 13) hx hb hts owX0 hown hK.1 hP 0 rfl rfl 2 (by decide) (bw0 (w := Cond.fieldLink RX0 27 "DropflagMill$Check" "ways" "LDropflagMill$Ways;") hts 51 rfl) (fun _ h9 => h9) rfl dX0_wantedBehind_14 ?_
  refine lv_iload_n hx hb dX0_wantedBehind_17 rfl (lv_at hl 1 rfl) ?_
  refine sx_v (As := [.int p1]) (rest := [.ref r, .int (s_X0_wantedAt pn cn (s_X8_firstAt wwr pn yf p1))]) hx hb hml hown hts (c_X8_secondAt l G ow h w1 w2 w3 w4 w5 w6 wdp wwr k0 k1 k2 k3 pv pn ys p1 (by omega)) 1 (sxGV (bi3 (w := Cond.methodLink RX0 149 yX8_secondAt) 17 rfl) (bi3 (w := Cond.instanceMethod yX8_secondAt) 18 rfl) (bi3 (w := Cond.selects RX8 yX8_secondAt yX8_secondAt) 19 rfl) (bi0 (w := Cond.initialized RX8) 50 rfl) (bi3 (w := Cond.code yX8_secondAt cX8_secondAt 2 (some .int)) 4 rfl)) rfl (by decide +kernel) ⟨Nat.le_of_ble_eq_true rfl, Nat.le_of_ble_eq_true rfl⟩ hK hP [1, 4, 3] rfl 0 rfl rfl rfl hl rfl (Nat.le_of_ble_eq_true rfl) ⟨Nat.zero_le _, Nat.zero_le _⟩ dX0_wantedBehind_18 (fun r er => ?_)
  subst er
  refine sx_v (As := [.int (s_X8_secondAt wwr pn ys p1)]) (rest := [.int (s_X0_wantedAt pn cn (s_X8_firstAt wwr pn yf p1))]) hx hb hml hown hts (c_X0_wantedAt l G r h od ow ol oq r1 r2 r3 r4 r5 r6 r7 flg k0 k1 k2 k3 pv pn cn (s_X8_secondAt wwr pn ys p1) (by omega)) 1 (sxGV (bi3 (w := Cond.methodLink RX0 179 yX0_wantedAt) 32 rfl) (bi3 (w := Cond.instanceMethod yX0_wantedAt) 33 rfl) (bi3 (w := Cond.selects RX0 yX0_wantedAt yX0_wantedAt) 34 rfl) (bi2 (w := Cond.initialized RX0) 52 rfl) (bi3 (w := Cond.code yX0_wantedAt cX0_wantedAt 2 (some .int)) 30 rfl)) rfl (by decide +kernel) ⟨Nat.le_of_ble_eq_true rfl, Nat.le_of_ble_eq_true rfl⟩ hK hP [0, 4, 5] rfl 0 rfl rfl rfl hl rfl (Nat.le_of_ble_eq_true rfl) ⟨Nat.zero_le _, Nat.zero_le _⟩ dX0_wantedBehind_21 (fun r er => ?_)
  subst er
  refine lv_ior hx hb dX0_wantedBehind_24 ?_
  exact sx_ret hx hb hr hlk rfl (by simp only [s_X0_wantedBehind]) dX0_wantedBehind_25

abbrev wdX0_smallestLoan : List Cond := Cond.code yX0_smallestLoan cX0_smallestLoan 8 (some .int) :: bwC
def sl_X0_smallestLoan_L18 (lc : Nat) (yp : Nat → Int32) (ye : Nat → Int32) (pv : Nat) (cd : Nat → Int32) (p1 : Int32) (p2 : Int32) (p3 : Int32) (p4 : Int32)  : Nat → (Nat) → Int32
  | 0, _ => 0
  | k + 1, i => if (nI lc) ≤ (nI i) then (-1) else (if ((s_X0_heldByAny pv cd p1 p3) &&& (1 <<< ((nI i) &&& 31))) = 0 then sl_X0_smallestLoan_L18 lc yp ye pv cd p1 p2 p3 p4 k (i + 1) else (if (s_X9_meets (s_X3_placeOf lc yp (nI i)) p2) = 0 then sl_X0_smallestLoan_L18 lc yp ye pv cd p1 p2 p3 p4 k (i + 1) else (if p4 = 0 then nI i else (if (s_X3_isLent lc ye (nI i)) = 0 then sl_X0_smallestLoan_L18 lc yp ye pv cd p1 p2 p3 p4 k (i + 1) else nI i))))
set_option maxHeartbeats 4000000 in
set_option maxRecDepth 100000 in
theorem l_X0_smallestLoan_L18 (l : Launch) (G : sxG) (r : Nat) (h : Nat) (od : Nat) (ow : Nat) (ol : Nat) (oq : Nat) (r1 : Nat) (r2 : Nat) (r3 : Nat) (r4 : Nat) (r5 : Nat) (r6 : Nat) (r7 : Nat) (flg : Int32) (l1 : Nat) (l2 : Nat) (l3 : Nat) (l4 : Nat) (lc : Nat) (yp : Nat → Int32) (ye : Nat → Int32) (k0 : Nat) (k1 : Nat) (k2 : Nat) (k3 : Nat) (pv : Nat) (pn : Nat) (cd : Nat → Int32) (p1 : Int32) (p2 : Int32) (p3 : Int32) (p4 : Int32) (hl0 : lc ≤ 16) (hv : pv ≤ 8)   {p : Program} {e : Env} {s : State} {m : MethodId} {args : Array Value} {below : List Frame} {meth : Method} {c : Code} (hB : sxB G yX0_smallestLoan wdX0_smallestLoan cX0_smallestLoan 8 (.int) p s m args meth c) (hP : va_P G.1 vwCl [(r, .inr (0, [.ref h, .ref od, .ref ow, .ref ol, .ref oq, .ref r1, .ref r2, .ref r3, .ref r4, .ref r5, .ref r6, .ref r7, .int flg])), (ol, .inr (3, [.ref h, .ref l1, .ref l2, .ref l3, .ref l4, .int (nI lc)])), (l2, .inl (G.2.1, 16, .inl yp)), (l3, .inl (G.2.2, 16, .inl ye)), (h, .inr (5, [.ref k0, .ref k1, .ref k2, .ref k3, .int (nI pv), .int (nI pn)])), (r5, .inl (G.2.1, 272, .inl cd))] s.heap) (S0 : Int32) : ∀ (k : Nat) (i : Nat), i ≤ lc → 16 - i < k → S0 = sl_X0_smallestLoan_L18 lc yp ye pv cd p1 p2 p3 p4 k i → ∀ ls : Array Slot, lv_has ls 8 [(0, .ref r), (1, .int p1), (2, .int p2), (3, .int p3), (4, .int p4), (5, .int (s_X0_heldByAny pv cd p1 p3)), (6, .int (nI i))] → W p l e ({ frames := 2, cells := 0, slots := 0, locals := 47 }) s m args below meth c s.heap [] 0 0 (MQ below (vp_Si (fun r => r = S0)) args s 0 0 (fun _ => False)) (F0 m 18 ls []) := by
  obtain ⟨hx, hb, hr, hml, hown, hlk, hts, hK⟩ := id hB
  intro k
  induction k with
  | zero =>
    intro i _ hm
    exact absurd hm (Nat.not_lt_zero _)
  | succ k ih =>
    intro i hi hm hE ls hl
    refine lv_iload hx hb dX0_smallestLoan_18 (lv_at hl 6 rfl) ?_
    refine lv_aload_n hx hb dX0_smallestLoan_20 rfl (lv_at hl 0 rfl) ?_
    refine va_get (D := G.1) (ci := 0) (v := .ref ol) (C := RX0) (T := TX0) (N := 13) hx hb hts owX0 hown hK.1 hP 0 rfl rfl 3 (by decide) (bw0 (w := Cond.fieldLink RX0 34 "DropflagMill$Check" "loans" "LDropflagMill$Loans;") hts 55 rfl) (fun _ h9 => h9) rfl dX0_smallestLoan_21 ?_
    refine va_get (D := G.1) (ci := 3) (v := .int (nI lc)) (C := RX3) (T := TX3) (N := 6) hx hb hts owX3 hown hK.1 hP 1 rfl rfl 5 (by decide) (bw3 (w := Cond.fieldLink RX0 210 "DropflagMill$Loans" "count" "I") hts 53 rfl) (fun _ h9 => h9) rfl dX0_smallestLoan_24 ?_
    refine lv_icmp_ge (tgt := 94) hx hb dX0_smallestLoan_27 (by decide) (fun c2 => ?_) (fun c2 => ?_)
    · have nc2 := (nI_leI (a := lc) (b := i) (by omega) (by omega)).mp c2
      refine lv_iconst (v := (-1)) hx hb dX0_smallestLoan_94 (by decide) ?_
      exact sx_ret hx hb hr hlk rfl (by rw [hE]; simp only [sl_X0_smallestLoan_L18, if_pos c2]) dX0_smallestLoan_95
    · have nc2 := (not_congr (nI_leI (a := lc) (b := i) (by omega) (by omega))).mp c2
      refine lv_iload hx hb dX0_smallestLoan_30 (lv_at hl 5 rfl) ?_
      refine lv_iconst (v := 1) hx hb dX0_smallestLoan_32 (by decide) ?_
      refine lv_iload hx hb dX0_smallestLoan_33 (lv_at hl 6 rfl) ?_
      refine lv_ishl hx hb dX0_smallestLoan_35 ?_
      refine lv_iand hx hb dX0_smallestLoan_36 ?_
      refine lv_if_eq (tgt := 60) hx hb dX0_smallestLoan_37 (by decide) (fun c3 => ?_) (fun c3 => ?_)
      · refine lv_iconst (v := 0) hx hb dX0_smallestLoan_60 (by decide) ?_
        refine lv_istore (lv' := [(7, .int 0), (0, .ref r), (1, .int p1), (2, .int p2), (3, .int p3), (4, .int p4), (5, .int (s_X0_heldByAny pv cd p1 p3)), (6, .int (nI i))]) hx hb dX0_smallestLoan_61 hl (by decide) rfl (fun ls hl => ?_)
        refine lv_iload hx hb dX0_smallestLoan_63 (lv_at hl 0 rfl) ?_
        refine lv_if_eq (tgt := 88) hx hb dX0_smallestLoan_65 (by decide) (fun c4 => ?_) (fun c4 => absurd c4 (by decide))
        refine lv_iinc (v := nI (i + 1)) (lv' := [(6, .int (nI (i + 1))), (7, .int 0), (0, .ref r), (1, .int p1), (2, .int p2), (3, .int p3), (4, .int p4), (5, .int (s_X0_heldByAny pv cd p1 p3))]) hx hb dX0_smallestLoan_88 hl (k := 7) rfl (nI_1 i) (by decide) rfl (fun ls hl => ?_)
        refine lv_goto (tgt := 18) hx hb dX0_smallestLoan_91 (by decide) ?_
        exact ih (i + 1) (by omega) (by omega) (by rw [hE]; simp only [sl_X0_smallestLoan_L18, if_neg c2, if_pos c3]) ls (lv_sub hl [2, 3, 4, 5, 6, 7, 0] rfl)
      · refine lv_aload_n hx hb dX0_smallestLoan_40 rfl (lv_at hl 0 rfl) ?_
        refine va_get (D := G.1) (ci := 0) (v := .ref ol) (C := RX0) (T := TX0) (N := 13) hx hb hts owX0 hown hK.1 hP 0 rfl rfl 3 (by decide) (bw0 (w := Cond.fieldLink RX0 34 "DropflagMill$Check" "loans" "LDropflagMill$Loans;") hts 55 rfl) (fun _ h9 => h9) rfl dX0_smallestLoan_41 ?_
        refine lv_iload hx hb dX0_smallestLoan_44 (lv_at hl 6 rfl) ?_
        refine sx_v (As := [.int (nI i)]) (rest := []) hx hb hml hown hts (c_X3_placeOf l G ol h l1 l2 l3 l4 lc yp (nI i) (by omega)) 1 (sxGV (bi3 (w := Cond.methodLink RX0 211 yX3_placeOf) 57 rfl) (bi3 (w := Cond.instanceMethod yX3_placeOf) 58 rfl) (bi3 (w := Cond.selects RX3 yX3_placeOf yX3_placeOf) 59 rfl) (bi0 (w := Cond.initialized RX3) 54 rfl) (bi3 (w := Cond.code yX3_placeOf cX3_placeOf 2 (some .int)) 47 rfl)) rfl (by decide +kernel) ⟨Nat.le_of_ble_eq_true rfl, Nat.le_of_ble_eq_true rfl⟩ hK hP [1, 2] rfl 0 rfl rfl rfl hl rfl (Nat.le_of_ble_eq_true rfl) ⟨Nat.zero_le _, Nat.zero_le _⟩ dX0_smallestLoan_46 (fun r er => ?_)
        subst er
        refine lv_iload_n hx hb dX0_smallestLoan_49 rfl (lv_at hl 2 rfl) ?_
        refine sx_sn (As := [.int (s_X3_placeOf lc yp (nI i)), .int p2]) (rest := []) hx hb hml hown hts (c_X9_meets l G (s_X3_placeOf lc yp (nI i)) p2 ) 2 (sxGC (bi3 (w := Cond.code yX9_meets cX9_meets 3 (some .boolean)) 51 rfl)) rfl (hK.2.at 6 rfl) (List.mem_cons_of_mem _ (bi1 (w := Cond.initialized RX9) 58 rfl)) (List.mem_cons_of_mem _ (bi4 (w := Cond.static yX9_meets) 0 rfl)) (by decide +kernel) ⟨Nat.le_of_ble_eq_true rfl, Nat.le_of_ble_eq_true rfl⟩ hK hP [] rfl rfl hl rfl (Nat.le_of_ble_eq_true rfl) ⟨Nat.zero_le _, Nat.zero_le _⟩ dX0_smallestLoan_50 (fun r er => ?_)
        subst er
        refine lv_if_eq (tgt := 60) hx hb dX0_smallestLoan_53 (by decide) (fun c5 => ?_) (fun c5 => ?_)
        · refine lv_iconst (v := 0) hx hb dX0_smallestLoan_60 (by decide) ?_
          refine lv_istore (lv' := [(7, .int 0), (0, .ref r), (1, .int p1), (2, .int p2), (3, .int p3), (4, .int p4), (5, .int (s_X0_heldByAny pv cd p1 p3)), (6, .int (nI i))]) hx hb dX0_smallestLoan_61 hl (by decide) rfl (fun ls hl => ?_)
          refine lv_iload hx hb dX0_smallestLoan_63 (lv_at hl 0 rfl) ?_
          refine lv_if_eq (tgt := 88) hx hb dX0_smallestLoan_65 (by decide) (fun c6 => ?_) (fun c6 => absurd c6 (by decide))
          refine lv_iinc (v := nI (i + 1)) (lv' := [(6, .int (nI (i + 1))), (7, .int 0), (0, .ref r), (1, .int p1), (2, .int p2), (3, .int p3), (4, .int p4), (5, .int (s_X0_heldByAny pv cd p1 p3))]) hx hb dX0_smallestLoan_88 hl (k := 7) rfl (nI_1 i) (by decide) rfl (fun ls hl => ?_)
          refine lv_goto (tgt := 18) hx hb dX0_smallestLoan_91 (by decide) ?_
          exact ih (i + 1) (by omega) (by omega) (by rw [hE]; simp only [sl_X0_smallestLoan_L18, if_neg c2, if_neg c3, if_pos c5]) ls (lv_sub hl [2, 3, 4, 5, 6, 7, 0] rfl)
        · refine lv_iconst (v := 1) hx hb dX0_smallestLoan_56 (by decide) ?_
          refine lv_goto (tgt := 61) hx hb dX0_smallestLoan_57 (by decide) ?_
          refine lv_istore (lv' := [(7, .int 1), (0, .ref r), (1, .int p1), (2, .int p2), (3, .int p3), (4, .int p4), (5, .int (s_X0_heldByAny pv cd p1 p3)), (6, .int (nI i))]) hx hb dX0_smallestLoan_61 hl (by decide) rfl (fun ls hl => ?_)
          refine lv_iload hx hb dX0_smallestLoan_63 (lv_at hl 0 rfl) ?_
          refine lv_if_eq (tgt := 88) hx hb dX0_smallestLoan_65 (by decide) (fun c7 => absurd c7 (by decide)) (fun c7 => ?_)
          refine lv_iload hx hb dX0_smallestLoan_68 (lv_at hl 5 rfl) ?_
          refine lv_if_eq (tgt := 85) hx hb dX0_smallestLoan_70 (by decide) (fun c8 => ?_) (fun c8 => ?_)
          · refine lv_iload hx hb dX0_smallestLoan_85 (lv_at hl 7 rfl) ?_
            exact sx_ret hx hb hr hlk rfl (by rw [hE]; simp only [sl_X0_smallestLoan_L18, if_neg c2, if_neg c3, if_neg c5, if_pos c8]) dX0_smallestLoan_87
          · refine lv_aload_n hx hb dX0_smallestLoan_73 rfl (lv_at hl 1 rfl) ?_
            refine va_get (D := G.1) (ci := 0) (v := .ref ol) (C := RX0) (T := TX0) (N := 13) hx hb hts owX0 hown hK.1 hP 0 rfl rfl 3 (by decide) (bw0 (w := Cond.fieldLink RX0 34 "DropflagMill$Check" "loans" "LDropflagMill$Loans;") hts 55 rfl) (fun _ h9 => h9) rfl dX0_smallestLoan_74 ?_
            refine lv_iload hx hb dX0_smallestLoan_77 (lv_at hl 7 rfl) ?_
            refine sx_v (As := [.int (nI i)]) (rest := []) hx hb hml hown hts (c_X3_isLent l G ol h l1 l2 l3 l4 lc ye (nI i) (by omega)) 1 (sxGV (bi4 (w := Cond.methodLink RX0 217 yX3_isLent) 1 rfl) (bi4 (w := Cond.instanceMethod yX3_isLent) 2 rfl) (bi4 (w := Cond.selects RX3 yX3_isLent yX3_isLent) 3 rfl) (bi0 (w := Cond.initialized RX3) 54 rfl) (bi3 (w := Cond.code yX3_isLent cX3_isLent 2 (some .boolean)) 52 rfl)) rfl (by decide +kernel) ⟨Nat.le_of_ble_eq_true rfl, Nat.le_of_ble_eq_true rfl⟩ hK hP [1, 3] rfl 0 rfl rfl rfl hl rfl (Nat.le_of_ble_eq_true rfl) ⟨Nat.zero_le _, Nat.zero_le _⟩ dX0_smallestLoan_79 (fun r er => ?_)
            subst er
            refine lv_if_eq (tgt := 88) hx hb dX0_smallestLoan_82 (by decide) (fun c9 => ?_) (fun c9 => ?_)
            · refine lv_iinc (v := nI (i + 1)) (lv' := [(6, .int (nI (i + 1))), (7, .int 1), (0, .ref r), (1, .int p1), (2, .int p2), (3, .int p3), (4, .int p4), (5, .int (s_X0_heldByAny pv cd p1 p3))]) hx hb dX0_smallestLoan_88 hl (k := 7) rfl (nI_1 i) (by decide) rfl (fun ls hl => ?_)
              refine lv_goto (tgt := 18) hx hb dX0_smallestLoan_91 (by decide) ?_
              exact ih (i + 1) (by omega) (by omega) (by rw [hE]; simp only [sl_X0_smallestLoan_L18, if_neg c2, if_neg c3, if_neg c5, if_neg c8, if_pos c9]) ls (lv_sub hl [2, 3, 4, 5, 6, 7, 0] rfl)
            · refine lv_iload hx hb dX0_smallestLoan_85 (lv_at hl 7 rfl) ?_
              exact sx_ret hx hb hr hlk rfl (by rw [hE]; simp only [sl_X0_smallestLoan_L18, if_neg c2, if_neg c3, if_neg c5, if_neg c8, if_neg c9]) dX0_smallestLoan_87
def s_X0_smallestLoan (lc : Nat) (yp : Nat → Int32) (ye : Nat → Int32) (pv : Nat) (cd : Nat → Int32) (p1 : Int32) (p2 : Int32) (p3 : Int32) (p4 : Int32) : Int32 := if p2 = (-1) then (-1) else sl_X0_smallestLoan_L18 lc yp ye pv cd p1 p2 p3 p4  17 0
set_option maxHeartbeats 4000000 in
set_option maxRecDepth 100000 in
theorem c_X0_smallestLoan (l : Launch) (G : sxG) (r : Nat) (h : Nat) (od : Nat) (ow : Nat) (ol : Nat) (oq : Nat) (r1 : Nat) (r2 : Nat) (r3 : Nat) (r4 : Nat) (r5 : Nat) (r6 : Nat) (r7 : Nat) (flg : Int32) (l1 : Nat) (l2 : Nat) (l3 : Nat) (l4 : Nat) (lc : Nat) (yp : Nat → Int32) (ye : Nat → Int32) (k0 : Nat) (k1 : Nat) (k2 : Nat) (k3 : Nat) (pv : Nat) (pn : Nat) (cd : Nat → Int32) (p1 : Int32) (p2 : Int32) (p3 : Int32) (p4 : Int32) (hl0 : lc ≤ 16) (hv : pv ≤ 8) : sxM l yX0_smallestLoan wdX0_smallestLoan 2 47 G [(r, .inr (0, [.ref h, .ref od, .ref ow, .ref ol, .ref oq, .ref r1, .ref r2, .ref r3, .ref r4, .ref r5, .ref r6, .ref r7, .int flg])), (ol, .inr (3, [.ref h, .ref l1, .ref l2, .ref l3, .ref l4, .int (nI lc)])), (l2, .inl (G.2.1, 16, .inl yp)), (l3, .inl (G.2.2, 16, .inl ye)), (h, .inr (5, [.ref k0, .ref k1, .ref k2, .ref k3, .int (nI pv), .int (nI pn)])), (r5, .inl (G.2.1, 272, .inl cd))] [.ref r, .int p1, .int p2, .int p3, .int p4] (fun r => r = s_X0_smallestLoan lc yp ye pv cd p1 p2 p3 p4) := by
  refine sxM.of (cc := cX0_smallestLoan) (maxL := 8) (by decide) rfl (Nat.le_of_ble_eq_true rfl) ?_
  intro p e s m args below meth c ⟨hx, hb, hr, hml, hown, hlk, hts, hK⟩ hP ls hl
  have hl : lv_has ls 8 [(0, .ref r), (1, .int p1), (2, .int p2), (3, .int p3), (4, .int p4)] := hl
  refine lv_iload_n hx hb dX0_smallestLoan_0 rfl (lv_at hl 2 rfl) ?_
  refine lv_iconst (v := (-1)) hx hb dX0_smallestLoan_1 (by decide) ?_
  refine lv_icmp_ne (tgt := 7) hx hb dX0_smallestLoan_2 (by decide) (fun c1 => ?_) (fun c1 => ?_)
  · refine lv_aload_n hx hb dX0_smallestLoan_7 rfl (lv_at hl 0 rfl) ?_
    refine lv_iload_n hx hb dX0_smallestLoan_8 rfl (lv_at hl 1 rfl) ?_
    refine lv_iload_n hx hb dX0_smallestLoan_9 rfl (lv_at hl 3 rfl) ?_
    refine sx_v (As := [.int p1, .int p3]) (rest := []) hx hb hml hown hts (c_X0_heldByAny l G r h od ow ol oq r1 r2 r3 r4 r5 r6 r7 flg k0 k1 k2 k3 pv pn cd p1 p3 (by omega)) 2 (sxGV (bi3 (w := Cond.methodLink RX0 207 yX0_heldByAny) 54 rfl) (bi3 (w := Cond.instanceMethod yX0_heldByAny) 55 rfl) (bi3 (w := Cond.selects RX0 yX0_heldByAny yX0_heldByAny) 56 rfl) (bi2 (w := Cond.initialized RX0) 52 rfl) (bi3 (w := Cond.code yX0_heldByAny cX0_heldByAny 5 (some .int)) 45 rfl)) rfl (by decide +kernel) ⟨Nat.le_of_ble_eq_true rfl, Nat.le_of_ble_eq_true rfl⟩ hK hP [0, 4, 5] rfl 0 rfl rfl rfl hl rfl (Nat.le_of_ble_eq_true rfl) ⟨Nat.zero_le _, Nat.zero_le _⟩ dX0_smallestLoan_10 (fun r er => ?_)
    subst er
    refine lv_istore (lv' := [(5, .int (s_X0_heldByAny pv cd p1 p3)), (0, .ref r), (1, .int p1), (2, .int p2), (3, .int p3), (4, .int p4)]) hx hb dX0_smallestLoan_13 hl (by decide) rfl (fun ls hl => ?_)
    refine lv_iconst (v := 0) hx hb dX0_smallestLoan_15 (by decide) ?_
    refine lv_istore (lv' := [(6, .int 0), (5, .int (s_X0_heldByAny pv cd p1 p3)), (0, .ref r), (1, .int p1), (2, .int p2), (3, .int p3), (4, .int p4)]) hx hb dX0_smallestLoan_16 hl (by decide) rfl (fun ls hl => ?_)
    have hB0 : sxB G yX0_smallestLoan wdX0_smallestLoan cX0_smallestLoan 8 (.int) p s m args meth c := ⟨hx, hb, hr, hml, hown, hlk, hts, hK⟩
    exact l_X0_smallestLoan_L18 l G r h od ow ol oq r1 r2 r3 r4 r5 r6 r7 flg l1 l2 l3 l4 lc yp ye k0 k1 k2 k3 pv pn cd p1 p2 p3 p4 hl0 hv   hB0 hP _  17 0 (Nat.zero_le _) (by omega) (by simp only [s_X0_smallestLoan, if_neg c1]) ls (lv_sub hl [2, 3, 4, 5, 6, 1, 0] rfl)
  · refine lv_iconst (v := (-1)) hx hb dX0_smallestLoan_5 (by decide) ?_
    exact sx_ret hx hb hr hlk rfl (by simp only [s_X0_smallestLoan, if_pos c1]) dX0_smallestLoan_6

abbrev wdX0_lastUse : List Cond := Cond.code yX0_lastUse cX0_lastUse 4 (some .int) :: bwC
def sl_X0_lastUse_L23 (dbu : Nat → Int32) (pv : Nat) (cd : Nat → Int32) (p1 : Int32)  : Nat → (Nat) → Int32
  | 0, _ => 0
  | k + 1, d => if (nI d + (-1)) < 0 then (-1) else (if ((s_X0_heldByAny pv cd (nI (d - 1)) (dbu (d - 1))) &&& (1 <<< (p1 &&& 31))) = 0 then sl_X0_lastUse_L23 dbu pv cd p1 k (d - 1) else nI (d - 1))
set_option maxHeartbeats 4000000 in
set_option maxRecDepth 100000 in
theorem l_X0_lastUse_L23 (l : Launch) (G : sxG) (r : Nat) (h : Nat) (od : Nat) (ow : Nat) (ol : Nat) (oq : Nat) (r1 : Nat) (r2 : Nat) (r3 : Nat) (r4 : Nat) (r5 : Nat) (r6 : Nat) (r7 : Nat) (flg : Int32) (d1 : Nat) (d2 : Nat) (d3 : Nat) (d4 : Nat) (d5 : Nat) (d6 : Nat) (d7 : Nat) (d8 : Nat) (d9 : Nat) (dbu : Nat → Int32) (l1 : Nat) (l2 : Nat) (l3 : Nat) (l4 : Nat) (lc : Nat) (k0 : Nat) (k1 : Nat) (k2 : Nat) (k3 : Nat) (pv : Nat) (pn : Nat) (cd : Nat → Int32) (p1 : Int32) (hn : pn ≤ 33) (hv : pv ≤ 8)   {p : Program} {e : Env} {s : State} {m : MethodId} {args : Array Value} {below : List Frame} {meth : Method} {c : Code} (hB : sxB G yX0_lastUse wdX0_lastUse cX0_lastUse 4 (.int) p s m args meth c) (hP : va_P G.1 vwCl [(r, .inr (0, [.ref h, .ref od, .ref ow, .ref ol, .ref oq, .ref r1, .ref r2, .ref r3, .ref r4, .ref r5, .ref r6, .ref r7, .int flg])), (od, .inr (1, [.ref h, .ref d1, .ref d2, .ref d3, .ref d4, .ref d5, .ref d6, .ref d7, .ref d8, .ref d9])), (d8, .inl (G.2.1, 34, .inl dbu)), (ol, .inr (3, [.ref h, .ref l1, .ref l2, .ref l3, .ref l4, .int (nI lc)])), (h, .inr (5, [.ref k0, .ref k1, .ref k2, .ref k3, .int (nI pv), .int (nI pn)])), (r5, .inl (G.2.1, 272, .inl cd))] s.heap) (S0 : Int32) : ∀ (k : Nat) (d : Nat), d ≤ pn → d < k → S0 = sl_X0_lastUse_L23 dbu pv cd p1 k d → ∀ ls : Array Slot, lv_has ls 4 [(0, .ref r), (1, .int p1), (2, .int (nI d + (-1)))] → W p l e ({ frames := 2, cells := 0, slots := 0, locals := 47 }) s m args below meth c s.heap [] 0 0 (MQ below (vp_Si (fun r => r = S0)) args s 0 0 (fun _ => False)) (F0 m 23 ls []) := by
  obtain ⟨hx, hb, hr, hml, hown, hlk, hts, hK⟩ := id hB
  intro k
  induction k with
  | zero =>
    intro d _ hm
    exact absurd hm (Nat.not_lt_zero _)
  | succ k ih =>
    intro d hd0 hm hE ls hl
    refine lv_iload_n hx hb dX0_lastUse_23 rfl (lv_at hl 2 rfl) ?_
    refine lv_if_lt (tgt := 58) hx hb dX0_lastUse_24 (by decide) (fun c2 => ?_) (fun c2 => ?_)
    · have nc2 : d = 0 := sx_dn0 (by omega) c2
      refine lv_iconst (v := (-1)) hx hb dX0_lastUse_58 (by decide) ?_
      exact sx_ret hx hb hr hlk rfl (by rw [hE]; simp only [sl_X0_lastUse_L23, if_pos c2]) dX0_lastUse_59
    · have nc2 : 1 ≤ d := sx_dn1 (by omega) c2
      rw [sx_m1 nc2] at hl
      refine lv_aload_n hx hb dX0_lastUse_27 rfl (lv_at hl 0 rfl) ?_
      refine lv_iload_n hx hb dX0_lastUse_28 rfl (lv_at hl 2 rfl) ?_
      refine lv_aload_n hx hb dX0_lastUse_29 rfl (lv_at hl 0 rfl) ?_
      refine va_get (D := G.1) (ci := 0) (v := .ref od) (C := RX0) (T := TX0) (N := 13) hx hb hts owX0 hown hK.1 hP 0 rfl rfl 1 (by decide) (bw0 (w := Cond.fieldLink RX0 20 "DropflagMill$Check" "deeds" "LDropflagMill$Deeds;") hts 47 rfl) (fun _ h9 => h9) rfl dX0_lastUse_30 ?_
      refine va_get (D := G.1) (ci := 1) (v := .ref d8) (C := RX1) (T := TX1) (N := 10) hx hb hts owX1 hown hK.1 hP 1 rfl rfl 8 (by decide) (bw3 (w := Cond.fieldLink RX0 176 "DropflagMill$Deeds" "borrowsUsed" "[I") hts 36 rfl) (fun _ h9 => h9) rfl dX0_lastUse_33 ?_
      refine lv_iload_n hx hb dX0_lastUse_36 rfl (lv_at hl 2 rfl) ?_
      refine va_iald hx hb hK.1 hP 2 0 rfl rfl (i := nI (d - 1)) (vp_in_nI (n := (d - 1)) (by omega) (by omega)) dX0_lastUse_37 ?_
      rw [show (nI (d - 1) : Int32).toNatClampNeg = (d - 1) from nI_clamp (n := (d - 1)) (by omega)]
      refine sx_v (As := [.int (nI (d - 1)), .int (dbu (d - 1))]) (rest := []) hx hb hml hown hts (c_X0_heldByAny l G r h od ow ol oq r1 r2 r3 r4 r5 r6 r7 flg k0 k1 k2 k3 pv pn cd (nI (d - 1)) (dbu (d - 1)) (by omega)) 2 (sxGV (bi3 (w := Cond.methodLink RX0 207 yX0_heldByAny) 54 rfl) (bi3 (w := Cond.instanceMethod yX0_heldByAny) 55 rfl) (bi3 (w := Cond.selects RX0 yX0_heldByAny yX0_heldByAny) 56 rfl) (bi2 (w := Cond.initialized RX0) 52 rfl) (bi3 (w := Cond.code yX0_heldByAny cX0_heldByAny 5 (some .int)) 45 rfl)) rfl (by decide +kernel) ⟨Nat.le_of_ble_eq_true rfl, Nat.le_of_ble_eq_true rfl⟩ hK hP [0, 4, 5] rfl 0 rfl rfl rfl hl rfl (Nat.le_of_ble_eq_true rfl) ⟨Nat.zero_le _, Nat.zero_le _⟩ dX0_lastUse_38 (fun r er => ?_)
      subst er
      refine lv_istore_n (lv' := [(3, .int (s_X0_heldByAny pv cd (nI (d - 1)) (dbu (d - 1)))), (0, .ref r), (1, .int p1), (2, .int (nI (d - 1)))]) hx hb dX0_lastUse_41 rfl hl (by decide) rfl (fun ls hl => ?_)
      refine lv_iload_n hx hb dX0_lastUse_42 rfl (lv_at hl 0 rfl) ?_
      refine lv_iconst (v := 1) hx hb dX0_lastUse_43 (by decide) ?_
      refine lv_iload_n hx hb dX0_lastUse_44 rfl (lv_at hl 2 rfl) ?_
      refine lv_ishl hx hb dX0_lastUse_45 ?_
      refine lv_iand hx hb dX0_lastUse_46 ?_
      refine lv_if_eq (tgt := 52) hx hb dX0_lastUse_47 (by decide) (fun c3 => ?_) (fun c3 => ?_)
      · refine lv_iinc (v := nI (d - 1) + (-1)) (lv' := [(2, .int (nI (d - 1) + (-1))), (3, .int (s_X0_heldByAny pv cd (nI (d - 1)) (dbu (d - 1)))), (0, .ref r), (1, .int p1)]) hx hb dX0_lastUse_52 hl (k := 3) rfl (rfl) (by decide) rfl (fun ls hl => ?_)
        refine lv_goto (tgt := 23) hx hb dX0_lastUse_55 (by decide) ?_
        exact ih (d - 1) (by omega) (by omega) (by rw [hE]; simp only [sl_X0_lastUse_L23, if_neg c2, if_pos c3]) ls (lv_sub hl [2, 3, 0] rfl)
      · refine lv_iload_n hx hb dX0_lastUse_50 rfl (lv_at hl 3 rfl) ?_
        exact sx_ret hx hb hr hlk rfl (by rw [hE]; simp only [sl_X0_lastUse_L23, if_neg c2, if_neg c3]) dX0_lastUse_51
def s_X0_lastUse (dbu : Nat → Int32) (lc : Nat) (pv : Nat) (pn : Nat) (cd : Nat → Int32) (p1 : Int32) : Int32 := if (s_X3_isLoan lc p1) = 0 then (-1) else sl_X0_lastUse_L23 dbu pv cd p1  34 pn
set_option maxHeartbeats 4000000 in
set_option maxRecDepth 100000 in
theorem c_X0_lastUse (l : Launch) (G : sxG) (r : Nat) (h : Nat) (od : Nat) (ow : Nat) (ol : Nat) (oq : Nat) (r1 : Nat) (r2 : Nat) (r3 : Nat) (r4 : Nat) (r5 : Nat) (r6 : Nat) (r7 : Nat) (flg : Int32) (d1 : Nat) (d2 : Nat) (d3 : Nat) (d4 : Nat) (d5 : Nat) (d6 : Nat) (d7 : Nat) (d8 : Nat) (d9 : Nat) (dbu : Nat → Int32) (l1 : Nat) (l2 : Nat) (l3 : Nat) (l4 : Nat) (lc : Nat) (k0 : Nat) (k1 : Nat) (k2 : Nat) (k3 : Nat) (pv : Nat) (pn : Nat) (cd : Nat → Int32) (p1 : Int32) (hn : pn ≤ 33) (hv : pv ≤ 8) : sxM l yX0_lastUse wdX0_lastUse 2 47 G [(r, .inr (0, [.ref h, .ref od, .ref ow, .ref ol, .ref oq, .ref r1, .ref r2, .ref r3, .ref r4, .ref r5, .ref r6, .ref r7, .int flg])), (od, .inr (1, [.ref h, .ref d1, .ref d2, .ref d3, .ref d4, .ref d5, .ref d6, .ref d7, .ref d8, .ref d9])), (d8, .inl (G.2.1, 34, .inl dbu)), (ol, .inr (3, [.ref h, .ref l1, .ref l2, .ref l3, .ref l4, .int (nI lc)])), (h, .inr (5, [.ref k0, .ref k1, .ref k2, .ref k3, .int (nI pv), .int (nI pn)])), (r5, .inl (G.2.1, 272, .inl cd))] [.ref r, .int p1] (fun r => r = s_X0_lastUse dbu lc pv pn cd p1) := by
  refine sxM.of (cc := cX0_lastUse) (maxL := 4) (by decide) rfl (Nat.le_of_ble_eq_true rfl) ?_
  intro p e s m args below meth c ⟨hx, hb, hr, hml, hown, hlk, hts, hK⟩ hP ls hl
  have hl : lv_has ls 4 [(0, .ref r), (1, .int p1)] := hl
  refine lv_aload_n hx hb dX0_lastUse_0 rfl (lv_at hl 0 rfl) ?_
  refine va_get (D := G.1) (ci := 0) (v := .ref ol) (C := RX0) (T := TX0) (N := 13) hx hb hts owX0 hown hK.1 hP 0 rfl rfl 3 (by decide) (bw0 (w := Cond.fieldLink RX0 34 "DropflagMill$Check" "loans" "LDropflagMill$Loans;") hts 55 rfl) (fun _ h9 => h9) rfl dX0_lastUse_1 ?_
  refine lv_iload_n hx hb dX0_lastUse_4 rfl (lv_at hl 1 rfl) ?_
  refine sx_v (As := [.int p1]) (rest := []) hx hb hml hown hts (c_X3_isLoan l G ol h l1 l2 l3 l4 lc p1 ) 1 (sxGV (bi5 (w := Cond.methodLink RX0 220 yX3_isLoan) 3 rfl) (bi3 (w := Cond.instanceMethod yX3_isLoan) 49 rfl) (bi3 (w := Cond.selects RX3 yX3_isLoan yX3_isLoan) 50 rfl) (bi0 (w := Cond.initialized RX3) 54 rfl) (bi3 (w := Cond.code yX3_isLoan cX3_isLoan 2 (some .boolean)) 46 rfl)) rfl (by decide +kernel) ⟨Nat.le_of_ble_eq_true rfl, Nat.le_of_ble_eq_true rfl⟩ hK hP [3] rfl 0 rfl rfl rfl hl rfl (Nat.le_of_ble_eq_true rfl) ⟨Nat.zero_le _, Nat.zero_le _⟩ dX0_lastUse_5 (fun r er => ?_)
  subst er
  refine lv_if_ne (tgt := 13) hx hb dX0_lastUse_8 (by decide) (fun c1 => ?_) (fun c1 => ?_)
  · refine lv_aload_n hx hb dX0_lastUse_13 rfl (lv_at hl 0 rfl) ?_
    refine va_get (D := G.1) (ci := 0) (v := .ref h) (C := RX0) (T := TX0) (N := 13) hx hb hts owX0 hown hK.1 hP 0 rfl rfl 0 (by decide) (bw0 (w := Cond.fieldLink RX0 9 "DropflagMill$Check" "program" "LDropflagMill$Program;") hts 43 rfl) (fun _ h9 => h9) rfl dX0_lastUse_14 ?_
    refine va_get (D := G.1) (ci := 5) (v := .int (nI pn)) (C := RX5) (T := TX5) (N := 6) hx hb hts owX5 hown hK.1 hP 4 rfl rfl 5 (by decide) (bw3 (w := Cond.fieldLink RX0 97 "DropflagMill$Program" "lines" "I") hts 22 rfl) (fun _ h9 => h9) rfl dX0_lastUse_17 ?_
    refine lv_iconst (v := 1) hx hb dX0_lastUse_20 (by decide) ?_
    refine lv_isub hx hb dX0_lastUse_21 ?_
    rw [show (nI pn) - 1 = nI pn + (-1) from sx_sub1 _]
    refine lv_istore_n (lv' := [(2, .int (nI pn + (-1))), (0, .ref r), (1, .int p1)]) hx hb dX0_lastUse_22 rfl hl (by decide) rfl (fun ls hl => ?_)
    have hB0 : sxB G yX0_lastUse wdX0_lastUse cX0_lastUse 4 (.int) p s m args meth c := ⟨hx, hb, hr, hml, hown, hlk, hts, hK⟩
    exact l_X0_lastUse_L23 l G r h od ow ol oq r1 r2 r3 r4 r5 r6 r7 flg d1 d2 d3 d4 d5 d6 d7 d8 d9 dbu l1 l2 l3 l4 lc k0 k1 k2 k3 pv pn cd p1 hn hv   hB0 hP _  34 pn (Nat.le_refl _) (by omega) (by simp only [s_X0_lastUse, if_neg c1]) ls (lv_sub hl [1, 2, 0] rfl)
  · refine lv_iconst (v := (-1)) hx hb dX0_lastUse_11 (by decide) ?_
    exact sx_ret hx hb hr hlk rfl (by simp only [s_X0_lastUse, if_pos c1]) dX0_lastUse_12

abbrev wdX0_unsureAt : List Cond := Cond.code yX0_unsureAt cX0_unsureAt 2 (some .int) :: bwC
def s_X0_unsureAt (pn : Nat) (ch : Nat → Int32) (cl : Nat → Int32) (p1 : Int32) : Int32 := if (s_X5_isLineOrEnd pn p1) = 0 then 0 else (ch p1.toNatClampNeg) &&& (cl p1.toNatClampNeg)
set_option maxHeartbeats 4000000 in
set_option maxRecDepth 100000 in
theorem c_X0_unsureAt (l : Launch) (G : sxG) (r : Nat) (h : Nat) (od : Nat) (ow : Nat) (ol : Nat) (oq : Nat) (r1 : Nat) (r2 : Nat) (r3 : Nat) (r4 : Nat) (r5 : Nat) (r6 : Nat) (r7 : Nat) (flg : Int32) (k0 : Nat) (k1 : Nat) (k2 : Nat) (k3 : Nat) (pv : Nat) (pn : Nat) (ch : Nat → Int32) (cl : Nat → Int32) (p1 : Int32) (hn : pn ≤ 33) : sxM l yX0_unsureAt wdX0_unsureAt 1 21 G [(r, .inr (0, [.ref h, .ref od, .ref ow, .ref ol, .ref oq, .ref r1, .ref r2, .ref r3, .ref r4, .ref r5, .ref r6, .ref r7, .int flg])), (h, .inr (5, [.ref k0, .ref k1, .ref k2, .ref k3, .int (nI pv), .int (nI pn)])), (r3, .inl (G.2.1, 34, .inl ch)), (r4, .inl (G.2.1, 34, .inl cl))] [.ref r, .int p1] (fun r => r = s_X0_unsureAt pn ch cl p1) := by
  refine sxM.of (cc := cX0_unsureAt) (maxL := 2) (by decide) rfl (Nat.le_of_ble_eq_true rfl) ?_
  intro p e s m args below meth c ⟨hx, hb, hr, hml, hown, hlk, hts, hK⟩ hP ls hl
  have hl : lv_has ls 2 [(0, .ref r), (1, .int p1)] := hl
  refine lv_aload_n hx hb dX0_unsureAt_0 rfl (lv_at hl 0 rfl) ?_
  refine va_get (D := G.1) (ci := 0) (v := .ref h) (C := RX0) (T := TX0) (N := 13) hx hb hts owX0 hown hK.1 hP 0 rfl rfl 0 (by decide) (bw0 (w := Cond.fieldLink RX0 9 "DropflagMill$Check" "program" "LDropflagMill$Program;") hts 43 rfl) (fun _ h9 => h9) rfl dX0_unsureAt_1 ?_
  refine lv_iload_n hx hb dX0_unsureAt_4 rfl (lv_at hl 1 rfl) ?_
  refine sx_v (As := [.int p1]) (rest := []) hx hb hml hown hts (c_X5_isLineOrEnd l G h k0 k1 k2 k3 pv pn p1 ) 1 (sxGV (bi3 (w := Cond.methodLink RX0 169 yX5_isLineOrEnd) 1 rfl) (bi3 (w := Cond.instanceMethod yX5_isLineOrEnd) 2 rfl) (bi3 (w := Cond.selects RX5 yX5_isLineOrEnd yX5_isLineOrEnd) 3 rfl) (bi1 (w := Cond.initialized RX5) 30 rfl) (bi2 (w := Cond.code yX5_isLineOrEnd cX5_isLineOrEnd 2 (some .boolean)) 58 rfl)) rfl (by decide +kernel) ⟨Nat.le_of_ble_eq_true rfl, Nat.le_of_ble_eq_true rfl⟩ hK hP [1] rfl 0 rfl rfl rfl hl rfl (Nat.le_of_ble_eq_true rfl) ⟨Nat.zero_le _, Nat.zero_le _⟩ dX0_unsureAt_5 (fun r er => ?_)
  subst er
  refine lv_if_eq (tgt := 27) hx hb dX0_unsureAt_8 (by decide) (fun c1 => ?_) (fun c1 => ?_)
  · refine lv_iconst (v := 0) hx hb dX0_unsureAt_27 (by decide) ?_
    exact sx_ret hx hb hr hlk rfl (by simp only [s_X0_unsureAt, if_pos c1]) dX0_unsureAt_28
  · refine lv_aload_n hx hb dX0_unsureAt_11 rfl (lv_at hl 0 rfl) ?_
    refine va_get (D := G.1) (ci := 0) (v := .ref r3) (C := RX0) (T := TX0) (N := 13) hx hb hts owX0 hown hK.1 hP 0 rfl rfl 7 (by decide) (bw1 (w := Cond.fieldLink RX0 52 "DropflagMill$Check" "canHave" "[I") hts 2 rfl) (fun _ h9 => h9) rfl dX0_unsureAt_12 ?_
    refine lv_iload_n hx hb dX0_unsureAt_15 rfl (lv_at hl 1 rfl) ?_
    refine va_iald hx hb hK.1 hP 2 0 rfl rfl (i := p1) (sx_in_end (by omega) c1) dX0_unsureAt_16 ?_
    refine lv_aload_n hx hb dX0_unsureAt_17 rfl (lv_at hl 0 rfl) ?_
    refine va_get (D := G.1) (ci := 0) (v := .ref r4) (C := RX0) (T := TX0) (N := 13) hx hb hts owX0 hown hK.1 hP 0 rfl rfl 8 (by decide) (bw1 (w := Cond.fieldLink RX0 56 "DropflagMill$Check" "canLack" "[I") hts 3 rfl) (fun _ h9 => h9) rfl dX0_unsureAt_18 ?_
    refine lv_iload_n hx hb dX0_unsureAt_21 rfl (lv_at hl 1 rfl) ?_
    refine va_iald hx hb hK.1 hP 3 0 rfl rfl (i := p1) (sx_in_end (by omega) c1) dX0_unsureAt_22 ?_
    refine lv_iand hx hb dX0_unsureAt_23 ?_
    refine lv_goto (tgt := 28) hx hb dX0_unsureAt_24 (by decide) ?_
    exact sx_ret hx hb hr hlk rfl (by simp only [s_X0_unsureAt, if_neg c1]) dX0_unsureAt_28

abbrev wdX0_isDead : List Cond := Cond.code yX0_isDead cX0_isDead 2 (some .boolean) :: bwC
def s_X0_isDead (wwr : Int32) (pn : Nat) (cr : Nat → Int32) (p1 : Int32) : Int32 := if (s_X8_isWhole wwr) = 0 then 0 else (if (s_X5_isLine pn p1) = 0 then 0 else (if (cr p1.toNatClampNeg) = 0 then 1 else 0))
set_option maxHeartbeats 4000000 in
set_option maxRecDepth 100000 in
theorem c_X0_isDead (l : Launch) (G : sxG) (r : Nat) (h : Nat) (od : Nat) (ow : Nat) (ol : Nat) (oq : Nat) (r1 : Nat) (r2 : Nat) (r3 : Nat) (r4 : Nat) (r5 : Nat) (r6 : Nat) (r7 : Nat) (flg : Int32) (w1 : Nat) (w2 : Nat) (w3 : Nat) (w4 : Nat) (w5 : Nat) (w6 : Nat) (wdp : Int32) (wwr : Int32) (k0 : Nat) (k1 : Nat) (k2 : Nat) (k3 : Nat) (pv : Nat) (pn : Nat) (cr : Nat → Int32) (p1 : Int32) (hn : pn ≤ 33) : sxM l yX0_isDead wdX0_isDead 1 21 G [(r, .inr (0, [.ref h, .ref od, .ref ow, .ref ol, .ref oq, .ref r1, .ref r2, .ref r3, .ref r4, .ref r5, .ref r6, .ref r7, .int flg])), (ow, .inr (8, [.ref h, .ref w1, .ref w2, .ref w3, .ref w4, .ref w5, .ref w6, .int wdp, .int wwr])), (h, .inr (5, [.ref k0, .ref k1, .ref k2, .ref k3, .int (nI pv), .int (nI pn)])), (r1, .inl (G.2.2, 34, .inl cr))] [.ref r, .int p1] (fun r => r = s_X0_isDead wwr pn cr p1) := by
  refine sxM.of (cc := cX0_isDead) (maxL := 2) (by decide) rfl (Nat.le_of_ble_eq_true rfl) ?_
  intro p e s m args below meth c ⟨hx, hb, hr, hml, hown, hlk, hts, hK⟩ hP ls hl
  have hl : lv_has ls 2 [(0, .ref r), (1, .int p1)] := hl
  refine lv_aload_n hx hb dX0_isDead_0 rfl (lv_at hl 0 rfl) ?_
  refine va_get (D := G.1) (ci := 0) (v := .ref ow) (C := RX0) (T := TX0) (N := 13) hx hb hts owX0 hown hK.1 hP 0 rfl rfl 2 (by decide) (bw0 (w := Cond.fieldLink RX0 27 "DropflagMill$Check" "ways" "LDropflagMill$Ways;") hts 51 rfl) (fun _ h9 => h9) rfl dX0_isDead_1 ?_
  refine sx_v (As := []) (rest := []) hx hb hml hown hts (c_X8_isWhole l G ow h w1 w2 w3 w4 w5 w6 wdp wwr ) 0 (sxGV (bi4 (w := Cond.methodLink RX0 80 yX8_isWhole) 48 rfl) (bi2 (w := Cond.instanceMethod yX8_isWhole) 55 rfl) (bi2 (w := Cond.selects RX8 yX8_isWhole yX8_isWhole) 56 rfl) (bi0 (w := Cond.initialized RX8) 50 rfl) (bi2 (w := Cond.code yX8_isWhole cX8_isWhole 1 (some .boolean)) 40 rfl)) rfl (by decide +kernel) ⟨Nat.le_of_ble_eq_true rfl, Nat.le_of_ble_eq_true rfl⟩ hK hP [1] rfl 0 rfl rfl rfl hl rfl (Nat.le_of_ble_eq_true rfl) ⟨Nat.zero_le _, Nat.zero_le _⟩ dX0_isDead_4 (fun r er => ?_)
  subst er
  refine lv_if_eq (tgt := 34) hx hb dX0_isDead_7 (by decide) (fun c1 => ?_) (fun c1 => ?_)
  · refine lv_iconst (v := 0) hx hb dX0_isDead_34 (by decide) ?_
    exact sx_ret hx hb hr hlk rfl (by simp only [s_X0_isDead, if_pos c1]) dX0_isDead_35
  · refine lv_aload_n hx hb dX0_isDead_10 rfl (lv_at hl 0 rfl) ?_
    refine va_get (D := G.1) (ci := 0) (v := .ref h) (C := RX0) (T := TX0) (N := 13) hx hb hts owX0 hown hK.1 hP 0 rfl rfl 0 (by decide) (bw0 (w := Cond.fieldLink RX0 9 "DropflagMill$Check" "program" "LDropflagMill$Program;") hts 43 rfl) (fun _ h9 => h9) rfl dX0_isDead_11 ?_
    refine lv_iload_n hx hb dX0_isDead_14 rfl (lv_at hl 1 rfl) ?_
    refine sx_v (As := [.int p1]) (rest := []) hx hb hml hown hts (c_X5_isLine l G h k0 k1 k2 k3 pv pn p1 ) 1 (sxGV (bi3 (w := Cond.methodLink RX0 182 yX5_isLine) 31 rfl) (bi1 (w := Cond.instanceMethod yX5_isLine) 28 rfl) (bi1 (w := Cond.selects RX5 yX5_isLine yX5_isLine) 29 rfl) (bi1 (w := Cond.initialized RX5) 30 rfl) (bi1 (w := Cond.code yX5_isLine cX5_isLine 2 (some .boolean)) 23 rfl)) rfl (by decide +kernel) ⟨Nat.le_of_ble_eq_true rfl, Nat.le_of_ble_eq_true rfl⟩ hK hP [2] rfl 0 rfl rfl rfl hl rfl (Nat.le_of_ble_eq_true rfl) ⟨Nat.zero_le _, Nat.zero_le _⟩ dX0_isDead_15 (fun r er => ?_)
    subst er
    refine lv_if_eq (tgt := 34) hx hb dX0_isDead_18 (by decide) (fun c2 => ?_) (fun c2 => ?_)
    · refine lv_iconst (v := 0) hx hb dX0_isDead_34 (by decide) ?_
      exact sx_ret hx hb hr hlk rfl (by simp only [s_X0_isDead, if_neg c1, if_pos c2]) dX0_isDead_35
    · refine lv_aload_n hx hb dX0_isDead_21 rfl (lv_at hl 0 rfl) ?_
      refine va_get (D := G.1) (ci := 0) (v := .ref r1) (C := RX0) (T := TX0) (N := 13) hx hb hts owX0 hown hK.1 hP 0 rfl rfl 5 (by decide) (bw1 (w := Cond.fieldLink RX0 45 "DropflagMill$Check" "isReached" "[Z") hts 0 rfl) (fun _ h9 => h9) rfl dX0_isDead_22 ?_
      refine lv_iload_n hx hb dX0_isDead_25 rfl (lv_at hl 1 rfl) ?_
      refine va_zald hx hb hK.1 hP 3 1 rfl rfl (i := p1) (sx_in_lt (by decide) ⟨pn, by omega, rfl⟩ (sx_isLine c2).1 (sx_isLine c2).2) dX0_isDead_26 ?_
      refine lv_if_ne (tgt := 34) hx hb dX0_isDead_27 (by decide) (fun c3 => ?_) (fun c3 => ?_)
      · refine lv_iconst (v := 0) hx hb dX0_isDead_34 (by decide) ?_
        exact sx_ret hx hb hr hlk rfl (by simp only [s_X0_isDead, if_neg c1, if_neg c2, if_neg c3]) dX0_isDead_35
      · refine lv_iconst (v := 1) hx hb dX0_isDead_30 (by decide) ?_
        refine lv_goto (tgt := 35) hx hb dX0_isDead_31 (by decide) ?_
        exact sx_ret hx hb hr hlk rfl (by simp only [s_X0_isDead, if_neg c1, if_neg c2, if_pos c3]) dX0_isDead_35

abbrev wdX0_stateAt : List Cond := Cond.code yX0_stateAt cX0_stateAt 4 (some .int) :: bwC
def s_X0_stateAt (pv : Nat) (pn : Nat) (fk : Nat → Int32) (cr : Nat → Int32) (ch : Nat → Int32) (cl : Nat → Int32) (p1 : Int32) (p2 : Int32) : Int32 := if (s_X5_isLineOrEnd pn p1) = 0 then 0 else (if (cr p1.toNatClampNeg) = 0 then 0 else (if ((ch p1.toNatClampNeg) &&& (s_X5_leavesOf pv fk p2)) = (s_X5_leavesOf pv fk p2) then (if ((cl p1.toNatClampNeg) &&& (s_X5_leavesOf pv fk p2)) = 0 then 1 else 3) else 2))
set_option maxHeartbeats 4000000 in
set_option maxRecDepth 100000 in
theorem c_X0_stateAt (l : Launch) (G : sxG) (r : Nat) (h : Nat) (od : Nat) (ow : Nat) (ol : Nat) (oq : Nat) (r1 : Nat) (r2 : Nat) (r3 : Nat) (r4 : Nat) (r5 : Nat) (r6 : Nat) (r7 : Nat) (flg : Int32) (k0 : Nat) (k1 : Nat) (k2 : Nat) (k3 : Nat) (pv : Nat) (pn : Nat) (fk : Nat → Int32) (cr : Nat → Int32) (ch : Nat → Int32) (cl : Nat → Int32) (p1 : Int32) (p2 : Int32) (hn : pn ≤ 33) (hv : pv ≤ 8) : sxM l yX0_stateAt wdX0_stateAt 2 44 G [(r, .inr (0, [.ref h, .ref od, .ref ow, .ref ol, .ref oq, .ref r1, .ref r2, .ref r3, .ref r4, .ref r5, .ref r6, .ref r7, .int flg])), (h, .inr (5, [.ref k0, .ref k1, .ref k2, .ref k3, .int (nI pv), .int (nI pn)])), (k0, .inl (G.2.1, 8, .inl fk)), (r1, .inl (G.2.2, 34, .inl cr)), (r3, .inl (G.2.1, 34, .inl ch)), (r4, .inl (G.2.1, 34, .inl cl))] [.ref r, .int p1, .int p2] (fun r => r = s_X0_stateAt pv pn fk cr ch cl p1 p2) := by
  refine sxM.of (cc := cX0_stateAt) (maxL := 4) (by decide) rfl (Nat.le_of_ble_eq_true rfl) ?_
  intro p e s m args below meth c ⟨hx, hb, hr, hml, hown, hlk, hts, hK⟩ hP ls hl
  have hl : lv_has ls 4 [(0, .ref r), (1, .int p1), (2, .int p2)] := hl
  refine lv_aload_n hx hb dX0_stateAt_0 rfl (lv_at hl 0 rfl) ?_
  refine va_get (D := G.1) (ci := 0) (v := .ref h) (C := RX0) (T := TX0) (N := 13) hx hb hts owX0 hown hK.1 hP 0 rfl rfl 0 (by decide) (bw0 (w := Cond.fieldLink RX0 9 "DropflagMill$Check" "program" "LDropflagMill$Program;") hts 43 rfl) (fun _ h9 => h9) rfl dX0_stateAt_1 ?_
  refine lv_iload_n hx hb dX0_stateAt_4 rfl (lv_at hl 1 rfl) ?_
  refine sx_v (As := [.int p1]) (rest := []) hx hb hml hown hts (c_X5_isLineOrEnd l G h k0 k1 k2 k3 pv pn p1 ) 1 (sxGV (bi3 (w := Cond.methodLink RX0 169 yX5_isLineOrEnd) 1 rfl) (bi3 (w := Cond.instanceMethod yX5_isLineOrEnd) 2 rfl) (bi3 (w := Cond.selects RX5 yX5_isLineOrEnd yX5_isLineOrEnd) 3 rfl) (bi1 (w := Cond.initialized RX5) 30 rfl) (bi2 (w := Cond.code yX5_isLineOrEnd cX5_isLineOrEnd 2 (some .boolean)) 58 rfl)) rfl (by decide +kernel) ⟨Nat.le_of_ble_eq_true rfl, Nat.le_of_ble_eq_true rfl⟩ hK hP [1] rfl 0 rfl rfl rfl hl rfl (Nat.le_of_ble_eq_true rfl) ⟨Nat.zero_le _, Nat.zero_le _⟩ dX0_stateAt_5 (fun r er => ?_)
  subst er
  refine lv_if_eq (tgt := 20) hx hb dX0_stateAt_8 (by decide) (fun c1 => ?_) (fun c1 => ?_)
  · refine lv_iconst (v := 0) hx hb dX0_stateAt_20 (by decide) ?_
    exact sx_ret hx hb hr hlk rfl (by simp only [s_X0_stateAt, if_pos c1]) dX0_stateAt_21
  · refine lv_aload_n hx hb dX0_stateAt_11 rfl (lv_at hl 0 rfl) ?_
    refine va_get (D := G.1) (ci := 0) (v := .ref r1) (C := RX0) (T := TX0) (N := 13) hx hb hts owX0 hown hK.1 hP 0 rfl rfl 5 (by decide) (bw1 (w := Cond.fieldLink RX0 45 "DropflagMill$Check" "isReached" "[Z") hts 0 rfl) (fun _ h9 => h9) rfl dX0_stateAt_12 ?_
    refine lv_iload_n hx hb dX0_stateAt_15 rfl (lv_at hl 1 rfl) ?_
    refine va_zald hx hb hK.1 hP 3 1 rfl rfl (i := p1) (sx_in_end (by omega) c1) dX0_stateAt_16 ?_
    refine lv_if_ne (tgt := 22) hx hb dX0_stateAt_17 (by decide) (fun c2 => ?_) (fun c2 => ?_)
    · refine lv_aload_n hx hb dX0_stateAt_22 rfl (lv_at hl 0 rfl) ?_
      refine va_get (D := G.1) (ci := 0) (v := .ref h) (C := RX0) (T := TX0) (N := 13) hx hb hts owX0 hown hK.1 hP 0 rfl rfl 0 (by decide) (bw0 (w := Cond.fieldLink RX0 9 "DropflagMill$Check" "program" "LDropflagMill$Program;") hts 43 rfl) (fun _ h9 => h9) rfl dX0_stateAt_23 ?_
      refine lv_iload_n hx hb dX0_stateAt_26 rfl (lv_at hl 2 rfl) ?_
      refine sx_v (As := [.int p2]) (rest := []) hx hb hml hown hts (c_X5_leavesOf l G h k0 k1 k2 k3 pv pn fk p2 (by omega)) 1 (sxGV (bi5 (w := Cond.methodLink RX0 232 yX5_leavesOf) 6 rfl) (bi2 (w := Cond.instanceMethod yX5_leavesOf) 7 rfl) (bi2 (w := Cond.selects RX5 yX5_leavesOf yX5_leavesOf) 8 rfl) (bi1 (w := Cond.initialized RX5) 30 rfl) (bi1 (w := Cond.code yX5_leavesOf cX5_leavesOf 3 (some .int)) 49 rfl)) rfl (by decide +kernel) ⟨Nat.le_of_ble_eq_true rfl, Nat.le_of_ble_eq_true rfl⟩ hK hP [1, 2] rfl 0 rfl rfl rfl hl rfl (Nat.le_of_ble_eq_true rfl) ⟨Nat.zero_le _, Nat.zero_le _⟩ dX0_stateAt_27 (fun r er => ?_)
      subst er
      refine lv_istore_n (lv' := [(3, .int (s_X5_leavesOf pv fk p2)), (0, .ref r), (1, .int p1), (2, .int p2)]) hx hb dX0_stateAt_30 rfl hl (by decide) rfl (fun ls hl => ?_)
      refine lv_aload_n hx hb dX0_stateAt_31 rfl (lv_at hl 1 rfl) ?_
      refine va_get (D := G.1) (ci := 0) (v := .ref r3) (C := RX0) (T := TX0) (N := 13) hx hb hts owX0 hown hK.1 hP 0 rfl rfl 7 (by decide) (bw1 (w := Cond.fieldLink RX0 52 "DropflagMill$Check" "canHave" "[I") hts 2 rfl) (fun _ h9 => h9) rfl dX0_stateAt_32 ?_
      refine lv_iload_n hx hb dX0_stateAt_35 rfl (lv_at hl 2 rfl) ?_
      refine va_iald hx hb hK.1 hP 4 0 rfl rfl (i := p1) (sx_in_end (by omega) c1) dX0_stateAt_36 ?_
      refine lv_iload_n hx hb dX0_stateAt_37 rfl (lv_at hl 0 rfl) ?_
      refine lv_iand hx hb dX0_stateAt_38 ?_
      refine lv_iload_n hx hb dX0_stateAt_39 rfl (lv_at hl 0 rfl) ?_
      refine lv_icmp_eq (tgt := 45) hx hb dX0_stateAt_40 (by decide) (fun c3 => ?_) (fun c3 => ?_)
      · refine lv_aload_n hx hb dX0_stateAt_45 rfl (lv_at hl 1 rfl) ?_
        refine va_get (D := G.1) (ci := 0) (v := .ref r4) (C := RX0) (T := TX0) (N := 13) hx hb hts owX0 hown hK.1 hP 0 rfl rfl 8 (by decide) (bw1 (w := Cond.fieldLink RX0 56 "DropflagMill$Check" "canLack" "[I") hts 3 rfl) (fun _ h9 => h9) rfl dX0_stateAt_46 ?_
        refine lv_iload_n hx hb dX0_stateAt_49 rfl (lv_at hl 2 rfl) ?_
        refine va_iald hx hb hK.1 hP 5 0 rfl rfl (i := p1) (sx_in_end (by omega) c1) dX0_stateAt_50 ?_
        refine lv_iload_n hx hb dX0_stateAt_51 rfl (lv_at hl 0 rfl) ?_
        refine lv_iand hx hb dX0_stateAt_52 ?_
        refine lv_if_ne (tgt := 60) hx hb dX0_stateAt_53 (by decide) (fun c4 => ?_) (fun c4 => ?_)
        · refine lv_iconst (v := 3) hx hb dX0_stateAt_60 (by decide) ?_
          exact sx_ret hx hb hr hlk rfl (by simp only [s_X0_stateAt, if_neg c1, if_neg c2, if_pos c3, if_neg c4]) dX0_stateAt_61
        · refine lv_iconst (v := 1) hx hb dX0_stateAt_56 (by decide) ?_
          refine lv_goto (tgt := 61) hx hb dX0_stateAt_57 (by decide) ?_
          exact sx_ret hx hb hr hlk rfl (by simp only [s_X0_stateAt, if_neg c1, if_neg c2, if_pos c3, if_pos c4]) dX0_stateAt_61
      · refine lv_iconst (v := 2) hx hb dX0_stateAt_43 (by decide) ?_
        exact sx_ret hx hb hr hlk rfl (by simp only [s_X0_stateAt, if_neg c1, if_neg c2, if_neg c3]) dX0_stateAt_44
    · refine lv_iconst (v := 0) hx hb dX0_stateAt_20 (by decide) ?_
      exact sx_ret hx hb hr hlk rfl (by simp only [s_X0_stateAt, if_neg c1, if_pos c2]) dX0_stateAt_21

abbrev wdX0_flagsOf : List Cond := Cond.code yX0_flagsOf cX0_flagsOf 4 (some .int) :: bwC
def s_X0_flagsOf (flg : Int32) (pv : Nat) (fk : Nat → Int32) (p1 : Int32) : Int32 := if (s_X5_kindAt pv fk (3 * p1)) = 2 then s_ushr (flg &&& (s_X5_leavesOf pv fk (3 * p1))) ((3 * p1) + 1) else s_ushr (flg &&& (s_X5_leavesOf pv fk (3 * p1))) (3 * p1)
set_option maxHeartbeats 4000000 in
set_option maxRecDepth 100000 in
theorem c_X0_flagsOf (l : Launch) (G : sxG) (r : Nat) (h : Nat) (od : Nat) (ow : Nat) (ol : Nat) (oq : Nat) (r1 : Nat) (r2 : Nat) (r3 : Nat) (r4 : Nat) (r5 : Nat) (r6 : Nat) (r7 : Nat) (flg : Int32) (k0 : Nat) (k1 : Nat) (k2 : Nat) (k3 : Nat) (pv : Nat) (pn : Nat) (fk : Nat → Int32) (p1 : Int32) (hv : pv ≤ 8) : sxM l yX0_flagsOf wdX0_flagsOf 2 44 G [(r, .inr (0, [.ref h, .ref od, .ref ow, .ref ol, .ref oq, .ref r1, .ref r2, .ref r3, .ref r4, .ref r5, .ref r6, .ref r7, .int flg])), (h, .inr (5, [.ref k0, .ref k1, .ref k2, .ref k3, .int (nI pv), .int (nI pn)])), (k0, .inl (G.2.1, 8, .inl fk))] [.ref r, .int p1] (fun r => r = s_X0_flagsOf flg pv fk p1) := by
  refine sxM.of (cc := cX0_flagsOf) (maxL := 4) (by decide) rfl (Nat.le_of_ble_eq_true rfl) ?_
  intro p e s m args below meth c ⟨hx, hb, hr, hml, hown, hlk, hts, hK⟩ hP ls hl
  have hl : lv_has ls 4 [(0, .ref r), (1, .int p1)] := hl
  refine lv_iconst (v := 3) hx hb dX0_flagsOf_0 (by decide) ?_
  refine lv_iload_n hx hb dX0_flagsOf_1 rfl (lv_at hl 1 rfl) ?_
  refine lv_imul hx hb dX0_flagsOf_2 ?_
  refine lv_istore_n (lv' := [(2, .int (3 * p1)), (0, .ref r), (1, .int p1)]) hx hb dX0_flagsOf_3 rfl hl (by decide) rfl (fun ls hl => ?_)
  refine lv_aload_n hx hb dX0_flagsOf_4 rfl (lv_at hl 1 rfl) ?_
  refine va_get (D := G.1) (ci := 0) (v := .int flg) (C := RX0) (T := TX0) (N := 13) hx hb hts owX0 hown hK.1 hP 0 rfl rfl 12 (by decide) (bw1 (w := Cond.fieldLink RX0 68 "DropflagMill$Check" "flags" "I") hts 7 rfl) (fun _ h9 => h9) rfl dX0_flagsOf_5 ?_
  refine lv_aload_n hx hb dX0_flagsOf_8 rfl (lv_at hl 1 rfl) ?_
  refine va_get (D := G.1) (ci := 0) (v := .ref h) (C := RX0) (T := TX0) (N := 13) hx hb hts owX0 hown hK.1 hP 0 rfl rfl 0 (by decide) (bw0 (w := Cond.fieldLink RX0 9 "DropflagMill$Check" "program" "LDropflagMill$Program;") hts 43 rfl) (fun _ h9 => h9) rfl dX0_flagsOf_9 ?_
  refine lv_iload_n hx hb dX0_flagsOf_12 rfl (lv_at hl 0 rfl) ?_
  refine sx_v (As := [.int (3 * p1)]) (rest := [.int flg]) hx hb hml hown hts (c_X5_leavesOf l G h k0 k1 k2 k3 pv pn fk (3 * p1) (by omega)) 1 (sxGV (bi5 (w := Cond.methodLink RX0 232 yX5_leavesOf) 6 rfl) (bi2 (w := Cond.instanceMethod yX5_leavesOf) 7 rfl) (bi2 (w := Cond.selects RX5 yX5_leavesOf yX5_leavesOf) 8 rfl) (bi1 (w := Cond.initialized RX5) 30 rfl) (bi1 (w := Cond.code yX5_leavesOf cX5_leavesOf 3 (some .int)) 49 rfl)) rfl (by decide +kernel) ⟨Nat.le_of_ble_eq_true rfl, Nat.le_of_ble_eq_true rfl⟩ hK hP [1, 2] rfl 0 rfl rfl rfl hl rfl (Nat.le_of_ble_eq_true rfl) ⟨Nat.zero_le _, Nat.zero_le _⟩ dX0_flagsOf_13 (fun r er => ?_)
  subst er
  refine lv_iand hx hb dX0_flagsOf_16 ?_
  refine lv_istore_n (lv' := [(3, .int (flg &&& (s_X5_leavesOf pv fk (3 * p1)))), (2, .int (3 * p1)), (0, .ref r), (1, .int p1)]) hx hb dX0_flagsOf_17 rfl hl (by decide) rfl (fun ls hl => ?_)
  refine lv_aload_n hx hb dX0_flagsOf_18 rfl (lv_at hl 2 rfl) ?_
  refine va_get (D := G.1) (ci := 0) (v := .ref h) (C := RX0) (T := TX0) (N := 13) hx hb hts owX0 hown hK.1 hP 0 rfl rfl 0 (by decide) (bw0 (w := Cond.fieldLink RX0 9 "DropflagMill$Check" "program" "LDropflagMill$Program;") hts 43 rfl) (fun _ h9 => h9) rfl dX0_flagsOf_19 ?_
  refine lv_iload_n hx hb dX0_flagsOf_22 rfl (lv_at hl 1 rfl) ?_
  refine sx_v (As := [.int (3 * p1)]) (rest := []) hx hb hml hown hts (c_X5_kindAt l G h k0 k1 k2 k3 pv pn fk (3 * p1) (by omega)) 1 (sxGV (bi5 (w := Cond.methodLink RX0 235 yX5_kindAt) 8 rfl) (bi1 (w := Cond.instanceMethod yX5_kindAt) 51 rfl) (bi1 (w := Cond.selects RX5 yX5_kindAt yX5_kindAt) 52 rfl) (bi1 (w := Cond.initialized RX5) 30 rfl) (bi1 (w := Cond.code yX5_kindAt cX5_kindAt 3 (some .int)) 46 rfl)) rfl (by decide +kernel) ⟨Nat.le_of_ble_eq_true rfl, Nat.le_of_ble_eq_true rfl⟩ hK hP [1, 2] rfl 0 rfl rfl rfl hl rfl (Nat.le_of_ble_eq_true rfl) ⟨Nat.zero_le _, Nat.zero_le _⟩ dX0_flagsOf_23 (fun r er => ?_)
  subst er
  refine lv_iconst (v := 2) hx hb dX0_flagsOf_26 (by decide) ?_
  refine lv_icmp_ne (tgt := 38) hx hb dX0_flagsOf_27 (by decide) (fun c1 => ?_) (fun c1 => ?_)
  · refine lv_iload_n hx hb dX0_flagsOf_38 rfl (lv_at hl 0 rfl) ?_
    refine lv_iload_n hx hb dX0_flagsOf_39 rfl (lv_at hl 1 rfl) ?_
    refine lv_iushr (v := s_ushr (flg &&& (s_X5_leavesOf pv fk (3 * p1))) (3 * p1)) hx hb dX0_flagsOf_40 rfl ?_
    exact sx_ret hx hb hr hlk rfl (by simp only [s_X0_flagsOf, if_neg c1]) dX0_flagsOf_41
  · refine lv_iload_n hx hb dX0_flagsOf_30 rfl (lv_at hl 0 rfl) ?_
    refine lv_iload_n hx hb dX0_flagsOf_31 rfl (lv_at hl 1 rfl) ?_
    refine lv_iconst (v := 1) hx hb dX0_flagsOf_32 (by decide) ?_
    refine lv_iadd hx hb dX0_flagsOf_33 ?_
    refine lv_iushr (v := s_ushr (flg &&& (s_X5_leavesOf pv fk (3 * p1))) ((3 * p1) + 1)) hx hb dX0_flagsOf_34 rfl ?_
    refine lv_goto (tgt := 41) hx hb dX0_flagsOf_35 (by decide) ?_
    exact sx_ret hx hb hr hlk rfl (by simp only [s_X0_flagsOf, if_pos c1]) dX0_flagsOf_41

abbrev wdX0_countDead : List Cond := Cond.code yX0_countDead cX0_countDead 3 (some .int) :: bwC
def sl_X0_countDead_L4 (wwr : Int32) (pn : Nat) (cr : Nat → Int32)  : Nat → (Int32) → (Nat) → Int32
  | 0, _, _ => 0
  | k + 1, va, i => if (nI pn) ≤ (nI i) then va else (if (s_X0_isDead wwr pn cr (nI i)) = 0 then sl_X0_countDead_L4 wwr pn cr k va (i + 1) else sl_X0_countDead_L4 wwr pn cr k (va + 1) (i + 1))
set_option maxHeartbeats 4000000 in
set_option maxRecDepth 100000 in
theorem l_X0_countDead_L4 (l : Launch) (G : sxG) (r : Nat) (h : Nat) (od : Nat) (ow : Nat) (ol : Nat) (oq : Nat) (r1 : Nat) (r2 : Nat) (r3 : Nat) (r4 : Nat) (r5 : Nat) (r6 : Nat) (r7 : Nat) (flg : Int32) (w1 : Nat) (w2 : Nat) (w3 : Nat) (w4 : Nat) (w5 : Nat) (w6 : Nat) (wdp : Int32) (wwr : Int32) (k0 : Nat) (k1 : Nat) (k2 : Nat) (k3 : Nat) (pv : Nat) (pn : Nat) (cr : Nat → Int32) (hn : pn ≤ 33)   {p : Program} {e : Env} {s : State} {m : MethodId} {args : Array Value} {below : List Frame} {meth : Method} {c : Code} (hB : sxB G yX0_countDead wdX0_countDead cX0_countDead 3 (.int) p s m args meth c) (hP : va_P G.1 vwCl [(r, .inr (0, [.ref h, .ref od, .ref ow, .ref ol, .ref oq, .ref r1, .ref r2, .ref r3, .ref r4, .ref r5, .ref r6, .ref r7, .int flg])), (ow, .inr (8, [.ref h, .ref w1, .ref w2, .ref w3, .ref w4, .ref w5, .ref w6, .int wdp, .int wwr])), (h, .inr (5, [.ref k0, .ref k1, .ref k2, .ref k3, .int (nI pv), .int (nI pn)])), (r1, .inl (G.2.2, 34, .inl cr))] s.heap) (S0 : Int32) : ∀ (k : Nat) (va : Int32) (i : Nat), i ≤ pn → 34 - i < k → S0 = sl_X0_countDead_L4 wwr pn cr k va i → ∀ ls : Array Slot, lv_has ls 3 [(0, .ref r), (1, .int va), (2, .int (nI i))] → W p l e ({ frames := 2, cells := 0, slots := 0, locals := 42 }) s m args below meth c s.heap [] 0 0 (MQ below (vp_Si (fun r => r = S0)) args s 0 0 (fun _ => False)) (F0 m 4 ls []) := by
  obtain ⟨hx, hb, hr, hml, hown, hlk, hts, hK⟩ := id hB
  intro k
  induction k with
  | zero =>
    intro va i _ hm
    exact absurd hm (Nat.not_lt_zero _)
  | succ k ih =>
    intro va i hi hm hE ls hl
    refine lv_iload_n hx hb dX0_countDead_4 rfl (lv_at hl 2 rfl) ?_
    refine lv_aload_n hx hb dX0_countDead_5 rfl (lv_at hl 0 rfl) ?_
    refine va_get (D := G.1) (ci := 0) (v := .ref h) (C := RX0) (T := TX0) (N := 13) hx hb hts owX0 hown hK.1 hP 0 rfl rfl 0 (by decide) (bw0 (w := Cond.fieldLink RX0 9 "DropflagMill$Check" "program" "LDropflagMill$Program;") hts 43 rfl) (fun _ h9 => h9) rfl dX0_countDead_6 ?_
    refine va_get (D := G.1) (ci := 5) (v := .int (nI pn)) (C := RX5) (T := TX5) (N := 6) hx hb hts owX5 hown hK.1 hP 2 rfl rfl 5 (by decide) (bw3 (w := Cond.fieldLink RX0 97 "DropflagMill$Program" "lines" "I") hts 22 rfl) (fun _ h9 => h9) rfl dX0_countDead_9 ?_
    refine lv_icmp_ge (tgt := 32) hx hb dX0_countDead_12 (by decide) (fun c1 => ?_) (fun c1 => ?_)
    · have nc1 := (nI_leI (a := pn) (b := i) (by omega) (by omega)).mp c1
      refine lv_iload_n hx hb dX0_countDead_32 rfl (lv_at hl 1 rfl) ?_
      exact sx_ret hx hb hr hlk rfl (by rw [hE]; simp only [sl_X0_countDead_L4, if_pos c1]) dX0_countDead_33
    · have nc1 := (not_congr (nI_leI (a := pn) (b := i) (by omega) (by omega))).mp c1
      refine lv_aload_n hx hb dX0_countDead_15 rfl (lv_at hl 0 rfl) ?_
      refine lv_iload_n hx hb dX0_countDead_16 rfl (lv_at hl 2 rfl) ?_
      refine sx_v (As := [.int (nI i)]) (rest := []) hx hb hml hown hts (c_X0_isDead l G r h od ow ol oq r1 r2 r3 r4 r5 r6 r7 flg w1 w2 w3 w4 w5 w6 wdp wwr k0 k1 k2 k3 pv pn cr (nI i) (by omega)) 1 (sxGV (bi5 (w := Cond.methodLink RX0 238 yX0_isDead) 10 rfl) (bi5 (w := Cond.instanceMethod yX0_isDead) 11 rfl) (bi5 (w := Cond.selects RX0 yX0_isDead yX0_isDead) 12 rfl) (bi2 (w := Cond.initialized RX0) 52 rfl) (bi5 (w := Cond.code yX0_isDead cX0_isDead 2 (some .boolean)) 4 rfl)) rfl (by decide +kernel) ⟨Nat.le_of_ble_eq_true rfl, Nat.le_of_ble_eq_true rfl⟩ hK hP [0, 1, 2, 3] rfl 0 rfl rfl rfl hl rfl (Nat.le_of_ble_eq_true rfl) ⟨Nat.zero_le _, Nat.zero_le _⟩ dX0_countDead_17 (fun r er => ?_)
      subst er
      refine lv_if_eq (tgt := 26) hx hb dX0_countDead_20 (by decide) (fun c2 => ?_) (fun c2 => ?_)
      · refine lv_iinc (v := nI (i + 1)) (lv' := [(2, .int (nI (i + 1))), (0, .ref r), (1, .int va)]) hx hb dX0_countDead_26 hl (k := 2) rfl (nI_1 i) (by decide) rfl (fun ls hl => ?_)
        refine lv_goto (tgt := 4) hx hb dX0_countDead_29 (by decide) ?_
        exact ih va (i + 1) (by omega) (by omega) (by rw [hE]; simp only [sl_X0_countDead_L4, if_neg c1, if_pos c2]) ls (lv_sub hl [1, 2, 0] rfl)
      · refine lv_iinc (v := va + 1) (lv' := [(1, .int (va + 1)), (0, .ref r), (2, .int (nI i))]) hx hb dX0_countDead_23 hl (k := 1) rfl (rfl) (by decide) rfl (fun ls hl => ?_)
        refine lv_iinc (v := nI (i + 1)) (lv' := [(2, .int (nI (i + 1))), (1, .int (va + 1)), (0, .ref r)]) hx hb dX0_countDead_26 hl (k := 2) rfl (nI_1 i) (by decide) rfl (fun ls hl => ?_)
        refine lv_goto (tgt := 4) hx hb dX0_countDead_29 (by decide) ?_
        exact ih (va + 1) (i + 1) (by omega) (by omega) (by rw [hE]; simp only [sl_X0_countDead_L4, if_neg c1, if_neg c2]) ls (lv_sub hl [2, 1, 0] rfl)
def s_X0_countDead (wwr : Int32) (pn : Nat) (cr : Nat → Int32) : Int32 := sl_X0_countDead_L4 wwr pn cr  35 0 0
set_option maxHeartbeats 4000000 in
set_option maxRecDepth 100000 in
theorem c_X0_countDead (l : Launch) (G : sxG) (r : Nat) (h : Nat) (od : Nat) (ow : Nat) (ol : Nat) (oq : Nat) (r1 : Nat) (r2 : Nat) (r3 : Nat) (r4 : Nat) (r5 : Nat) (r6 : Nat) (r7 : Nat) (flg : Int32) (w1 : Nat) (w2 : Nat) (w3 : Nat) (w4 : Nat) (w5 : Nat) (w6 : Nat) (wdp : Int32) (wwr : Int32) (k0 : Nat) (k1 : Nat) (k2 : Nat) (k3 : Nat) (pv : Nat) (pn : Nat) (cr : Nat → Int32) (hn : pn ≤ 33) : sxM l yX0_countDead wdX0_countDead 2 42 G [(r, .inr (0, [.ref h, .ref od, .ref ow, .ref ol, .ref oq, .ref r1, .ref r2, .ref r3, .ref r4, .ref r5, .ref r6, .ref r7, .int flg])), (ow, .inr (8, [.ref h, .ref w1, .ref w2, .ref w3, .ref w4, .ref w5, .ref w6, .int wdp, .int wwr])), (h, .inr (5, [.ref k0, .ref k1, .ref k2, .ref k3, .int (nI pv), .int (nI pn)])), (r1, .inl (G.2.2, 34, .inl cr))] [.ref r] (fun r => r = s_X0_countDead wwr pn cr) := by
  refine sxM.of (cc := cX0_countDead) (maxL := 3) (by decide) rfl (Nat.le_of_ble_eq_true rfl) ?_
  intro p e s m args below meth c ⟨hx, hb, hr, hml, hown, hlk, hts, hK⟩ hP ls hl
  have hl : lv_has ls 3 [(0, .ref r)] := hl
  refine lv_iconst (v := 0) hx hb dX0_countDead_0 (by decide) ?_
  refine lv_istore_n (lv' := [(1, .int 0), (0, .ref r)]) hx hb dX0_countDead_1 rfl hl (by decide) rfl (fun ls hl => ?_)
  refine lv_iconst (v := 0) hx hb dX0_countDead_2 (by decide) ?_
  refine lv_istore_n (lv' := [(2, .int 0), (1, .int 0), (0, .ref r)]) hx hb dX0_countDead_3 rfl hl (by decide) rfl (fun ls hl => ?_)
  have hB0 : sxB G yX0_countDead wdX0_countDead cX0_countDead 3 (.int) p s m args meth c := ⟨hx, hb, hr, hml, hown, hlk, hts, hK⟩
  exact l_X0_countDead_L4 l G r h od ow ol oq r1 r2 r3 r4 r5 r6 r7 flg w1 w2 w3 w4 w5 w6 wdp wwr k0 k1 k2 k3 pv pn cr hn   hB0 hP _  35 0 0 (Nat.zero_le _) (by omega) (by simp only [s_X0_countDead]) ls (lv_sub hl [2, 1, 0] rfl)

abbrev wdX0_mostWanted : List Cond := Cond.code yX0_mostWanted cX0_mostWanted 3 (some .int) :: bwC
def sl_X0_mostWanted_L4 (pn : Nat) (cn : Nat → Int32)  : Nat → (Int32) → (Nat) → Int32
  | 0, _, _ => 0
  | k + 1, va, i => if (nI pn) ≤ (nI i) then va else sl_X0_mostWanted_L4 pn cn k (s_mmax va (s_J6_bitCount_0f7a4 (cn i))) (i + 1)
set_option maxHeartbeats 4000000 in
set_option maxRecDepth 100000 in
theorem l_X0_mostWanted_L4 (l : Launch) (G : sxG) (r : Nat) (h : Nat) (od : Nat) (ow : Nat) (ol : Nat) (oq : Nat) (r1 : Nat) (r2 : Nat) (r3 : Nat) (r4 : Nat) (r5 : Nat) (r6 : Nat) (r7 : Nat) (flg : Int32) (k0 : Nat) (k1 : Nat) (k2 : Nat) (k3 : Nat) (pv : Nat) (pn : Nat) (cn : Nat → Int32) (hn : pn ≤ 33)   {p : Program} {e : Env} {s : State} {m : MethodId} {args : Array Value} {below : List Frame} {meth : Method} {c : Code} (hB : sxB G yX0_mostWanted wdX0_mostWanted cX0_mostWanted 3 (.int) p s m args meth c) (hP : va_P G.1 vwCl [(r, .inr (0, [.ref h, .ref od, .ref ow, .ref ol, .ref oq, .ref r1, .ref r2, .ref r3, .ref r4, .ref r5, .ref r6, .ref r7, .int flg])), (h, .inr (5, [.ref k0, .ref k1, .ref k2, .ref k3, .int (nI pv), .int (nI pn)])), (r7, .inl (G.2.1, 34, .inl cn))] s.heap) (S0 : Int32) : ∀ (k : Nat) (va : Int32) (i : Nat), i ≤ pn → 34 - i < k → S0 = sl_X0_mostWanted_L4 pn cn k va i → ∀ ls : Array Slot, lv_has ls 3 [(0, .ref r), (1, .int va), (2, .int (nI i))] → W p l e ({ frames := 1, cells := 0, slots := 0, locals := 21 }) s m args below meth c s.heap [] 0 0 (MQ below (vp_Si (fun r => r = S0)) args s 0 0 (fun _ => False)) (F0 m 4 ls []) := by
  obtain ⟨hx, hb, hr, hml, hown, hlk, hts, hK⟩ := id hB
  intro k
  induction k with
  | zero =>
    intro va i _ hm
    exact absurd hm (Nat.not_lt_zero _)
  | succ k ih =>
    intro va i hi hm hE ls hl
    refine lv_iload_n hx hb dX0_mostWanted_4 rfl (lv_at hl 2 rfl) ?_
    refine lv_aload_n hx hb dX0_mostWanted_5 rfl (lv_at hl 0 rfl) ?_
    refine va_get (D := G.1) (ci := 0) (v := .ref h) (C := RX0) (T := TX0) (N := 13) hx hb hts owX0 hown hK.1 hP 0 rfl rfl 0 (by decide) (bw0 (w := Cond.fieldLink RX0 9 "DropflagMill$Check" "program" "LDropflagMill$Program;") hts 43 rfl) (fun _ h9 => h9) rfl dX0_mostWanted_6 ?_
    refine va_get (D := G.1) (ci := 5) (v := .int (nI pn)) (C := RX5) (T := TX5) (N := 6) hx hb hts owX5 hown hK.1 hP 1 rfl rfl 5 (by decide) (bw3 (w := Cond.fieldLink RX0 97 "DropflagMill$Program" "lines" "I") hts 22 rfl) (fun _ h9 => h9) rfl dX0_mostWanted_9 ?_
    refine lv_icmp_ge (tgt := 35) hx hb dX0_mostWanted_12 (by decide) (fun c1 => ?_) (fun c1 => ?_)
    · have nc1 := (nI_leI (a := pn) (b := i) (by omega) (by omega)).mp c1
      refine lv_iload_n hx hb dX0_mostWanted_35 rfl (lv_at hl 1 rfl) ?_
      exact sx_ret hx hb hr hlk rfl (by rw [hE]; simp only [sl_X0_mostWanted_L4, if_pos c1]) dX0_mostWanted_36
    · have nc1 := (not_congr (nI_leI (a := pn) (b := i) (by omega) (by omega))).mp c1
      refine lv_iload_n hx hb dX0_mostWanted_15 rfl (lv_at hl 1 rfl) ?_
      refine lv_aload_n hx hb dX0_mostWanted_16 rfl (lv_at hl 0 rfl) ?_
      refine va_get (D := G.1) (ci := 0) (v := .ref r7) (C := RX0) (T := TX0) (N := 13) hx hb hts owX0 hown hK.1 hP 0 rfl rfl 11 (by decide) (bw1 (w := Cond.fieldLink RX0 65 "DropflagMill$Check" "wanted" "[I") hts 6 rfl) (fun _ h9 => h9) rfl dX0_mostWanted_17 ?_
      refine lv_iload_n hx hb dX0_mostWanted_20 rfl (lv_at hl 2 rfl) ?_
      refine va_iald hx hb hK.1 hP 2 0 rfl rfl (i := nI i) (vp_in_nI (n := i) (by omega) (by omega)) dX0_mostWanted_21 ?_
      rw [show (nI i : Int32).toNatClampNeg = i from nI_clamp (n := i) (by omega)]
      refine sx_s (As := [.int (cn i)]) (rest := [.int va]) hx hb hml hown hts (c_J6_bitCount_0f7a4 l G (cn i) ) 1 (sxGS (bi5 (w := Cond.methodLink RX0 241 yJ6_bitCount_0f7a4) 22 rfl) (bi5 (w := Cond.static yJ6_bitCount_0f7a4) 23 rfl) (bi4 (w := Cond.initialized RJ6) 9 rfl) (bi5 (w := Cond.code yJ6_bitCount_0f7a4 cJ6_bitCount_0f7a4 1 (some .int)) 13 rfl)) rfl (by decide +kernel) ⟨Nat.le_of_ble_eq_true rfl, Nat.le_of_ble_eq_true rfl⟩ hK hP [] rfl rfl hl rfl (Nat.le_of_ble_eq_true rfl) ⟨Nat.zero_le _, Nat.zero_le _⟩ dX0_mostWanted_22 (fun r er => ?_)
      subst er
      refine sx_mmax hx hb (hml.trans hl.1.symm) hown (bw5 (w := Cond.methodLink RX0 244 Lib.Math.max.name) hts 18 rfl) (bw5 (w := Cond.static Lib.Math.max.name) hts 19 rfl) (bw5 (w := Cond.initialized "java/lang/Math") hts 20 rfl) (bw5 (w := Cond.code Lib.Math.max.name Lib.Math.max.code 2 (some .int)) hts 21 rfl) (Nat.le_of_ble_eq_true rfl) (Nat.le_of_ble_eq_true rfl) (Nat.zero_le _) (Nat.zero_le _) (x := va) (y := s_J6_bitCount_0f7a4 (cn i)) dX0_mostWanted_25 ?_
      refine lv_istore_n (lv' := [(1, .int (s_mmax va (s_J6_bitCount_0f7a4 (cn i)))), (0, .ref r), (2, .int (nI i))]) hx hb dX0_mostWanted_28 rfl hl (by decide) rfl (fun ls hl => ?_)
      refine lv_iinc (v := nI (i + 1)) (lv' := [(2, .int (nI (i + 1))), (1, .int (s_mmax va (s_J6_bitCount_0f7a4 (cn i)))), (0, .ref r)]) hx hb dX0_mostWanted_29 hl (k := 2) rfl (nI_1 i) (by decide) rfl (fun ls hl => ?_)
      refine lv_goto (tgt := 4) hx hb dX0_mostWanted_32 (by decide) ?_
      exact ih (s_mmax va (s_J6_bitCount_0f7a4 (cn i))) (i + 1) (by omega) (by omega) (by rw [hE]; simp only [sl_X0_mostWanted_L4, if_neg c1]) ls (lv_sub hl [2, 1, 0] rfl)
def s_X0_mostWanted (pn : Nat) (cn : Nat → Int32) : Int32 := sl_X0_mostWanted_L4 pn cn  35 0 0
set_option maxHeartbeats 4000000 in
set_option maxRecDepth 100000 in
theorem c_X0_mostWanted (l : Launch) (G : sxG) (r : Nat) (h : Nat) (od : Nat) (ow : Nat) (ol : Nat) (oq : Nat) (r1 : Nat) (r2 : Nat) (r3 : Nat) (r4 : Nat) (r5 : Nat) (r6 : Nat) (r7 : Nat) (flg : Int32) (k0 : Nat) (k1 : Nat) (k2 : Nat) (k3 : Nat) (pv : Nat) (pn : Nat) (cn : Nat → Int32) (hn : pn ≤ 33) : sxM l yX0_mostWanted wdX0_mostWanted 1 21 G [(r, .inr (0, [.ref h, .ref od, .ref ow, .ref ol, .ref oq, .ref r1, .ref r2, .ref r3, .ref r4, .ref r5, .ref r6, .ref r7, .int flg])), (h, .inr (5, [.ref k0, .ref k1, .ref k2, .ref k3, .int (nI pv), .int (nI pn)])), (r7, .inl (G.2.1, 34, .inl cn))] [.ref r] (fun r => r = s_X0_mostWanted pn cn) := by
  refine sxM.of (cc := cX0_mostWanted) (maxL := 3) (by decide) rfl (Nat.le_of_ble_eq_true rfl) ?_
  intro p e s m args below meth c ⟨hx, hb, hr, hml, hown, hlk, hts, hK⟩ hP ls hl
  have hl : lv_has ls 3 [(0, .ref r)] := hl
  refine lv_iconst (v := 0) hx hb dX0_mostWanted_0 (by decide) ?_
  refine lv_istore_n (lv' := [(1, .int 0), (0, .ref r)]) hx hb dX0_mostWanted_1 rfl hl (by decide) rfl (fun ls hl => ?_)
  refine lv_iconst (v := 0) hx hb dX0_mostWanted_2 (by decide) ?_
  refine lv_istore_n (lv' := [(2, .int 0), (1, .int 0), (0, .ref r)]) hx hb dX0_mostWanted_3 rfl hl (by decide) rfl (fun ls hl => ?_)
  have hB0 : sxB G yX0_mostWanted wdX0_mostWanted cX0_mostWanted 3 (.int) p s m args meth c := ⟨hx, hb, hr, hml, hown, hlk, hts, hK⟩
  exact l_X0_mostWanted_L4 l G r h od ow ol oq r1 r2 r3 r4 r5 r6 r7 flg k0 k1 k2 k3 pv pn cn hn   hB0 hP _  35 0 0 (Nat.zero_le _) (by omega) (by simp only [s_X0_mostWanted]) ls (lv_sub hl [2, 1, 0] rfl)
