abbrev wdX0_setHeldByGiven : List Cond := Cond.code yX0_setHeldByGiven cX0_setHeldByGiven 4 none :: bwC
def s_X0_setHeldByGiven (dg : Nat → Int32) (du : Nat → Int32) (yo : Nat → Int32) (cb : Nat → Int32) (cd : Nat → Int32) (p1 : Nat) : (Nat → Int32) := if (s_X9_isIndexOf 8 ((dg p1) / 3)) = 0 then cb else (if (yo p1) = (-1) then upd cb ((dg p1) / 3).toNatClampNeg (s_X0_heldBy cd (nI p1) ((du p1) / 3)) else upd cb ((dg p1) / 3).toNatClampNeg (1 <<< ((yo p1) &&& 31)))
set_option maxHeartbeats 4000000 in
set_option maxRecDepth 100000 in
theorem c_X0_setHeldByGiven (l : Launch) (G : sxG) (r : Nat) (h : Nat) (od : Nat) (ow : Nat) (ol : Nat) (oq : Nat) (r1 : Nat) (r2 : Nat) (r3 : Nat) (r4 : Nat) (r5 : Nat) (r6 : Nat) (r7 : Nat) (flg : Int32) (d1 : Nat) (d2 : Nat) (d3 : Nat) (d4 : Nat) (d5 : Nat) (d6 : Nat) (d7 : Nat) (d8 : Nat) (d9 : Nat) (dg : Nat → Int32) (du : Nat → Int32) (l1 : Nat) (l2 : Nat) (l3 : Nat) (l4 : Nat) (lc : Nat) (yo : Nat → Int32) (cb : Nat → Int32) (cd : Nat → Int32) (p1 : Nat) (hp1 : p1 < 34) : sxV l yX0_setHeldByGiven wdX0_setHeldByGiven 1 23 G [(r, .inr (0, [.ref h, .ref od, .ref ow, .ref ol, .ref oq, .ref r1, .ref r2, .ref r3, .ref r4, .ref r5, .ref r6, .ref r7, .int flg])), (od, .inr (1, [.ref h, .ref d1, .ref d2, .ref d3, .ref d4, .ref d5, .ref d6, .ref d7, .ref d8, .ref d9])), (d3, .inl (G.2.1, 34, .inl dg)), (d1, .inl (G.2.1, 34, .inl du)), (ol, .inr (3, [.ref h, .ref l1, .ref l2, .ref l3, .ref l4, .int (nI lc)])), (l4, .inl (G.2.1, 34, .inl yo)), (r6, .inl (G.2.1, 8, .inl cb)), (r5, .inl (G.2.1, 272, .inl cd))] [.ref r, .int (nI p1)] (fun u : (Nat → Int32) => ([(r, .inr (0, [.ref h, .ref od, .ref ow, .ref ol, .ref oq, .ref r1, .ref r2, .ref r3, .ref r4, .ref r5, .ref r6, .ref r7, .int flg])), (od, .inr (1, [.ref h, .ref d1, .ref d2, .ref d3, .ref d4, .ref d5, .ref d6, .ref d7, .ref d8, .ref d9])), (d3, .inl (G.2.1, 34, .inl dg)), (d1, .inl (G.2.1, 34, .inl du)), (ol, .inr (3, [.ref h, .ref l1, .ref l2, .ref l3, .ref l4, .int (nI lc)])), (l4, .inl (G.2.1, 34, .inl yo)), (r6, .inl (G.2.1, 8, .inl u)), (r5, .inl (G.2.1, 272, .inl cd))] : va_W)) (s_X0_setHeldByGiven dg du yo cb cd p1) := by
  refine sxV.of (cc := cX0_setHeldByGiven) (maxL := 4) (by decide) rfl (Nat.le_of_ble_eq_true rfl) ?_
  intro p e s m args below meth c ⟨hx, hb, hr, hml, hown, hlk, hts, hK⟩ A hA hP hD hS ls hl
  have hl : lv_has ls 4 [(0, .ref r), (1, .int (nI p1))] := hl
  refine lv_aload_n hx hb dX0_setHeldByGiven_0 rfl (lv_at hl 0 rfl) ?_
  refine va_get (D := G.1) (ci := 0) (v := .ref od) (C := RX0) (T := TX0) (N := 13) hx hb hts owX0 hown hK.1 hP 0 rfl rfl 1 (by decide) (bw0 (w := Cond.fieldLink RX0 20 "DropflagMill$Check" "deeds" "LDropflagMill$Deeds;") hts 47 rfl) (fun _ h9 => h9) rfl dX0_setHeldByGiven_1 ?_
  refine va_get (D := G.1) (ci := 1) (v := .ref d3) (C := RX1) (T := TX1) (N := 10) hx hb hts owX1 hown hK.1 hP 1 rfl rfl 3 (by decide) (bw2 (w := Cond.fieldLink RX0 152 "DropflagMill$Deeds" "given" "[I") hts 46 rfl) (fun _ h9 => h9) rfl dX0_setHeldByGiven_4 ?_
  refine lv_iload_n hx hb dX0_setHeldByGiven_7 rfl (lv_at hl 1 rfl) ?_
  refine va_iald hx hb hK.1 hP 2 0 rfl rfl (i := nI p1) (vp_in_nI (n := p1) (by omega) (by omega)) dX0_setHeldByGiven_8 ?_
  rw [show (nI p1 : Int32).toNatClampNeg = p1 from nI_clamp (n := p1) (by omega)]
  refine lv_iconst (v := 3) hx hb dX0_setHeldByGiven_9 (by decide) ?_
  refine lv_idiv hx hb dX0_setHeldByGiven_10 (by decide) ?_
  refine lv_istore_n (lv' := [(2, .int ((dg p1) / 3)), (0, .ref r), (1, .int (nI p1))]) hx hb dX0_setHeldByGiven_11 rfl hl (by decide) rfl (fun ls hl => ?_)
  refine lv_aload_n hx hb dX0_setHeldByGiven_12 rfl (lv_at hl 1 rfl) ?_
  refine va_get (D := G.1) (ci := 0) (v := .ref r6) (C := RX0) (T := TX0) (N := 13) hx hb hts owX0 hown hK.1 hP 0 rfl rfl 10 (by decide) (bw1 (w := Cond.fieldLink RX0 62 "DropflagMill$Check" "heldBehind" "[I") hts 5 rfl) (fun _ h9 => h9) rfl dX0_setHeldByGiven_13 ?_
  refine lv_iload_n hx hb dX0_setHeldByGiven_16 rfl (lv_at hl 0 rfl) ?_
  refine sx_sn (As := [.ref r6, .int ((dg p1) / 3)]) (rest := []) hx hb hml hown hts (c_X9_isIndexOf l G r6 8 cb ((dg p1) / 3) ) 2 (sxGC (bi2 (w := Cond.code yX9_isIndexOf cX9_isIndexOf 2 (some .boolean)) 17 rfl)) rfl (hK.2.at 5 rfl) (List.mem_cons_of_mem _ (bi1 (w := Cond.initialized RX9) 58 rfl)) (List.mem_cons_of_mem _ (bi2 (w := Cond.static yX9_isIndexOf) 21 rfl)) (by decide +kernel) ⟨Nat.le_of_ble_eq_true rfl, Nat.le_of_ble_eq_true rfl⟩ hK hP [6] rfl rfl hl rfl (Nat.le_of_ble_eq_true rfl) ⟨Nat.zero_le _, Nat.zero_le _⟩ dX0_setHeldByGiven_17 (fun r er => ?_)
  subst er
  refine lv_if_ne (tgt := 24) hx hb dX0_setHeldByGiven_20 (by decide) (fun c1 => ?_) (fun c1 => ?_)
  · refine lv_aload_n hx hb dX0_setHeldByGiven_24 rfl (lv_at hl 1 rfl) ?_
    refine va_get (D := G.1) (ci := 0) (v := .ref ol) (C := RX0) (T := TX0) (N := 13) hx hb hts owX0 hown hK.1 hP 0 rfl rfl 3 (by decide) (bw0 (w := Cond.fieldLink RX0 34 "DropflagMill$Check" "loans" "LDropflagMill$Loans;") hts 55 rfl) (fun _ h9 => h9) rfl dX0_setHeldByGiven_25 ?_
    refine va_get (D := G.1) (ci := 3) (v := .ref l4) (C := RX3) (T := TX3) (N := 6) hx hb hts owX3 hown hK.1 hP 4 rfl rfl 4 (by decide) (bw2 (w := Cond.fieldLink RX0 159 "DropflagMill$Loans" "ofLine" "[I") hts 47 rfl) (fun _ h9 => h9) rfl dX0_setHeldByGiven_28 ?_
    refine lv_iload_n hx hb dX0_setHeldByGiven_31 rfl (lv_at hl 2 rfl) ?_
    refine va_iald hx hb hK.1 hP 5 0 rfl rfl (i := nI p1) (vp_in_nI (n := p1) (by omega) (by omega)) dX0_setHeldByGiven_32 ?_
    rw [show (nI p1 : Int32).toNatClampNeg = p1 from nI_clamp (n := p1) (by omega)]
    refine lv_istore_n (lv' := [(3, .int (yo p1)), (2, .int ((dg p1) / 3)), (0, .ref r), (1, .int (nI p1))]) hx hb dX0_setHeldByGiven_33 rfl hl (by decide) rfl (fun ls hl => ?_)
    refine lv_iload_n hx hb dX0_setHeldByGiven_34 rfl (lv_at hl 0 rfl) ?_
    refine lv_iconst (v := (-1)) hx hb dX0_setHeldByGiven_35 (by decide) ?_
    refine lv_icmp_eq (tgt := 51) hx hb dX0_setHeldByGiven_36 (by decide) (fun c2 => ?_) (fun c2 => ?_)
    · refine lv_aload_n hx hb dX0_setHeldByGiven_51 rfl (lv_at hl 2 rfl) ?_
      refine va_get (D := G.1) (ci := 0) (v := .ref r6) (C := RX0) (T := TX0) (N := 13) hx hb hts owX0 hown hK.1 hP 0 rfl rfl 10 (by decide) (bw1 (w := Cond.fieldLink RX0 62 "DropflagMill$Check" "heldBehind" "[I") hts 5 rfl) (fun _ h9 => h9) rfl dX0_setHeldByGiven_52 ?_
      refine lv_iload_n hx hb dX0_setHeldByGiven_55 rfl (lv_at hl 1 rfl) ?_
      refine lv_aload_n hx hb dX0_setHeldByGiven_56 rfl (lv_at hl 2 rfl) ?_
      refine lv_iload_n hx hb dX0_setHeldByGiven_57 rfl (lv_at hl 3 rfl) ?_
      refine lv_aload_n hx hb dX0_setHeldByGiven_58 rfl (lv_at hl 2 rfl) ?_
      refine va_get (D := G.1) (ci := 0) (v := .ref od) (C := RX0) (T := TX0) (N := 13) hx hb hts owX0 hown hK.1 hP 0 rfl rfl 1 (by decide) (bw0 (w := Cond.fieldLink RX0 20 "DropflagMill$Check" "deeds" "LDropflagMill$Deeds;") hts 47 rfl) (fun _ h9 => h9) rfl dX0_setHeldByGiven_59 ?_
      refine va_get (D := G.1) (ci := 1) (v := .ref d1) (C := RX1) (T := TX1) (N := 10) hx hb hts owX1 hown hK.1 hP 1 rfl rfl 1 (by decide) (bw2 (w := Cond.fieldLink RX0 162 "DropflagMill$Deeds" "used" "[I") hts 48 rfl) (fun _ h9 => h9) rfl dX0_setHeldByGiven_62 ?_
      refine lv_iload_n hx hb dX0_setHeldByGiven_65 rfl (lv_at hl 3 rfl) ?_
      refine va_iald hx hb hK.1 hP 3 0 rfl rfl (i := nI p1) (vp_in_nI (n := p1) (by omega) (by omega)) dX0_setHeldByGiven_66 ?_
      rw [show (nI p1 : Int32).toNatClampNeg = p1 from nI_clamp (n := p1) (by omega)]
      refine lv_iconst (v := 3) hx hb dX0_setHeldByGiven_67 (by decide) ?_
      refine lv_idiv hx hb dX0_setHeldByGiven_68 (by decide) ?_
      refine sx_v (As := [.int (nI p1), .int ((du p1) / 3)]) (rest := [.int ((dg p1) / 3), .ref r6]) hx hb hml hown hts (c_X0_heldBy l G r h od ow ol oq r1 r2 r3 r4 r5 r6 r7 flg cd (nI p1) ((du p1) / 3) ) 2 (sxGV (bi2 (w := Cond.methodLink RX0 165 yX0_heldBy) 49 rfl) (bi2 (w := Cond.instanceMethod yX0_heldBy) 50 rfl) (bi2 (w := Cond.selects RX0 yX0_heldBy yX0_heldBy) 51 rfl) (bi2 (w := Cond.initialized RX0) 52 rfl) (bi2 (w := Cond.code yX0_heldBy cX0_heldBy 4 (some .int)) 44 rfl)) rfl (by decide +kernel) ⟨Nat.le_of_ble_eq_true rfl, Nat.le_of_ble_eq_true rfl⟩ hK hP [0, 7] rfl 0 rfl rfl rfl hl rfl (Nat.le_of_ble_eq_true rfl) ⟨Nat.zero_le _, Nat.zero_le _⟩ dX0_setHeldByGiven_69 (fun r er => ?_)
      subst er
      refine va_iast hx hb hK.1 hP hD hS 6 0 rfl rfl (i := (dg p1) / 3) (sx_in_ix (by decide) c1) dX0_setHeldByGiven_72 (fun H locs hP hD hS => ?_)
      have hP : va_P G.1 vwCl [(r, .inr (0, [.ref h, .ref od, .ref ow, .ref ol, .ref oq, .ref r1, .ref r2, .ref r3, .ref r4, .ref r5, .ref r6, .ref r7, .int flg])), (od, .inr (1, [.ref h, .ref d1, .ref d2, .ref d3, .ref d4, .ref d5, .ref d6, .ref d7, .ref d8, .ref d9])), (d3, .inl (G.2.1, 34, .inl dg)), (d1, .inl (G.2.1, 34, .inl du)), (ol, .inr (3, [.ref h, .ref l1, .ref l2, .ref l3, .ref l4, .int (nI lc)])), (l4, .inl (G.2.1, 34, .inl yo)), (r6, .inl (G.2.1, 8, .inl (upd cb ((dg p1) / 3).toNatClampNeg (s_X0_heldBy cd (nI p1) ((du p1) / 3))))), (r5, .inl (G.2.1, 272, .inl cd))] H := hP
      have hD : va_D A [(r, .inr (0, [.ref h, .ref od, .ref ow, .ref ol, .ref oq, .ref r1, .ref r2, .ref r3, .ref r4, .ref r5, .ref r6, .ref r7, .int flg])), (od, .inr (1, [.ref h, .ref d1, .ref d2, .ref d3, .ref d4, .ref d5, .ref d6, .ref d7, .ref d8, .ref d9])), (d3, .inl (G.2.1, 34, .inl dg)), (d1, .inl (G.2.1, 34, .inl du)), (ol, .inr (3, [.ref h, .ref l1, .ref l2, .ref l3, .ref l4, .int (nI lc)])), (l4, .inl (G.2.1, 34, .inl yo)), (r6, .inl (G.2.1, 8, .inl (upd cb ((dg p1) / 3).toNatClampNeg (s_X0_heldBy cd (nI p1) ((du p1) / 3))))), (r5, .inl (G.2.1, 272, .inl cd))] := hD
      exact sx_retV (u := upd cb ((dg p1) / 3).toNatClampNeg (s_X0_heldBy cd (nI p1) ((du p1) / 3))) hx hb hr hlk hK hP hD hS (by simp only [s_X0_setHeldByGiven, if_neg c1, if_pos c2]) dX0_setHeldByGiven_73
    · refine lv_aload_n hx hb dX0_setHeldByGiven_39 rfl (lv_at hl 2 rfl) ?_
      refine va_get (D := G.1) (ci := 0) (v := .ref r6) (C := RX0) (T := TX0) (N := 13) hx hb hts owX0 hown hK.1 hP 0 rfl rfl 10 (by decide) (bw1 (w := Cond.fieldLink RX0 62 "DropflagMill$Check" "heldBehind" "[I") hts 5 rfl) (fun _ h9 => h9) rfl dX0_setHeldByGiven_40 ?_
      refine lv_iload_n hx hb dX0_setHeldByGiven_43 rfl (lv_at hl 1 rfl) ?_
      refine lv_iconst (v := 1) hx hb dX0_setHeldByGiven_44 (by decide) ?_
      refine lv_iload_n hx hb dX0_setHeldByGiven_45 rfl (lv_at hl 0 rfl) ?_
      refine lv_ishl hx hb dX0_setHeldByGiven_46 ?_
      refine va_iast hx hb hK.1 hP hD hS 6 0 rfl rfl (i := (dg p1) / 3) (sx_in_ix (by decide) c1) dX0_setHeldByGiven_47 (fun H locs hP hD hS => ?_)
      have hP : va_P G.1 vwCl [(r, .inr (0, [.ref h, .ref od, .ref ow, .ref ol, .ref oq, .ref r1, .ref r2, .ref r3, .ref r4, .ref r5, .ref r6, .ref r7, .int flg])), (od, .inr (1, [.ref h, .ref d1, .ref d2, .ref d3, .ref d4, .ref d5, .ref d6, .ref d7, .ref d8, .ref d9])), (d3, .inl (G.2.1, 34, .inl dg)), (d1, .inl (G.2.1, 34, .inl du)), (ol, .inr (3, [.ref h, .ref l1, .ref l2, .ref l3, .ref l4, .int (nI lc)])), (l4, .inl (G.2.1, 34, .inl yo)), (r6, .inl (G.2.1, 8, .inl (upd cb ((dg p1) / 3).toNatClampNeg (1 <<< ((yo p1) &&& 31))))), (r5, .inl (G.2.1, 272, .inl cd))] H := hP
      have hD : va_D A [(r, .inr (0, [.ref h, .ref od, .ref ow, .ref ol, .ref oq, .ref r1, .ref r2, .ref r3, .ref r4, .ref r5, .ref r6, .ref r7, .int flg])), (od, .inr (1, [.ref h, .ref d1, .ref d2, .ref d3, .ref d4, .ref d5, .ref d6, .ref d7, .ref d8, .ref d9])), (d3, .inl (G.2.1, 34, .inl dg)), (d1, .inl (G.2.1, 34, .inl du)), (ol, .inr (3, [.ref h, .ref l1, .ref l2, .ref l3, .ref l4, .int (nI lc)])), (l4, .inl (G.2.1, 34, .inl yo)), (r6, .inl (G.2.1, 8, .inl (upd cb ((dg p1) / 3).toNatClampNeg (1 <<< ((yo p1) &&& 31))))), (r5, .inl (G.2.1, 272, .inl cd))] := hD
      refine lv_goto (tgt := 73) hx hb dX0_setHeldByGiven_48 (by decide) ?_
      exact sx_retV (u := upd cb ((dg p1) / 3).toNatClampNeg (1 <<< ((yo p1) &&& 31))) hx hb hr hlk hK hP hD hS (by simp only [s_X0_setHeldByGiven, if_neg c1, if_neg c2]) dX0_setHeldByGiven_73
  · exact sx_retV (u := cb) hx hb hr hlk hK hP hD hS (by simp only [s_X0_setHeldByGiven, if_pos c1]) dX0_setHeldByGiven_23

abbrev wdX0_comeTo : List Cond := Cond.code yX0_comeTo cX0_comeTo 7 none :: bwC
def sl_X0_comeTo_L77 (pv : Nat) (cr : Nat → Int32) (cw : Nat → Int32) (ch : Nat → Int32) (cl : Nat → Int32) (cb : Nat → Int32) (p2 : Int32) (p3 : Int32) (j : Nat)  : Nat → (Int32) → (Nat) → (Nat → Int32) → (Nat → Int32) × (Nat → Int32) × (Nat → Int32) × (Nat → Int32) × (Nat → Int32)
  | 0, _, _, _ => ((fun _ => 0), (fun _ => 0), (fun _ => 0), (fun _ => 0), (fun _ => 0))
  | k + 1, nw, v, cd => if (nI pv) ≤ (nI v) then (if (cw j) = 0 then (if nw = 0 then (upd cr j 1, upd cw j 0, upd ch j ((ch j) ||| p2), upd cl j ((cl j) ||| p3), cd) else (upd cr j 1, upd cw j 1, upd ch j ((ch j) ||| p2), upd cl j ((cl j) ||| p3), cd)) else (upd cr j 1, upd cw j 1, upd ch j ((ch j) ||| p2), upd cl j ((cl j) ||| p3), cd)) else (if nw = 0 then (if ((cb v) &&& ((cd ((j * 8) + v)) ^^^ (-1))) = 0 then sl_X0_comeTo_L77 pv cr cw ch cl cb p2 p3 j k 0 (v + 1) (upd cd ((j * 8) + v) ((cd ((j * 8) + v)) ||| (cb v))) else sl_X0_comeTo_L77 pv cr cw ch cl cb p2 p3 j k 1 (v + 1) (upd cd ((j * 8) + v) ((cd ((j * 8) + v)) ||| (cb v)))) else sl_X0_comeTo_L77 pv cr cw ch cl cb p2 p3 j k 1 (v + 1) (upd cd ((j * 8) + v) ((cd ((j * 8) + v)) ||| (cb v))))
set_option maxHeartbeats 4000000 in
set_option maxRecDepth 100000 in
theorem l_X0_comeTo_L77 (l : Launch) (G : sxG) (r : Nat) (h : Nat) (od : Nat) (ow : Nat) (ol : Nat) (oq : Nat) (r1 : Nat) (r2 : Nat) (r3 : Nat) (r4 : Nat) (r5 : Nat) (r6 : Nat) (r7 : Nat) (flg : Int32) (k0 : Nat) (k1 : Nat) (k2 : Nat) (k3 : Nat) (pv : Nat) (pn : Nat) (cr : Nat → Int32) (cw : Nat → Int32) (ch : Nat → Int32) (cl : Nat → Int32) (cb : Nat → Int32) (p2 : Int32) (p3 : Int32) (j : Nat) (hn : pn ≤ 33) (hv : pv ≤ 8) (hj : j < 2 ^ 31) (nj : j ≤ pn)   {p : Program} {e : Env} {s : State} {m : MethodId} {args : Array Value} {below : List Frame} {meth : Method} {c : Code} (hB : sxBv G yX0_comeTo wdX0_comeTo cX0_comeTo 7  p s m args meth c) (A : Nat → Prop) (hA : ∀ q : Nat, s.heap.size ≤ q → A q) (S0 : (Nat → Int32) × (Nat → Int32) × (Nat → Int32) × (Nat → Int32) × (Nat → Int32)) : ∀ (k : Nat) (nw : Int32) (v : Nat) (cd : Nat → Int32), v ≤ pv → 8 - v < k → S0 = sl_X0_comeTo_L77 pv cr cw ch cl cb p2 p3 j k nw v cd → ∀ (H : Heap) (locs : List Loc), va_P G.1 vwCl [(r, .inr (0, [.ref h, .ref od, .ref ow, .ref ol, .ref oq, .ref r1, .ref r2, .ref r3, .ref r4, .ref r5, .ref r6, .ref r7, .int flg])), (h, .inr (5, [.ref k0, .ref k1, .ref k2, .ref k3, .int (nI pv), .int (nI pn)])), (r1, .inl (G.2.2, 34, .inl cr)), (r2, .inl (G.2.2, 34, .inl cw)), (r3, .inl (G.2.1, 34, .inl (upd ch j ((ch j) ||| p2)))), (r4, .inl (G.2.1, 34, .inl (upd cl j ((cl j) ||| p3)))), (r5, .inl (G.2.1, 272, .inl cd)), (r6, .inl (G.2.1, 8, .inl cb))] H → va_D A [(r, .inr (0, [.ref h, .ref od, .ref ow, .ref ol, .ref oq, .ref r1, .ref r2, .ref r3, .ref r4, .ref r5, .ref r6, .ref r7, .int flg])), (h, .inr (5, [.ref k0, .ref k1, .ref k2, .ref k3, .int (nI pv), .int (nI pn)])), (r1, .inl (G.2.2, 34, .inl cr)), (r2, .inl (G.2.2, 34, .inl cw)), (r3, .inl (G.2.1, 34, .inl (upd ch j ((ch j) ||| p2)))), (r4, .inl (G.2.1, 34, .inl (upd cl j ((cl j) ||| p3)))), (r5, .inl (G.2.1, 272, .inl cd)), (r6, .inl (G.2.1, 8, .inl cb))] → va_S A s.heap H locs → ∀ ls : Array Slot, lv_has ls 7 [(0, .ref r), (1, .int (nI j)), (2, .int p2), (3, .int p3), (4, .int nw), (5, .int (nI v))] → W p l e ({ frames := 1, cells := 0, slots := 0, locals := 21 }) s m args below meth c H locs 0 0 (sxZv G args s below A (fun u : (Nat → Int32) × (Nat → Int32) × (Nat → Int32) × (Nat → Int32) × (Nat → Int32) => ([(r, .inr (0, [.ref h, .ref od, .ref ow, .ref ol, .ref oq, .ref r1, .ref r2, .ref r3, .ref r4, .ref r5, .ref r6, .ref r7, .int flg])), (h, .inr (5, [.ref k0, .ref k1, .ref k2, .ref k3, .int (nI pv), .int (nI pn)])), (r1, .inl (G.2.2, 34, .inl u.1)), (r2, .inl (G.2.2, 34, .inl u.2.1)), (r3, .inl (G.2.1, 34, .inl u.2.2.1)), (r4, .inl (G.2.1, 34, .inl u.2.2.2.1)), (r5, .inl (G.2.1, 272, .inl u.2.2.2.2)), (r6, .inl (G.2.1, 8, .inl cb))] : va_W)) S0) (F0 m 77 ls []) := by
  obtain ⟨hx, hb, hr, hml, hown, hlk, hts, hK⟩ := id hB
  intro k
  induction k with
  | zero =>
    intro nw v cd _ hm
    exact absurd hm (Nat.not_lt_zero _)
  | succ k ih =>
    intro nw v cd hi hm hE H locs hP hD hS ls hl
    refine lv_iload hx hb dX0_comeTo_77 (lv_at hl 5 rfl) ?_
    refine lv_aload_n hx hb dX0_comeTo_79 rfl (lv_at hl 0 rfl) ?_
    refine va_get (D := G.1) (ci := 0) (v := .ref h) (C := RX0) (T := TX0) (N := 13) hx hb hts owX0 hown hK.1 hP 0 rfl rfl 0 (by decide) (bw0 (w := Cond.fieldLink RX0 9 "DropflagMill$Check" "program" "LDropflagMill$Program;") hts 43 rfl) (fun _ h9 => h9) rfl dX0_comeTo_80 ?_
    refine va_get (D := G.1) (ci := 5) (v := .int (nI pv)) (C := RX5) (T := TX5) (N := 6) hx hb hts owX5 hown hK.1 hP 1 rfl rfl 4 (by decide) (bw3 (w := Cond.fieldLink RX0 132 "DropflagMill$Program" "variables" "I") hts 0 rfl) (fun _ h9 => h9) rfl dX0_comeTo_83 ?_
    refine lv_icmp_ge (tgt := 153) hx hb dX0_comeTo_86 (by decide) (fun c3 => ?_) (fun c3 => ?_)
    · have nc3 := (nI_leI (a := pv) (b := v) (by omega) (by omega)).mp c3
      refine lv_aload_n hx hb dX0_comeTo_153 rfl (lv_at hl 0 rfl) ?_
      refine va_get (D := G.1) (ci := 0) (v := .ref r1) (C := RX0) (T := TX0) (N := 13) hx hb hts owX0 hown hK.1 hP 0 rfl rfl 5 (by decide) (bw1 (w := Cond.fieldLink RX0 45 "DropflagMill$Check" "isReached" "[Z") hts 0 rfl) (fun _ h9 => h9) rfl dX0_comeTo_154 ?_
      refine lv_iload_n hx hb dX0_comeTo_157 rfl (lv_at hl 1 rfl) ?_
      refine lv_iconst (v := 1) hx hb dX0_comeTo_158 (by decide) ?_
      refine va_zast hx hb hK.1 hP hD hS 2 1 rfl rfl (i := nI j) (vp_in_nI (n := j) (by omega) (by omega)) dX0_comeTo_159 (fun H locs hP hD hS => ?_)
      rw [show (nI j : Int32).toNatClampNeg = j from nI_clamp (n := j) (by omega)] at hP hD
      have hP : va_P G.1 vwCl [(r, .inr (0, [.ref h, .ref od, .ref ow, .ref ol, .ref oq, .ref r1, .ref r2, .ref r3, .ref r4, .ref r5, .ref r6, .ref r7, .int flg])), (h, .inr (5, [.ref k0, .ref k1, .ref k2, .ref k3, .int (nI pv), .int (nI pn)])), (r1, .inl (G.2.2, 34, .inl (upd cr j 1))), (r2, .inl (G.2.2, 34, .inl cw)), (r3, .inl (G.2.1, 34, .inl (upd ch j ((ch j) ||| p2)))), (r4, .inl (G.2.1, 34, .inl (upd cl j ((cl j) ||| p3)))), (r5, .inl (G.2.1, 272, .inl cd)), (r6, .inl (G.2.1, 8, .inl cb))] H := hP
      have hD : va_D A [(r, .inr (0, [.ref h, .ref od, .ref ow, .ref ol, .ref oq, .ref r1, .ref r2, .ref r3, .ref r4, .ref r5, .ref r6, .ref r7, .int flg])), (h, .inr (5, [.ref k0, .ref k1, .ref k2, .ref k3, .int (nI pv), .int (nI pn)])), (r1, .inl (G.2.2, 34, .inl (upd cr j 1))), (r2, .inl (G.2.2, 34, .inl cw)), (r3, .inl (G.2.1, 34, .inl (upd ch j ((ch j) ||| p2)))), (r4, .inl (G.2.1, 34, .inl (upd cl j ((cl j) ||| p3)))), (r5, .inl (G.2.1, 272, .inl cd)), (r6, .inl (G.2.1, 8, .inl cb))] := hD
      refine lv_aload_n hx hb dX0_comeTo_160 rfl (lv_at hl 0 rfl) ?_
      refine va_get (D := G.1) (ci := 0) (v := .ref r2) (C := RX0) (T := TX0) (N := 13) hx hb hts owX0 hown hK.1 hP 0 rfl rfl 6 (by decide) (bw1 (w := Cond.fieldLink RX0 49 "DropflagMill$Check" "isWaiting" "[Z") hts 1 rfl) (fun _ h9 => h9) rfl dX0_comeTo_161 ?_
      refine lv_iload_n hx hb dX0_comeTo_164 rfl (lv_at hl 1 rfl) ?_
      refine lv_aload_n hx hb dX0_comeTo_165 rfl (lv_at hl 0 rfl) ?_
      refine va_get (D := G.1) (ci := 0) (v := .ref r2) (C := RX0) (T := TX0) (N := 13) hx hb hts owX0 hown hK.1 hP 0 rfl rfl 6 (by decide) (bw1 (w := Cond.fieldLink RX0 49 "DropflagMill$Check" "isWaiting" "[Z") hts 1 rfl) (fun _ h9 => h9) rfl dX0_comeTo_166 ?_
      refine lv_iload_n hx hb dX0_comeTo_169 rfl (lv_at hl 1 rfl) ?_
      refine va_zald hx hb hK.1 hP 3 1 rfl rfl (i := nI j) (vp_in_nI (n := j) (by omega) (by omega)) dX0_comeTo_170 ?_
      rw [show (nI j : Int32).toNatClampNeg = j from nI_clamp (n := j) (by omega)]
      refine lv_if_ne (tgt := 179) hx hb dX0_comeTo_171 (by decide) (fun c4 => ?_) (fun c4 => ?_)
      · refine lv_iconst (v := 1) hx hb dX0_comeTo_179 (by decide) ?_
        refine lv_goto (tgt := 184) hx hb dX0_comeTo_180 (by decide) ?_
        refine va_zast hx hb hK.1 hP hD hS 3 1 rfl rfl (i := nI j) (vp_in_nI (n := j) (by omega) (by omega)) dX0_comeTo_184 (fun H locs hP hD hS => ?_)
        rw [show (nI j : Int32).toNatClampNeg = j from nI_clamp (n := j) (by omega)] at hP hD
        have hP : va_P G.1 vwCl [(r, .inr (0, [.ref h, .ref od, .ref ow, .ref ol, .ref oq, .ref r1, .ref r2, .ref r3, .ref r4, .ref r5, .ref r6, .ref r7, .int flg])), (h, .inr (5, [.ref k0, .ref k1, .ref k2, .ref k3, .int (nI pv), .int (nI pn)])), (r1, .inl (G.2.2, 34, .inl (upd cr j 1))), (r2, .inl (G.2.2, 34, .inl (upd cw j 1))), (r3, .inl (G.2.1, 34, .inl (upd ch j ((ch j) ||| p2)))), (r4, .inl (G.2.1, 34, .inl (upd cl j ((cl j) ||| p3)))), (r5, .inl (G.2.1, 272, .inl cd)), (r6, .inl (G.2.1, 8, .inl cb))] H := hP
        have hD : va_D A [(r, .inr (0, [.ref h, .ref od, .ref ow, .ref ol, .ref oq, .ref r1, .ref r2, .ref r3, .ref r4, .ref r5, .ref r6, .ref r7, .int flg])), (h, .inr (5, [.ref k0, .ref k1, .ref k2, .ref k3, .int (nI pv), .int (nI pn)])), (r1, .inl (G.2.2, 34, .inl (upd cr j 1))), (r2, .inl (G.2.2, 34, .inl (upd cw j 1))), (r3, .inl (G.2.1, 34, .inl (upd ch j ((ch j) ||| p2)))), (r4, .inl (G.2.1, 34, .inl (upd cl j ((cl j) ||| p3)))), (r5, .inl (G.2.1, 272, .inl cd)), (r6, .inl (G.2.1, 8, .inl cb))] := hD
        exact sx_retV (u := (upd cr j 1, upd cw j 1, upd ch j ((ch j) ||| p2), upd cl j ((cl j) ||| p3), cd)) hx hb hr hlk hK hP hD hS (by rw [hE]; simp only [sl_X0_comeTo_L77, if_pos c3, if_neg c4]) dX0_comeTo_185
      · refine lv_iload hx hb dX0_comeTo_174 (lv_at hl 4 rfl) ?_
        refine lv_if_eq (tgt := 183) hx hb dX0_comeTo_176 (by decide) (fun c5 => ?_) (fun c5 => ?_)
        · refine lv_iconst (v := 0) hx hb dX0_comeTo_183 (by decide) ?_
          refine va_zast hx hb hK.1 hP hD hS 3 1 rfl rfl (i := nI j) (vp_in_nI (n := j) (by omega) (by omega)) dX0_comeTo_184 (fun H locs hP hD hS => ?_)
          rw [show (nI j : Int32).toNatClampNeg = j from nI_clamp (n := j) (by omega)] at hP hD
          have hP : va_P G.1 vwCl [(r, .inr (0, [.ref h, .ref od, .ref ow, .ref ol, .ref oq, .ref r1, .ref r2, .ref r3, .ref r4, .ref r5, .ref r6, .ref r7, .int flg])), (h, .inr (5, [.ref k0, .ref k1, .ref k2, .ref k3, .int (nI pv), .int (nI pn)])), (r1, .inl (G.2.2, 34, .inl (upd cr j 1))), (r2, .inl (G.2.2, 34, .inl (upd cw j 0))), (r3, .inl (G.2.1, 34, .inl (upd ch j ((ch j) ||| p2)))), (r4, .inl (G.2.1, 34, .inl (upd cl j ((cl j) ||| p3)))), (r5, .inl (G.2.1, 272, .inl cd)), (r6, .inl (G.2.1, 8, .inl cb))] H := hP
          have hD : va_D A [(r, .inr (0, [.ref h, .ref od, .ref ow, .ref ol, .ref oq, .ref r1, .ref r2, .ref r3, .ref r4, .ref r5, .ref r6, .ref r7, .int flg])), (h, .inr (5, [.ref k0, .ref k1, .ref k2, .ref k3, .int (nI pv), .int (nI pn)])), (r1, .inl (G.2.2, 34, .inl (upd cr j 1))), (r2, .inl (G.2.2, 34, .inl (upd cw j 0))), (r3, .inl (G.2.1, 34, .inl (upd ch j ((ch j) ||| p2)))), (r4, .inl (G.2.1, 34, .inl (upd cl j ((cl j) ||| p3)))), (r5, .inl (G.2.1, 272, .inl cd)), (r6, .inl (G.2.1, 8, .inl cb))] := hD
          exact sx_retV (u := (upd cr j 1, upd cw j 0, upd ch j ((ch j) ||| p2), upd cl j ((cl j) ||| p3), cd)) hx hb hr hlk hK hP hD hS (by rw [hE]; simp only [sl_X0_comeTo_L77, if_pos c3, if_pos c4, if_pos c5]) dX0_comeTo_185
        · refine lv_iconst (v := 1) hx hb dX0_comeTo_179 (by decide) ?_
          refine lv_goto (tgt := 184) hx hb dX0_comeTo_180 (by decide) ?_
          refine va_zast hx hb hK.1 hP hD hS 3 1 rfl rfl (i := nI j) (vp_in_nI (n := j) (by omega) (by omega)) dX0_comeTo_184 (fun H locs hP hD hS => ?_)
          rw [show (nI j : Int32).toNatClampNeg = j from nI_clamp (n := j) (by omega)] at hP hD
          have hP : va_P G.1 vwCl [(r, .inr (0, [.ref h, .ref od, .ref ow, .ref ol, .ref oq, .ref r1, .ref r2, .ref r3, .ref r4, .ref r5, .ref r6, .ref r7, .int flg])), (h, .inr (5, [.ref k0, .ref k1, .ref k2, .ref k3, .int (nI pv), .int (nI pn)])), (r1, .inl (G.2.2, 34, .inl (upd cr j 1))), (r2, .inl (G.2.2, 34, .inl (upd cw j 1))), (r3, .inl (G.2.1, 34, .inl (upd ch j ((ch j) ||| p2)))), (r4, .inl (G.2.1, 34, .inl (upd cl j ((cl j) ||| p3)))), (r5, .inl (G.2.1, 272, .inl cd)), (r6, .inl (G.2.1, 8, .inl cb))] H := hP
          have hD : va_D A [(r, .inr (0, [.ref h, .ref od, .ref ow, .ref ol, .ref oq, .ref r1, .ref r2, .ref r3, .ref r4, .ref r5, .ref r6, .ref r7, .int flg])), (h, .inr (5, [.ref k0, .ref k1, .ref k2, .ref k3, .int (nI pv), .int (nI pn)])), (r1, .inl (G.2.2, 34, .inl (upd cr j 1))), (r2, .inl (G.2.2, 34, .inl (upd cw j 1))), (r3, .inl (G.2.1, 34, .inl (upd ch j ((ch j) ||| p2)))), (r4, .inl (G.2.1, 34, .inl (upd cl j ((cl j) ||| p3)))), (r5, .inl (G.2.1, 272, .inl cd)), (r6, .inl (G.2.1, 8, .inl cb))] := hD
          exact sx_retV (u := (upd cr j 1, upd cw j 1, upd ch j ((ch j) ||| p2), upd cl j ((cl j) ||| p3), cd)) hx hb hr hlk hK hP hD hS (by rw [hE]; simp only [sl_X0_comeTo_L77, if_pos c3, if_pos c4, if_neg c5]) dX0_comeTo_185
    · have nc3 := (not_congr (nI_leI (a := pv) (b := v) (by omega) (by omega))).mp c3
      refine lv_iload_n hx hb dX0_comeTo_89 rfl (lv_at hl 1 rfl) ?_
      refine lv_bipush (v := 8) hx hb dX0_comeTo_90 (by decide) ?_
      refine lv_imul hx hb dX0_comeTo_92 ?_
      rw [show (nI j) * 8 = nI (j * 8) from pk_mul j 8]
      refine lv_iload hx hb dX0_comeTo_93 (lv_at hl 5 rfl) ?_
      refine lv_iadd hx hb dX0_comeTo_95 ?_
      rw [show (nI (j * 8)) + (nI v) = nI ((j * 8) + v) from nI_add (j * 8) v]
      refine lv_istore (lv' := [(6, .int (nI ((j * 8) + v))), (0, .ref r), (1, .int (nI j)), (2, .int p2), (3, .int p3), (4, .int nw), (5, .int (nI v))]) hx hb dX0_comeTo_96 hl (by decide) rfl (fun ls hl => ?_)
      refine lv_iload hx hb dX0_comeTo_98 (lv_at hl 5 rfl) ?_
      refine lv_if_ne (tgt := 123) hx hb dX0_comeTo_100 (by decide) (fun c6 => ?_) (fun c6 => ?_)
      · refine lv_iconst (v := 1) hx hb dX0_comeTo_123 (by decide) ?_
        refine lv_goto (tgt := 128) hx hb dX0_comeTo_124 (by decide) ?_
        refine lv_istore (lv' := [(4, .int 1), (6, .int (nI ((j * 8) + v))), (0, .ref r), (1, .int (nI j)), (2, .int p2), (3, .int p3), (5, .int (nI v))]) hx hb dX0_comeTo_128 hl (by decide) rfl (fun ls hl => ?_)
        refine lv_aload_n hx hb dX0_comeTo_130 rfl (lv_at hl 2 rfl) ?_
        refine va_get (D := G.1) (ci := 0) (v := .ref r5) (C := RX0) (T := TX0) (N := 13) hx hb hts owX0 hown hK.1 hP 0 rfl rfl 9 (by decide) (bw1 (w := Cond.fieldLink RX0 59 "DropflagMill$Check" "held" "[I") hts 4 rfl) (fun _ h9 => h9) rfl dX0_comeTo_131 ?_
        refine lv_iload hx hb dX0_comeTo_134 (lv_at hl 1 rfl) ?_
        refine lv_dup2_11 hx hb dX0_comeTo_136 rfl rfl ?_
        refine va_iald hx hb hK.1 hP 6 0 rfl rfl (i := nI ((j * 8) + v)) (vp_in_nI (n := ((j * 8) + v)) (by omega) (by omega)) dX0_comeTo_137 ?_
        rw [show (nI ((j * 8) + v) : Int32).toNatClampNeg = ((j * 8) + v) from nI_clamp (n := ((j * 8) + v)) (by omega)]
        refine lv_aload_n hx hb dX0_comeTo_138 rfl (lv_at hl 2 rfl) ?_
        refine va_get (D := G.1) (ci := 0) (v := .ref r6) (C := RX0) (T := TX0) (N := 13) hx hb hts owX0 hown hK.1 hP 0 rfl rfl 10 (by decide) (bw1 (w := Cond.fieldLink RX0 62 "DropflagMill$Check" "heldBehind" "[I") hts 5 rfl) (fun _ h9 => h9) rfl dX0_comeTo_139 ?_
        refine lv_iload hx hb dX0_comeTo_142 (lv_at hl 6 rfl) ?_
        refine va_iald hx hb hK.1 hP 7 0 rfl rfl (i := nI v) (vp_in_nI (n := v) (by omega) (by omega)) dX0_comeTo_144 ?_
        rw [show (nI v : Int32).toNatClampNeg = v from nI_clamp (n := v) (by omega)]
        refine lv_ior hx hb dX0_comeTo_145 ?_
        refine va_iast hx hb hK.1 hP hD hS 6 0 rfl rfl (i := nI ((j * 8) + v)) (vp_in_nI (n := ((j * 8) + v)) (by omega) (by omega)) dX0_comeTo_146 (fun H locs hP hD hS => ?_)
        rw [show (nI ((j * 8) + v) : Int32).toNatClampNeg = ((j * 8) + v) from nI_clamp (n := ((j * 8) + v)) (by omega)] at hP hD
        have hP : va_P G.1 vwCl [(r, .inr (0, [.ref h, .ref od, .ref ow, .ref ol, .ref oq, .ref r1, .ref r2, .ref r3, .ref r4, .ref r5, .ref r6, .ref r7, .int flg])), (h, .inr (5, [.ref k0, .ref k1, .ref k2, .ref k3, .int (nI pv), .int (nI pn)])), (r1, .inl (G.2.2, 34, .inl cr)), (r2, .inl (G.2.2, 34, .inl cw)), (r3, .inl (G.2.1, 34, .inl (upd ch j ((ch j) ||| p2)))), (r4, .inl (G.2.1, 34, .inl (upd cl j ((cl j) ||| p3)))), (r5, .inl (G.2.1, 272, .inl (upd cd ((j * 8) + v) ((cd ((j * 8) + v)) ||| (cb v))))), (r6, .inl (G.2.1, 8, .inl cb))] H := hP
        have hD : va_D A [(r, .inr (0, [.ref h, .ref od, .ref ow, .ref ol, .ref oq, .ref r1, .ref r2, .ref r3, .ref r4, .ref r5, .ref r6, .ref r7, .int flg])), (h, .inr (5, [.ref k0, .ref k1, .ref k2, .ref k3, .int (nI pv), .int (nI pn)])), (r1, .inl (G.2.2, 34, .inl cr)), (r2, .inl (G.2.2, 34, .inl cw)), (r3, .inl (G.2.1, 34, .inl (upd ch j ((ch j) ||| p2)))), (r4, .inl (G.2.1, 34, .inl (upd cl j ((cl j) ||| p3)))), (r5, .inl (G.2.1, 272, .inl (upd cd ((j * 8) + v) ((cd ((j * 8) + v)) ||| (cb v))))), (r6, .inl (G.2.1, 8, .inl cb))] := hD
        refine lv_iinc (v := nI (v + 1)) (lv' := [(5, .int (nI (v + 1))), (4, .int 1), (6, .int (nI ((j * 8) + v))), (0, .ref r), (1, .int (nI j)), (2, .int p2), (3, .int p3)]) hx hb dX0_comeTo_147 hl (k := 6) rfl (nI_1 v) (by decide) rfl (fun ls hl => ?_)
        refine lv_goto (tgt := 77) hx hb dX0_comeTo_150 (by decide) ?_
        exact ih 1 (v + 1) (upd cd ((j * 8) + v) ((cd ((j * 8) + v)) ||| (cb v))) (by omega) (by omega) (by rw [hE]; simp only [sl_X0_comeTo_L77, if_neg c3, if_neg c6]) _ _ hP hD hS ls (lv_sub hl [3, 4, 5, 6, 1, 0] rfl)
      · refine lv_aload_n hx hb dX0_comeTo_103 rfl (lv_at hl 1 rfl) ?_
        refine va_get (D := G.1) (ci := 0) (v := .ref r6) (C := RX0) (T := TX0) (N := 13) hx hb hts owX0 hown hK.1 hP 0 rfl rfl 10 (by decide) (bw1 (w := Cond.fieldLink RX0 62 "DropflagMill$Check" "heldBehind" "[I") hts 5 rfl) (fun _ h9 => h9) rfl dX0_comeTo_104 ?_
        refine lv_iload hx hb dX0_comeTo_107 (lv_at hl 6 rfl) ?_
        refine va_iald hx hb hK.1 hP 7 0 rfl rfl (i := nI v) (vp_in_nI (n := v) (by omega) (by omega)) dX0_comeTo_109 ?_
        rw [show (nI v : Int32).toNatClampNeg = v from nI_clamp (n := v) (by omega)]
        refine lv_aload_n hx hb dX0_comeTo_110 rfl (lv_at hl 1 rfl) ?_
        refine va_get (D := G.1) (ci := 0) (v := .ref r5) (C := RX0) (T := TX0) (N := 13) hx hb hts owX0 hown hK.1 hP 0 rfl rfl 9 (by decide) (bw1 (w := Cond.fieldLink RX0 59 "DropflagMill$Check" "held" "[I") hts 4 rfl) (fun _ h9 => h9) rfl dX0_comeTo_111 ?_
        refine lv_iload hx hb dX0_comeTo_114 (lv_at hl 0 rfl) ?_
        refine va_iald hx hb hK.1 hP 6 0 rfl rfl (i := nI ((j * 8) + v)) (vp_in_nI (n := ((j * 8) + v)) (by omega) (by omega)) dX0_comeTo_116 ?_
        rw [show (nI ((j * 8) + v) : Int32).toNatClampNeg = ((j * 8) + v) from nI_clamp (n := ((j * 8) + v)) (by omega)]
        refine lv_iconst (v := (-1)) hx hb dX0_comeTo_117 (by decide) ?_
        refine lv_ixor hx hb dX0_comeTo_118 ?_
        refine lv_iand hx hb dX0_comeTo_119 ?_
        refine lv_if_eq (tgt := 127) hx hb dX0_comeTo_120 (by decide) (fun c7 => ?_) (fun c7 => ?_)
        · refine lv_iconst (v := 0) hx hb dX0_comeTo_127 (by decide) ?_
          refine lv_istore (lv' := [(4, .int 0), (6, .int (nI ((j * 8) + v))), (0, .ref r), (1, .int (nI j)), (2, .int p2), (3, .int p3), (5, .int (nI v))]) hx hb dX0_comeTo_128 hl (by decide) rfl (fun ls hl => ?_)
          refine lv_aload_n hx hb dX0_comeTo_130 rfl (lv_at hl 2 rfl) ?_
          refine va_get (D := G.1) (ci := 0) (v := .ref r5) (C := RX0) (T := TX0) (N := 13) hx hb hts owX0 hown hK.1 hP 0 rfl rfl 9 (by decide) (bw1 (w := Cond.fieldLink RX0 59 "DropflagMill$Check" "held" "[I") hts 4 rfl) (fun _ h9 => h9) rfl dX0_comeTo_131 ?_
          refine lv_iload hx hb dX0_comeTo_134 (lv_at hl 1 rfl) ?_
          refine lv_dup2_11 hx hb dX0_comeTo_136 rfl rfl ?_
          refine va_iald hx hb hK.1 hP 6 0 rfl rfl (i := nI ((j * 8) + v)) (vp_in_nI (n := ((j * 8) + v)) (by omega) (by omega)) dX0_comeTo_137 ?_
          rw [show (nI ((j * 8) + v) : Int32).toNatClampNeg = ((j * 8) + v) from nI_clamp (n := ((j * 8) + v)) (by omega)]
          refine lv_aload_n hx hb dX0_comeTo_138 rfl (lv_at hl 2 rfl) ?_
          refine va_get (D := G.1) (ci := 0) (v := .ref r6) (C := RX0) (T := TX0) (N := 13) hx hb hts owX0 hown hK.1 hP 0 rfl rfl 10 (by decide) (bw1 (w := Cond.fieldLink RX0 62 "DropflagMill$Check" "heldBehind" "[I") hts 5 rfl) (fun _ h9 => h9) rfl dX0_comeTo_139 ?_
          refine lv_iload hx hb dX0_comeTo_142 (lv_at hl 6 rfl) ?_
          refine va_iald hx hb hK.1 hP 7 0 rfl rfl (i := nI v) (vp_in_nI (n := v) (by omega) (by omega)) dX0_comeTo_144 ?_
          rw [show (nI v : Int32).toNatClampNeg = v from nI_clamp (n := v) (by omega)]
          refine lv_ior hx hb dX0_comeTo_145 ?_
          refine va_iast hx hb hK.1 hP hD hS 6 0 rfl rfl (i := nI ((j * 8) + v)) (vp_in_nI (n := ((j * 8) + v)) (by omega) (by omega)) dX0_comeTo_146 (fun H locs hP hD hS => ?_)
          rw [show (nI ((j * 8) + v) : Int32).toNatClampNeg = ((j * 8) + v) from nI_clamp (n := ((j * 8) + v)) (by omega)] at hP hD
          have hP : va_P G.1 vwCl [(r, .inr (0, [.ref h, .ref od, .ref ow, .ref ol, .ref oq, .ref r1, .ref r2, .ref r3, .ref r4, .ref r5, .ref r6, .ref r7, .int flg])), (h, .inr (5, [.ref k0, .ref k1, .ref k2, .ref k3, .int (nI pv), .int (nI pn)])), (r1, .inl (G.2.2, 34, .inl cr)), (r2, .inl (G.2.2, 34, .inl cw)), (r3, .inl (G.2.1, 34, .inl (upd ch j ((ch j) ||| p2)))), (r4, .inl (G.2.1, 34, .inl (upd cl j ((cl j) ||| p3)))), (r5, .inl (G.2.1, 272, .inl (upd cd ((j * 8) + v) ((cd ((j * 8) + v)) ||| (cb v))))), (r6, .inl (G.2.1, 8, .inl cb))] H := hP
          have hD : va_D A [(r, .inr (0, [.ref h, .ref od, .ref ow, .ref ol, .ref oq, .ref r1, .ref r2, .ref r3, .ref r4, .ref r5, .ref r6, .ref r7, .int flg])), (h, .inr (5, [.ref k0, .ref k1, .ref k2, .ref k3, .int (nI pv), .int (nI pn)])), (r1, .inl (G.2.2, 34, .inl cr)), (r2, .inl (G.2.2, 34, .inl cw)), (r3, .inl (G.2.1, 34, .inl (upd ch j ((ch j) ||| p2)))), (r4, .inl (G.2.1, 34, .inl (upd cl j ((cl j) ||| p3)))), (r5, .inl (G.2.1, 272, .inl (upd cd ((j * 8) + v) ((cd ((j * 8) + v)) ||| (cb v))))), (r6, .inl (G.2.1, 8, .inl cb))] := hD
          refine lv_iinc (v := nI (v + 1)) (lv' := [(5, .int (nI (v + 1))), (4, .int 0), (6, .int (nI ((j * 8) + v))), (0, .ref r), (1, .int (nI j)), (2, .int p2), (3, .int p3)]) hx hb dX0_comeTo_147 hl (k := 6) rfl (nI_1 v) (by decide) rfl (fun ls hl => ?_)
          refine lv_goto (tgt := 77) hx hb dX0_comeTo_150 (by decide) ?_
          exact ih 0 (v + 1) (upd cd ((j * 8) + v) ((cd ((j * 8) + v)) ||| (cb v))) (by omega) (by omega) (by rw [hE]; simp only [sl_X0_comeTo_L77, if_neg c3, if_pos c6, if_pos c7]) _ _ hP hD hS ls (lv_sub hl [3, 4, 5, 6, 1, 0] rfl)
        · refine lv_iconst (v := 1) hx hb dX0_comeTo_123 (by decide) ?_
          refine lv_goto (tgt := 128) hx hb dX0_comeTo_124 (by decide) ?_
          refine lv_istore (lv' := [(4, .int 1), (6, .int (nI ((j * 8) + v))), (0, .ref r), (1, .int (nI j)), (2, .int p2), (3, .int p3), (5, .int (nI v))]) hx hb dX0_comeTo_128 hl (by decide) rfl (fun ls hl => ?_)
          refine lv_aload_n hx hb dX0_comeTo_130 rfl (lv_at hl 2 rfl) ?_
          refine va_get (D := G.1) (ci := 0) (v := .ref r5) (C := RX0) (T := TX0) (N := 13) hx hb hts owX0 hown hK.1 hP 0 rfl rfl 9 (by decide) (bw1 (w := Cond.fieldLink RX0 59 "DropflagMill$Check" "held" "[I") hts 4 rfl) (fun _ h9 => h9) rfl dX0_comeTo_131 ?_
          refine lv_iload hx hb dX0_comeTo_134 (lv_at hl 1 rfl) ?_
          refine lv_dup2_11 hx hb dX0_comeTo_136 rfl rfl ?_
          refine va_iald hx hb hK.1 hP 6 0 rfl rfl (i := nI ((j * 8) + v)) (vp_in_nI (n := ((j * 8) + v)) (by omega) (by omega)) dX0_comeTo_137 ?_
          rw [show (nI ((j * 8) + v) : Int32).toNatClampNeg = ((j * 8) + v) from nI_clamp (n := ((j * 8) + v)) (by omega)]
          refine lv_aload_n hx hb dX0_comeTo_138 rfl (lv_at hl 2 rfl) ?_
          refine va_get (D := G.1) (ci := 0) (v := .ref r6) (C := RX0) (T := TX0) (N := 13) hx hb hts owX0 hown hK.1 hP 0 rfl rfl 10 (by decide) (bw1 (w := Cond.fieldLink RX0 62 "DropflagMill$Check" "heldBehind" "[I") hts 5 rfl) (fun _ h9 => h9) rfl dX0_comeTo_139 ?_
          refine lv_iload hx hb dX0_comeTo_142 (lv_at hl 6 rfl) ?_
          refine va_iald hx hb hK.1 hP 7 0 rfl rfl (i := nI v) (vp_in_nI (n := v) (by omega) (by omega)) dX0_comeTo_144 ?_
          rw [show (nI v : Int32).toNatClampNeg = v from nI_clamp (n := v) (by omega)]
          refine lv_ior hx hb dX0_comeTo_145 ?_
          refine va_iast hx hb hK.1 hP hD hS 6 0 rfl rfl (i := nI ((j * 8) + v)) (vp_in_nI (n := ((j * 8) + v)) (by omega) (by omega)) dX0_comeTo_146 (fun H locs hP hD hS => ?_)
          rw [show (nI ((j * 8) + v) : Int32).toNatClampNeg = ((j * 8) + v) from nI_clamp (n := ((j * 8) + v)) (by omega)] at hP hD
          have hP : va_P G.1 vwCl [(r, .inr (0, [.ref h, .ref od, .ref ow, .ref ol, .ref oq, .ref r1, .ref r2, .ref r3, .ref r4, .ref r5, .ref r6, .ref r7, .int flg])), (h, .inr (5, [.ref k0, .ref k1, .ref k2, .ref k3, .int (nI pv), .int (nI pn)])), (r1, .inl (G.2.2, 34, .inl cr)), (r2, .inl (G.2.2, 34, .inl cw)), (r3, .inl (G.2.1, 34, .inl (upd ch j ((ch j) ||| p2)))), (r4, .inl (G.2.1, 34, .inl (upd cl j ((cl j) ||| p3)))), (r5, .inl (G.2.1, 272, .inl (upd cd ((j * 8) + v) ((cd ((j * 8) + v)) ||| (cb v))))), (r6, .inl (G.2.1, 8, .inl cb))] H := hP
          have hD : va_D A [(r, .inr (0, [.ref h, .ref od, .ref ow, .ref ol, .ref oq, .ref r1, .ref r2, .ref r3, .ref r4, .ref r5, .ref r6, .ref r7, .int flg])), (h, .inr (5, [.ref k0, .ref k1, .ref k2, .ref k3, .int (nI pv), .int (nI pn)])), (r1, .inl (G.2.2, 34, .inl cr)), (r2, .inl (G.2.2, 34, .inl cw)), (r3, .inl (G.2.1, 34, .inl (upd ch j ((ch j) ||| p2)))), (r4, .inl (G.2.1, 34, .inl (upd cl j ((cl j) ||| p3)))), (r5, .inl (G.2.1, 272, .inl (upd cd ((j * 8) + v) ((cd ((j * 8) + v)) ||| (cb v))))), (r6, .inl (G.2.1, 8, .inl cb))] := hD
          refine lv_iinc (v := nI (v + 1)) (lv' := [(5, .int (nI (v + 1))), (4, .int 1), (6, .int (nI ((j * 8) + v))), (0, .ref r), (1, .int (nI j)), (2, .int p2), (3, .int p3)]) hx hb dX0_comeTo_147 hl (k := 6) rfl (nI_1 v) (by decide) rfl (fun ls hl => ?_)
          refine lv_goto (tgt := 77) hx hb dX0_comeTo_150 (by decide) ?_
          exact ih 1 (v + 1) (upd cd ((j * 8) + v) ((cd ((j * 8) + v)) ||| (cb v))) (by omega) (by omega) (by rw [hE]; simp only [sl_X0_comeTo_L77, if_neg c3, if_pos c6, if_neg c7]) _ _ hP hD hS ls (lv_sub hl [3, 4, 5, 6, 1, 0] rfl)
def s_X0_comeTo (pv : Nat) (pn : Nat) (cr : Nat → Int32) (cw : Nat → Int32) (ch : Nat → Int32) (cl : Nat → Int32) (cd : Nat → Int32) (cb : Nat → Int32) (p1 : Int32) (p2 : Int32) (p3 : Int32) : (Nat → Int32) × (Nat → Int32) × (Nat → Int32) × (Nat → Int32) × (Nat → Int32) := if (s_X5_isLineOrEnd pn p1) = 0 then (cr, cw, ch, cl, cd) else (fun j : Nat => if (cr j) = 0 then sl_X0_comeTo_L77 pv cr cw ch cl cb p2 p3 j  9 1 0 cd else (if (p2 &&& ((ch j) ^^^ (-1))) = 0 then (if (p3 &&& ((cl j) ^^^ (-1))) = 0 then sl_X0_comeTo_L77 pv cr cw ch cl cb p2 p3 j  9 0 0 cd else sl_X0_comeTo_L77 pv cr cw ch cl cb p2 p3 j  9 1 0 cd) else sl_X0_comeTo_L77 pv cr cw ch cl cb p2 p3 j  9 1 0 cd)) p1.toNatClampNeg
set_option maxHeartbeats 4000000 in
set_option maxRecDepth 100000 in
theorem c_X0_comeTo (l : Launch) (G : sxG) (r : Nat) (h : Nat) (od : Nat) (ow : Nat) (ol : Nat) (oq : Nat) (r1 : Nat) (r2 : Nat) (r3 : Nat) (r4 : Nat) (r5 : Nat) (r6 : Nat) (r7 : Nat) (flg : Int32) (k0 : Nat) (k1 : Nat) (k2 : Nat) (k3 : Nat) (pv : Nat) (pn : Nat) (cr : Nat → Int32) (cw : Nat → Int32) (ch : Nat → Int32) (cl : Nat → Int32) (cd : Nat → Int32) (cb : Nat → Int32) (p1 : Int32) (p2 : Int32) (p3 : Int32) (hn : pn ≤ 33) (hv : pv ≤ 8) : sxV l yX0_comeTo wdX0_comeTo 1 21 G [(r, .inr (0, [.ref h, .ref od, .ref ow, .ref ol, .ref oq, .ref r1, .ref r2, .ref r3, .ref r4, .ref r5, .ref r6, .ref r7, .int flg])), (h, .inr (5, [.ref k0, .ref k1, .ref k2, .ref k3, .int (nI pv), .int (nI pn)])), (r1, .inl (G.2.2, 34, .inl cr)), (r2, .inl (G.2.2, 34, .inl cw)), (r3, .inl (G.2.1, 34, .inl ch)), (r4, .inl (G.2.1, 34, .inl cl)), (r5, .inl (G.2.1, 272, .inl cd)), (r6, .inl (G.2.1, 8, .inl cb))] [.ref r, .int p1, .int p2, .int p3] (fun u : (Nat → Int32) × (Nat → Int32) × (Nat → Int32) × (Nat → Int32) × (Nat → Int32) => ([(r, .inr (0, [.ref h, .ref od, .ref ow, .ref ol, .ref oq, .ref r1, .ref r2, .ref r3, .ref r4, .ref r5, .ref r6, .ref r7, .int flg])), (h, .inr (5, [.ref k0, .ref k1, .ref k2, .ref k3, .int (nI pv), .int (nI pn)])), (r1, .inl (G.2.2, 34, .inl u.1)), (r2, .inl (G.2.2, 34, .inl u.2.1)), (r3, .inl (G.2.1, 34, .inl u.2.2.1)), (r4, .inl (G.2.1, 34, .inl u.2.2.2.1)), (r5, .inl (G.2.1, 272, .inl u.2.2.2.2)), (r6, .inl (G.2.1, 8, .inl cb))] : va_W)) (s_X0_comeTo pv pn cr cw ch cl cd cb p1 p2 p3) := by
  refine sxV.of (cc := cX0_comeTo) (maxL := 7) (by decide) rfl (Nat.le_of_ble_eq_true rfl) ?_
  intro p e s m args below meth c ⟨hx, hb, hr, hml, hown, hlk, hts, hK⟩ A hA hP hD hS ls hl
  have hl : lv_has ls 7 [(0, .ref r), (1, .int p1), (2, .int p2), (3, .int p3)] := hl
  refine lv_aload_n hx hb dX0_comeTo_0 rfl (lv_at hl 0 rfl) ?_
  refine va_get (D := G.1) (ci := 0) (v := .ref h) (C := RX0) (T := TX0) (N := 13) hx hb hts owX0 hown hK.1 hP 0 rfl rfl 0 (by decide) (bw0 (w := Cond.fieldLink RX0 9 "DropflagMill$Check" "program" "LDropflagMill$Program;") hts 43 rfl) (fun _ h9 => h9) rfl dX0_comeTo_1 ?_
  refine lv_iload_n hx hb dX0_comeTo_4 rfl (lv_at hl 1 rfl) ?_
  refine sx_v (As := [.int p1]) (rest := []) hx hb hml hown hts (c_X5_isLineOrEnd l G h k0 k1 k2 k3 pv pn p1 ) 1 (sxGV (bi3 (w := Cond.methodLink RX0 169 yX5_isLineOrEnd) 1 rfl) (bi3 (w := Cond.instanceMethod yX5_isLineOrEnd) 2 rfl) (bi3 (w := Cond.selects RX5 yX5_isLineOrEnd yX5_isLineOrEnd) 3 rfl) (bi1 (w := Cond.initialized RX5) 30 rfl) (bi2 (w := Cond.code yX5_isLineOrEnd cX5_isLineOrEnd 2 (some .boolean)) 58 rfl)) rfl (by decide +kernel) ⟨Nat.le_of_ble_eq_true rfl, Nat.le_of_ble_eq_true rfl⟩ hK hP [1] rfl 0 rfl rfl rfl hl rfl (Nat.le_of_ble_eq_true rfl) ⟨Nat.zero_le _, Nat.zero_le _⟩ dX0_comeTo_5 (fun r er => ?_)
  subst er
  refine lv_if_ne (tgt := 12) hx hb dX0_comeTo_8 (by decide) (fun c1 => ?_) (fun c1 => ?_)
  · obtain ⟨j, hj, rfl⟩ : ∃ j : Nat, j < 2 ^ 31 ∧ p1 = nI j := nI_of (sx_isLineOrEnd c1).1
    have nj : j ≤ pn := sx_endNat hj (by omega) c1
    refine lv_aload_n hx hb dX0_comeTo_12 rfl (lv_at hl 0 rfl) ?_
    refine va_get (D := G.1) (ci := 0) (v := .ref r1) (C := RX0) (T := TX0) (N := 13) hx hb hts owX0 hown hK.1 hP 0 rfl rfl 5 (by decide) (bw1 (w := Cond.fieldLink RX0 45 "DropflagMill$Check" "isReached" "[Z") hts 0 rfl) (fun _ h9 => h9) rfl dX0_comeTo_13 ?_
    refine lv_iload_n hx hb dX0_comeTo_16 rfl (lv_at hl 1 rfl) ?_
    refine va_zald hx hb hK.1 hP 2 1 rfl rfl (i := nI j) (vp_in_nI (n := j) (by omega) (by omega)) dX0_comeTo_17 ?_
    rw [show (nI j : Int32).toNatClampNeg = j from nI_clamp (n := j) (by omega)]
    refine lv_if_eq (tgt := 47) hx hb dX0_comeTo_18 (by decide) (fun c2 => ?_) (fun c2 => ?_)
    · refine lv_iconst (v := 1) hx hb dX0_comeTo_47 (by decide) ?_
      refine lv_goto (tgt := 52) hx hb dX0_comeTo_48 (by decide) ?_
      refine lv_istore (lv' := [(4, .int 1), (0, .ref r), (1, .int (nI j)), (2, .int p2), (3, .int p3)]) hx hb dX0_comeTo_52 hl (by decide) rfl (fun ls hl => ?_)
      refine lv_aload_n hx hb dX0_comeTo_54 rfl (lv_at hl 1 rfl) ?_
      refine va_get (D := G.1) (ci := 0) (v := .ref r3) (C := RX0) (T := TX0) (N := 13) hx hb hts owX0 hown hK.1 hP 0 rfl rfl 7 (by decide) (bw1 (w := Cond.fieldLink RX0 52 "DropflagMill$Check" "canHave" "[I") hts 2 rfl) (fun _ h9 => h9) rfl dX0_comeTo_55 ?_
      refine lv_iload_n hx hb dX0_comeTo_58 rfl (lv_at hl 2 rfl) ?_
      refine lv_dup2_11 hx hb dX0_comeTo_59 rfl rfl ?_
      refine va_iald hx hb hK.1 hP 4 0 rfl rfl (i := nI j) (vp_in_nI (n := j) (by omega) (by omega)) dX0_comeTo_60 ?_
      rw [show (nI j : Int32).toNatClampNeg = j from nI_clamp (n := j) (by omega)]
      refine lv_iload_n hx hb dX0_comeTo_61 rfl (lv_at hl 3 rfl) ?_
      refine lv_ior hx hb dX0_comeTo_62 ?_
      refine va_iast hx hb hK.1 hP hD hS 4 0 rfl rfl (i := nI j) (vp_in_nI (n := j) (by omega) (by omega)) dX0_comeTo_63 (fun H locs hP hD hS => ?_)
      rw [show (nI j : Int32).toNatClampNeg = j from nI_clamp (n := j) (by omega)] at hP hD
      have hP : va_P G.1 vwCl [(r, .inr (0, [.ref h, .ref od, .ref ow, .ref ol, .ref oq, .ref r1, .ref r2, .ref r3, .ref r4, .ref r5, .ref r6, .ref r7, .int flg])), (h, .inr (5, [.ref k0, .ref k1, .ref k2, .ref k3, .int (nI pv), .int (nI pn)])), (r1, .inl (G.2.2, 34, .inl cr)), (r2, .inl (G.2.2, 34, .inl cw)), (r3, .inl (G.2.1, 34, .inl (upd ch j ((ch j) ||| p2)))), (r4, .inl (G.2.1, 34, .inl cl)), (r5, .inl (G.2.1, 272, .inl cd)), (r6, .inl (G.2.1, 8, .inl cb))] H := hP
      have hD : va_D A [(r, .inr (0, [.ref h, .ref od, .ref ow, .ref ol, .ref oq, .ref r1, .ref r2, .ref r3, .ref r4, .ref r5, .ref r6, .ref r7, .int flg])), (h, .inr (5, [.ref k0, .ref k1, .ref k2, .ref k3, .int (nI pv), .int (nI pn)])), (r1, .inl (G.2.2, 34, .inl cr)), (r2, .inl (G.2.2, 34, .inl cw)), (r3, .inl (G.2.1, 34, .inl (upd ch j ((ch j) ||| p2)))), (r4, .inl (G.2.1, 34, .inl cl)), (r5, .inl (G.2.1, 272, .inl cd)), (r6, .inl (G.2.1, 8, .inl cb))] := hD
      refine lv_aload_n hx hb dX0_comeTo_64 rfl (lv_at hl 1 rfl) ?_
      refine va_get (D := G.1) (ci := 0) (v := .ref r4) (C := RX0) (T := TX0) (N := 13) hx hb hts owX0 hown hK.1 hP 0 rfl rfl 8 (by decide) (bw1 (w := Cond.fieldLink RX0 56 "DropflagMill$Check" "canLack" "[I") hts 3 rfl) (fun _ h9 => h9) rfl dX0_comeTo_65 ?_
      refine lv_iload_n hx hb dX0_comeTo_68 rfl (lv_at hl 2 rfl) ?_
      refine lv_dup2_11 hx hb dX0_comeTo_69 rfl rfl ?_
      refine va_iald hx hb hK.1 hP 5 0 rfl rfl (i := nI j) (vp_in_nI (n := j) (by omega) (by omega)) dX0_comeTo_70 ?_
      rw [show (nI j : Int32).toNatClampNeg = j from nI_clamp (n := j) (by omega)]
      refine lv_iload_n hx hb dX0_comeTo_71 rfl (lv_at hl 4 rfl) ?_
      refine lv_ior hx hb dX0_comeTo_72 ?_
      refine va_iast hx hb hK.1 hP hD hS 5 0 rfl rfl (i := nI j) (vp_in_nI (n := j) (by omega) (by omega)) dX0_comeTo_73 (fun H locs hP hD hS => ?_)
      rw [show (nI j : Int32).toNatClampNeg = j from nI_clamp (n := j) (by omega)] at hP hD
      have hP : va_P G.1 vwCl [(r, .inr (0, [.ref h, .ref od, .ref ow, .ref ol, .ref oq, .ref r1, .ref r2, .ref r3, .ref r4, .ref r5, .ref r6, .ref r7, .int flg])), (h, .inr (5, [.ref k0, .ref k1, .ref k2, .ref k3, .int (nI pv), .int (nI pn)])), (r1, .inl (G.2.2, 34, .inl cr)), (r2, .inl (G.2.2, 34, .inl cw)), (r3, .inl (G.2.1, 34, .inl (upd ch j ((ch j) ||| p2)))), (r4, .inl (G.2.1, 34, .inl (upd cl j ((cl j) ||| p3)))), (r5, .inl (G.2.1, 272, .inl cd)), (r6, .inl (G.2.1, 8, .inl cb))] H := hP
      have hD : va_D A [(r, .inr (0, [.ref h, .ref od, .ref ow, .ref ol, .ref oq, .ref r1, .ref r2, .ref r3, .ref r4, .ref r5, .ref r6, .ref r7, .int flg])), (h, .inr (5, [.ref k0, .ref k1, .ref k2, .ref k3, .int (nI pv), .int (nI pn)])), (r1, .inl (G.2.2, 34, .inl cr)), (r2, .inl (G.2.2, 34, .inl cw)), (r3, .inl (G.2.1, 34, .inl (upd ch j ((ch j) ||| p2)))), (r4, .inl (G.2.1, 34, .inl (upd cl j ((cl j) ||| p3)))), (r5, .inl (G.2.1, 272, .inl cd)), (r6, .inl (G.2.1, 8, .inl cb))] := hD
      refine lv_iconst (v := 0) hx hb dX0_comeTo_74 (by decide) ?_
      refine lv_istore (lv' := [(5, .int 0), (4, .int 1), (0, .ref r), (1, .int (nI j)), (2, .int p2), (3, .int p3)]) hx hb dX0_comeTo_75 hl (by decide) rfl (fun ls hl => ?_)
      have hB0 : sxBv G yX0_comeTo wdX0_comeTo cX0_comeTo 7  p s m args meth c := ⟨hx, hb, hr, hml, hown, hlk, hts, hK⟩
      exact l_X0_comeTo_L77 l G r h od ow ol oq r1 r2 r3 r4 r5 r6 r7 flg k0 k1 k2 k3 pv pn cr cw ch cl cb p2 p3 j hn hv hj nj   hB0 A hA _  9 1 0 cd (Nat.zero_le _) (by omega) (by simp only [s_X0_comeTo, nI_clamp hj, if_neg c1, if_pos c2]) _ _ hP hD hS ls (lv_sub hl [2, 3, 4, 5, 1, 0] rfl)
    · refine lv_iload_n hx hb dX0_comeTo_21 rfl (lv_at hl 2 rfl) ?_
      refine lv_aload_n hx hb dX0_comeTo_22 rfl (lv_at hl 0 rfl) ?_
      refine va_get (D := G.1) (ci := 0) (v := .ref r3) (C := RX0) (T := TX0) (N := 13) hx hb hts owX0 hown hK.1 hP 0 rfl rfl 7 (by decide) (bw1 (w := Cond.fieldLink RX0 52 "DropflagMill$Check" "canHave" "[I") hts 2 rfl) (fun _ h9 => h9) rfl dX0_comeTo_23 ?_
      refine lv_iload_n hx hb dX0_comeTo_26 rfl (lv_at hl 1 rfl) ?_
      refine va_iald hx hb hK.1 hP 4 0 rfl rfl (i := nI j) (vp_in_nI (n := j) (by omega) (by omega)) dX0_comeTo_27 ?_
      rw [show (nI j : Int32).toNatClampNeg = j from nI_clamp (n := j) (by omega)]
      refine lv_iconst (v := (-1)) hx hb dX0_comeTo_28 (by decide) ?_
      refine lv_ixor hx hb dX0_comeTo_29 ?_
      refine lv_iand hx hb dX0_comeTo_30 ?_
      refine lv_if_ne (tgt := 47) hx hb dX0_comeTo_31 (by decide) (fun c8 => ?_) (fun c8 => ?_)
      · refine lv_iconst (v := 1) hx hb dX0_comeTo_47 (by decide) ?_
        refine lv_goto (tgt := 52) hx hb dX0_comeTo_48 (by decide) ?_
        refine lv_istore (lv' := [(4, .int 1), (0, .ref r), (1, .int (nI j)), (2, .int p2), (3, .int p3)]) hx hb dX0_comeTo_52 hl (by decide) rfl (fun ls hl => ?_)
        refine lv_aload_n hx hb dX0_comeTo_54 rfl (lv_at hl 1 rfl) ?_
        refine va_get (D := G.1) (ci := 0) (v := .ref r3) (C := RX0) (T := TX0) (N := 13) hx hb hts owX0 hown hK.1 hP 0 rfl rfl 7 (by decide) (bw1 (w := Cond.fieldLink RX0 52 "DropflagMill$Check" "canHave" "[I") hts 2 rfl) (fun _ h9 => h9) rfl dX0_comeTo_55 ?_
        refine lv_iload_n hx hb dX0_comeTo_58 rfl (lv_at hl 2 rfl) ?_
        refine lv_dup2_11 hx hb dX0_comeTo_59 rfl rfl ?_
        refine va_iald hx hb hK.1 hP 4 0 rfl rfl (i := nI j) (vp_in_nI (n := j) (by omega) (by omega)) dX0_comeTo_60 ?_
        rw [show (nI j : Int32).toNatClampNeg = j from nI_clamp (n := j) (by omega)]
        refine lv_iload_n hx hb dX0_comeTo_61 rfl (lv_at hl 3 rfl) ?_
        refine lv_ior hx hb dX0_comeTo_62 ?_
        refine va_iast hx hb hK.1 hP hD hS 4 0 rfl rfl (i := nI j) (vp_in_nI (n := j) (by omega) (by omega)) dX0_comeTo_63 (fun H locs hP hD hS => ?_)
        rw [show (nI j : Int32).toNatClampNeg = j from nI_clamp (n := j) (by omega)] at hP hD
        have hP : va_P G.1 vwCl [(r, .inr (0, [.ref h, .ref od, .ref ow, .ref ol, .ref oq, .ref r1, .ref r2, .ref r3, .ref r4, .ref r5, .ref r6, .ref r7, .int flg])), (h, .inr (5, [.ref k0, .ref k1, .ref k2, .ref k3, .int (nI pv), .int (nI pn)])), (r1, .inl (G.2.2, 34, .inl cr)), (r2, .inl (G.2.2, 34, .inl cw)), (r3, .inl (G.2.1, 34, .inl (upd ch j ((ch j) ||| p2)))), (r4, .inl (G.2.1, 34, .inl cl)), (r5, .inl (G.2.1, 272, .inl cd)), (r6, .inl (G.2.1, 8, .inl cb))] H := hP
        have hD : va_D A [(r, .inr (0, [.ref h, .ref od, .ref ow, .ref ol, .ref oq, .ref r1, .ref r2, .ref r3, .ref r4, .ref r5, .ref r6, .ref r7, .int flg])), (h, .inr (5, [.ref k0, .ref k1, .ref k2, .ref k3, .int (nI pv), .int (nI pn)])), (r1, .inl (G.2.2, 34, .inl cr)), (r2, .inl (G.2.2, 34, .inl cw)), (r3, .inl (G.2.1, 34, .inl (upd ch j ((ch j) ||| p2)))), (r4, .inl (G.2.1, 34, .inl cl)), (r5, .inl (G.2.1, 272, .inl cd)), (r6, .inl (G.2.1, 8, .inl cb))] := hD
        refine lv_aload_n hx hb dX0_comeTo_64 rfl (lv_at hl 1 rfl) ?_
        refine va_get (D := G.1) (ci := 0) (v := .ref r4) (C := RX0) (T := TX0) (N := 13) hx hb hts owX0 hown hK.1 hP 0 rfl rfl 8 (by decide) (bw1 (w := Cond.fieldLink RX0 56 "DropflagMill$Check" "canLack" "[I") hts 3 rfl) (fun _ h9 => h9) rfl dX0_comeTo_65 ?_
        refine lv_iload_n hx hb dX0_comeTo_68 rfl (lv_at hl 2 rfl) ?_
        refine lv_dup2_11 hx hb dX0_comeTo_69 rfl rfl ?_
        refine va_iald hx hb hK.1 hP 5 0 rfl rfl (i := nI j) (vp_in_nI (n := j) (by omega) (by omega)) dX0_comeTo_70 ?_
        rw [show (nI j : Int32).toNatClampNeg = j from nI_clamp (n := j) (by omega)]
        refine lv_iload_n hx hb dX0_comeTo_71 rfl (lv_at hl 4 rfl) ?_
        refine lv_ior hx hb dX0_comeTo_72 ?_
        refine va_iast hx hb hK.1 hP hD hS 5 0 rfl rfl (i := nI j) (vp_in_nI (n := j) (by omega) (by omega)) dX0_comeTo_73 (fun H locs hP hD hS => ?_)
        rw [show (nI j : Int32).toNatClampNeg = j from nI_clamp (n := j) (by omega)] at hP hD
        have hP : va_P G.1 vwCl [(r, .inr (0, [.ref h, .ref od, .ref ow, .ref ol, .ref oq, .ref r1, .ref r2, .ref r3, .ref r4, .ref r5, .ref r6, .ref r7, .int flg])), (h, .inr (5, [.ref k0, .ref k1, .ref k2, .ref k3, .int (nI pv), .int (nI pn)])), (r1, .inl (G.2.2, 34, .inl cr)), (r2, .inl (G.2.2, 34, .inl cw)), (r3, .inl (G.2.1, 34, .inl (upd ch j ((ch j) ||| p2)))), (r4, .inl (G.2.1, 34, .inl (upd cl j ((cl j) ||| p3)))), (r5, .inl (G.2.1, 272, .inl cd)), (r6, .inl (G.2.1, 8, .inl cb))] H := hP
        have hD : va_D A [(r, .inr (0, [.ref h, .ref od, .ref ow, .ref ol, .ref oq, .ref r1, .ref r2, .ref r3, .ref r4, .ref r5, .ref r6, .ref r7, .int flg])), (h, .inr (5, [.ref k0, .ref k1, .ref k2, .ref k3, .int (nI pv), .int (nI pn)])), (r1, .inl (G.2.2, 34, .inl cr)), (r2, .inl (G.2.2, 34, .inl cw)), (r3, .inl (G.2.1, 34, .inl (upd ch j ((ch j) ||| p2)))), (r4, .inl (G.2.1, 34, .inl (upd cl j ((cl j) ||| p3)))), (r5, .inl (G.2.1, 272, .inl cd)), (r6, .inl (G.2.1, 8, .inl cb))] := hD
        refine lv_iconst (v := 0) hx hb dX0_comeTo_74 (by decide) ?_
        refine lv_istore (lv' := [(5, .int 0), (4, .int 1), (0, .ref r), (1, .int (nI j)), (2, .int p2), (3, .int p3)]) hx hb dX0_comeTo_75 hl (by decide) rfl (fun ls hl => ?_)
        have hB0 : sxBv G yX0_comeTo wdX0_comeTo cX0_comeTo 7  p s m args meth c := ⟨hx, hb, hr, hml, hown, hlk, hts, hK⟩
        exact l_X0_comeTo_L77 l G r h od ow ol oq r1 r2 r3 r4 r5 r6 r7 flg k0 k1 k2 k3 pv pn cr cw ch cl cb p2 p3 j hn hv hj nj   hB0 A hA _  9 1 0 cd (Nat.zero_le _) (by omega) (by simp only [s_X0_comeTo, nI_clamp hj, if_neg c1, if_neg c2, if_neg c8]) _ _ hP hD hS ls (lv_sub hl [2, 3, 4, 5, 1, 0] rfl)
      · refine lv_iload_n hx hb dX0_comeTo_34 rfl (lv_at hl 3 rfl) ?_
        refine lv_aload_n hx hb dX0_comeTo_35 rfl (lv_at hl 0 rfl) ?_
        refine va_get (D := G.1) (ci := 0) (v := .ref r4) (C := RX0) (T := TX0) (N := 13) hx hb hts owX0 hown hK.1 hP 0 rfl rfl 8 (by decide) (bw1 (w := Cond.fieldLink RX0 56 "DropflagMill$Check" "canLack" "[I") hts 3 rfl) (fun _ h9 => h9) rfl dX0_comeTo_36 ?_
        refine lv_iload_n hx hb dX0_comeTo_39 rfl (lv_at hl 1 rfl) ?_
        refine va_iald hx hb hK.1 hP 5 0 rfl rfl (i := nI j) (vp_in_nI (n := j) (by omega) (by omega)) dX0_comeTo_40 ?_
        rw [show (nI j : Int32).toNatClampNeg = j from nI_clamp (n := j) (by omega)]
        refine lv_iconst (v := (-1)) hx hb dX0_comeTo_41 (by decide) ?_
        refine lv_ixor hx hb dX0_comeTo_42 ?_
        refine lv_iand hx hb dX0_comeTo_43 ?_
        refine lv_if_eq (tgt := 51) hx hb dX0_comeTo_44 (by decide) (fun c9 => ?_) (fun c9 => ?_)
        · refine lv_iconst (v := 0) hx hb dX0_comeTo_51 (by decide) ?_
          refine lv_istore (lv' := [(4, .int 0), (0, .ref r), (1, .int (nI j)), (2, .int p2), (3, .int p3)]) hx hb dX0_comeTo_52 hl (by decide) rfl (fun ls hl => ?_)
          refine lv_aload_n hx hb dX0_comeTo_54 rfl (lv_at hl 1 rfl) ?_
          refine va_get (D := G.1) (ci := 0) (v := .ref r3) (C := RX0) (T := TX0) (N := 13) hx hb hts owX0 hown hK.1 hP 0 rfl rfl 7 (by decide) (bw1 (w := Cond.fieldLink RX0 52 "DropflagMill$Check" "canHave" "[I") hts 2 rfl) (fun _ h9 => h9) rfl dX0_comeTo_55 ?_
          refine lv_iload_n hx hb dX0_comeTo_58 rfl (lv_at hl 2 rfl) ?_
          refine lv_dup2_11 hx hb dX0_comeTo_59 rfl rfl ?_
          refine va_iald hx hb hK.1 hP 4 0 rfl rfl (i := nI j) (vp_in_nI (n := j) (by omega) (by omega)) dX0_comeTo_60 ?_
          rw [show (nI j : Int32).toNatClampNeg = j from nI_clamp (n := j) (by omega)]
          refine lv_iload_n hx hb dX0_comeTo_61 rfl (lv_at hl 3 rfl) ?_
          refine lv_ior hx hb dX0_comeTo_62 ?_
          refine va_iast hx hb hK.1 hP hD hS 4 0 rfl rfl (i := nI j) (vp_in_nI (n := j) (by omega) (by omega)) dX0_comeTo_63 (fun H locs hP hD hS => ?_)
          rw [show (nI j : Int32).toNatClampNeg = j from nI_clamp (n := j) (by omega)] at hP hD
          have hP : va_P G.1 vwCl [(r, .inr (0, [.ref h, .ref od, .ref ow, .ref ol, .ref oq, .ref r1, .ref r2, .ref r3, .ref r4, .ref r5, .ref r6, .ref r7, .int flg])), (h, .inr (5, [.ref k0, .ref k1, .ref k2, .ref k3, .int (nI pv), .int (nI pn)])), (r1, .inl (G.2.2, 34, .inl cr)), (r2, .inl (G.2.2, 34, .inl cw)), (r3, .inl (G.2.1, 34, .inl (upd ch j ((ch j) ||| p2)))), (r4, .inl (G.2.1, 34, .inl cl)), (r5, .inl (G.2.1, 272, .inl cd)), (r6, .inl (G.2.1, 8, .inl cb))] H := hP
          have hD : va_D A [(r, .inr (0, [.ref h, .ref od, .ref ow, .ref ol, .ref oq, .ref r1, .ref r2, .ref r3, .ref r4, .ref r5, .ref r6, .ref r7, .int flg])), (h, .inr (5, [.ref k0, .ref k1, .ref k2, .ref k3, .int (nI pv), .int (nI pn)])), (r1, .inl (G.2.2, 34, .inl cr)), (r2, .inl (G.2.2, 34, .inl cw)), (r3, .inl (G.2.1, 34, .inl (upd ch j ((ch j) ||| p2)))), (r4, .inl (G.2.1, 34, .inl cl)), (r5, .inl (G.2.1, 272, .inl cd)), (r6, .inl (G.2.1, 8, .inl cb))] := hD
          refine lv_aload_n hx hb dX0_comeTo_64 rfl (lv_at hl 1 rfl) ?_
          refine va_get (D := G.1) (ci := 0) (v := .ref r4) (C := RX0) (T := TX0) (N := 13) hx hb hts owX0 hown hK.1 hP 0 rfl rfl 8 (by decide) (bw1 (w := Cond.fieldLink RX0 56 "DropflagMill$Check" "canLack" "[I") hts 3 rfl) (fun _ h9 => h9) rfl dX0_comeTo_65 ?_
          refine lv_iload_n hx hb dX0_comeTo_68 rfl (lv_at hl 2 rfl) ?_
          refine lv_dup2_11 hx hb dX0_comeTo_69 rfl rfl ?_
          refine va_iald hx hb hK.1 hP 5 0 rfl rfl (i := nI j) (vp_in_nI (n := j) (by omega) (by omega)) dX0_comeTo_70 ?_
          rw [show (nI j : Int32).toNatClampNeg = j from nI_clamp (n := j) (by omega)]
          refine lv_iload_n hx hb dX0_comeTo_71 rfl (lv_at hl 4 rfl) ?_
          refine lv_ior hx hb dX0_comeTo_72 ?_
          refine va_iast hx hb hK.1 hP hD hS 5 0 rfl rfl (i := nI j) (vp_in_nI (n := j) (by omega) (by omega)) dX0_comeTo_73 (fun H locs hP hD hS => ?_)
          rw [show (nI j : Int32).toNatClampNeg = j from nI_clamp (n := j) (by omega)] at hP hD
          have hP : va_P G.1 vwCl [(r, .inr (0, [.ref h, .ref od, .ref ow, .ref ol, .ref oq, .ref r1, .ref r2, .ref r3, .ref r4, .ref r5, .ref r6, .ref r7, .int flg])), (h, .inr (5, [.ref k0, .ref k1, .ref k2, .ref k3, .int (nI pv), .int (nI pn)])), (r1, .inl (G.2.2, 34, .inl cr)), (r2, .inl (G.2.2, 34, .inl cw)), (r3, .inl (G.2.1, 34, .inl (upd ch j ((ch j) ||| p2)))), (r4, .inl (G.2.1, 34, .inl (upd cl j ((cl j) ||| p3)))), (r5, .inl (G.2.1, 272, .inl cd)), (r6, .inl (G.2.1, 8, .inl cb))] H := hP
          have hD : va_D A [(r, .inr (0, [.ref h, .ref od, .ref ow, .ref ol, .ref oq, .ref r1, .ref r2, .ref r3, .ref r4, .ref r5, .ref r6, .ref r7, .int flg])), (h, .inr (5, [.ref k0, .ref k1, .ref k2, .ref k3, .int (nI pv), .int (nI pn)])), (r1, .inl (G.2.2, 34, .inl cr)), (r2, .inl (G.2.2, 34, .inl cw)), (r3, .inl (G.2.1, 34, .inl (upd ch j ((ch j) ||| p2)))), (r4, .inl (G.2.1, 34, .inl (upd cl j ((cl j) ||| p3)))), (r5, .inl (G.2.1, 272, .inl cd)), (r6, .inl (G.2.1, 8, .inl cb))] := hD
          refine lv_iconst (v := 0) hx hb dX0_comeTo_74 (by decide) ?_
          refine lv_istore (lv' := [(5, .int 0), (4, .int 0), (0, .ref r), (1, .int (nI j)), (2, .int p2), (3, .int p3)]) hx hb dX0_comeTo_75 hl (by decide) rfl (fun ls hl => ?_)
          have hB0 : sxBv G yX0_comeTo wdX0_comeTo cX0_comeTo 7  p s m args meth c := ⟨hx, hb, hr, hml, hown, hlk, hts, hK⟩
          exact l_X0_comeTo_L77 l G r h od ow ol oq r1 r2 r3 r4 r5 r6 r7 flg k0 k1 k2 k3 pv pn cr cw ch cl cb p2 p3 j hn hv hj nj   hB0 A hA _  9 0 0 cd (Nat.zero_le _) (by omega) (by simp only [s_X0_comeTo, nI_clamp hj, if_neg c1, if_neg c2, if_pos c8, if_pos c9]) _ _ hP hD hS ls (lv_sub hl [2, 3, 4, 5, 1, 0] rfl)
        · refine lv_iconst (v := 1) hx hb dX0_comeTo_47 (by decide) ?_
          refine lv_goto (tgt := 52) hx hb dX0_comeTo_48 (by decide) ?_
          refine lv_istore (lv' := [(4, .int 1), (0, .ref r), (1, .int (nI j)), (2, .int p2), (3, .int p3)]) hx hb dX0_comeTo_52 hl (by decide) rfl (fun ls hl => ?_)
          refine lv_aload_n hx hb dX0_comeTo_54 rfl (lv_at hl 1 rfl) ?_
          refine va_get (D := G.1) (ci := 0) (v := .ref r3) (C := RX0) (T := TX0) (N := 13) hx hb hts owX0 hown hK.1 hP 0 rfl rfl 7 (by decide) (bw1 (w := Cond.fieldLink RX0 52 "DropflagMill$Check" "canHave" "[I") hts 2 rfl) (fun _ h9 => h9) rfl dX0_comeTo_55 ?_
          refine lv_iload_n hx hb dX0_comeTo_58 rfl (lv_at hl 2 rfl) ?_
          refine lv_dup2_11 hx hb dX0_comeTo_59 rfl rfl ?_
          refine va_iald hx hb hK.1 hP 4 0 rfl rfl (i := nI j) (vp_in_nI (n := j) (by omega) (by omega)) dX0_comeTo_60 ?_
          rw [show (nI j : Int32).toNatClampNeg = j from nI_clamp (n := j) (by omega)]
          refine lv_iload_n hx hb dX0_comeTo_61 rfl (lv_at hl 3 rfl) ?_
          refine lv_ior hx hb dX0_comeTo_62 ?_
          refine va_iast hx hb hK.1 hP hD hS 4 0 rfl rfl (i := nI j) (vp_in_nI (n := j) (by omega) (by omega)) dX0_comeTo_63 (fun H locs hP hD hS => ?_)
          rw [show (nI j : Int32).toNatClampNeg = j from nI_clamp (n := j) (by omega)] at hP hD
          have hP : va_P G.1 vwCl [(r, .inr (0, [.ref h, .ref od, .ref ow, .ref ol, .ref oq, .ref r1, .ref r2, .ref r3, .ref r4, .ref r5, .ref r6, .ref r7, .int flg])), (h, .inr (5, [.ref k0, .ref k1, .ref k2, .ref k3, .int (nI pv), .int (nI pn)])), (r1, .inl (G.2.2, 34, .inl cr)), (r2, .inl (G.2.2, 34, .inl cw)), (r3, .inl (G.2.1, 34, .inl (upd ch j ((ch j) ||| p2)))), (r4, .inl (G.2.1, 34, .inl cl)), (r5, .inl (G.2.1, 272, .inl cd)), (r6, .inl (G.2.1, 8, .inl cb))] H := hP
          have hD : va_D A [(r, .inr (0, [.ref h, .ref od, .ref ow, .ref ol, .ref oq, .ref r1, .ref r2, .ref r3, .ref r4, .ref r5, .ref r6, .ref r7, .int flg])), (h, .inr (5, [.ref k0, .ref k1, .ref k2, .ref k3, .int (nI pv), .int (nI pn)])), (r1, .inl (G.2.2, 34, .inl cr)), (r2, .inl (G.2.2, 34, .inl cw)), (r3, .inl (G.2.1, 34, .inl (upd ch j ((ch j) ||| p2)))), (r4, .inl (G.2.1, 34, .inl cl)), (r5, .inl (G.2.1, 272, .inl cd)), (r6, .inl (G.2.1, 8, .inl cb))] := hD
          refine lv_aload_n hx hb dX0_comeTo_64 rfl (lv_at hl 1 rfl) ?_
          refine va_get (D := G.1) (ci := 0) (v := .ref r4) (C := RX0) (T := TX0) (N := 13) hx hb hts owX0 hown hK.1 hP 0 rfl rfl 8 (by decide) (bw1 (w := Cond.fieldLink RX0 56 "DropflagMill$Check" "canLack" "[I") hts 3 rfl) (fun _ h9 => h9) rfl dX0_comeTo_65 ?_
          refine lv_iload_n hx hb dX0_comeTo_68 rfl (lv_at hl 2 rfl) ?_
          refine lv_dup2_11 hx hb dX0_comeTo_69 rfl rfl ?_
          refine va_iald hx hb hK.1 hP 5 0 rfl rfl (i := nI j) (vp_in_nI (n := j) (by omega) (by omega)) dX0_comeTo_70 ?_
          rw [show (nI j : Int32).toNatClampNeg = j from nI_clamp (n := j) (by omega)]
          refine lv_iload_n hx hb dX0_comeTo_71 rfl (lv_at hl 4 rfl) ?_
          refine lv_ior hx hb dX0_comeTo_72 ?_
          refine va_iast hx hb hK.1 hP hD hS 5 0 rfl rfl (i := nI j) (vp_in_nI (n := j) (by omega) (by omega)) dX0_comeTo_73 (fun H locs hP hD hS => ?_)
          rw [show (nI j : Int32).toNatClampNeg = j from nI_clamp (n := j) (by omega)] at hP hD
          have hP : va_P G.1 vwCl [(r, .inr (0, [.ref h, .ref od, .ref ow, .ref ol, .ref oq, .ref r1, .ref r2, .ref r3, .ref r4, .ref r5, .ref r6, .ref r7, .int flg])), (h, .inr (5, [.ref k0, .ref k1, .ref k2, .ref k3, .int (nI pv), .int (nI pn)])), (r1, .inl (G.2.2, 34, .inl cr)), (r2, .inl (G.2.2, 34, .inl cw)), (r3, .inl (G.2.1, 34, .inl (upd ch j ((ch j) ||| p2)))), (r4, .inl (G.2.1, 34, .inl (upd cl j ((cl j) ||| p3)))), (r5, .inl (G.2.1, 272, .inl cd)), (r6, .inl (G.2.1, 8, .inl cb))] H := hP
          have hD : va_D A [(r, .inr (0, [.ref h, .ref od, .ref ow, .ref ol, .ref oq, .ref r1, .ref r2, .ref r3, .ref r4, .ref r5, .ref r6, .ref r7, .int flg])), (h, .inr (5, [.ref k0, .ref k1, .ref k2, .ref k3, .int (nI pv), .int (nI pn)])), (r1, .inl (G.2.2, 34, .inl cr)), (r2, .inl (G.2.2, 34, .inl cw)), (r3, .inl (G.2.1, 34, .inl (upd ch j ((ch j) ||| p2)))), (r4, .inl (G.2.1, 34, .inl (upd cl j ((cl j) ||| p3)))), (r5, .inl (G.2.1, 272, .inl cd)), (r6, .inl (G.2.1, 8, .inl cb))] := hD
          refine lv_iconst (v := 0) hx hb dX0_comeTo_74 (by decide) ?_
          refine lv_istore (lv' := [(5, .int 0), (4, .int 1), (0, .ref r), (1, .int (nI j)), (2, .int p2), (3, .int p3)]) hx hb dX0_comeTo_75 hl (by decide) rfl (fun ls hl => ?_)
          have hB0 : sxBv G yX0_comeTo wdX0_comeTo cX0_comeTo 7  p s m args meth c := ⟨hx, hb, hr, hml, hown, hlk, hts, hK⟩
          exact l_X0_comeTo_L77 l G r h od ow ol oq r1 r2 r3 r4 r5 r6 r7 flg k0 k1 k2 k3 pv pn cr cw ch cl cb p2 p3 j hn hv hj nj   hB0 A hA _  9 1 0 cd (Nat.zero_le _) (by omega) (by simp only [s_X0_comeTo, nI_clamp hj, if_neg c1, if_neg c2, if_pos c8, if_neg c9]) _ _ hP hD hS ls (lv_sub hl [2, 3, 4, 5, 1, 0] rfl)
  · exact sx_retV (u := (cr, cw, ch, cl, cd)) hx hb hr hlk hK hP hD hS (by simp only [s_X0_comeTo, if_pos c1]) dX0_comeTo_11
