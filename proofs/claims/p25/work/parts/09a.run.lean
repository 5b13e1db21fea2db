abbrev wdX6_countLeaked : List Cond := Cond.code yX6_countLeaked cX6_countLeaked 1 (some .int) :: bwC
def s_X6_countLeaked (bxm : Int32) (bxd : Int32) (nm : Nat) (ng : Int32) : Int32 := ((bxm + (nI nm)) - bxd) - ng
set_option maxHeartbeats 4000000 in
set_option maxRecDepth 100000 in
theorem c_X6_countLeaked (l : Launch) (G : sxG) (x : Nat) (h : Nat) (ow : Nat) (os : Nat) (on : Nat) (v1 : Nat) (v2 : Nat) (v3 : Nat) (v4 : Nat) (okd : Int32) (oct : Nat) (hre : Int32) (oco : Int32) (stp : Nat) (bxm : Int32) (bxd : Int32) (pnl : Int32) (iab : Int32) (u0 : Nat) (u1 : Nat) (u2 : Nat) (u3 : Nat) (nm : Nat) (ng : Int32)  : sxM l yX6_countLeaked wdX6_countLeaked 0 0 G [(x, .inr (6, [.ref h, .ref ow, .ref os, .ref on, .ref v1, .ref v2, .ref v3, .ref v4, .int okd, .int (nI oct), .int hre, .int oco, .int (nI stp), .int bxm, .int bxd, .int pnl, .int iab])), (on, .inr (4, [.ref u0, .ref u1, .ref u2, .ref u3, .int (nI nm), .int ng]))] [.ref x] (fun r => r = s_X6_countLeaked bxm bxd nm ng) := by
  refine sxM.of (cc := cX6_countLeaked) (maxL := 1) (by decide) rfl (Nat.le_of_ble_eq_true rfl) ?_
  intro p e s m args below meth c ⟨hx, hb, hr, hml, hown, hlk, hts, hK⟩ hP ls hl
  have hl : lv_has ls 1 [(0, .ref x)] := hl
  refine lv_aload_n hx hb dX6_countLeaked_0 rfl (lv_at hl 0 rfl) ?_
  refine va_get (D := G.1) (ci := 6) (v := .int bxm) (C := RX6) (T := TX6) (N := 17) hx hb hts owX6 hown hK.1 hP 0 rfl rfl 13 (by decide) (bw6 (w := Cond.fieldLink RX6 63 "DropflagMill$Run" "boxesMade" "I") hts 50 rfl) (fun _ h9 => h9) rfl dX6_countLeaked_1 ?_
  refine lv_aload_n hx hb dX6_countLeaked_4 rfl (lv_at hl 0 rfl) ?_
  refine va_get (D := G.1) (ci := 6) (v := .ref on) (C := RX6) (T := TX6) (N := 17) hx hb hts owX6 hown hK.1 hP 0 rfl rfl 3 (by decide) (bw6 (w := Cond.fieldLink RX6 29 "DropflagMill$Run" "nodes" "LDropflagMill$Nodes;") hts 40 rfl) (fun _ h9 => h9) rfl dX6_countLeaked_5 ?_
  refine va_get (D := G.1) (ci := 4) (v := .int (nI nm)) (C := RX4) (T := TX4) (N := 6) hx hb hts owX4 hown hK.1 hP 1 rfl rfl 4 (by decide) (bw7 (w := Cond.fieldLink RX6 76 "DropflagMill$Nodes" "made" "I") hts 0 rfl) (fun _ h9 => h9) rfl dX6_countLeaked_8 ?_
  refine lv_iadd hx hb dX6_countLeaked_11 ?_
  refine lv_aload_n hx hb dX6_countLeaked_12 rfl (lv_at hl 0 rfl) ?_
  refine va_get (D := G.1) (ci := 6) (v := .int bxd) (C := RX6) (T := TX6) (N := 17) hx hb hts owX6 hown hK.1 hP 0 rfl rfl 14 (by decide) (bw6 (w := Cond.fieldLink RX6 66 "DropflagMill$Run" "boxesDropped" "I") hts 51 rfl) (fun _ h9 => h9) rfl dX6_countLeaked_13 ?_
  refine lv_isub hx hb dX6_countLeaked_16 ?_
  refine lv_aload_n hx hb dX6_countLeaked_17 rfl (lv_at hl 0 rfl) ?_
  refine va_get (D := G.1) (ci := 6) (v := .ref on) (C := RX6) (T := TX6) (N := 17) hx hb hts owX6 hown hK.1 hP 0 rfl rfl 3 (by decide) (bw6 (w := Cond.fieldLink RX6 29 "DropflagMill$Run" "nodes" "LDropflagMill$Nodes;") hts 40 rfl) (fun _ h9 => h9) rfl dX6_countLeaked_18 ?_
  refine va_get (D := G.1) (ci := 4) (v := .int ng) (C := RX4) (T := TX4) (N := 6) hx hb hts owX4 hown hK.1 hP 1 rfl rfl 5 (by decide) (bw7 (w := Cond.fieldLink RX6 79 "DropflagMill$Nodes" "gone" "I") hts 1 rfl) (fun _ h9 => h9) rfl dX6_countLeaked_21 ?_
  refine lv_isub hx hb dX6_countLeaked_24 ?_
  exact sx_ret hx hb hr hlk rfl (by simp only [s_X6_countLeaked]) dX6_countLeaked_25

abbrev wdX6_firstLeaf : List Cond := Cond.code yX6_firstLeaf cX6_firstLeaf 2 (some .int) :: bwC
def s_X6_firstLeaf (pv : Nat) (fk : Nat → Int32) (p1 : Int32) : Int32 := if (s_X5_kindAt pv fk p1) = 2 then p1 + 1 else p1
set_option maxHeartbeats 4000000 in
set_option maxRecDepth 100000 in
theorem c_X6_firstLeaf (l : Launch) (G : sxG) (x : Nat) (h : Nat) (ow : Nat) (os : Nat) (on : Nat) (v1 : Nat) (v2 : Nat) (v3 : Nat) (v4 : Nat) (okd : Int32) (oct : Nat) (hre : Int32) (oco : Int32) (stp : Nat) (bxm : Int32) (bxd : Int32) (pnl : Int32) (iab : Int32) (k0 : Nat) (k1 : Nat) (k2 : Nat) (k3 : Nat) (pv : Nat) (pn : Nat) (fk : Nat → Int32) (p1 : Int32) (hv : pv ≤ 8) : sxM l yX6_firstLeaf wdX6_firstLeaf 1 22 G [(x, .inr (6, [.ref h, .ref ow, .ref os, .ref on, .ref v1, .ref v2, .ref v3, .ref v4, .int okd, .int (nI oct), .int hre, .int oco, .int (nI stp), .int bxm, .int bxd, .int pnl, .int iab])), (h, .inr (5, [.ref k0, .ref k1, .ref k2, .ref k3, .int (nI pv), .int (nI pn)])), (k0, .inl (G.2.1, 8, .inl fk))] [.ref x, .int p1] (fun r => r = s_X6_firstLeaf pv fk p1) := by
  refine sxM.of (cc := cX6_firstLeaf) (maxL := 2) (by decide) rfl (Nat.le_of_ble_eq_true rfl) ?_
  intro p e s m args below meth c ⟨hx, hb, hr, hml, hown, hlk, hts, hK⟩ hP ls hl
  have hl : lv_has ls 2 [(0, .ref x), (1, .int p1)] := hl
  refine lv_aload_n hx hb dX6_firstLeaf_0 rfl (lv_at hl 0 rfl) ?_
  refine va_get (D := G.1) (ci := 6) (v := .ref h) (C := RX6) (T := TX6) (N := 17) hx hb hts owX6 hown hK.1 hP 0 rfl rfl 0 (by decide) (bw6 (w := Cond.fieldLink RX6 9 "DropflagMill$Run" "program" "LDropflagMill$Program;") hts 32 rfl) (fun _ h9 => h9) rfl dX6_firstLeaf_1 ?_
  refine lv_iload_n hx hb dX6_firstLeaf_4 rfl (lv_at hl 1 rfl) ?_
  refine sx_v (As := [.int p1]) (rest := []) hx hb hml hown hts (c_X5_kindAt l G h k0 k1 k2 k3 pv pn fk p1 (by omega)) 1 (sxGV (bi7 (w := Cond.methodLink RX6 187 yX5_kindAt) 9 rfl) (bi1 (w := Cond.instanceMethod yX5_kindAt) 51 rfl) (bi1 (w := Cond.selects RX5 yX5_kindAt yX5_kindAt) 52 rfl) (bi1 (w := Cond.initialized RX5) 30 rfl) (bi1 (w := Cond.code yX5_kindAt cX5_kindAt 3 (some .int)) 46 rfl)) rfl (by decide +kernel) ⟨Nat.le_of_ble_eq_true rfl, Nat.le_of_ble_eq_true rfl⟩ hK hP [1, 2] rfl 0 rfl rfl rfl hl rfl (Nat.le_of_ble_eq_true rfl) ⟨Nat.zero_le _, Nat.zero_le _⟩ dX6_firstLeaf_5 (fun r er => ?_)
  subst er
  refine lv_iconst (v := 2) hx hb dX6_firstLeaf_8 (by decide) ?_
  refine lv_icmp_ne (tgt := 18) hx hb dX6_firstLeaf_9 (by decide) (fun c1 => ?_) (fun c1 => ?_)
  · refine lv_iload_n hx hb dX6_firstLeaf_18 rfl (lv_at hl 1 rfl) ?_
    exact sx_ret hx hb hr hlk rfl (by simp only [s_X6_firstLeaf, if_neg c1]) dX6_firstLeaf_19
  · refine lv_iload_n hx hb dX6_firstLeaf_12 rfl (lv_at hl 1 rfl) ?_
    refine lv_iconst (v := 1) hx hb dX6_firstLeaf_13 (by decide) ?_
    refine lv_iadd hx hb dX6_firstLeaf_14 ?_
    refine lv_goto (tgt := 19) hx hb dX6_firstLeaf_15 (by decide) ?_
    exact sx_ret hx hb hr hlk rfl (by simp only [s_X6_firstLeaf, if_pos c1]) dX6_firstLeaf_19

abbrev wdX6_valueAt : List Cond := Cond.code yX6_valueAt cX6_valueAt 2 (some .int) :: bwC
def s_X6_valueAt (bv : Nat → Int32) (p1 : Int32) : Int32 := if (s_X9_isIndexOf 24 p1) = 0 then 0 else bv p1.toNatClampNeg
set_option maxHeartbeats 4000000 in
set_option maxRecDepth 100000 in
theorem c_X6_valueAt (l : Launch) (G : sxG) (x : Nat) (h : Nat) (ow : Nat) (os : Nat) (on : Nat) (v1 : Nat) (v2 : Nat) (v3 : Nat) (v4 : Nat) (okd : Int32) (oct : Nat) (hre : Int32) (oco : Int32) (stp : Nat) (bxm : Int32) (bxd : Int32) (pnl : Int32) (iab : Int32) (bv : Nat → Int32) (p1 : Int32)  : sxM l yX6_valueAt wdX6_valueAt 1 21 G [(x, .inr (6, [.ref h, .ref ow, .ref os, .ref on, .ref v1, .ref v2, .ref v3, .ref v4, .int okd, .int (nI oct), .int hre, .int oco, .int (nI stp), .int bxm, .int bxd, .int pnl, .int iab])), (v2, .inl (G.2.1, 24, .inl bv))] [.ref x, .int p1] (fun r => r = s_X6_valueAt bv p1) := by
  refine sxM.of (cc := cX6_valueAt) (maxL := 2) (by decide) rfl (Nat.le_of_ble_eq_true rfl) ?_
  intro p e s m args below meth c ⟨hx, hb, hr, hml, hown, hlk, hts, hK⟩ hP ls hl
  have hl : lv_has ls 2 [(0, .ref x), (1, .int p1)] := hl
  refine lv_aload_n hx hb dX6_valueAt_0 rfl (lv_at hl 0 rfl) ?_
  refine va_get (D := G.1) (ci := 6) (v := .ref v2) (C := RX6) (T := TX6) (N := 17) hx hb hts owX6 hown hK.1 hP 0 rfl rfl 5 (by decide) (bw6 (w := Cond.fieldLink RX6 37 "DropflagMill$Run" "value" "[I") hts 42 rfl) (fun _ h9 => h9) rfl dX6_valueAt_1 ?_
  refine lv_iload_n hx hb dX6_valueAt_4 rfl (lv_at hl 1 rfl) ?_
  refine sx_sn (As := [.ref v2, .int p1]) (rest := []) hx hb hml hown hts (c_X9_isIndexOf l G v2 24 bv p1 ) 2 (sxGC (bi2 (w := Cond.code yX9_isIndexOf cX9_isIndexOf 2 (some .boolean)) 17 rfl)) rfl (hK.2.at 10 rfl) (List.mem_cons_of_mem _ (bi1 (w := Cond.initialized RX9) 58 rfl)) (List.mem_cons_of_mem _ (bi2 (w := Cond.static yX9_isIndexOf) 21 rfl)) (by decide +kernel) ⟨Nat.le_of_ble_eq_true rfl, Nat.le_of_ble_eq_true rfl⟩ hK hP [1] rfl rfl hl rfl (Nat.le_of_ble_eq_true rfl) ⟨Nat.zero_le _, Nat.zero_le _⟩ dX6_valueAt_5 (fun r er => ?_)
  subst er
  refine lv_if_eq (tgt := 20) hx hb dX6_valueAt_8 (by decide) (fun c1 => ?_) (fun c1 => ?_)
  · refine lv_iconst (v := 0) hx hb dX6_valueAt_20 (by decide) ?_
    exact sx_ret hx hb hr hlk rfl (by simp only [s_X6_valueAt, if_pos c1]) dX6_valueAt_21
  · refine lv_aload_n hx hb dX6_valueAt_11 rfl (lv_at hl 0 rfl) ?_
    refine va_get (D := G.1) (ci := 6) (v := .ref v2) (C := RX6) (T := TX6) (N := 17) hx hb hts owX6 hown hK.1 hP 0 rfl rfl 5 (by decide) (bw6 (w := Cond.fieldLink RX6 37 "DropflagMill$Run" "value" "[I") hts 42 rfl) (fun _ h9 => h9) rfl dX6_valueAt_12 ?_
    refine lv_iload_n hx hb dX6_valueAt_15 rfl (lv_at hl 1 rfl) ?_
    refine va_iald hx hb hK.1 hP 1 0 rfl rfl (i := p1) (sx_in_ix (by decide) c1) dX6_valueAt_16 ?_
    refine lv_goto (tgt := 21) hx hb dX6_valueAt_17 (by decide) ?_
    exact sx_ret hx hb hr hlk rfl (by simp only [s_X6_valueAt, if_neg c1]) dX6_valueAt_21

abbrev wdX6_setValue : List Cond := Cond.code yX6_setValue cX6_setValue 3 none :: bwC
def s_X6_setValue (bh : Nat → Int32) (bv : Nat → Int32) (p1 : Int32) (p2 : Int32) : (Nat → Int32) × (Nat → Int32) := if p1 < 0 then (bh, bv) else (if 24 ≤ p1 then (bh, bv) else (upd bh p1.toNatClampNeg 1, upd bv p1.toNatClampNeg p2))
set_option maxHeartbeats 4000000 in
set_option maxRecDepth 100000 in
theorem c_X6_setValue (l : Launch) (G : sxG) (x : Nat) (h : Nat) (ow : Nat) (os : Nat) (on : Nat) (v1 : Nat) (v2 : Nat) (v3 : Nat) (v4 : Nat) (okd : Int32) (oct : Nat) (hre : Int32) (oco : Int32) (stp : Nat) (bxm : Int32) (bxd : Int32) (pnl : Int32) (iab : Int32) (bh : Nat → Int32) (bv : Nat → Int32) (p1 : Int32) (p2 : Int32)  : sxV l yX6_setValue wdX6_setValue 0 0 G [(x, .inr (6, [.ref h, .ref ow, .ref os, .ref on, .ref v1, .ref v2, .ref v3, .ref v4, .int okd, .int (nI oct), .int hre, .int oco, .int (nI stp), .int bxm, .int bxd, .int pnl, .int iab])), (v1, .inl (G.2.2, 24, .inl bh)), (v2, .inl (G.2.1, 24, .inl bv))] [.ref x, .int p1, .int p2] (fun u : (Nat → Int32) × (Nat → Int32) => ([(x, .inr (6, [.ref h, .ref ow, .ref os, .ref on, .ref v1, .ref v2, .ref v3, .ref v4, .int okd, .int (nI oct), .int hre, .int oco, .int (nI stp), .int bxm, .int bxd, .int pnl, .int iab])), (v1, .inl (G.2.2, 24, .inl u.1)), (v2, .inl (G.2.1, 24, .inl u.2))] : va_W)) (s_X6_setValue bh bv p1 p2) := by
  refine sxV.of (cc := cX6_setValue) (maxL := 3) (by decide) rfl (Nat.le_of_ble_eq_true rfl) ?_
  intro p e s m args below meth c ⟨hx, hb, hr, hml, hown, hlk, hts, hK⟩ A hA hP hD hS ls hl
  have hl : lv_has ls 3 [(0, .ref x), (1, .int p1), (2, .int p2)] := hl
  refine lv_iload_n hx hb dX6_setValue_0 rfl (lv_at hl 1 rfl) ?_
  refine lv_if_lt (tgt := 24) hx hb dX6_setValue_1 (by decide) (fun c1 => ?_) (fun c1 => ?_)
  · exact sx_retV (u := (bh, bv)) hx hb hr hlk hK hP hD hS (by simp only [s_X6_setValue, if_pos c1]) dX6_setValue_24
  · refine lv_iload_n hx hb dX6_setValue_4 rfl (lv_at hl 1 rfl) ?_
    refine lv_bipush (v := 24) hx hb dX6_setValue_5 (by decide) ?_
    refine lv_icmp_ge (tgt := 24) hx hb dX6_setValue_7 (by decide) (fun c2 => ?_) (fun c2 => ?_)
    · exact sx_retV (u := (bh, bv)) hx hb hr hlk hK hP hD hS (by simp only [s_X6_setValue, if_neg c1, if_pos c2]) dX6_setValue_24
    · refine lv_aload_n hx hb dX6_setValue_10 rfl (lv_at hl 0 rfl) ?_
      refine va_get (D := G.1) (ci := 6) (v := .ref v1) (C := RX6) (T := TX6) (N := 17) hx hb hts owX6 hown hK.1 hP 0 rfl rfl 4 (by decide) (bw6 (w := Cond.fieldLink RX6 33 "DropflagMill$Run" "has" "[Z") hts 41 rfl) (fun _ h9 => h9) rfl dX6_setValue_11 ?_
      refine lv_iload_n hx hb dX6_setValue_14 rfl (lv_at hl 1 rfl) ?_
      refine lv_iconst (v := 1) hx hb dX6_setValue_15 (by decide) ?_
      refine va_zast hx hb hK.1 hP hD hS 1 1 rfl rfl (i := p1) (sx_in_lt (by decide) ⟨24, Nat.le_refl _, rfl⟩ c1 c2) dX6_setValue_16 (fun H locs hP hD hS => ?_)
      have hP : va_P G.1 vwCl [(x, .inr (6, [.ref h, .ref ow, .ref os, .ref on, .ref v1, .ref v2, .ref v3, .ref v4, .int okd, .int (nI oct), .int hre, .int oco, .int (nI stp), .int bxm, .int bxd, .int pnl, .int iab])), (v1, .inl (G.2.2, 24, .inl (upd bh p1.toNatClampNeg 1))), (v2, .inl (G.2.1, 24, .inl bv))] H := hP
      have hD : va_D A [(x, .inr (6, [.ref h, .ref ow, .ref os, .ref on, .ref v1, .ref v2, .ref v3, .ref v4, .int okd, .int (nI oct), .int hre, .int oco, .int (nI stp), .int bxm, .int bxd, .int pnl, .int iab])), (v1, .inl (G.2.2, 24, .inl (upd bh p1.toNatClampNeg 1))), (v2, .inl (G.2.1, 24, .inl bv))] := hD
      refine lv_aload_n hx hb dX6_setValue_17 rfl (lv_at hl 0 rfl) ?_
      refine va_get (D := G.1) (ci := 6) (v := .ref v2) (C := RX6) (T := TX6) (N := 17) hx hb hts owX6 hown hK.1 hP 0 rfl rfl 5 (by decide) (bw6 (w := Cond.fieldLink RX6 37 "DropflagMill$Run" "value" "[I") hts 42 rfl) (fun _ h9 => h9) rfl dX6_setValue_18 ?_
      refine lv_iload_n hx hb dX6_setValue_21 rfl (lv_at hl 1 rfl) ?_
      refine lv_iload_n hx hb dX6_setValue_22 rfl (lv_at hl 2 rfl) ?_
      refine va_iast hx hb hK.1 hP hD hS 2 0 rfl rfl (i := p1) (sx_in_lt (by decide) ⟨24, Nat.le_refl _, rfl⟩ c1 c2) dX6_setValue_23 (fun H locs hP hD hS => ?_)
      have hP : va_P G.1 vwCl [(x, .inr (6, [.ref h, .ref ow, .ref os, .ref on, .ref v1, .ref v2, .ref v3, .ref v4, .int okd, .int (nI oct), .int hre, .int oco, .int (nI stp), .int bxm, .int bxd, .int pnl, .int iab])), (v1, .inl (G.2.2, 24, .inl (upd bh p1.toNatClampNeg 1))), (v2, .inl (G.2.1, 24, .inl (upd bv p1.toNatClampNeg p2)))] H := hP
      have hD : va_D A [(x, .inr (6, [.ref h, .ref ow, .ref os, .ref on, .ref v1, .ref v2, .ref v3, .ref v4, .int okd, .int (nI oct), .int hre, .int oco, .int (nI stp), .int bxm, .int bxd, .int pnl, .int iab])), (v1, .inl (G.2.2, 24, .inl (upd bh p1.toNatClampNeg 1))), (v2, .inl (G.2.1, 24, .inl (upd bv p1.toNatClampNeg p2)))] := hD
      exact sx_retV (u := (upd bh p1.toNatClampNeg 1, upd bv p1.toNatClampNeg p2)) hx hb hr hlk hK hP hD hS (by simp only [s_X6_setValue, if_neg c1, if_neg c2]) dX6_setValue_24

abbrev wdX6_setEmpty : List Cond := Cond.code yX6_setEmpty cX6_setEmpty 2 none :: bwC
def s_X6_setEmpty (bh : Nat → Int32) (p1 : Int32) : (Nat → Int32) := if p1 < 0 then bh else (if 24 ≤ p1 then bh else upd bh p1.toNatClampNeg 0)
set_option maxHeartbeats 4000000 in
set_option maxRecDepth 100000 in
theorem c_X6_setEmpty (l : Launch) (G : sxG) (x : Nat) (h : Nat) (ow : Nat) (os : Nat) (on : Nat) (v1 : Nat) (v2 : Nat) (v3 : Nat) (v4 : Nat) (okd : Int32) (oct : Nat) (hre : Int32) (oco : Int32) (stp : Nat) (bxm : Int32) (bxd : Int32) (pnl : Int32) (iab : Int32) (bh : Nat → Int32) (p1 : Int32)  : sxV l yX6_setEmpty wdX6_setEmpty 0 0 G [(x, .inr (6, [.ref h, .ref ow, .ref os, .ref on, .ref v1, .ref v2, .ref v3, .ref v4, .int okd, .int (nI oct), .int hre, .int oco, .int (nI stp), .int bxm, .int bxd, .int pnl, .int iab])), (v1, .inl (G.2.2, 24, .inl bh))] [.ref x, .int p1] (fun u : (Nat → Int32) => ([(x, .inr (6, [.ref h, .ref ow, .ref os, .ref on, .ref v1, .ref v2, .ref v3, .ref v4, .int okd, .int (nI oct), .int hre, .int oco, .int (nI stp), .int bxm, .int bxd, .int pnl, .int iab])), (v1, .inl (G.2.2, 24, .inl u))] : va_W)) (s_X6_setEmpty bh p1) := by
  refine sxV.of (cc := cX6_setEmpty) (maxL := 2) (by decide) rfl (Nat.le_of_ble_eq_true rfl) ?_
  intro p e s m args below meth c ⟨hx, hb, hr, hml, hown, hlk, hts, hK⟩ A hA hP hD hS ls hl
  have hl : lv_has ls 2 [(0, .ref x), (1, .int p1)] := hl
  refine lv_iload_n hx hb dX6_setEmpty_0 rfl (lv_at hl 1 rfl) ?_
  refine lv_if_lt (tgt := 17) hx hb dX6_setEmpty_1 (by decide) (fun c1 => ?_) (fun c1 => ?_)
  · exact sx_retV (u := bh) hx hb hr hlk hK hP hD hS (by simp only [s_X6_setEmpty, if_pos c1]) dX6_setEmpty_17
  · refine lv_iload_n hx hb dX6_setEmpty_4 rfl (lv_at hl 1 rfl) ?_
    refine lv_bipush (v := 24) hx hb dX6_setEmpty_5 (by decide) ?_
    refine lv_icmp_ge (tgt := 17) hx hb dX6_setEmpty_7 (by decide) (fun c2 => ?_) (fun c2 => ?_)
    · exact sx_retV (u := bh) hx hb hr hlk hK hP hD hS (by simp only [s_X6_setEmpty, if_neg c1, if_pos c2]) dX6_setEmpty_17
    · refine lv_aload_n hx hb dX6_setEmpty_10 rfl (lv_at hl 0 rfl) ?_
      refine va_get (D := G.1) (ci := 6) (v := .ref v1) (C := RX6) (T := TX6) (N := 17) hx hb hts owX6 hown hK.1 hP 0 rfl rfl 4 (by decide) (bw6 (w := Cond.fieldLink RX6 33 "DropflagMill$Run" "has" "[Z") hts 41 rfl) (fun _ h9 => h9) rfl dX6_setEmpty_11 ?_
      refine lv_iload_n hx hb dX6_setEmpty_14 rfl (lv_at hl 1 rfl) ?_
      refine lv_iconst (v := 0) hx hb dX6_setEmpty_15 (by decide) ?_
      refine va_zast hx hb hK.1 hP hD hS 1 1 rfl rfl (i := p1) (sx_in_lt (by decide) ⟨24, Nat.le_refl _, rfl⟩ c1 c2) dX6_setEmpty_16 (fun H locs hP hD hS => ?_)
      have hP : va_P G.1 vwCl [(x, .inr (6, [.ref h, .ref ow, .ref os, .ref on, .ref v1, .ref v2, .ref v3, .ref v4, .int okd, .int (nI oct), .int hre, .int oco, .int (nI stp), .int bxm, .int bxd, .int pnl, .int iab])), (v1, .inl (G.2.2, 24, .inl (upd bh p1.toNatClampNeg 0)))] H := hP
      have hD : va_D A [(x, .inr (6, [.ref h, .ref ow, .ref os, .ref on, .ref v1, .ref v2, .ref v3, .ref v4, .int okd, .int (nI oct), .int hre, .int oco, .int (nI stp), .int bxm, .int bxd, .int pnl, .int iab])), (v1, .inl (G.2.2, 24, .inl (upd bh p1.toNatClampNeg 0)))] := hD
      exact sx_retV (u := upd bh p1.toNatClampNeg 0) hx hb hr hlk hK hP hD hS (by simp only [s_X6_setEmpty, if_neg c1, if_neg c2]) dX6_setEmpty_17

abbrev wdX6_panic : List Cond := Cond.code yX6_panic cX6_panic 1 none :: bwC
def s_X6_panic (hre : Int32) (pnl : Int32) (iab : Int32) : Int32 × Int32 := if pnl = (-1) then (hre, iab) else (pnl, 1)
set_option maxHeartbeats 4000000 in
set_option maxRecDepth 100000 in
theorem c_X6_panic (l : Launch) (G : sxG) (x : Nat) (h : Nat) (ow : Nat) (os : Nat) (on : Nat) (v1 : Nat) (v2 : Nat) (v3 : Nat) (v4 : Nat) (okd : Int32) (oct : Nat) (hre : Int32) (oco : Int32) (stp : Nat) (bxm : Int32) (bxd : Int32) (pnl : Int32) (iab : Int32)  : sxV l yX6_panic wdX6_panic 0 0 G [(x, .inr (6, [.ref h, .ref ow, .ref os, .ref on, .ref v1, .ref v2, .ref v3, .ref v4, .int okd, .int (nI oct), .int hre, .int oco, .int (nI stp), .int bxm, .int bxd, .int pnl, .int iab]))] [.ref x] (fun u : Int32 × Int32 => ([(x, .inr (6, [.ref h, .ref ow, .ref os, .ref on, .ref v1, .ref v2, .ref v3, .ref v4, .int okd, .int (nI oct), .int hre, .int oco, .int (nI stp), .int bxm, .int bxd, .int u.1, .int u.2]))] : va_W)) (s_X6_panic hre pnl iab) := by
  refine sxV.of (cc := cX6_panic) (maxL := 1) (by decide) rfl (Nat.le_of_ble_eq_true rfl) ?_
  intro p e s m args below meth c ⟨hx, hb, hr, hml, hown, hlk, hts, hK⟩ A hA hP hD hS ls hl
  have hl : lv_has ls 1 [(0, .ref x)] := hl
  refine lv_aload_n hx hb dX6_panic_0 rfl (lv_at hl 0 rfl) ?_
  refine va_get (D := G.1) (ci := 6) (v := .int pnl) (C := RX6) (T := TX6) (N := 17) hx hb hts owX6 hown hK.1 hP 0 rfl rfl 15 (by decide) (bw6 (w := Cond.fieldLink RX6 69 "DropflagMill$Run" "panicLine" "I") hts 52 rfl) (fun _ h9 => h9) rfl dX6_panic_1 ?_
  refine lv_iconst (v := (-1)) hx hb dX6_panic_4 (by decide) ?_
  refine lv_icmp_ne (tgt := 19) hx hb dX6_panic_5 (by decide) (fun c1 => ?_) (fun c1 => ?_)
  · refine lv_aload_n hx hb dX6_panic_19 rfl (lv_at hl 0 rfl) ?_
    refine lv_iconst (v := 1) hx hb dX6_panic_20 (by decide) ?_
    refine va_put (D := G.1) (ci := 6) (v := .int 1) (ty := .boolean) (C := RX6) (T := TX6) (N := 17) hx hb hts owX6 tyX6 tyX6_ok nmX6 hown hK.1 hP hD hS 0 rfl rfl 16 (by decide) (bw6 (w := Cond.fieldLink RX6 72 "DropflagMill$Run" "isAborted" "Z") hts 53 rfl) (fun _ h9 => h9) rfl (by decide +kernel) rfl rfl (Nat.le_of_ble_eq_true rfl) dX6_panic_21 (fun H locs hP hD hS => ?_)
    have hP : va_P G.1 vwCl [(x, .inr (6, [.ref h, .ref ow, .ref os, .ref on, .ref v1, .ref v2, .ref v3, .ref v4, .int okd, .int (nI oct), .int hre, .int oco, .int (nI stp), .int bxm, .int bxd, .int pnl, .int 1]))] H := hP
    have hD : va_D A [(x, .inr (6, [.ref h, .ref ow, .ref os, .ref on, .ref v1, .ref v2, .ref v3, .ref v4, .int okd, .int (nI oct), .int hre, .int oco, .int (nI stp), .int bxm, .int bxd, .int pnl, .int 1]))] := hD
    exact sx_retV (u := (pnl, 1)) hx hb hr hlk hK hP hD hS (by simp only [s_X6_panic, if_neg c1]) dX6_panic_24
  · refine lv_aload_n hx hb dX6_panic_8 rfl (lv_at hl 0 rfl) ?_
    refine lv_aload_n hx hb dX6_panic_9 rfl (lv_at hl 0 rfl) ?_
    refine va_get (D := G.1) (ci := 6) (v := .int hre) (C := RX6) (T := TX6) (N := 17) hx hb hts owX6 hown hK.1 hP 0 rfl rfl 10 (by decide) (bw6 (w := Cond.fieldLink RX6 54 "DropflagMill$Run" "here" "I") hts 47 rfl) (fun _ h9 => h9) rfl dX6_panic_10 ?_
    refine va_put (D := G.1) (ci := 6) (v := .int hre) (ty := .int) (C := RX6) (T := TX6) (N := 17) hx hb hts owX6 tyX6 tyX6_ok nmX6 hown hK.1 hP hD hS 0 rfl rfl 15 (by decide) (bw6 (w := Cond.fieldLink RX6 69 "DropflagMill$Run" "panicLine" "I") hts 52 rfl) (fun _ h9 => h9) rfl (by decide +kernel) rfl rfl (Nat.le_of_ble_eq_true rfl) dX6_panic_13 (fun H locs hP hD hS => ?_)
    have hP : va_P G.1 vwCl [(x, .inr (6, [.ref h, .ref ow, .ref os, .ref on, .ref v1, .ref v2, .ref v3, .ref v4, .int okd, .int (nI oct), .int hre, .int oco, .int (nI stp), .int bxm, .int bxd, .int hre, .int iab]))] H := hP
    have hD : va_D A [(x, .inr (6, [.ref h, .ref ow, .ref os, .ref on, .ref v1, .ref v2, .ref v3, .ref v4, .int okd, .int (nI oct), .int hre, .int oco, .int (nI stp), .int bxm, .int bxd, .int hre, .int iab]))] := hD
    refine lv_goto (tgt := 24) hx hb dX6_panic_16 (by decide) ?_
    exact sx_retV (u := (hre, iab)) hx hb hr hlk hK hP hD hS (by simp only [s_X6_panic, if_pos c1]) dX6_panic_24

abbrev wdX6_setAside : List Cond := Cond.code yX6_setAside cX6_setAside 3 none :: bwC
def s_X6_setAside (okd : Int32) (oct : Nat) (bh : Nat → Int32) (bv : Nat → Int32) (bo : Nat → Int32) (p1 : Int32) (p2 : Int32) : (Nat → Int32) × (Nat → Int32) × Int32 × Nat := if p2 < 0 then (bh, bo, okd, oct) else (if 24 ≤ p2 then (bh, bo, okd, oct) else (if (bh p2.toNatClampNeg) = 0 then (bh, bo, okd, oct) else (if 2 ≤ (nI oct) then (upd bh p2.toNatClampNeg 0, bo, okd, oct) else (upd bh p2.toNatClampNeg 0, upd bo oct (bv p2.toNatClampNeg), p1, (oct + 1)))))
set_option maxHeartbeats 4000000 in
set_option maxRecDepth 100000 in
theorem c_X6_setAside (l : Launch) (G : sxG) (x : Nat) (h : Nat) (ow : Nat) (os : Nat) (on : Nat) (v1 : Nat) (v2 : Nat) (v3 : Nat) (v4 : Nat) (okd : Int32) (oct : Nat) (hre : Int32) (oco : Int32) (stp : Nat) (bxm : Int32) (bxd : Int32) (pnl : Int32) (iab : Int32) (bh : Nat → Int32) (bv : Nat → Int32) (bo : Nat → Int32) (p1 : Int32) (p2 : Int32) (ho : oct ≤ 2) : sxV l yX6_setAside wdX6_setAside 0 0 G [(x, .inr (6, [.ref h, .ref ow, .ref os, .ref on, .ref v1, .ref v2, .ref v3, .ref v4, .int okd, .int (nI oct), .int hre, .int oco, .int (nI stp), .int bxm, .int bxd, .int pnl, .int iab])), (v1, .inl (G.2.2, 24, .inl bh)), (v2, .inl (G.2.1, 24, .inl bv)), (v4, .inl (G.2.1, 2, .inl bo))] [.ref x, .int p1, .int p2] (fun u : (Nat → Int32) × (Nat → Int32) × Int32 × Nat => ([(x, .inr (6, [.ref h, .ref ow, .ref os, .ref on, .ref v1, .ref v2, .ref v3, .ref v4, .int u.2.2.1, .int (nI u.2.2.2), .int hre, .int oco, .int (nI stp), .int bxm, .int bxd, .int pnl, .int iab])), (v1, .inl (G.2.2, 24, .inl u.1)), (v2, .inl (G.2.1, 24, .inl bv)), (v4, .inl (G.2.1, 2, .inl u.2.1))] : va_W)) (s_X6_setAside okd oct bh bv bo p1 p2) := by
  refine sxV.of (cc := cX6_setAside) (maxL := 3) (by decide) rfl (Nat.le_of_ble_eq_true rfl) ?_
  intro p e s m args below meth c ⟨hx, hb, hr, hml, hown, hlk, hts, hK⟩ A hA hP hD hS ls hl
  have hl : lv_has ls 3 [(0, .ref x), (1, .int p1), (2, .int p2)] := hl
  refine lv_iload_n hx hb dX6_setAside_0 rfl (lv_at hl 2 rfl) ?_
  refine lv_if_lt (tgt := 19) hx hb dX6_setAside_1 (by decide) (fun c1 => ?_) (fun c1 => ?_)
  · exact sx_retV (u := (bh, bo, okd, oct)) hx hb hr hlk hK hP hD hS (by simp only [s_X6_setAside, if_pos c1]) dX6_setAside_19
  · refine lv_iload_n hx hb dX6_setAside_4 rfl (lv_at hl 2 rfl) ?_
    refine lv_bipush (v := 24) hx hb dX6_setAside_5 (by decide) ?_
    refine lv_icmp_ge (tgt := 19) hx hb dX6_setAside_7 (by decide) (fun c2 => ?_) (fun c2 => ?_)
    · exact sx_retV (u := (bh, bo, okd, oct)) hx hb hr hlk hK hP hD hS (by simp only [s_X6_setAside, if_neg c1, if_pos c2]) dX6_setAside_19
    · refine lv_aload_n hx hb dX6_setAside_10 rfl (lv_at hl 0 rfl) ?_
      refine va_get (D := G.1) (ci := 6) (v := .ref v1) (C := RX6) (T := TX6) (N := 17) hx hb hts owX6 hown hK.1 hP 0 rfl rfl 4 (by decide) (bw6 (w := Cond.fieldLink RX6 33 "DropflagMill$Run" "has" "[Z") hts 41 rfl) (fun _ h9 => h9) rfl dX6_setAside_11 ?_
      refine lv_iload_n hx hb dX6_setAside_14 rfl (lv_at hl 2 rfl) ?_
      refine va_zald hx hb hK.1 hP 1 1 rfl rfl (i := p2) (sx_in_lt (by decide) ⟨24, Nat.le_refl _, rfl⟩ c1 c2) dX6_setAside_15 ?_
      refine lv_if_ne (tgt := 20) hx hb dX6_setAside_16 (by decide) (fun c3 => ?_) (fun c3 => ?_)
      · refine lv_aload_n hx hb dX6_setAside_20 rfl (lv_at hl 0 rfl) ?_
        refine va_get (D := G.1) (ci := 6) (v := .ref v1) (C := RX6) (T := TX6) (N := 17) hx hb hts owX6 hown hK.1 hP 0 rfl rfl 4 (by decide) (bw6 (w := Cond.fieldLink RX6 33 "DropflagMill$Run" "has" "[Z") hts 41 rfl) (fun _ h9 => h9) rfl dX6_setAside_21 ?_
        refine lv_iload_n hx hb dX6_setAside_24 rfl (lv_at hl 2 rfl) ?_
        refine lv_iconst (v := 0) hx hb dX6_setAside_25 (by decide) ?_
        refine va_zast hx hb hK.1 hP hD hS 1 1 rfl rfl (i := p2) (sx_in_lt (by decide) ⟨24, Nat.le_refl _, rfl⟩ c1 c2) dX6_setAside_26 (fun H locs hP hD hS => ?_)
        have hP : va_P G.1 vwCl [(x, .inr (6, [.ref h, .ref ow, .ref os, .ref on, .ref v1, .ref v2, .ref v3, .ref v4, .int okd, .int (nI oct), .int hre, .int oco, .int (nI stp), .int bxm, .int bxd, .int pnl, .int iab])), (v1, .inl (G.2.2, 24, .inl (upd bh p2.toNatClampNeg 0))), (v2, .inl (G.2.1, 24, .inl bv)), (v4, .inl (G.2.1, 2, .inl bo))] H := hP
        have hD : va_D A [(x, .inr (6, [.ref h, .ref ow, .ref os, .ref on, .ref v1, .ref v2, .ref v3, .ref v4, .int okd, .int (nI oct), .int hre, .int oco, .int (nI stp), .int bxm, .int bxd, .int pnl, .int iab])), (v1, .inl (G.2.2, 24, .inl (upd bh p2.toNatClampNeg 0))), (v2, .inl (G.2.1, 24, .inl bv)), (v4, .inl (G.2.1, 2, .inl bo))] := hD
        refine lv_aload_n hx hb dX6_setAside_27 rfl (lv_at hl 0 rfl) ?_
        refine va_get (D := G.1) (ci := 6) (v := .int (nI oct)) (C := RX6) (T := TX6) (N := 17) hx hb hts owX6 hown hK.1 hP 0 rfl rfl 9 (by decide) (bw6 (w := Cond.fieldLink RX6 51 "DropflagMill$Run" "oldCount" "I") hts 46 rfl) (fun _ h9 => h9) rfl dX6_setAside_28 ?_
        refine lv_aload_n hx hb dX6_setAside_31 rfl (lv_at hl 0 rfl) ?_
        refine va_get (D := G.1) (ci := 6) (v := .ref v4) (C := RX6) (T := TX6) (N := 17) hx hb hts owX6 hown hK.1 hP 0 rfl rfl 7 (by decide) (bw6 (w := Cond.fieldLink RX6 44 "DropflagMill$Run" "olds" "[I") hts 44 rfl) (fun _ h9 => h9) rfl dX6_setAside_32 ?_
        refine va_alen (v := 2) hx hb hK.1 hP 3 0 rfl rfl rfl dX6_setAside_35 ?_
        refine lv_icmp_ge (tgt := 69) hx hb dX6_setAside_36 (by decide) (fun c4 => ?_) (fun c4 => ?_)
        · have nc4 := (nI_leI (a := 2) (b := oct) (by omega) (by omega)).mp c4
          exact sx_retV (u := (upd bh p2.toNatClampNeg 0, bo, okd, oct)) hx hb hr hlk hK hP hD hS (by simp only [s_X6_setAside, if_neg c1, if_neg c2, if_neg c3, if_pos c4]) dX6_setAside_69
        · have nc4 := (not_congr (nI_leI (a := 2) (b := oct) (by omega) (by omega))).mp c4
          refine lv_aload_n hx hb dX6_setAside_39 rfl (lv_at hl 0 rfl) ?_
          refine lv_iload_n hx hb dX6_setAside_40 rfl (lv_at hl 1 rfl) ?_
          refine va_put (D := G.1) (ci := 6) (v := .int p1) (ty := .int) (C := RX6) (T := TX6) (N := 17) hx hb hts owX6 tyX6 tyX6_ok nmX6 hown hK.1 hP hD hS 0 rfl rfl 8 (by decide) (bw6 (w := Cond.fieldLink RX6 47 "DropflagMill$Run" "oldKind" "I") hts 45 rfl) (fun _ h9 => h9) rfl (by decide +kernel) rfl rfl (Nat.le_of_ble_eq_true rfl) dX6_setAside_41 (fun H locs hP hD hS => ?_)
          have hP : va_P G.1 vwCl [(x, .inr (6, [.ref h, .ref ow, .ref os, .ref on, .ref v1, .ref v2, .ref v3, .ref v4, .int p1, .int (nI oct), .int hre, .int oco, .int (nI stp), .int bxm, .int bxd, .int pnl, .int iab])), (v1, .inl (G.2.2, 24, .inl (upd bh p2.toNatClampNeg 0))), (v2, .inl (G.2.1, 24, .inl bv)), (v4, .inl (G.2.1, 2, .inl bo))] H := hP
          have hD : va_D A [(x, .inr (6, [.ref h, .ref ow, .ref os, .ref on, .ref v1, .ref v2, .ref v3, .ref v4, .int p1, .int (nI oct), .int hre, .int oco, .int (nI stp), .int bxm, .int bxd, .int pnl, .int iab])), (v1, .inl (G.2.2, 24, .inl (upd bh p2.toNatClampNeg 0))), (v2, .inl (G.2.1, 24, .inl bv)), (v4, .inl (G.2.1, 2, .inl bo))] := hD
          refine lv_aload_n hx hb dX6_setAside_44 rfl (lv_at hl 0 rfl) ?_
          refine va_get (D := G.1) (ci := 6) (v := .ref v4) (C := RX6) (T := TX6) (N := 17) hx hb hts owX6 hown hK.1 hP 0 rfl rfl 7 (by decide) (bw6 (w := Cond.fieldLink RX6 44 "DropflagMill$Run" "olds" "[I") hts 44 rfl) (fun _ h9 => h9) rfl dX6_setAside_45 ?_
          refine lv_aload_n hx hb dX6_setAside_48 rfl (lv_at hl 0 rfl) ?_
          refine va_get (D := G.1) (ci := 6) (v := .int (nI oct)) (C := RX6) (T := TX6) (N := 17) hx hb hts owX6 hown hK.1 hP 0 rfl rfl 9 (by decide) (bw6 (w := Cond.fieldLink RX6 51 "DropflagMill$Run" "oldCount" "I") hts 46 rfl) (fun _ h9 => h9) rfl dX6_setAside_49 ?_
          refine lv_aload_n hx hb dX6_setAside_52 rfl (lv_at hl 0 rfl) ?_
          refine va_get (D := G.1) (ci := 6) (v := .ref v2) (C := RX6) (T := TX6) (N := 17) hx hb hts owX6 hown hK.1 hP 0 rfl rfl 5 (by decide) (bw6 (w := Cond.fieldLink RX6 37 "DropflagMill$Run" "value" "[I") hts 42 rfl) (fun _ h9 => h9) rfl dX6_setAside_53 ?_
          refine lv_iload_n hx hb dX6_setAside_56 rfl (lv_at hl 2 rfl) ?_
          refine va_iald hx hb hK.1 hP 2 0 rfl rfl (i := p2) (sx_in_lt (by decide) ⟨24, Nat.le_refl _, rfl⟩ c1 c2) dX6_setAside_57 ?_
          refine va_iast hx hb hK.1 hP hD hS 3 0 rfl rfl (i := nI oct) (vp_in_nI (n := oct) (by omega) (by omega)) dX6_setAside_58 (fun H locs hP hD hS => ?_)
          rw [show (nI oct : Int32).toNatClampNeg = oct from nI_clamp (n := oct) (by omega)] at hP hD
          have hP : va_P G.1 vwCl [(x, .inr (6, [.ref h, .ref ow, .ref os, .ref on, .ref v1, .ref v2, .ref v3, .ref v4, .int p1, .int (nI oct), .int hre, .int oco, .int (nI stp), .int bxm, .int bxd, .int pnl, .int iab])), (v1, .inl (G.2.2, 24, .inl (upd bh p2.toNatClampNeg 0))), (v2, .inl (G.2.1, 24, .inl bv)), (v4, .inl (G.2.1, 2, .inl (upd bo oct (bv p2.toNatClampNeg))))] H := hP
          have hD : va_D A [(x, .inr (6, [.ref h, .ref ow, .ref os, .ref on, .ref v1, .ref v2, .ref v3, .ref v4, .int p1, .int (nI oct), .int hre, .int oco, .int (nI stp), .int bxm, .int bxd, .int pnl, .int iab])), (v1, .inl (G.2.2, 24, .inl (upd bh p2.toNatClampNeg 0))), (v2, .inl (G.2.1, 24, .inl bv)), (v4, .inl (G.2.1, 2, .inl (upd bo oct (bv p2.toNatClampNeg))))] := hD
          refine lv_aload_n hx hb dX6_setAside_59 rfl (lv_at hl 0 rfl) ?_
          refine lv_dup hx hb dX6_setAside_60 rfl ?_
          refine va_get (D := G.1) (ci := 6) (v := .int (nI oct)) (C := RX6) (T := TX6) (N := 17) hx hb hts owX6 hown hK.1 hP 0 rfl rfl 9 (by decide) (bw6 (w := Cond.fieldLink RX6 51 "DropflagMill$Run" "oldCount" "I") hts 46 rfl) (fun _ h9 => h9) rfl dX6_setAside_61 ?_
          refine lv_iconst (v := 1) hx hb dX6_setAside_64 (by decide) ?_
          refine lv_iadd hx hb dX6_setAside_65 ?_
          rw [show (nI oct) + 1 = nI (oct + 1) from nI_add oct 1]
          refine va_put (D := G.1) (ci := 6) (v := .int (nI (oct + 1))) (ty := .int) (C := RX6) (T := TX6) (N := 17) hx hb hts owX6 tyX6 tyX6_ok nmX6 hown hK.1 hP hD hS 0 rfl rfl 9 (by decide) (bw6 (w := Cond.fieldLink RX6 51 "DropflagMill$Run" "oldCount" "I") hts 46 rfl) (fun _ h9 => h9) rfl (by decide +kernel) rfl rfl (Nat.le_of_ble_eq_true rfl) dX6_setAside_66 (fun H locs hP hD hS => ?_)
          have hP : va_P G.1 vwCl [(x, .inr (6, [.ref h, .ref ow, .ref os, .ref on, .ref v1, .ref v2, .ref v3, .ref v4, .int p1, .int (nI (oct + 1)), .int hre, .int oco, .int (nI stp), .int bxm, .int bxd, .int pnl, .int iab])), (v1, .inl (G.2.2, 24, .inl (upd bh p2.toNatClampNeg 0))), (v2, .inl (G.2.1, 24, .inl bv)), (v4, .inl (G.2.1, 2, .inl (upd bo oct (bv p2.toNatClampNeg))))] H := hP
          have hD : va_D A [(x, .inr (6, [.ref h, .ref ow, .ref os, .ref on, .ref v1, .ref v2, .ref v3, .ref v4, .int p1, .int (nI (oct + 1)), .int hre, .int oco, .int (nI stp), .int bxm, .int bxd, .int pnl, .int iab])), (v1, .inl (G.2.2, 24, .inl (upd bh p2.toNatClampNeg 0))), (v2, .inl (G.2.1, 24, .inl bv)), (v4, .inl (G.2.1, 2, .inl (upd bo oct (bv p2.toNatClampNeg))))] := hD
          exact sx_retV (u := (upd bh p2.toNatClampNeg 0, upd bo oct (bv p2.toNatClampNeg), p1, (oct + 1))) hx hb hr hlk hK hP hD hS (by simp only [s_X6_setAside, if_neg c1, if_neg c2, if_neg c3, if_neg c4]) dX6_setAside_69
      · exact sx_retV (u := (bh, bo, okd, oct)) hx hb hr hlk hK hP hD hS (by simp only [s_X6_setAside, if_neg c1, if_neg c2, if_pos c3]) dX6_setAside_19

abbrev wdX6_clear : List Cond := Cond.code yX6_clear cX6_clear 2 none :: bwC
def sl_X6_clear_L17 (br : Nat → Int32)  : Nat → (Nat) → (Nat → Int32) → (Nat → Int32) → Int32 × Nat × Int32 × (Nat → Int32) × (Nat → Int32) × (Nat → Int32) × Nat × Int32 × Nat × Int32 × Int32 × Int32 × Int32
  | 0, _, _, _ => (0, 0, 0, (fun _ => 0), (fun _ => 0), (fun _ => 0), 0, 0, 0, 0, 0, 0, 0)
  | k + 1, i, bh, bv => if 24 ≤ (nI i) then (0, s_X4_clear.1, s_X4_clear.2, bh, bv, (s_J7_fill_53178 34 br 0), 0, 0, 0, 0, 0, (-1), 0) else sl_X6_clear_L17 br k (i + 1) (upd bh i 0) (upd bv i 0)
set_option maxHeartbeats 4000000 in
set_option maxRecDepth 100000 in
theorem l_X6_clear_L17 (l : Launch) (G : sxG) (x : Nat) (h : Nat) (ow : Nat) (os : Nat) (on : Nat) (v1 : Nat) (v2 : Nat) (v3 : Nat) (v4 : Nat) (okd : Int32) (oct : Nat) (hre : Int32) (oco : Int32) (stp : Nat) (bxm : Int32) (bxd : Int32) (pnl : Int32) (iab : Int32) (t0 : Nat) (t1 : Nat) (t2 : Nat) (sc : Int32) (u0 : Nat) (u1 : Nat) (u2 : Nat) (u3 : Nat) (nm : Nat) (ng : Int32) (br : Nat → Int32)    {p : Program} {e : Env} {s : State} {m : MethodId} {args : Array Value} {below : List Frame} {meth : Method} {c : Code} (hB : sxBv G yX6_clear wdX6_clear cX6_clear 2  p s m args meth c) (A : Nat → Prop) (hA : ∀ q : Nat, s.heap.size ≤ q → A q) (S0 : Int32 × Nat × Int32 × (Nat → Int32) × (Nat → Int32) × (Nat → Int32) × Nat × Int32 × Nat × Int32 × Int32 × Int32 × Int32) : ∀ (k : Nat) (i : Nat) (bh : Nat → Int32) (bv : Nat → Int32), i ≤ 24 → 24 - i < k → S0 = sl_X6_clear_L17 br k i bh bv → ∀ (H : Heap) (locs : List Loc), va_P G.1 vwCl [(x, .inr (6, [.ref h, .ref ow, .ref os, .ref on, .ref v1, .ref v2, .ref v3, .ref v4, .int okd, .int (nI oct), .int hre, .int oco, .int (nI stp), .int bxm, .int bxd, .int pnl, .int iab])), (os, .inr (7, [.ref t0, .ref t1, .ref t2, .int 0])), (on, .inr (4, [.ref u0, .ref u1, .ref u2, .ref u3, .int (nI s_X4_clear.1), .int s_X4_clear.2])), (v1, .inl (G.2.2, 24, .inl bh)), (v2, .inl (G.2.1, 24, .inl bv)), (v3, .inl (G.2.1, 34, .inl br))] H → va_D A [(x, .inr (6, [.ref h, .ref ow, .ref os, .ref on, .ref v1, .ref v2, .ref v3, .ref v4, .int okd, .int (nI oct), .int hre, .int oco, .int (nI stp), .int bxm, .int bxd, .int pnl, .int iab])), (os, .inr (7, [.ref t0, .ref t1, .ref t2, .int 0])), (on, .inr (4, [.ref u0, .ref u1, .ref u2, .ref u3, .int (nI s_X4_clear.1), .int s_X4_clear.2])), (v1, .inl (G.2.2, 24, .inl bh)), (v2, .inl (G.2.1, 24, .inl bv)), (v3, .inl (G.2.1, 34, .inl br))] → va_S A s.heap H locs → ∀ ls : Array Slot, lv_has ls 2 [(0, .ref x), (1, .int (nI i))] → W p l e ({ frames := 1, cells := 0, slots := 0, locals := 23 }) s m args below meth c H locs 0 0 (sxZv G args s below A (fun u : Int32 × Nat × Int32 × (Nat → Int32) × (Nat → Int32) × (Nat → Int32) × Nat × Int32 × Nat × Int32 × Int32 × Int32 × Int32 => ([(x, .inr (6, [.ref h, .ref ow, .ref os, .ref on, .ref v1, .ref v2, .ref v3, .ref v4, .int okd, .int (nI u.2.2.2.2.2.2.1), .int u.2.2.2.2.2.2.2.1, .int oco, .int (nI u.2.2.2.2.2.2.2.2.1), .int u.2.2.2.2.2.2.2.2.2.1, .int u.2.2.2.2.2.2.2.2.2.2.1, .int u.2.2.2.2.2.2.2.2.2.2.2.1, .int u.2.2.2.2.2.2.2.2.2.2.2.2])), (os, .inr (7, [.ref t0, .ref t1, .ref t2, .int u.1])), (on, .inr (4, [.ref u0, .ref u1, .ref u2, .ref u3, .int (nI u.2.1), .int u.2.2.1])), (v1, .inl (G.2.2, 24, .inl u.2.2.2.1)), (v2, .inl (G.2.1, 24, .inl u.2.2.2.2.1)), (v3, .inl (G.2.1, 34, .inl u.2.2.2.2.2.1))] : va_W)) S0) (F0 m 17 ls []) := by
  obtain ⟨hx, hb, hr, hml, hown, hlk, hts, hK⟩ := id hB
  intro k
  induction k with
  | zero =>
    intro i bh bv _ hm
    exact absurd hm (Nat.not_lt_zero _)
  | succ k ih =>
    intro i bh bv hi hm hE H locs hP hD hS ls hl
    refine lv_iload_n hx hb dX6_clear_17 rfl (lv_at hl 1 rfl) ?_
    refine lv_bipush (v := 24) hx hb dX6_clear_18 (by decide) ?_
    refine lv_icmp_ge (tgt := 43) hx hb dX6_clear_20 (by decide) (fun c1 => ?_) (fun c1 => ?_)
    · have nc1 := (nI_leI (a := 24) (b := i) (by omega) (by omega)).mp c1
      refine lv_aload_n hx hb dX6_clear_43 rfl (lv_at hl 0 rfl) ?_
      refine va_get (D := G.1) (ci := 6) (v := .ref v3) (C := RX6) (T := TX6) (N := 17) hx hb hts owX6 hown hK.1 hP 0 rfl rfl 6 (by decide) (bw6 (w := Cond.fieldLink RX6 41 "DropflagMill$Run" "roundsLeft" "[I") hts 43 rfl) (fun _ h9 => h9) rfl dX6_clear_44 ?_
      refine lv_iconst (v := 0) hx hb dX6_clear_47 (by decide) ?_
      refine sx_sV (As := [.ref v3, .int 0]) (rest := []) hx hb hml hown hts (c_J7_fill_53178 l G v3 34 br 0 (by omega)) 2 (sxGS (bi7 (w := Cond.methodLink RX6 121 yJ7_fill_53178) 7 rfl) (bi1 (w := Cond.static yJ7_fill_53178) 21 rfl) (bi1 (w := Cond.initialized RJ7) 22 rfl) (bi1 (w := Cond.code yJ7_fill_53178 cJ7_fill_53178 4 none) 17 rfl)) rfl (by decide +kernel) ⟨Nat.le_of_ble_eq_true rfl, Nat.le_of_ble_eq_true rfl⟩ (wr := [(x, .inr (6, [.ref h, .ref ow, .ref os, .ref on, .ref v1, .ref v2, .ref v3, .ref v4, .int okd, .int (nI oct), .int hre, .int oco, .int (nI stp), .int bxm, .int bxd, .int pnl, .int iab])), (os, .inr (7, [.ref t0, .ref t1, .ref t2, .int 0])), (on, .inr (4, [.ref u0, .ref u1, .ref u2, .ref u3, .int (nI s_X4_clear.1), .int s_X4_clear.2])), (v1, .inl (G.2.2, 24, .inl bh)), (v2, .inl (G.2.1, 24, .inl bv))]) (ws' := [(x, .inr (6, [.ref h, .ref ow, .ref os, .ref on, .ref v1, .ref v2, .ref v3, .ref v4, .int okd, .int (nI oct), .int hre, .int oco, .int (nI stp), .int bxm, .int bxd, .int pnl, .int iab])), (os, .inr (7, [.ref t0, .ref t1, .ref t2, .int 0])), (on, .inr (4, [.ref u0, .ref u1, .ref u2, .ref u3, .int (nI s_X4_clear.1), .int s_X4_clear.2])), (v1, .inl (G.2.2, 24, .inl bh)), (v2, .inl (G.2.1, 24, .inl bv)), (v3, .inl (G.2.1, 34, .inl (s_J7_fill_53178 34 br 0)))]) hK hP hD hS hA [5] [0, 1, 2, 3, 4] rfl (by decide) rfl (by decide) (by decide) [0, 1, 2, 3, 4, 5] rfl rfl (by decide) rfl hl rfl (Nat.le_of_ble_eq_true rfl) ⟨Nat.zero_le _, Nat.zero_le _⟩ dX6_clear_48 (fun H locs hP hD hS => ?_)
      refine lv_aload_n hx hb dX6_clear_51 rfl (lv_at hl 0 rfl) ?_
      refine lv_iconst (v := 0) hx hb dX6_clear_52 (by decide) ?_
      refine va_put (D := G.1) (ci := 6) (v := .int 0) (ty := .int) (C := RX6) (T := TX6) (N := 17) hx hb hts owX6 tyX6 tyX6_ok nmX6 hown hK.1 hP hD hS 0 rfl rfl 9 (by decide) (bw6 (w := Cond.fieldLink RX6 51 "DropflagMill$Run" "oldCount" "I") hts 46 rfl) (fun _ h9 => h9) rfl (by decide +kernel) rfl rfl (Nat.le_of_ble_eq_true rfl) dX6_clear_53 (fun H locs hP hD hS => ?_)
      have hP : va_P G.1 vwCl [(x, .inr (6, [.ref h, .ref ow, .ref os, .ref on, .ref v1, .ref v2, .ref v3, .ref v4, .int okd, .int 0, .int hre, .int oco, .int (nI stp), .int bxm, .int bxd, .int pnl, .int iab])), (os, .inr (7, [.ref t0, .ref t1, .ref t2, .int 0])), (on, .inr (4, [.ref u0, .ref u1, .ref u2, .ref u3, .int (nI s_X4_clear.1), .int s_X4_clear.2])), (v1, .inl (G.2.2, 24, .inl bh)), (v2, .inl (G.2.1, 24, .inl bv)), (v3, .inl (G.2.1, 34, .inl (s_J7_fill_53178 34 br 0)))] H := hP
      have hD : va_D A [(x, .inr (6, [.ref h, .ref ow, .ref os, .ref on, .ref v1, .ref v2, .ref v3, .ref v4, .int okd, .int 0, .int hre, .int oco, .int (nI stp), .int bxm, .int bxd, .int pnl, .int iab])), (os, .inr (7, [.ref t0, .ref t1, .ref t2, .int 0])), (on, .inr (4, [.ref u0, .ref u1, .ref u2, .ref u3, .int (nI s_X4_clear.1), .int s_X4_clear.2])), (v1, .inl (G.2.2, 24, .inl bh)), (v2, .inl (G.2.1, 24, .inl bv)), (v3, .inl (G.2.1, 34, .inl (s_J7_fill_53178 34 br 0)))] := hD
      refine lv_aload_n hx hb dX6_clear_56 rfl (lv_at hl 0 rfl) ?_
      refine lv_iconst (v := 0) hx hb dX6_clear_57 (by decide) ?_
      refine va_put (D := G.1) (ci := 6) (v := .int 0) (ty := .int) (C := RX6) (T := TX6) (N := 17) hx hb hts owX6 tyX6 tyX6_ok nmX6 hown hK.1 hP hD hS 0 rfl rfl 10 (by decide) (bw6 (w := Cond.fieldLink RX6 54 "DropflagMill$Run" "here" "I") hts 47 rfl) (fun _ h9 => h9) rfl (by decide +kernel) rfl rfl (Nat.le_of_ble_eq_true rfl) dX6_clear_58 (fun H locs hP hD hS => ?_)
      have hP : va_P G.1 vwCl [(x, .inr (6, [.ref h, .ref ow, .ref os, .ref on, .ref v1, .ref v2, .ref v3, .ref v4, .int okd, .int 0, .int 0, .int oco, .int (nI stp), .int bxm, .int bxd, .int pnl, .int iab])), (os, .inr (7, [.ref t0, .ref t1, .ref t2, .int 0])), (on, .inr (4, [.ref u0, .ref u1, .ref u2, .ref u3, .int (nI s_X4_clear.1), .int s_X4_clear.2])), (v1, .inl (G.2.2, 24, .inl bh)), (v2, .inl (G.2.1, 24, .inl bv)), (v3, .inl (G.2.1, 34, .inl (s_J7_fill_53178 34 br 0)))] H := hP
      have hD : va_D A [(x, .inr (6, [.ref h, .ref ow, .ref os, .ref on, .ref v1, .ref v2, .ref v3, .ref v4, .int okd, .int 0, .int 0, .int oco, .int (nI stp), .int bxm, .int bxd, .int pnl, .int iab])), (os, .inr (7, [.ref t0, .ref t1, .ref t2, .int 0])), (on, .inr (4, [.ref u0, .ref u1, .ref u2, .ref u3, .int (nI s_X4_clear.1), .int s_X4_clear.2])), (v1, .inl (G.2.2, 24, .inl bh)), (v2, .inl (G.2.1, 24, .inl bv)), (v3, .inl (G.2.1, 34, .inl (s_J7_fill_53178 34 br 0)))] := hD
      refine lv_aload_n hx hb dX6_clear_61 rfl (lv_at hl 0 rfl) ?_
      refine lv_iconst (v := 0) hx hb dX6_clear_62 (by decide) ?_
      refine va_put (D := G.1) (ci := 6) (v := .int 0) (ty := .int) (C := RX6) (T := TX6) (N := 17) hx hb hts owX6 tyX6 tyX6_ok nmX6 hown hK.1 hP hD hS 0 rfl rfl 12 (by decide) (bw6 (w := Cond.fieldLink RX6 60 "DropflagMill$Run" "steps" "I") hts 49 rfl) (fun _ h9 => h9) rfl (by decide +kernel) rfl rfl (Nat.le_of_ble_eq_true rfl) dX6_clear_63 (fun H locs hP hD hS => ?_)
      have hP : va_P G.1 vwCl [(x, .inr (6, [.ref h, .ref ow, .ref os, .ref on, .ref v1, .ref v2, .ref v3, .ref v4, .int okd, .int 0, .int 0, .int oco, .int 0, .int bxm, .int bxd, .int pnl, .int iab])), (os, .inr (7, [.ref t0, .ref t1, .ref t2, .int 0])), (on, .inr (4, [.ref u0, .ref u1, .ref u2, .ref u3, .int (nI s_X4_clear.1), .int s_X4_clear.2])), (v1, .inl (G.2.2, 24, .inl bh)), (v2, .inl (G.2.1, 24, .inl bv)), (v3, .inl (G.2.1, 34, .inl (s_J7_fill_53178 34 br 0)))] H := hP
      have hD : va_D A [(x, .inr (6, [.ref h, .ref ow, .ref os, .ref on, .ref v1, .ref v2, .ref v3, .ref v4, .int okd, .int 0, .int 0, .int oco, .int 0, .int bxm, .int bxd, .int pnl, .int iab])), (os, .inr (7, [.ref t0, .ref t1, .ref t2, .int 0])), (on, .inr (4, [.ref u0, .ref u1, .ref u2, .ref u3, .int (nI s_X4_clear.1), .int s_X4_clear.2])), (v1, .inl (G.2.2, 24, .inl bh)), (v2, .inl (G.2.1, 24, .inl bv)), (v3, .inl (G.2.1, 34, .inl (s_J7_fill_53178 34 br 0)))] := hD
      refine lv_aload_n hx hb dX6_clear_66 rfl (lv_at hl 0 rfl) ?_
      refine lv_iconst (v := 0) hx hb dX6_clear_67 (by decide) ?_
      refine va_put (D := G.1) (ci := 6) (v := .int 0) (ty := .int) (C := RX6) (T := TX6) (N := 17) hx hb hts owX6 tyX6 tyX6_ok nmX6 hown hK.1 hP hD hS 0 rfl rfl 13 (by decide) (bw6 (w := Cond.fieldLink RX6 63 "DropflagMill$Run" "boxesMade" "I") hts 50 rfl) (fun _ h9 => h9) rfl (by decide +kernel) rfl rfl (Nat.le_of_ble_eq_true rfl) dX6_clear_68 (fun H locs hP hD hS => ?_)
      have hP : va_P G.1 vwCl [(x, .inr (6, [.ref h, .ref ow, .ref os, .ref on, .ref v1, .ref v2, .ref v3, .ref v4, .int okd, .int 0, .int 0, .int oco, .int 0, .int 0, .int bxd, .int pnl, .int iab])), (os, .inr (7, [.ref t0, .ref t1, .ref t2, .int 0])), (on, .inr (4, [.ref u0, .ref u1, .ref u2, .ref u3, .int (nI s_X4_clear.1), .int s_X4_clear.2])), (v1, .inl (G.2.2, 24, .inl bh)), (v2, .inl (G.2.1, 24, .inl bv)), (v3, .inl (G.2.1, 34, .inl (s_J7_fill_53178 34 br 0)))] H := hP
      have hD : va_D A [(x, .inr (6, [.ref h, .ref ow, .ref os, .ref on, .ref v1, .ref v2, .ref v3, .ref v4, .int okd, .int 0, .int 0, .int oco, .int 0, .int 0, .int bxd, .int pnl, .int iab])), (os, .inr (7, [.ref t0, .ref t1, .ref t2, .int 0])), (on, .inr (4, [.ref u0, .ref u1, .ref u2, .ref u3, .int (nI s_X4_clear.1), .int s_X4_clear.2])), (v1, .inl (G.2.2, 24, .inl bh)), (v2, .inl (G.2.1, 24, .inl bv)), (v3, .inl (G.2.1, 34, .inl (s_J7_fill_53178 34 br 0)))] := hD
      refine lv_aload_n hx hb dX6_clear_71 rfl (lv_at hl 0 rfl) ?_
      refine lv_iconst (v := 0) hx hb dX6_clear_72 (by decide) ?_
      refine va_put (D := G.1) (ci := 6) (v := .int 0) (ty := .int) (C := RX6) (T := TX6) (N := 17) hx hb hts owX6 tyX6 tyX6_ok nmX6 hown hK.1 hP hD hS 0 rfl rfl 14 (by decide) (bw6 (w := Cond.fieldLink RX6 66 "DropflagMill$Run" "boxesDropped" "I") hts 51 rfl) (fun _ h9 => h9) rfl (by decide +kernel) rfl rfl (Nat.le_of_ble_eq_true rfl) dX6_clear_73 (fun H locs hP hD hS => ?_)
      have hP : va_P G.1 vwCl [(x, .inr (6, [.ref h, .ref ow, .ref os, .ref on, .ref v1, .ref v2, .ref v3, .ref v4, .int okd, .int 0, .int 0, .int oco, .int 0, .int 0, .int 0, .int pnl, .int iab])), (os, .inr (7, [.ref t0, .ref t1, .ref t2, .int 0])), (on, .inr (4, [.ref u0, .ref u1, .ref u2, .ref u3, .int (nI s_X4_clear.1), .int s_X4_clear.2])), (v1, .inl (G.2.2, 24, .inl bh)), (v2, .inl (G.2.1, 24, .inl bv)), (v3, .inl (G.2.1, 34, .inl (s_J7_fill_53178 34 br 0)))] H := hP
      have hD : va_D A [(x, .inr (6, [.ref h, .ref ow, .ref os, .ref on, .ref v1, .ref v2, .ref v3, .ref v4, .int okd, .int 0, .int 0, .int oco, .int 0, .int 0, .int 0, .int pnl, .int iab])), (os, .inr (7, [.ref t0, .ref t1, .ref t2, .int 0])), (on, .inr (4, [.ref u0, .ref u1, .ref u2, .ref u3, .int (nI s_X4_clear.1), .int s_X4_clear.2])), (v1, .inl (G.2.2, 24, .inl bh)), (v2, .inl (G.2.1, 24, .inl bv)), (v3, .inl (G.2.1, 34, .inl (s_J7_fill_53178 34 br 0)))] := hD
      refine lv_aload_n hx hb dX6_clear_76 rfl (lv_at hl 0 rfl) ?_
      refine lv_iconst (v := (-1)) hx hb dX6_clear_77 (by decide) ?_
      refine va_put (D := G.1) (ci := 6) (v := .int (-1)) (ty := .int) (C := RX6) (T := TX6) (N := 17) hx hb hts owX6 tyX6 tyX6_ok nmX6 hown hK.1 hP hD hS 0 rfl rfl 15 (by decide) (bw6 (w := Cond.fieldLink RX6 69 "DropflagMill$Run" "panicLine" "I") hts 52 rfl) (fun _ h9 => h9) rfl (by decide +kernel) rfl rfl (Nat.le_of_ble_eq_true rfl) dX6_clear_78 (fun H locs hP hD hS => ?_)
      have hP : va_P G.1 vwCl [(x, .inr (6, [.ref h, .ref ow, .ref os, .ref on, .ref v1, .ref v2, .ref v3, .ref v4, .int okd, .int 0, .int 0, .int oco, .int 0, .int 0, .int 0, .int (-1), .int iab])), (os, .inr (7, [.ref t0, .ref t1, .ref t2, .int 0])), (on, .inr (4, [.ref u0, .ref u1, .ref u2, .ref u3, .int (nI s_X4_clear.1), .int s_X4_clear.2])), (v1, .inl (G.2.2, 24, .inl bh)), (v2, .inl (G.2.1, 24, .inl bv)), (v3, .inl (G.2.1, 34, .inl (s_J7_fill_53178 34 br 0)))] H := hP
      have hD : va_D A [(x, .inr (6, [.ref h, .ref ow, .ref os, .ref on, .ref v1, .ref v2, .ref v3, .ref v4, .int okd, .int 0, .int 0, .int oco, .int 0, .int 0, .int 0, .int (-1), .int iab])), (os, .inr (7, [.ref t0, .ref t1, .ref t2, .int 0])), (on, .inr (4, [.ref u0, .ref u1, .ref u2, .ref u3, .int (nI s_X4_clear.1), .int s_X4_clear.2])), (v1, .inl (G.2.2, 24, .inl bh)), (v2, .inl (G.2.1, 24, .inl bv)), (v3, .inl (G.2.1, 34, .inl (s_J7_fill_53178 34 br 0)))] := hD
      refine lv_aload_n hx hb dX6_clear_81 rfl (lv_at hl 0 rfl) ?_
      refine lv_iconst (v := 0) hx hb dX6_clear_82 (by decide) ?_
      refine va_put (D := G.1) (ci := 6) (v := .int 0) (ty := .boolean) (C := RX6) (T := TX6) (N := 17) hx hb hts owX6 tyX6 tyX6_ok nmX6 hown hK.1 hP hD hS 0 rfl rfl 16 (by decide) (bw6 (w := Cond.fieldLink RX6 72 "DropflagMill$Run" "isAborted" "Z") hts 53 rfl) (fun _ h9 => h9) rfl (by decide +kernel) rfl rfl (Nat.le_of_ble_eq_true rfl) dX6_clear_83 (fun H locs hP hD hS => ?_)
      have hP : va_P G.1 vwCl [(x, .inr (6, [.ref h, .ref ow, .ref os, .ref on, .ref v1, .ref v2, .ref v3, .ref v4, .int okd, .int 0, .int 0, .int oco, .int 0, .int 0, .int 0, .int (-1), .int 0])), (os, .inr (7, [.ref t0, .ref t1, .ref t2, .int 0])), (on, .inr (4, [.ref u0, .ref u1, .ref u2, .ref u3, .int (nI s_X4_clear.1), .int s_X4_clear.2])), (v1, .inl (G.2.2, 24, .inl bh)), (v2, .inl (G.2.1, 24, .inl bv)), (v3, .inl (G.2.1, 34, .inl (s_J7_fill_53178 34 br 0)))] H := hP
      have hD : va_D A [(x, .inr (6, [.ref h, .ref ow, .ref os, .ref on, .ref v1, .ref v2, .ref v3, .ref v4, .int okd, .int 0, .int 0, .int oco, .int 0, .int 0, .int 0, .int (-1), .int 0])), (os, .inr (7, [.ref t0, .ref t1, .ref t2, .int 0])), (on, .inr (4, [.ref u0, .ref u1, .ref u2, .ref u3, .int (nI s_X4_clear.1), .int s_X4_clear.2])), (v1, .inl (G.2.2, 24, .inl bh)), (v2, .inl (G.2.1, 24, .inl bv)), (v3, .inl (G.2.1, 34, .inl (s_J7_fill_53178 34 br 0)))] := hD
      exact sx_retV (u := (0, s_X4_clear.1, s_X4_clear.2, bh, bv, (s_J7_fill_53178 34 br 0), 0, 0, 0, 0, 0, (-1), 0)) hx hb hr hlk hK hP hD hS (by rw [hE]; simp only [sl_X6_clear_L17, if_pos c1]) dX6_clear_86
    · have nc1 := (not_congr (nI_leI (a := 24) (b := i) (by omega) (by omega))).mp c1
      refine lv_aload_n hx hb dX6_clear_23 rfl (lv_at hl 0 rfl) ?_
      refine va_get (D := G.1) (ci := 6) (v := .ref v1) (C := RX6) (T := TX6) (N := 17) hx hb hts owX6 hown hK.1 hP 0 rfl rfl 4 (by decide) (bw6 (w := Cond.fieldLink RX6 33 "DropflagMill$Run" "has" "[Z") hts 41 rfl) (fun _ h9 => h9) rfl dX6_clear_24 ?_
      refine lv_iload_n hx hb dX6_clear_27 rfl (lv_at hl 1 rfl) ?_
      refine lv_iconst (v := 0) hx hb dX6_clear_28 (by decide) ?_
      refine va_zast hx hb hK.1 hP hD hS 3 1 rfl rfl (i := nI i) (vp_in_nI (n := i) (by omega) (by omega)) dX6_clear_29 (fun H locs hP hD hS => ?_)
      rw [show (nI i : Int32).toNatClampNeg = i from nI_clamp (n := i) (by omega)] at hP hD
      have hP : va_P G.1 vwCl [(x, .inr (6, [.ref h, .ref ow, .ref os, .ref on, .ref v1, .ref v2, .ref v3, .ref v4, .int okd, .int (nI oct), .int hre, .int oco, .int (nI stp), .int bxm, .int bxd, .int pnl, .int iab])), (os, .inr (7, [.ref t0, .ref t1, .ref t2, .int 0])), (on, .inr (4, [.ref u0, .ref u1, .ref u2, .ref u3, .int (nI s_X4_clear.1), .int s_X4_clear.2])), (v1, .inl (G.2.2, 24, .inl (upd bh i 0))), (v2, .inl (G.2.1, 24, .inl bv)), (v3, .inl (G.2.1, 34, .inl br))] H := hP
      have hD : va_D A [(x, .inr (6, [.ref h, .ref ow, .ref os, .ref on, .ref v1, .ref v2, .ref v3, .ref v4, .int okd, .int (nI oct), .int hre, .int oco, .int (nI stp), .int bxm, .int bxd, .int pnl, .int iab])), (os, .inr (7, [.ref t0, .ref t1, .ref t2, .int 0])), (on, .inr (4, [.ref u0, .ref u1, .ref u2, .ref u3, .int (nI s_X4_clear.1), .int s_X4_clear.2])), (v1, .inl (G.2.2, 24, .inl (upd bh i 0))), (v2, .inl (G.2.1, 24, .inl bv)), (v3, .inl (G.2.1, 34, .inl br))] := hD
      refine lv_aload_n hx hb dX6_clear_30 rfl (lv_at hl 0 rfl) ?_
      refine va_get (D := G.1) (ci := 6) (v := .ref v2) (C := RX6) (T := TX6) (N := 17) hx hb hts owX6 hown hK.1 hP 0 rfl rfl 5 (by decide) (bw6 (w := Cond.fieldLink RX6 37 "DropflagMill$Run" "value" "[I") hts 42 rfl) (fun _ h9 => h9) rfl dX6_clear_31 ?_
      refine lv_iload_n hx hb dX6_clear_34 rfl (lv_at hl 1 rfl) ?_
      refine lv_iconst (v := 0) hx hb dX6_clear_35 (by decide) ?_
      refine va_iast hx hb hK.1 hP hD hS 4 0 rfl rfl (i := nI i) (vp_in_nI (n := i) (by omega) (by omega)) dX6_clear_36 (fun H locs hP hD hS => ?_)
      rw [show (nI i : Int32).toNatClampNeg = i from nI_clamp (n := i) (by omega)] at hP hD
      have hP : va_P G.1 vwCl [(x, .inr (6, [.ref h, .ref ow, .ref os, .ref on, .ref v1, .ref v2, .ref v3, .ref v4, .int okd, .int (nI oct), .int hre, .int oco, .int (nI stp), .int bxm, .int bxd, .int pnl, .int iab])), (os, .inr (7, [.ref t0, .ref t1, .ref t2, .int 0])), (on, .inr (4, [.ref u0, .ref u1, .ref u2, .ref u3, .int (nI s_X4_clear.1), .int s_X4_clear.2])), (v1, .inl (G.2.2, 24, .inl (upd bh i 0))), (v2, .inl (G.2.1, 24, .inl (upd bv i 0))), (v3, .inl (G.2.1, 34, .inl br))] H := hP
      have hD : va_D A [(x, .inr (6, [.ref h, .ref ow, .ref os, .ref on, .ref v1, .ref v2, .ref v3, .ref v4, .int okd, .int (nI oct), .int hre, .int oco, .int (nI stp), .int bxm, .int bxd, .int pnl, .int iab])), (os, .inr (7, [.ref t0, .ref t1, .ref t2, .int 0])), (on, .inr (4, [.ref u0, .ref u1, .ref u2, .ref u3, .int (nI s_X4_clear.1), .int s_X4_clear.2])), (v1, .inl (G.2.2, 24, .inl (upd bh i 0))), (v2, .inl (G.2.1, 24, .inl (upd bv i 0))), (v3, .inl (G.2.1, 34, .inl br))] := hD
      refine lv_iinc (v := nI (i + 1)) (lv' := [(1, .int (nI (i + 1))), (0, .ref x)]) hx hb dX6_clear_37 hl (k := 1) rfl (nI_1 i) (by decide) rfl (fun ls hl => ?_)
      refine lv_goto (tgt := 17) hx hb dX6_clear_40 (by decide) ?_
      exact ih (i + 1) (upd bh i 0) (upd bv i 0) (by omega) (by omega) (by rw [hE]; simp only [sl_X6_clear_L17, if_neg c1]) _ _ hP hD hS ls (lv_sub hl [1, 0] rfl)
def s_X6_clear (bh : Nat → Int32) (bv : Nat → Int32) (br : Nat → Int32) : Int32 × Nat × Int32 × (Nat → Int32) × (Nat → Int32) × (Nat → Int32) × Nat × Int32 × Nat × Int32 × Int32 × Int32 × Int32 := sl_X6_clear_L17 br  25 0 bh bv
set_option maxHeartbeats 4000000 in
set_option maxRecDepth 100000 in
theorem c_X6_clear (l : Launch) (G : sxG) (x : Nat) (h : Nat) (ow : Nat) (os : Nat) (on : Nat) (v1 : Nat) (v2 : Nat) (v3 : Nat) (v4 : Nat) (okd : Int32) (oct : Nat) (hre : Int32) (oco : Int32) (stp : Nat) (bxm : Int32) (bxd : Int32) (pnl : Int32) (iab : Int32) (t0 : Nat) (t1 : Nat) (t2 : Nat) (sc : Int32) (u0 : Nat) (u1 : Nat) (u2 : Nat) (u3 : Nat) (nm : Nat) (ng : Int32) (bh : Nat → Int32) (bv : Nat → Int32) (br : Nat → Int32)  : sxV l yX6_clear wdX6_clear 1 23 G [(x, .inr (6, [.ref h, .ref ow, .ref os, .ref on, .ref v1, .ref v2, .ref v3, .ref v4, .int okd, .int (nI oct), .int hre, .int oco, .int (nI stp), .int bxm, .int bxd, .int pnl, .int iab])), (os, .inr (7, [.ref t0, .ref t1, .ref t2, .int sc])), (on, .inr (4, [.ref u0, .ref u1, .ref u2, .ref u3, .int (nI nm), .int ng])), (v1, .inl (G.2.2, 24, .inl bh)), (v2, .inl (G.2.1, 24, .inl bv)), (v3, .inl (G.2.1, 34, .inl br))] [.ref x] (fun u : Int32 × Nat × Int32 × (Nat → Int32) × (Nat → Int32) × (Nat → Int32) × Nat × Int32 × Nat × Int32 × Int32 × Int32 × Int32 => ([(x, .inr (6, [.ref h, .ref ow, .ref os, .ref on, .ref v1, .ref v2, .ref v3, .ref v4, .int okd, .int (nI u.2.2.2.2.2.2.1), .int u.2.2.2.2.2.2.2.1, .int oco, .int (nI u.2.2.2.2.2.2.2.2.1), .int u.2.2.2.2.2.2.2.2.2.1, .int u.2.2.2.2.2.2.2.2.2.2.1, .int u.2.2.2.2.2.2.2.2.2.2.2.1, .int u.2.2.2.2.2.2.2.2.2.2.2.2])), (os, .inr (7, [.ref t0, .ref t1, .ref t2, .int u.1])), (on, .inr (4, [.ref u0, .ref u1, .ref u2, .ref u3, .int (nI u.2.1), .int u.2.2.1])), (v1, .inl (G.2.2, 24, .inl u.2.2.2.1)), (v2, .inl (G.2.1, 24, .inl u.2.2.2.2.1)), (v3, .inl (G.2.1, 34, .inl u.2.2.2.2.2.1))] : va_W)) (s_X6_clear bh bv br) := by
  refine sxV.of (cc := cX6_clear) (maxL := 2) (by decide) rfl (Nat.le_of_ble_eq_true rfl) ?_
  intro p e s m args below meth c ⟨hx, hb, hr, hml, hown, hlk, hts, hK⟩ A hA hP hD hS ls hl
  have hl : lv_has ls 2 [(0, .ref x)] := hl
  refine lv_aload_n hx hb dX6_clear_0 rfl (lv_at hl 0 rfl) ?_
  refine va_get (D := G.1) (ci := 6) (v := .ref os) (C := RX6) (T := TX6) (N := 17) hx hb hts owX6 hown hK.1 hP 0 rfl rfl 2 (by decide) (bw6 (w := Cond.fieldLink RX6 22 "DropflagMill$Run" "story" "LDropflagMill$Story;") hts 37 rfl) (fun _ h9 => h9) rfl dX6_clear_1 ?_
  refine lv_iconst (v := 0) hx hb dX6_clear_4 (by decide) ?_
  refine va_put (D := G.1) (ci := 7) (v := .int 0) (ty := .int) (C := RX7) (T := TX7) (N := 4) hx hb hts owX7 tyX7 tyX7_ok nmX7 hown hK.1 hP hD hS 1 rfl rfl 3 (by decide) (bw7 (w := Cond.fieldLink RX6 117 "DropflagMill$Story" "count" "I") hts 3 rfl) (fun _ h9 => h9) rfl (by decide +kernel) rfl rfl (Nat.le_of_ble_eq_true rfl) dX6_clear_5 (fun H locs hP hD hS => ?_)
  have hP : va_P G.1 vwCl [(x, .inr (6, [.ref h, .ref ow, .ref os, .ref on, .ref v1, .ref v2, .ref v3, .ref v4, .int okd, .int (nI oct), .int hre, .int oco, .int (nI stp), .int bxm, .int bxd, .int pnl, .int iab])), (os, .inr (7, [.ref t0, .ref t1, .ref t2, .int 0])), (on, .inr (4, [.ref u0, .ref u1, .ref u2, .ref u3, .int (nI nm), .int ng])), (v1, .inl (G.2.2, 24, .inl bh)), (v2, .inl (G.2.1, 24, .inl bv)), (v3, .inl (G.2.1, 34, .inl br))] H := hP
  have hD : va_D A [(x, .inr (6, [.ref h, .ref ow, .ref os, .ref on, .ref v1, .ref v2, .ref v3, .ref v4, .int okd, .int (nI oct), .int hre, .int oco, .int (nI stp), .int bxm, .int bxd, .int pnl, .int iab])), (os, .inr (7, [.ref t0, .ref t1, .ref t2, .int 0])), (on, .inr (4, [.ref u0, .ref u1, .ref u2, .ref u3, .int (nI nm), .int ng])), (v1, .inl (G.2.2, 24, .inl bh)), (v2, .inl (G.2.1, 24, .inl bv)), (v3, .inl (G.2.1, 34, .inl br))] := hD
  refine lv_aload_n hx hb dX6_clear_8 rfl (lv_at hl 0 rfl) ?_
  refine va_get (D := G.1) (ci := 6) (v := .ref on) (C := RX6) (T := TX6) (N := 17) hx hb hts owX6 hown hK.1 hP 0 rfl rfl 3 (by decide) (bw6 (w := Cond.fieldLink RX6 29 "DropflagMill$Run" "nodes" "LDropflagMill$Nodes;") hts 40 rfl) (fun _ h9 => h9) rfl dX6_clear_9 ?_
  refine sx_vV (As := []) (rest := []) hx hb hml hown hts (c_X4_clear l G on u0 u1 u2 u3 nm ng ) 0 (sxGV (bi7 (w := Cond.methodLink RX6 120 yX4_clear) 4 rfl) (bi7 (w := Cond.instanceMethod yX4_clear) 5 rfl) (bi7 (w := Cond.selects RX4 yX4_clear yX4_clear) 6 rfl) (bi5 (w := Cond.initialized RX4) 51 rfl) (bi5 (w := Cond.code yX4_clear cX4_clear 1 none) 44 rfl)) rfl (by decide +kernel) ⟨Nat.le_of_ble_eq_true rfl, Nat.le_of_ble_eq_true rfl⟩ (wr := [(x, .inr (6, [.ref h, .ref ow, .ref os, .ref on, .ref v1, .ref v2, .ref v3, .ref v4, .int okd, .int (nI oct), .int hre, .int oco, .int (nI stp), .int bxm, .int bxd, .int pnl, .int iab])), (os, .inr (7, [.ref t0, .ref t1, .ref t2, .int 0])), (v1, .inl (G.2.2, 24, .inl bh)), (v2, .inl (G.2.1, 24, .inl bv)), (v3, .inl (G.2.1, 34, .inl br))]) (ws' := [(x, .inr (6, [.ref h, .ref ow, .ref os, .ref on, .ref v1, .ref v2, .ref v3, .ref v4, .int okd, .int (nI oct), .int hre, .int oco, .int (nI stp), .int bxm, .int bxd, .int pnl, .int iab])), (os, .inr (7, [.ref t0, .ref t1, .ref t2, .int 0])), (on, .inr (4, [.ref u0, .ref u1, .ref u2, .ref u3, .int (nI s_X4_clear.1), .int s_X4_clear.2])), (v1, .inl (G.2.2, 24, .inl bh)), (v2, .inl (G.2.1, 24, .inl bv)), (v3, .inl (G.2.1, 34, .inl br))]) hK hP hD hS hA [2] [0, 1, 3, 4, 5] rfl (by decide) rfl (by decide) (by decide) [0, 1, 5, 2, 3, 4] rfl rfl (by decide) 0 rfl rfl rfl hl rfl (Nat.le_of_ble_eq_true rfl) ⟨Nat.zero_le _, Nat.zero_le _⟩ dX6_clear_12 (fun H locs hP hD hS => ?_)
  refine lv_iconst (v := 0) hx hb dX6_clear_15 (by decide) ?_
  refine lv_istore_n (lv' := [(1, .int 0), (0, .ref x)]) hx hb dX6_clear_16 rfl hl (by decide) rfl (fun ls hl => ?_)
  have hB0 : sxBv G yX6_clear wdX6_clear cX6_clear 2  p s m args meth c := ⟨hx, hb, hr, hml, hown, hlk, hts, hK⟩
  exact l_X6_clear_L17 l G x h ow os on v1 v2 v3 v4 okd oct hre oco stp bxm bxd pnl iab t0 t1 t2 sc u0 u1 u2 u3 nm ng br    hB0 A hA _  25 0 bh bv (Nat.zero_le _) (by omega) (by simp only [s_X6_clear]) _ _ hP hD hS ls (lv_sub hl [1, 0] rfl)

set_option maxHeartbeats 2000000 in
theorem b_X6_setAside_3 (okd : Int32) (oct : Nat) (bh : Nat → Int32) (bv : Nat → Int32) (bo : Nat → Int32) (p1 : Int32) (p2 : Int32) (b_oct : oct ≤ 2) : (s_X6_setAside okd oct bh bv bo p1 p2).2.2.2 ≤ 2 := by
  rw [s_X6_setAside]
  by_cases c1 : p2 < 0
  · rw [if_pos c1]
    show oct ≤ 2
    exact by omega
  · rw [if_neg c1]
    by_cases c2 : 24 ≤ p2
    · rw [if_pos c2]
      show oct ≤ 2
      exact by omega
    · rw [if_neg c2]
      by_cases c3 : (bh p2.toNatClampNeg) = 0
      · rw [if_pos c3]
        show oct ≤ 2
        exact by omega
      · rw [if_neg c3]
        by_cases c4 : 2 ≤ (nI oct)
        · rw [if_pos c4]
          have nc4 := (nI_leI (a := 2) (b := oct) (by omega) (by omega)).mp c4
          show oct ≤ 2
          exact by omega
        · rw [if_neg c4]
          have nc4 := (not_congr (nI_leI (a := 2) (b := oct) (by omega) (by omega))).mp c4
          show (oct + 1) ≤ 2
          exact by omega

set_option maxHeartbeats 2000000 in
theorem bl_sl_X6_clear_L17_1 (br : Nat → Int32)  : ∀ (k : Nat) (i : Nat) (bh : Nat → Int32) (bv : Nat → Int32),  (sl_X6_clear_L17 br k i bh bv).2.1 ≤ 500 := by
  intro k
  induction k with
  | zero => intro i bh bv ; exact Nat.zero_le _
  | succ k ih =>
    intro i bh bv 
    rw [sl_X6_clear_L17]
    by_cases c1 : 24 ≤ (nI i)
    · rw [if_pos c1]
      show s_X4_clear.1 ≤ 500
      exact b_X4_clear_0  
    · rw [if_neg c1]
      exact ih (i + 1) (upd bh i 0) (upd bv i 0) 
set_option maxHeartbeats 2000000 in
theorem b_X6_clear_1 (bh : Nat → Int32) (bv : Nat → Int32) (br : Nat → Int32)  : (s_X6_clear bh bv br).2.1 ≤ 500 := by
  rw [s_X6_clear]
  exact bl_sl_X6_clear_L17_1 br  25 0 bh bv 

set_option maxHeartbeats 2000000 in
theorem bl_sl_X6_clear_L17_6 (br : Nat → Int32)  : ∀ (k : Nat) (i : Nat) (bh : Nat → Int32) (bv : Nat → Int32),  (sl_X6_clear_L17 br k i bh bv).2.2.2.2.2.2.1 ≤ 2 := by
  intro k
  induction k with
  | zero => intro i bh bv ; exact Nat.zero_le _
  | succ k ih =>
    intro i bh bv 
    rw [sl_X6_clear_L17]
    by_cases c1 : 24 ≤ (nI i)
    · rw [if_pos c1]
      show 0 ≤ 2
      exact by omega
    · rw [if_neg c1]
      exact ih (i + 1) (upd bh i 0) (upd bv i 0) 
set_option maxHeartbeats 2000000 in
theorem b_X6_clear_6 (bh : Nat → Int32) (bv : Nat → Int32) (br : Nat → Int32)  : (s_X6_clear bh bv br).2.2.2.2.2.2.1 ≤ 2 := by
  rw [s_X6_clear]
  exact bl_sl_X6_clear_L17_6 br  25 0 bh bv 

set_option maxHeartbeats 2000000 in
theorem bl_sl_X6_clear_L17_8 (br : Nat → Int32)  : ∀ (k : Nat) (i : Nat) (bh : Nat → Int32) (bv : Nat → Int32),  (sl_X6_clear_L17 br k i bh bv).2.2.2.2.2.2.2.2.1 ≤ 500 := by
  intro k
  induction k with
  | zero => intro i bh bv ; exact Nat.zero_le _
  | succ k ih =>
    intro i bh bv 
    rw [sl_X6_clear_L17]
    by_cases c1 : 24 ≤ (nI i)
    · rw [if_pos c1]
      show 0 ≤ 500
      exact by omega
    · rw [if_neg c1]
      exact ih (i + 1) (upd bh i 0) (upd bv i 0) 
set_option maxHeartbeats 2000000 in
theorem b_X6_clear_8 (bh : Nat → Int32) (bv : Nat → Int32) (br : Nat → Int32)  : (s_X6_clear bh bv br).2.2.2.2.2.2.2.2.1 ≤ 500 := by
  rw [s_X6_clear]
  exact bl_sl_X6_clear_L17_8 br  25 0 bh bv 
