abbrev wdJ7_fill_53178 : List Cond := Cond.code yJ7_fill_53178 cJ7_fill_53178 4 none :: bwC
def sl_J7_fill_53178_L5 (n0 : Nat) (p1 : Int32)  : Nat → (Nat) → (Nat → Int32) → (Nat → Int32)
  | 0, _, _ => (fun _ => 0)
  | k + 1, i, f0 => if (nI n0) ≤ (nI i) then f0 else sl_J7_fill_53178_L5 n0 p1 k (i + 1) (upd f0 i p1)
set_option maxHeartbeats 4000000 in
set_option maxRecDepth 100000 in
theorem l_J7_fill_53178_L5 (l : Launch) (G : sxG) (q : Nat) (n0 : Nat) (p1 : Int32) (hn0 : n0 < 100000)   {p : Program} {e : Env} {s : State} {m : MethodId} {args : Array Value} {below : List Frame} {meth : Method} {c : Code} (hB : sxBv G yJ7_fill_53178 wdJ7_fill_53178 cJ7_fill_53178 4  p s m args meth c) (A : Nat → Prop) (hA : ∀ q : Nat, s.heap.size ≤ q → A q) (S0 : (Nat → Int32)) : ∀ (k : Nat) (i : Nat) (f0 : Nat → Int32), i ≤ n0 → n0 - i < k → S0 = sl_J7_fill_53178_L5 n0 p1 k i f0 → ∀ (H : Heap) (locs : List Loc), va_P G.1 vwCl [(q, .inl (G.2.1, n0, .inl f0))] H → va_D A [(q, .inl (G.2.1, n0, .inl f0))] → va_S A s.heap H locs → ∀ ls : Array Slot, lv_has ls 4 [(0, .ref q), (1, .int p1), (2, .int (nI i)), (3, .int (nI n0))] → W p l e ({ frames := 0, cells := 0, slots := 0, locals := 0 }) s m args below meth c H locs 0 0 (sxZv G args s below A (fun u : (Nat → Int32) => ([(q, .inl (G.2.1, n0, .inl u))] : va_W)) S0) (F0 m 5 ls []) := by
  obtain ⟨hx, hb, hr, hml, hown, hlk, hts, hK⟩ := id hB
  intro k
  induction k with
  | zero =>
    intro i f0 _ hm
    exact absurd hm (Nat.not_lt_zero _)
  | succ k ih =>
    intro i f0 hi hm hE H locs hP hD hS ls hl
    refine lv_iload_n hx hb dJ7_fill_53178_5 rfl (lv_at hl 2 rfl) ?_
    refine lv_iload_n hx hb dJ7_fill_53178_6 rfl (lv_at hl 3 rfl) ?_
    refine lv_icmp_ge (tgt := 20) hx hb dJ7_fill_53178_7 (by decide) (fun c1 => ?_) (fun c1 => ?_)
    · have nc1 := (nI_leI (a := n0) (b := i) (by omega) (by omega)).mp c1
      exact sx_retV (u := f0) hx hb hr hlk hK hP hD hS (by rw [hE]; simp only [sl_J7_fill_53178_L5, if_pos c1]) dJ7_fill_53178_20
    · have nc1 := (not_congr (nI_leI (a := n0) (b := i) (by omega) (by omega))).mp c1
      refine lv_aload_n hx hb dJ7_fill_53178_10 rfl (lv_at hl 0 rfl) ?_
      refine lv_iload_n hx hb dJ7_fill_53178_11 rfl (lv_at hl 2 rfl) ?_
      refine lv_iload_n hx hb dJ7_fill_53178_12 rfl (lv_at hl 1 rfl) ?_
      refine va_iast hx hb hK.1 hP hD hS 0 0 rfl rfl (i := nI i) (vp_in_nI (n := i) (by omega) (by omega)) dJ7_fill_53178_13 (fun H locs hP hD hS => ?_)
      rw [show (nI i : Int32).toNatClampNeg = i from nI_clamp (n := i) (by omega)] at hP hD
      have hP : va_P G.1 vwCl [(q, .inl (G.2.1, n0, .inl (upd f0 i p1)))] H := hP
      have hD : va_D A [(q, .inl (G.2.1, n0, .inl (upd f0 i p1)))] := hD
      refine lv_iinc (v := nI (i + 1)) (lv' := [(2, .int (nI (i + 1))), (0, .ref q), (1, .int p1), (3, .int (nI n0))]) hx hb dJ7_fill_53178_14 hl (k := 2) rfl (nI_1 i) (by decide) rfl (fun ls hl => ?_)
      refine lv_goto (tgt := 5) hx hb dJ7_fill_53178_17 (by decide) ?_
      exact ih (i + 1) (upd f0 i p1) (by omega) (by omega) (by rw [hE]; simp only [sl_J7_fill_53178_L5, if_neg c1]) _ _ hP hD hS ls (lv_sub hl [1, 2, 0, 3] rfl)
def s_J7_fill_53178 (n0 : Nat) (f0 : Nat → Int32) (p1 : Int32) : (Nat → Int32) := sl_J7_fill_53178_L5 n0 p1  (n0 + 1) 0 f0
set_option maxHeartbeats 4000000 in
set_option maxRecDepth 100000 in
theorem c_J7_fill_53178 (l : Launch) (G : sxG) (q : Nat) (n0 : Nat) (f0 : Nat → Int32) (p1 : Int32) (hn0 : n0 < 100000) : sxV l yJ7_fill_53178 wdJ7_fill_53178 0 0 G [(q, .inl (G.2.1, n0, .inl f0))] [.ref q, .int p1] (fun u : (Nat → Int32) => ([(q, .inl (G.2.1, n0, .inl u))] : va_W)) (s_J7_fill_53178 n0 f0 p1) := by
  refine sxV.of (cc := cJ7_fill_53178) (maxL := 4) (by decide) rfl (Nat.le_of_ble_eq_true rfl) ?_
  intro p e s m args below meth c ⟨hx, hb, hr, hml, hown, hlk, hts, hK⟩ A hA hP hD hS ls hl
  have hl : lv_has ls 4 [(0, .ref q), (1, .int p1)] := hl
  refine lv_iconst (v := 0) hx hb dJ7_fill_53178_0 (by decide) ?_
  refine lv_istore_n (lv' := [(2, .int 0), (0, .ref q), (1, .int p1)]) hx hb dJ7_fill_53178_1 rfl hl (by decide) rfl (fun ls hl => ?_)
  refine lv_aload_n hx hb dJ7_fill_53178_2 rfl (lv_at hl 1 rfl) ?_
  refine va_alen (v := nI n0) hx hb hK.1 hP 0 0 rfl rfl rfl dJ7_fill_53178_3 ?_
  refine lv_istore_n (lv' := [(3, .int (nI n0)), (2, .int 0), (0, .ref q), (1, .int p1)]) hx hb dJ7_fill_53178_4 rfl hl (by decide) rfl (fun ls hl => ?_)
  have hB0 : sxBv G yJ7_fill_53178 wdJ7_fill_53178 cJ7_fill_53178 4  p s m args meth c := ⟨hx, hb, hr, hml, hown, hlk, hts, hK⟩
  exact l_J7_fill_53178_L5 l G q n0 p1 hn0   hB0 A hA _  (n0 + 1) 0 f0 (Nat.zero_le _) (by omega) (by simp only [s_J7_fill_53178]) _ _ hP hD hS ls (lv_sub hl [2, 3, 1, 0] rfl)

abbrev wdJ6_bitCount_0f7a4 : List Cond := Cond.code yJ6_bitCount_0f7a4 cJ6_bitCount_0f7a4 1 (some .int) :: bwC
def s_J6_bitCount_0f7a4 (p1 : Int32) : Int32 := (((((((p1 - ((s_ushr p1 1) &&& 1431655765)) &&& 858993459) + ((s_ushr (p1 - ((s_ushr p1 1) &&& 1431655765)) 2) &&& 858993459)) + (s_ushr (((p1 - ((s_ushr p1 1) &&& 1431655765)) &&& 858993459) + ((s_ushr (p1 - ((s_ushr p1 1) &&& 1431655765)) 2) &&& 858993459)) 4)) &&& 252645135) + (s_ushr (((((p1 - ((s_ushr p1 1) &&& 1431655765)) &&& 858993459) + ((s_ushr (p1 - ((s_ushr p1 1) &&& 1431655765)) 2) &&& 858993459)) + (s_ushr (((p1 - ((s_ushr p1 1) &&& 1431655765)) &&& 858993459) + ((s_ushr (p1 - ((s_ushr p1 1) &&& 1431655765)) 2) &&& 858993459)) 4)) &&& 252645135) 8)) + (s_ushr ((((((p1 - ((s_ushr p1 1) &&& 1431655765)) &&& 858993459) + ((s_ushr (p1 - ((s_ushr p1 1) &&& 1431655765)) 2) &&& 858993459)) + (s_ushr (((p1 - ((s_ushr p1 1) &&& 1431655765)) &&& 858993459) + ((s_ushr (p1 - ((s_ushr p1 1) &&& 1431655765)) 2) &&& 858993459)) 4)) &&& 252645135) + (s_ushr (((((p1 - ((s_ushr p1 1) &&& 1431655765)) &&& 858993459) + ((s_ushr (p1 - ((s_ushr p1 1) &&& 1431655765)) 2) &&& 858993459)) + (s_ushr (((p1 - ((s_ushr p1 1) &&& 1431655765)) &&& 858993459) + ((s_ushr (p1 - ((s_ushr p1 1) &&& 1431655765)) 2) &&& 858993459)) 4)) &&& 252645135) 8)) 16)) &&& 63
set_option maxHeartbeats 4000000 in
set_option maxRecDepth 100000 in
theorem c_J6_bitCount_0f7a4 (l : Launch) (G : sxG) (p1 : Int32)  : sxM l yJ6_bitCount_0f7a4 wdJ6_bitCount_0f7a4 0 0 G [] [.int p1] (fun r => r = s_J6_bitCount_0f7a4 p1) := by
  refine sxM.of (cc := cJ6_bitCount_0f7a4) (maxL := 1) (by decide) rfl (Nat.le_of_ble_eq_true rfl) ?_
  intro p e s m args below meth c ⟨hx, hb, hr, hml, hown, hlk, hts, hK⟩ hP ls hl
  have hl : lv_has ls 1 [(0, .int p1)] := hl
  refine lv_iload_n hx hb dJ6_bitCount_0f7a4_0 rfl (lv_at hl 0 rfl) ?_
  refine lv_iload_n hx hb dJ6_bitCount_0f7a4_1 rfl (lv_at hl 0 rfl) ?_
  refine lv_iconst (v := 1) hx hb dJ6_bitCount_0f7a4_2 (by decide) ?_
  refine lv_iushr (v := s_ushr p1 1) hx hb dJ6_bitCount_0f7a4_3 rfl ?_
  refine lv_ldcw (v := 1431655765) hx hb hown (bw5 (w := Cond.constant RJ6 265 (1431655765)) hts 14 rfl) dJ6_bitCount_0f7a4_4 ?_
  refine lv_iand hx hb dJ6_bitCount_0f7a4_7 ?_
  refine lv_isub hx hb dJ6_bitCount_0f7a4_8 ?_
  refine lv_istore_n (lv' := [(0, .int (p1 - ((s_ushr p1 1) &&& 1431655765)))]) hx hb dJ6_bitCount_0f7a4_9 rfl hl (by decide) rfl (fun ls hl => ?_)
  refine lv_iload_n hx hb dJ6_bitCount_0f7a4_10 rfl (lv_at hl 0 rfl) ?_
  refine lv_ldcw (v := 858993459) hx hb hown (bw5 (w := Cond.constant RJ6 266 (858993459)) hts 15 rfl) dJ6_bitCount_0f7a4_11 ?_
  refine lv_iand hx hb dJ6_bitCount_0f7a4_14 ?_
  refine lv_iload_n hx hb dJ6_bitCount_0f7a4_15 rfl (lv_at hl 0 rfl) ?_
  refine lv_iconst (v := 2) hx hb dJ6_bitCount_0f7a4_16 (by decide) ?_
  refine lv_iushr (v := s_ushr (p1 - ((s_ushr p1 1) &&& 1431655765)) 2) hx hb dJ6_bitCount_0f7a4_17 rfl ?_
  refine lv_ldcw (v := 858993459) hx hb hown (bw5 (w := Cond.constant RJ6 266 (858993459)) hts 15 rfl) dJ6_bitCount_0f7a4_18 ?_
  refine lv_iand hx hb dJ6_bitCount_0f7a4_21 ?_
  refine lv_iadd hx hb dJ6_bitCount_0f7a4_22 ?_
  refine lv_istore_n (lv' := [(0, .int (((p1 - ((s_ushr p1 1) &&& 1431655765)) &&& 858993459) + ((s_ushr (p1 - ((s_ushr p1 1) &&& 1431655765)) 2) &&& 858993459)))]) hx hb dJ6_bitCount_0f7a4_23 rfl hl (by decide) rfl (fun ls hl => ?_)
  refine lv_iload_n hx hb dJ6_bitCount_0f7a4_24 rfl (lv_at hl 0 rfl) ?_
  refine lv_iload_n hx hb dJ6_bitCount_0f7a4_25 rfl (lv_at hl 0 rfl) ?_
  refine lv_iconst (v := 4) hx hb dJ6_bitCount_0f7a4_26 (by decide) ?_
  refine lv_iushr (v := s_ushr (((p1 - ((s_ushr p1 1) &&& 1431655765)) &&& 858993459) + ((s_ushr (p1 - ((s_ushr p1 1) &&& 1431655765)) 2) &&& 858993459)) 4) hx hb dJ6_bitCount_0f7a4_27 rfl ?_
  refine lv_iadd hx hb dJ6_bitCount_0f7a4_28 ?_
  refine lv_ldcw (v := 252645135) hx hb hown (bw5 (w := Cond.constant RJ6 267 (252645135)) hts 16 rfl) dJ6_bitCount_0f7a4_29 ?_
  refine lv_iand hx hb dJ6_bitCount_0f7a4_32 ?_
  refine lv_istore_n (lv' := [(0, .int (((((p1 - ((s_ushr p1 1) &&& 1431655765)) &&& 858993459) + ((s_ushr (p1 - ((s_ushr p1 1) &&& 1431655765)) 2) &&& 858993459)) + (s_ushr (((p1 - ((s_ushr p1 1) &&& 1431655765)) &&& 858993459) + ((s_ushr (p1 - ((s_ushr p1 1) &&& 1431655765)) 2) &&& 858993459)) 4)) &&& 252645135))]) hx hb dJ6_bitCount_0f7a4_33 rfl hl (by decide) rfl (fun ls hl => ?_)
  refine lv_iload_n hx hb dJ6_bitCount_0f7a4_34 rfl (lv_at hl 0 rfl) ?_
  refine lv_iload_n hx hb dJ6_bitCount_0f7a4_35 rfl (lv_at hl 0 rfl) ?_
  refine lv_bipush (v := 8) hx hb dJ6_bitCount_0f7a4_36 (by decide) ?_
  refine lv_iushr (v := s_ushr (((((p1 - ((s_ushr p1 1) &&& 1431655765)) &&& 858993459) + ((s_ushr (p1 - ((s_ushr p1 1) &&& 1431655765)) 2) &&& 858993459)) + (s_ushr (((p1 - ((s_ushr p1 1) &&& 1431655765)) &&& 858993459) + ((s_ushr (p1 - ((s_ushr p1 1) &&& 1431655765)) 2) &&& 858993459)) 4)) &&& 252645135) 8) hx hb dJ6_bitCount_0f7a4_38 rfl ?_
  refine lv_iadd hx hb dJ6_bitCount_0f7a4_39 ?_
  refine lv_istore_n (lv' := [(0, .int ((((((p1 - ((s_ushr p1 1) &&& 1431655765)) &&& 858993459) + ((s_ushr (p1 - ((s_ushr p1 1) &&& 1431655765)) 2) &&& 858993459)) + (s_ushr (((p1 - ((s_ushr p1 1) &&& 1431655765)) &&& 858993459) + ((s_ushr (p1 - ((s_ushr p1 1) &&& 1431655765)) 2) &&& 858993459)) 4)) &&& 252645135) + (s_ushr (((((p1 - ((s_ushr p1 1) &&& 1431655765)) &&& 858993459) + ((s_ushr (p1 - ((s_ushr p1 1) &&& 1431655765)) 2) &&& 858993459)) + (s_ushr (((p1 - ((s_ushr p1 1) &&& 1431655765)) &&& 858993459) + ((s_ushr (p1 - ((s_ushr p1 1) &&& 1431655765)) 2) &&& 858993459)) 4)) &&& 252645135) 8)))]) hx hb dJ6_bitCount_0f7a4_40 rfl hl (by decide) rfl (fun ls hl => ?_)
  refine lv_iload_n hx hb dJ6_bitCount_0f7a4_41 rfl (lv_at hl 0 rfl) ?_
  refine lv_iload_n hx hb dJ6_bitCount_0f7a4_42 rfl (lv_at hl 0 rfl) ?_
  refine lv_bipush (v := 16) hx hb dJ6_bitCount_0f7a4_43 (by decide) ?_
  refine lv_iushr (v := s_ushr ((((((p1 - ((s_ushr p1 1) &&& 1431655765)) &&& 858993459) + ((s_ushr (p1 - ((s_ushr p1 1) &&& 1431655765)) 2) &&& 858993459)) + (s_ushr (((p1 - ((s_ushr p1 1) &&& 1431655765)) &&& 858993459) + ((s_ushr (p1 - ((s_ushr p1 1) &&& 1431655765)) 2) &&& 858993459)) 4)) &&& 252645135) + (s_ushr (((((p1 - ((s_ushr p1 1) &&& 1431655765)) &&& 858993459) + ((s_ushr (p1 - ((s_ushr p1 1) &&& 1431655765)) 2) &&& 858993459)) + (s_ushr (((p1 - ((s_ushr p1 1) &&& 1431655765)) &&& 858993459) + ((s_ushr (p1 - ((s_ushr p1 1) &&& 1431655765)) 2) &&& 858993459)) 4)) &&& 252645135) 8)) 16) hx hb dJ6_bitCount_0f7a4_45 rfl ?_
  refine lv_iadd hx hb dJ6_bitCount_0f7a4_46 ?_
  refine lv_istore_n (lv' := [(0, .int (((((((p1 - ((s_ushr p1 1) &&& 1431655765)) &&& 858993459) + ((s_ushr (p1 - ((s_ushr p1 1) &&& 1431655765)) 2) &&& 858993459)) + (s_ushr (((p1 - ((s_ushr p1 1) &&& 1431655765)) &&& 858993459) + ((s_ushr (p1 - ((s_ushr p1 1) &&& 1431655765)) 2) &&& 858993459)) 4)) &&& 252645135) + (s_ushr (((((p1 - ((s_ushr p1 1) &&& 1431655765)) &&& 858993459) + ((s_ushr (p1 - ((s_ushr p1 1) &&& 1431655765)) 2) &&& 858993459)) + (s_ushr (((p1 - ((s_ushr p1 1) &&& 1431655765)) &&& 858993459) + ((s_ushr (p1 - ((s_ushr p1 1) &&& 1431655765)) 2) &&& 858993459)) 4)) &&& 252645135) 8)) + (s_ushr ((((((p1 - ((s_ushr p1 1) &&& 1431655765)) &&& 858993459) + ((s_ushr (p1 - ((s_ushr p1 1) &&& 1431655765)) 2) &&& 858993459)) + (s_ushr (((p1 - ((s_ushr p1 1) &&& 1431655765)) &&& 858993459) + ((s_ushr (p1 - ((s_ushr p1 1) &&& 1431655765)) 2) &&& 858993459)) 4)) &&& 252645135) + (s_ushr (((((p1 - ((s_ushr p1 1) &&& 1431655765)) &&& 858993459) + ((s_ushr (p1 - ((s_ushr p1 1) &&& 1431655765)) 2) &&& 858993459)) + (s_ushr (((p1 - ((s_ushr p1 1) &&& 1431655765)) &&& 858993459) + ((s_ushr (p1 - ((s_ushr p1 1) &&& 1431655765)) 2) &&& 858993459)) 4)) &&& 252645135) 8)) 16)))]) hx hb dJ6_bitCount_0f7a4_47 rfl hl (by decide) rfl (fun ls hl => ?_)
  refine lv_iload_n hx hb dJ6_bitCount_0f7a4_48 rfl (lv_at hl 0 rfl) ?_
  refine lv_bipush (v := 63) hx hb dJ6_bitCount_0f7a4_49 (by decide) ?_
  refine lv_iand hx hb dJ6_bitCount_0f7a4_51 ?_
  exact sx_ret hx hb hr hlk rfl (by simp only [s_J6_bitCount_0f7a4]) dJ6_bitCount_0f7a4_52

abbrev wdJ6_numberOfTrailingZeros_0f7a4 : List Cond := Cond.code yJ6_numberOfTrailingZeros_0f7a4 cJ6_numberOfTrailingZeros_0f7a4 2 (some .int) :: bwC
def s_J6_numberOfTrailingZeros_0f7a4 (p1 : Int32) : Int32 := if 0 < ((p1 ^^^ (-1)) &&& (p1 - 1)) then (if ((p1 ^^^ (-1)) &&& (p1 - 1)) ≤ 65536 then (if ((p1 ^^^ (-1)) &&& (p1 - 1)) ≤ 256 then (if ((p1 ^^^ (-1)) &&& (p1 - 1)) ≤ 16 then (if ((p1 ^^^ (-1)) &&& (p1 - 1)) ≤ 4 then 1 + (s_ushr ((p1 ^^^ (-1)) &&& (p1 - 1)) 1) else (1 + 2) + (s_ushr (s_ushr ((p1 ^^^ (-1)) &&& (p1 - 1)) 2) 1)) else (if (s_ushr ((p1 ^^^ (-1)) &&& (p1 - 1)) 4) ≤ 4 then (1 + 4) + (s_ushr (s_ushr ((p1 ^^^ (-1)) &&& (p1 - 1)) 4) 1) else ((1 + 4) + 2) + (s_ushr (s_ushr (s_ushr ((p1 ^^^ (-1)) &&& (p1 - 1)) 4) 2) 1))) else (if (s_ushr ((p1 ^^^ (-1)) &&& (p1 - 1)) 8) ≤ 16 then (if (s_ushr ((p1 ^^^ (-1)) &&& (p1 - 1)) 8) ≤ 4 then (1 + 8) + (s_ushr (s_ushr ((p1 ^^^ (-1)) &&& (p1 - 1)) 8) 1) else ((1 + 8) + 2) + (s_ushr (s_ushr (s_ushr ((p1 ^^^ (-1)) &&& (p1 - 1)) 8) 2) 1)) else (if (s_ushr (s_ushr ((p1 ^^^ (-1)) &&& (p1 - 1)) 8) 4) ≤ 4 then ((1 + 8) + 4) + (s_ushr (s_ushr (s_ushr ((p1 ^^^ (-1)) &&& (p1 - 1)) 8) 4) 1) else (((1 + 8) + 4) + 2) + (s_ushr (s_ushr (s_ushr (s_ushr ((p1 ^^^ (-1)) &&& (p1 - 1)) 8) 4) 2) 1)))) else (if (s_ushr ((p1 ^^^ (-1)) &&& (p1 - 1)) 16) ≤ 256 then (if (s_ushr ((p1 ^^^ (-1)) &&& (p1 - 1)) 16) ≤ 16 then (if (s_ushr ((p1 ^^^ (-1)) &&& (p1 - 1)) 16) ≤ 4 then (1 + 16) + (s_ushr (s_ushr ((p1 ^^^ (-1)) &&& (p1 - 1)) 16) 1) else ((1 + 16) + 2) + (s_ushr (s_ushr (s_ushr ((p1 ^^^ (-1)) &&& (p1 - 1)) 16) 2) 1)) else (if (s_ushr (s_ushr ((p1 ^^^ (-1)) &&& (p1 - 1)) 16) 4) ≤ 4 then ((1 + 16) + 4) + (s_ushr (s_ushr (s_ushr ((p1 ^^^ (-1)) &&& (p1 - 1)) 16) 4) 1) else (((1 + 16) + 4) + 2) + (s_ushr (s_ushr (s_ushr (s_ushr ((p1 ^^^ (-1)) &&& (p1 - 1)) 16) 4) 2) 1))) else (if (s_ushr (s_ushr ((p1 ^^^ (-1)) &&& (p1 - 1)) 16) 8) ≤ 16 then (if (s_ushr (s_ushr ((p1 ^^^ (-1)) &&& (p1 - 1)) 16) 8) ≤ 4 then ((1 + 16) + 8) + (s_ushr (s_ushr (s_ushr ((p1 ^^^ (-1)) &&& (p1 - 1)) 16) 8) 1) else (((1 + 16) + 8) + 2) + (s_ushr (s_ushr (s_ushr (s_ushr ((p1 ^^^ (-1)) &&& (p1 - 1)) 16) 8) 2) 1)) else (if (s_ushr (s_ushr (s_ushr ((p1 ^^^ (-1)) &&& (p1 - 1)) 16) 8) 4) ≤ 4 then (((1 + 16) + 8) + 4) + (s_ushr (s_ushr (s_ushr (s_ushr ((p1 ^^^ (-1)) &&& (p1 - 1)) 16) 8) 4) 1) else ((((1 + 16) + 8) + 4) + 2) + (s_ushr (s_ushr (s_ushr (s_ushr (s_ushr ((p1 ^^^ (-1)) &&& (p1 - 1)) 16) 8) 4) 2) 1))))) else ((p1 ^^^ (-1)) &&& (p1 - 1)) &&& 32
set_option maxHeartbeats 4000000 in
set_option maxRecDepth 100000 in
theorem c_J6_numberOfTrailingZeros_0f7a4 (l : Launch) (G : sxG) (p1 : Int32)  : sxM l yJ6_numberOfTrailingZeros_0f7a4 wdJ6_numberOfTrailingZeros_0f7a4 0 0 G [] [.int p1] (fun r => r = s_J6_numberOfTrailingZeros_0f7a4 p1) := by
  refine sxM.of (cc := cJ6_numberOfTrailingZeros_0f7a4) (maxL := 2) (by decide) rfl (Nat.le_of_ble_eq_true rfl) ?_
  intro p e s m args below meth c ⟨hx, hb, hr, hml, hown, hlk, hts, hK⟩ hP ls hl
  have hl : lv_has ls 2 [(0, .int p1)] := hl
  refine lv_iload_n hx hb dJ6_numberOfTrailingZeros_0f7a4_0 rfl (lv_at hl 0 rfl) ?_
  refine lv_iconst (v := (-1)) hx hb dJ6_numberOfTrailingZeros_0f7a4_1 (by decide) ?_
  refine lv_ixor hx hb dJ6_numberOfTrailingZeros_0f7a4_2 ?_
  refine lv_iload_n hx hb dJ6_numberOfTrailingZeros_0f7a4_3 rfl (lv_at hl 0 rfl) ?_
  refine lv_iconst (v := 1) hx hb dJ6_numberOfTrailingZeros_0f7a4_4 (by decide) ?_
  refine lv_isub hx hb dJ6_numberOfTrailingZeros_0f7a4_5 ?_
  refine lv_iand hx hb dJ6_numberOfTrailingZeros_0f7a4_6 ?_
  refine lv_istore_n (lv' := [(0, .int ((p1 ^^^ (-1)) &&& (p1 - 1)))]) hx hb dJ6_numberOfTrailingZeros_0f7a4_7 rfl hl (by decide) rfl (fun ls hl => ?_)
  refine lv_iload_n hx hb dJ6_numberOfTrailingZeros_0f7a4_8 rfl (lv_at hl 0 rfl) ?_
  refine lv_if_gt (tgt := 17) hx hb dJ6_numberOfTrailingZeros_0f7a4_9 (by decide) (fun c1 => ?_) (fun c1 => ?_)
  · refine lv_iconst (v := 1) hx hb dJ6_numberOfTrailingZeros_0f7a4_17 (by decide) ?_
    refine lv_istore_n (lv' := [(1, .int 1), (0, .int ((p1 ^^^ (-1)) &&& (p1 - 1)))]) hx hb dJ6_numberOfTrailingZeros_0f7a4_18 rfl hl (by decide) rfl (fun ls hl => ?_)
    refine lv_iload_n hx hb dJ6_numberOfTrailingZeros_0f7a4_19 rfl (lv_at hl 1 rfl) ?_
    refine lv_ldcw (v := 65536) hx hb hown (bw3 (w := Cond.constant RJ6 264 (65536)) hts 42 rfl) dJ6_numberOfTrailingZeros_0f7a4_20 ?_
    refine lv_icmp_le (tgt := 34) hx hb dJ6_numberOfTrailingZeros_0f7a4_23 (by decide) (fun c2 => ?_) (fun c2 => ?_)
    · refine lv_iload_n hx hb dJ6_numberOfTrailingZeros_0f7a4_34 rfl (lv_at hl 1 rfl) ?_
      refine lv_sipush (v := 256) hx hb dJ6_numberOfTrailingZeros_0f7a4_35 (by decide) ?_
      refine lv_icmp_le (tgt := 49) hx hb dJ6_numberOfTrailingZeros_0f7a4_38 (by decide) (fun c3 => ?_) (fun c3 => ?_)
      · refine lv_iload_n hx hb dJ6_numberOfTrailingZeros_0f7a4_49 rfl (lv_at hl 1 rfl) ?_
        refine lv_bipush (v := 16) hx hb dJ6_numberOfTrailingZeros_0f7a4_50 (by decide) ?_
        refine lv_icmp_le (tgt := 62) hx hb dJ6_numberOfTrailingZeros_0f7a4_52 (by decide) (fun c4 => ?_) (fun c4 => ?_)
        · refine lv_iload_n hx hb dJ6_numberOfTrailingZeros_0f7a4_62 rfl (lv_at hl 1 rfl) ?_
          refine lv_iconst (v := 4) hx hb dJ6_numberOfTrailingZeros_0f7a4_63 (by decide) ?_
          refine lv_icmp_le (tgt := 74) hx hb dJ6_numberOfTrailingZeros_0f7a4_64 (by decide) (fun c5 => ?_) (fun c5 => ?_)
          · refine lv_iload_n hx hb dJ6_numberOfTrailingZeros_0f7a4_74 rfl (lv_at hl 0 rfl) ?_
            refine lv_iload_n hx hb dJ6_numberOfTrailingZeros_0f7a4_75 rfl (lv_at hl 1 rfl) ?_
            refine lv_iconst (v := 1) hx hb dJ6_numberOfTrailingZeros_0f7a4_76 (by decide) ?_
            refine lv_iushr (v := s_ushr ((p1 ^^^ (-1)) &&& (p1 - 1)) 1) hx hb dJ6_numberOfTrailingZeros_0f7a4_77 rfl ?_
            refine lv_iadd hx hb dJ6_numberOfTrailingZeros_0f7a4_78 ?_
            exact sx_ret hx hb hr hlk rfl (by simp only [s_J6_numberOfTrailingZeros_0f7a4, if_pos c1, if_pos c2, if_pos c3, if_pos c4, if_pos c5]) dJ6_numberOfTrailingZeros_0f7a4_79
          · refine lv_iinc (v := 1 + 2) (lv' := [(1, .int (1 + 2)), (0, .int ((p1 ^^^ (-1)) &&& (p1 - 1)))]) hx hb dJ6_numberOfTrailingZeros_0f7a4_67 hl (k := 0) rfl (rfl) (by decide) rfl (fun ls hl => ?_)
            refine lv_iload_n hx hb dJ6_numberOfTrailingZeros_0f7a4_70 rfl (lv_at hl 1 rfl) ?_
            refine lv_iconst (v := 2) hx hb dJ6_numberOfTrailingZeros_0f7a4_71 (by decide) ?_
            refine lv_iushr (v := s_ushr ((p1 ^^^ (-1)) &&& (p1 - 1)) 2) hx hb dJ6_numberOfTrailingZeros_0f7a4_72 rfl ?_
            refine lv_istore_n (lv' := [(0, .int (s_ushr ((p1 ^^^ (-1)) &&& (p1 - 1)) 2)), (1, .int (1 + 2))]) hx hb dJ6_numberOfTrailingZeros_0f7a4_73 rfl hl (by decide) rfl (fun ls hl => ?_)
            refine lv_iload_n hx hb dJ6_numberOfTrailingZeros_0f7a4_74 rfl (lv_at hl 1 rfl) ?_
            refine lv_iload_n hx hb dJ6_numberOfTrailingZeros_0f7a4_75 rfl (lv_at hl 0 rfl) ?_
            refine lv_iconst (v := 1) hx hb dJ6_numberOfTrailingZeros_0f7a4_76 (by decide) ?_
            refine lv_iushr (v := s_ushr (s_ushr ((p1 ^^^ (-1)) &&& (p1 - 1)) 2) 1) hx hb dJ6_numberOfTrailingZeros_0f7a4_77 rfl ?_
            refine lv_iadd hx hb dJ6_numberOfTrailingZeros_0f7a4_78 ?_
            exact sx_ret hx hb hr hlk rfl (by simp only [s_J6_numberOfTrailingZeros_0f7a4, if_pos c1, if_pos c2, if_pos c3, if_pos c4, if_neg c5]) dJ6_numberOfTrailingZeros_0f7a4_79
        · refine lv_iinc (v := 1 + 4) (lv' := [(1, .int (1 + 4)), (0, .int ((p1 ^^^ (-1)) &&& (p1 - 1)))]) hx hb dJ6_numberOfTrailingZeros_0f7a4_55 hl (k := 0) rfl (rfl) (by decide) rfl (fun ls hl => ?_)
          refine lv_iload_n hx hb dJ6_numberOfTrailingZeros_0f7a4_58 rfl (lv_at hl 1 rfl) ?_
          refine lv_iconst (v := 4) hx hb dJ6_numberOfTrailingZeros_0f7a4_59 (by decide) ?_
          refine lv_iushr (v := s_ushr ((p1 ^^^ (-1)) &&& (p1 - 1)) 4) hx hb dJ6_numberOfTrailingZeros_0f7a4_60 rfl ?_
          refine lv_istore_n (lv' := [(0, .int (s_ushr ((p1 ^^^ (-1)) &&& (p1 - 1)) 4)), (1, .int (1 + 4))]) hx hb dJ6_numberOfTrailingZeros_0f7a4_61 rfl hl (by decide) rfl (fun ls hl => ?_)
          refine lv_iload_n hx hb dJ6_numberOfTrailingZeros_0f7a4_62 rfl (lv_at hl 0 rfl) ?_
          refine lv_iconst (v := 4) hx hb dJ6_numberOfTrailingZeros_0f7a4_63 (by decide) ?_
          refine lv_icmp_le (tgt := 74) hx hb dJ6_numberOfTrailingZeros_0f7a4_64 (by decide) (fun c6 => ?_) (fun c6 => ?_)
          · refine lv_iload_n hx hb dJ6_numberOfTrailingZeros_0f7a4_74 rfl (lv_at hl 1 rfl) ?_
            refine lv_iload_n hx hb dJ6_numberOfTrailingZeros_0f7a4_75 rfl (lv_at hl 0 rfl) ?_
            refine lv_iconst (v := 1) hx hb dJ6_numberOfTrailingZeros_0f7a4_76 (by decide) ?_
            refine lv_iushr (v := s_ushr (s_ushr ((p1 ^^^ (-1)) &&& (p1 - 1)) 4) 1) hx hb dJ6_numberOfTrailingZeros_0f7a4_77 rfl ?_
            refine lv_iadd hx hb dJ6_numberOfTrailingZeros_0f7a4_78 ?_
            exact sx_ret hx hb hr hlk rfl (by simp only [s_J6_numberOfTrailingZeros_0f7a4, if_pos c1, if_pos c2, if_pos c3, if_neg c4, if_pos c6]) dJ6_numberOfTrailingZeros_0f7a4_79
          · refine lv_iinc (v := (1 + 4) + 2) (lv' := [(1, .int ((1 + 4) + 2)), (0, .int (s_ushr ((p1 ^^^ (-1)) &&& (p1 - 1)) 4))]) hx hb dJ6_numberOfTrailingZeros_0f7a4_67 hl (k := 1) rfl (rfl) (by decide) rfl (fun ls hl => ?_)
            refine lv_iload_n hx hb dJ6_numberOfTrailingZeros_0f7a4_70 rfl (lv_at hl 1 rfl) ?_
            refine lv_iconst (v := 2) hx hb dJ6_numberOfTrailingZeros_0f7a4_71 (by decide) ?_
            refine lv_iushr (v := s_ushr (s_ushr ((p1 ^^^ (-1)) &&& (p1 - 1)) 4) 2) hx hb dJ6_numberOfTrailingZeros_0f7a4_72 rfl ?_
            refine lv_istore_n (lv' := [(0, .int (s_ushr (s_ushr ((p1 ^^^ (-1)) &&& (p1 - 1)) 4) 2)), (1, .int ((1 + 4) + 2))]) hx hb dJ6_numberOfTrailingZeros_0f7a4_73 rfl hl (by decide) rfl (fun ls hl => ?_)
            refine lv_iload_n hx hb dJ6_numberOfTrailingZeros_0f7a4_74 rfl (lv_at hl 1 rfl) ?_
            refine lv_iload_n hx hb dJ6_numberOfTrailingZeros_0f7a4_75 rfl (lv_at hl 0 rfl) ?_
            refine lv_iconst (v := 1) hx hb dJ6_numberOfTrailingZeros_0f7a4_76 (by decide) ?_
            refine lv_iushr (v := s_ushr (s_ushr (s_ushr ((p1 ^^^ (-1)) &&& (p1 - 1)) 4) 2) 1) hx hb dJ6_numberOfTrailingZeros_0f7a4_77 rfl ?_
            refine lv_iadd hx hb dJ6_numberOfTrailingZeros_0f7a4_78 ?_
            exact sx_ret hx hb hr hlk rfl (by simp only [s_J6_numberOfTrailingZeros_0f7a4, if_pos c1, if_pos c2, if_pos c3, if_neg c4, if_neg c6]) dJ6_numberOfTrailingZeros_0f7a4_79
      · refine lv_iinc (v := 1 + 8) (lv' := [(1, .int (1 + 8)), (0, .int ((p1 ^^^ (-1)) &&& (p1 - 1)))]) hx hb dJ6_numberOfTrailingZeros_0f7a4_41 hl (k := 0) rfl (rfl) (by decide) rfl (fun ls hl => ?_)
        refine lv_iload_n hx hb dJ6_numberOfTrailingZeros_0f7a4_44 rfl (lv_at hl 1 rfl) ?_
        refine lv_bipush (v := 8) hx hb dJ6_numberOfTrailingZeros_0f7a4_45 (by decide) ?_
        refine lv_iushr (v := s_ushr ((p1 ^^^ (-1)) &&& (p1 - 1)) 8) hx hb dJ6_numberOfTrailingZeros_0f7a4_47 rfl ?_
        refine lv_istore_n (lv' := [(0, .int (s_ushr ((p1 ^^^ (-1)) &&& (p1 - 1)) 8)), (1, .int (1 + 8))]) hx hb dJ6_numberOfTrailingZeros_0f7a4_48 rfl hl (by decide) rfl (fun ls hl => ?_)
        refine lv_iload_n hx hb dJ6_numberOfTrailingZeros_0f7a4_49 rfl (lv_at hl 0 rfl) ?_
        refine lv_bipush (v := 16) hx hb dJ6_numberOfTrailingZeros_0f7a4_50 (by decide) ?_
        refine lv_icmp_le (tgt := 62) hx hb dJ6_numberOfTrailingZeros_0f7a4_52 (by decide) (fun c7 => ?_) (fun c7 => ?_)
        · refine lv_iload_n hx hb dJ6_numberOfTrailingZeros_0f7a4_62 rfl (lv_at hl 0 rfl) ?_
          refine lv_iconst (v := 4) hx hb dJ6_numberOfTrailingZeros_0f7a4_63 (by decide) ?_
          refine lv_icmp_le (tgt := 74) hx hb dJ6_numberOfTrailingZeros_0f7a4_64 (by decide) (fun c8 => ?_) (fun c8 => ?_)
          · refine lv_iload_n hx hb dJ6_numberOfTrailingZeros_0f7a4_74 rfl (lv_at hl 1 rfl) ?_
            refine lv_iload_n hx hb dJ6_numberOfTrailingZeros_0f7a4_75 rfl (lv_at hl 0 rfl) ?_
            refine lv_iconst (v := 1) hx hb dJ6_numberOfTrailingZeros_0f7a4_76 (by decide) ?_
            refine lv_iushr (v := s_ushr (s_ushr ((p1 ^^^ (-1)) &&& (p1 - 1)) 8) 1) hx hb dJ6_numberOfTrailingZeros_0f7a4_77 rfl ?_
            refine lv_iadd hx hb dJ6_numberOfTrailingZeros_0f7a4_78 ?_
            exact sx_ret hx hb hr hlk rfl (by simp only [s_J6_numberOfTrailingZeros_0f7a4, if_pos c1, if_pos c2, if_neg c3, if_pos c7, if_pos c8]) dJ6_numberOfTrailingZeros_0f7a4_79
          · refine lv_iinc (v := (1 + 8) + 2) (lv' := [(1, .int ((1 + 8) + 2)), (0, .int (s_ushr ((p1 ^^^ (-1)) &&& (p1 - 1)) 8))]) hx hb dJ6_numberOfTrailingZeros_0f7a4_67 hl (k := 1) rfl (rfl) (by decide) rfl (fun ls hl => ?_)
            refine lv_iload_n hx hb dJ6_numberOfTrailingZeros_0f7a4_70 rfl (lv_at hl 1 rfl) ?_
            refine lv_iconst (v := 2) hx hb dJ6_numberOfTrailingZeros_0f7a4_71 (by decide) ?_
            refine lv_iushr (v := s_ushr (s_ushr ((p1 ^^^ (-1)) &&& (p1 - 1)) 8) 2) hx hb dJ6_numberOfTrailingZeros_0f7a4_72 rfl ?_
            refine lv_istore_n (lv' := [(0, .int (s_ushr (s_ushr ((p1 ^^^ (-1)) &&& (p1 - 1)) 8) 2)), (1, .int ((1 + 8) + 2))]) hx hb dJ6_numberOfTrailingZeros_0f7a4_73 rfl hl (by decide) rfl (fun ls hl => ?_)
            refine lv_iload_n hx hb dJ6_numberOfTrailingZeros_0f7a4_74 rfl (lv_at hl 1 rfl) ?_
            refine lv_iload_n hx hb dJ6_numberOfTrailingZeros_0f7a4_75 rfl (lv_at hl 0 rfl) ?_
            refine lv_iconst (v := 1) hx hb dJ6_numberOfTrailingZeros_0f7a4_76 (by decide) ?_
            refine lv_iushr (v := s_ushr (s_ushr (s_ushr ((p1 ^^^ (-1)) &&& (p1 - 1)) 8) 2) 1) hx hb dJ6_numberOfTrailingZeros_0f7a4_77 rfl ?_
            refine lv_iadd hx hb dJ6_numberOfTrailingZeros_0f7a4_78 ?_
            exact sx_ret hx hb hr hlk rfl (by simp only [s_J6_numberOfTrailingZeros_0f7a4, if_pos c1, if_pos c2, if_neg c3, if_pos c7, if_neg c8]) dJ6_numberOfTrailingZeros_0f7a4_79
        · refine lv_iinc (v := (1 + 8) + 4) (lv' := [(1, .int ((1 + 8) + 4)), (0, .int (s_ushr ((p1 ^^^ (-1)) &&& (p1 - 1)) 8))]) hx hb dJ6_numberOfTrailingZeros_0f7a4_55 hl (k := 1) rfl (rfl) (by decide) rfl (fun ls hl => ?_)
          refine lv_iload_n hx hb dJ6_numberOfTrailingZeros_0f7a4_58 rfl (lv_at hl 1 rfl) ?_
          refine lv_iconst (v := 4) hx hb dJ6_numberOfTrailingZeros_0f7a4_59 (by decide) ?_
          refine lv_iushr (v := s_ushr (s_ushr ((p1 ^^^ (-1)) &&& (p1 - 1)) 8) 4) hx hb dJ6_numberOfTrailingZeros_0f7a4_60 rfl ?_
          refine lv_istore_n (lv' := [(0, .int (s_ushr (s_ushr ((p1 ^^^ (-1)) &&& (p1 - 1)) 8) 4)), (1, .int ((1 + 8) + 4))]) hx hb dJ6_numberOfTrailingZeros_0f7a4_61 rfl hl (by decide) rfl (fun ls hl => ?_)
          refine lv_iload_n hx hb dJ6_numberOfTrailingZeros_0f7a4_62 rfl (lv_at hl 0 rfl) ?_
          refine lv_iconst (v := 4) hx hb dJ6_numberOfTrailingZeros_0f7a4_63 (by decide) ?_
          refine lv_icmp_le (tgt := 74) hx hb dJ6_numberOfTrailingZeros_0f7a4_64 (by decide) (fun c9 => ?_) (fun c9 => ?_)
          · refine lv_iload_n hx hb dJ6_numberOfTrailingZeros_0f7a4_74 rfl (lv_at hl 1 rfl) ?_
            refine lv_iload_n hx hb dJ6_numberOfTrailingZeros_0f7a4_75 rfl (lv_at hl 0 rfl) ?_
            refine lv_iconst (v := 1) hx hb dJ6_numberOfTrailingZeros_0f7a4_76 (by decide) ?_
            refine lv_iushr (v := s_ushr (s_ushr (s_ushr ((p1 ^^^ (-1)) &&& (p1 - 1)) 8) 4) 1) hx hb dJ6_numberOfTrailingZeros_0f7a4_77 rfl ?_
            refine lv_iadd hx hb dJ6_numberOfTrailingZeros_0f7a4_78 ?_
            exact sx_ret hx hb hr hlk rfl (by simp only [s_J6_numberOfTrailingZeros_0f7a4, if_pos c1, if_pos c2, if_neg c3, if_neg c7, if_pos c9]) dJ6_numberOfTrailingZeros_0f7a4_79
          · refine lv_iinc (v := ((1 + 8) + 4) + 2) (lv' := [(1, .int (((1 + 8) + 4) + 2)), (0, .int (s_ushr (s_ushr ((p1 ^^^ (-1)) &&& (p1 - 1)) 8) 4))]) hx hb dJ6_numberOfTrailingZeros_0f7a4_67 hl (k := 1) rfl (rfl) (by decide) rfl (fun ls hl => ?_)
            refine lv_iload_n hx hb dJ6_numberOfTrailingZeros_0f7a4_70 rfl (lv_at hl 1 rfl) ?_
            refine lv_iconst (v := 2) hx hb dJ6_numberOfTrailingZeros_0f7a4_71 (by decide) ?_
            refine lv_iushr (v := s_ushr (s_ushr (s_ushr ((p1 ^^^ (-1)) &&& (p1 - 1)) 8) 4) 2) hx hb dJ6_numberOfTrailingZeros_0f7a4_72 rfl ?_
            refine lv_istore_n (lv' := [(0, .int (s_ushr (s_ushr (s_ushr ((p1 ^^^ (-1)) &&& (p1 - 1)) 8) 4) 2)), (1, .int (((1 + 8) + 4) + 2))]) hx hb dJ6_numberOfTrailingZeros_0f7a4_73 rfl hl (by decide) rfl (fun ls hl => ?_)
            refine lv_iload_n hx hb dJ6_numberOfTrailingZeros_0f7a4_74 rfl (lv_at hl 1 rfl) ?_
            refine lv_iload_n hx hb dJ6_numberOfTrailingZeros_0f7a4_75 rfl (lv_at hl 0 rfl) ?_
            refine lv_iconst (v := 1) hx hb dJ6_numberOfTrailingZeros_0f7a4_76 (by decide) ?_
            refine lv_iushr (v := s_ushr (s_ushr (s_ushr (s_ushr ((p1 ^^^ (-1)) &&& (p1 - 1)) 8) 4) 2) 1) hx hb dJ6_numberOfTrailingZeros_0f7a4_77 rfl ?_
            refine lv_iadd hx hb dJ6_numberOfTrailingZeros_0f7a4_78 ?_
            exact sx_ret hx hb hr hlk rfl (by simp only [s_J6_numberOfTrailingZeros_0f7a4, if_pos c1, if_pos c2, if_neg c3, if_neg c7, if_neg c9]) dJ6_numberOfTrailingZeros_0f7a4_79
    · refine lv_iinc (v := 1 + 16) (lv' := [(1, .int (1 + 16)), (0, .int ((p1 ^^^ (-1)) &&& (p1 - 1)))]) hx hb dJ6_numberOfTrailingZeros_0f7a4_26 hl (k := 0) rfl (rfl) (by decide) rfl (fun ls hl => ?_)
      refine lv_iload_n hx hb dJ6_numberOfTrailingZeros_0f7a4_29 rfl (lv_at hl 1 rfl) ?_
      refine lv_bipush (v := 16) hx hb dJ6_numberOfTrailingZeros_0f7a4_30 (by decide) ?_
      refine lv_iushr (v := s_ushr ((p1 ^^^ (-1)) &&& (p1 - 1)) 16) hx hb dJ6_numberOfTrailingZeros_0f7a4_32 rfl ?_
      refine lv_istore_n (lv' := [(0, .int (s_ushr ((p1 ^^^ (-1)) &&& (p1 - 1)) 16)), (1, .int (1 + 16))]) hx hb dJ6_numberOfTrailingZeros_0f7a4_33 rfl hl (by decide) rfl (fun ls hl => ?_)
      refine lv_iload_n hx hb dJ6_numberOfTrailingZeros_0f7a4_34 rfl (lv_at hl 0 rfl) ?_
      refine lv_sipush (v := 256) hx hb dJ6_numberOfTrailingZeros_0f7a4_35 (by decide) ?_
      refine lv_icmp_le (tgt := 49) hx hb dJ6_numberOfTrailingZeros_0f7a4_38 (by decide) (fun c10 => ?_) (fun c10 => ?_)
      · refine lv_iload_n hx hb dJ6_numberOfTrailingZeros_0f7a4_49 rfl (lv_at hl 0 rfl) ?_
        refine lv_bipush (v := 16) hx hb dJ6_numberOfTrailingZeros_0f7a4_50 (by decide) ?_
        refine lv_icmp_le (tgt := 62) hx hb dJ6_numberOfTrailingZeros_0f7a4_52 (by decide) (fun c11 => ?_) (fun c11 => ?_)
        · refine lv_iload_n hx hb dJ6_numberOfTrailingZeros_0f7a4_62 rfl (lv_at hl 0 rfl) ?_
          refine lv_iconst (v := 4) hx hb dJ6_numberOfTrailingZeros_0f7a4_63 (by decide) ?_
          refine lv_icmp_le (tgt := 74) hx hb dJ6_numberOfTrailingZeros_0f7a4_64 (by decide) (fun c12 => ?_) (fun c12 => ?_)
          · refine lv_iload_n hx hb dJ6_numberOfTrailingZeros_0f7a4_74 rfl (lv_at hl 1 rfl) ?_
            refine lv_iload_n hx hb dJ6_numberOfTrailingZeros_0f7a4_75 rfl (lv_at hl 0 rfl) ?_
            refine lv_iconst (v := 1) hx hb dJ6_numberOfTrailingZeros_0f7a4_76 (by decide) ?_
            refine lv_iushr (v := s_ushr (s_ushr ((p1 ^^^ (-1)) &&& (p1 - 1)) 16) 1) hx hb dJ6_numberOfTrailingZeros_0f7a4_77 rfl ?_
            refine lv_iadd hx hb dJ6_numberOfTrailingZeros_0f7a4_78 ?_
            exact sx_ret hx hb hr hlk rfl (by simp only [s_J6_numberOfTrailingZeros_0f7a4, if_pos c1, if_neg c2, if_pos c10, if_pos c11, if_pos c12]) dJ6_numberOfTrailingZeros_0f7a4_79
          · refine lv_iinc (v := (1 + 16) + 2) (lv' := [(1, .int ((1 + 16) + 2)), (0, .int (s_ushr ((p1 ^^^ (-1)) &&& (p1 - 1)) 16))]) hx hb dJ6_numberOfTrailingZeros_0f7a4_67 hl (k := 1) rfl (rfl) (by decide) rfl (fun ls hl => ?_)
            refine lv_iload_n hx hb dJ6_numberOfTrailingZeros_0f7a4_70 rfl (lv_at hl 1 rfl) ?_
            refine lv_iconst (v := 2) hx hb dJ6_numberOfTrailingZeros_0f7a4_71 (by decide) ?_
            refine lv_iushr (v := s_ushr (s_ushr ((p1 ^^^ (-1)) &&& (p1 - 1)) 16) 2) hx hb dJ6_numberOfTrailingZeros_0f7a4_72 rfl ?_
            refine lv_istore_n (lv' := [(0, .int (s_ushr (s_ushr ((p1 ^^^ (-1)) &&& (p1 - 1)) 16) 2)), (1, .int ((1 + 16) + 2))]) hx hb dJ6_numberOfTrailingZeros_0f7a4_73 rfl hl (by decide) rfl (fun ls hl => ?_)
            refine lv_iload_n hx hb dJ6_numberOfTrailingZeros_0f7a4_74 rfl (lv_at hl 1 rfl) ?_
            refine lv_iload_n hx hb dJ6_numberOfTrailingZeros_0f7a4_75 rfl (lv_at hl 0 rfl) ?_
            refine lv_iconst (v := 1) hx hb dJ6_numberOfTrailingZeros_0f7a4_76 (by decide) ?_
            refine lv_iushr (v := s_ushr (s_ushr (s_ushr ((p1 ^^^ (-1)) &&& (p1 - 1)) 16) 2) 1) hx hb dJ6_numberOfTrailingZeros_0f7a4_77 rfl ?_
            refine lv_iadd hx hb dJ6_numberOfTrailingZeros_0f7a4_78 ?_
            exact sx_ret hx hb hr hlk rfl (by simp only [s_J6_numberOfTrailingZeros_0f7a4, if_pos c1, if_neg c2, if_pos c10, if_pos c11, if_neg c12]) dJ6_numberOfTrailingZeros_0f7a4_79
        · refine lv_iinc (v := (1 + 16) + 4) (lv' := [(1, .int ((1 + 16) + 4)), (0, .int (s_ushr ((p1 ^^^ (-1)) &&& (p1 - 1)) 16))]) hx hb dJ6_numberOfTrailingZeros_0f7a4_55 hl (k := 1) rfl (rfl) (by decide) rfl (fun ls hl => ?_)
          refine lv_iload_n hx hb dJ6_numberOfTrailingZeros_0f7a4_58 rfl (lv_at hl 1 rfl) ?_
          refine lv_iconst (v := 4) hx hb dJ6_numberOfTrailingZeros_0f7a4_59 (by decide) ?_
          refine lv_iushr (v := s_ushr (s_ushr ((p1 ^^^ (-1)) &&& (p1 - 1)) 16) 4) hx hb dJ6_numberOfTrailingZeros_0f7a4_60 rfl ?_
          refine lv_istore_n (lv' := [(0, .int (s_ushr (s_ushr ((p1 ^^^ (-1)) &&& (p1 - 1)) 16) 4)), (1, .int ((1 + 16) + 4))]) hx hb dJ6_numberOfTrailingZeros_0f7a4_61 rfl hl (by decide) rfl (fun ls hl => ?_)
          refine lv_iload_n hx hb dJ6_numberOfTrailingZeros_0f7a4_62 rfl (lv_at hl 0 rfl) ?_
          refine lv_iconst (v := 4) hx hb dJ6_numberOfTrailingZeros_0f7a4_63 (by decide) ?_
          refine lv_icmp_le (tgt := 74) hx hb dJ6_numberOfTrailingZeros_0f7a4_64 (by decide) (fun c13 => ?_) (fun c13 => ?_)
          · refine lv_iload_n hx hb dJ6_numberOfTrailingZeros_0f7a4_74 rfl (lv_at hl 1 rfl) ?_
            refine lv_iload_n hx hb dJ6_numberOfTrailingZeros_0f7a4_75 rfl (lv_at hl 0 rfl) ?_
            refine lv_iconst (v := 1) hx hb dJ6_numberOfTrailingZeros_0f7a4_76 (by decide) ?_
            refine lv_iushr (v := s_ushr (s_ushr (s_ushr ((p1 ^^^ (-1)) &&& (p1 - 1)) 16) 4) 1) hx hb dJ6_numberOfTrailingZeros_0f7a4_77 rfl ?_
            refine lv_iadd hx hb dJ6_numberOfTrailingZeros_0f7a4_78 ?_
            exact sx_ret hx hb hr hlk rfl (by simp only [s_J6_numberOfTrailingZeros_0f7a4, if_pos c1, if_neg c2, if_pos c10, if_neg c11, if_pos c13]) dJ6_numberOfTrailingZeros_0f7a4_79
          · refine lv_iinc (v := ((1 + 16) + 4) + 2) (lv' := [(1, .int (((1 + 16) + 4) + 2)), (0, .int (s_ushr (s_ushr ((p1 ^^^ (-1)) &&& (p1 - 1)) 16) 4))]) hx hb dJ6_numberOfTrailingZeros_0f7a4_67 hl (k := 1) rfl (rfl) (by decide) rfl (fun ls hl => ?_)
            refine lv_iload_n hx hb dJ6_numberOfTrailingZeros_0f7a4_70 rfl (lv_at hl 1 rfl) ?_
            refine lv_iconst (v := 2) hx hb dJ6_numberOfTrailingZeros_0f7a4_71 (by decide) ?_
            refine lv_iushr (v := s_ushr (s_ushr (s_ushr ((p1 ^^^ (-1)) &&& (p1 - 1)) 16) 4) 2) hx hb dJ6_numberOfTrailingZeros_0f7a4_72 rfl ?_
            refine lv_istore_n (lv' := [(0, .int (s_ushr (s_ushr (s_ushr ((p1 ^^^ (-1)) &&& (p1 - 1)) 16) 4) 2)), (1, .int (((1 + 16) + 4) + 2))]) hx hb dJ6_numberOfTrailingZeros_0f7a4_73 rfl hl (by decide) rfl (fun ls hl => ?_)
            refine lv_iload_n hx hb dJ6_numberOfTrailingZeros_0f7a4_74 rfl (lv_at hl 1 rfl) ?_
            refine lv_iload_n hx hb dJ6_numberOfTrailingZeros_0f7a4_75 rfl (lv_at hl 0 rfl) ?_
            refine lv_iconst (v := 1) hx hb dJ6_numberOfTrailingZeros_0f7a4_76 (by decide) ?_
            refine lv_iushr (v := s_ushr (s_ushr (s_ushr (s_ushr ((p1 ^^^ (-1)) &&& (p1 - 1)) 16) 4) 2) 1) hx hb dJ6_numberOfTrailingZeros_0f7a4_77 rfl ?_
            refine lv_iadd hx hb dJ6_numberOfTrailingZeros_0f7a4_78 ?_
            exact sx_ret hx hb hr hlk rfl (by simp only [s_J6_numberOfTrailingZeros_0f7a4, if_pos c1, if_neg c2, if_pos c10, if_neg c11, if_neg c13]) dJ6_numberOfTrailingZeros_0f7a4_79
      · refine lv_iinc (v := (1 + 16) + 8) (lv' := [(1, .int ((1 + 16) + 8)), (0, .int (s_ushr ((p1 ^^^ (-1)) &&& (p1 - 1)) 16))]) hx hb dJ6_numberOfTrailingZeros_0f7a4_41 hl (k := 1) rfl (rfl) (by decide) rfl (fun ls hl => ?_)
        refine lv_iload_n hx hb dJ6_numberOfTrailingZeros_0f7a4_44 rfl (lv_at hl 1 rfl) ?_
        refine lv_bipush (v := 8) hx hb dJ6_numberOfTrailingZeros_0f7a4_45 (by decide) ?_
        refine lv_iushr (v := s_ushr (s_ushr ((p1 ^^^ (-1)) &&& (p1 - 1)) 16) 8) hx hb dJ6_numberOfTrailingZeros_0f7a4_47 rfl ?_
        refine lv_istore_n (lv' := [(0, .int (s_ushr (s_ushr ((p1 ^^^ (-1)) &&& (p1 - 1)) 16) 8)), (1, .int ((1 + 16) + 8))]) hx hb dJ6_numberOfTrailingZeros_0f7a4_48 rfl hl (by decide) rfl (fun ls hl => ?_)
        refine lv_iload_n hx hb dJ6_numberOfTrailingZeros_0f7a4_49 rfl (lv_at hl 0 rfl) ?_
        refine lv_bipush (v := 16) hx hb dJ6_numberOfTrailingZeros_0f7a4_50 (by decide) ?_
        refine lv_icmp_le (tgt := 62) hx hb dJ6_numberOfTrailingZeros_0f7a4_52 (by decide) (fun c14 => ?_) (fun c14 => ?_)
        · refine lv_iload_n hx hb dJ6_numberOfTrailingZeros_0f7a4_62 rfl (lv_at hl 0 rfl) ?_
          refine lv_iconst (v := 4) hx hb dJ6_numberOfTrailingZeros_0f7a4_63 (by decide) ?_
          refine lv_icmp_le (tgt := 74) hx hb dJ6_numberOfTrailingZeros_0f7a4_64 (by decide) (fun c15 => ?_) (fun c15 => ?_)
          · refine lv_iload_n hx hb dJ6_numberOfTrailingZeros_0f7a4_74 rfl (lv_at hl 1 rfl) ?_
            refine lv_iload_n hx hb dJ6_numberOfTrailingZeros_0f7a4_75 rfl (lv_at hl 0 rfl) ?_
            refine lv_iconst (v := 1) hx hb dJ6_numberOfTrailingZeros_0f7a4_76 (by decide) ?_
            refine lv_iushr (v := s_ushr (s_ushr (s_ushr ((p1 ^^^ (-1)) &&& (p1 - 1)) 16) 8) 1) hx hb dJ6_numberOfTrailingZeros_0f7a4_77 rfl ?_
            refine lv_iadd hx hb dJ6_numberOfTrailingZeros_0f7a4_78 ?_
            exact sx_ret hx hb hr hlk rfl (by simp only [s_J6_numberOfTrailingZeros_0f7a4, if_pos c1, if_neg c2, if_neg c10, if_pos c14, if_pos c15]) dJ6_numberOfTrailingZeros_0f7a4_79
          · refine lv_iinc (v := ((1 + 16) + 8) + 2) (lv' := [(1, .int (((1 + 16) + 8) + 2)), (0, .int (s_ushr (s_ushr ((p1 ^^^ (-1)) &&& (p1 - 1)) 16) 8))]) hx hb dJ6_numberOfTrailingZeros_0f7a4_67 hl (k := 1) rfl (rfl) (by decide) rfl (fun ls hl => ?_)
            refine lv_iload_n hx hb dJ6_numberOfTrailingZeros_0f7a4_70 rfl (lv_at hl 1 rfl) ?_
            refine lv_iconst (v := 2) hx hb dJ6_numberOfTrailingZeros_0f7a4_71 (by decide) ?_
            refine lv_iushr (v := s_ushr (s_ushr (s_ushr ((p1 ^^^ (-1)) &&& (p1 - 1)) 16) 8) 2) hx hb dJ6_numberOfTrailingZeros_0f7a4_72 rfl ?_
            refine lv_istore_n (lv' := [(0, .int (s_ushr (s_ushr (s_ushr ((p1 ^^^ (-1)) &&& (p1 - 1)) 16) 8) 2)), (1, .int (((1 + 16) + 8) + 2))]) hx hb dJ6_numberOfTrailingZeros_0f7a4_73 rfl hl (by decide) rfl (fun ls hl => ?_)
            refine lv_iload_n hx hb dJ6_numberOfTrailingZeros_0f7a4_74 rfl (lv_at hl 1 rfl) ?_
            refine lv_iload_n hx hb dJ6_numberOfTrailingZeros_0f7a4_75 rfl (lv_at hl 0 rfl) ?_
            refine lv_iconst (v := 1) hx hb dJ6_numberOfTrailingZeros_0f7a4_76 (by decide) ?_
            refine lv_iushr (v := s_ushr (s_ushr (s_ushr (s_ushr ((p1 ^^^ (-1)) &&& (p1 - 1)) 16) 8) 2) 1) hx hb dJ6_numberOfTrailingZeros_0f7a4_77 rfl ?_
            refine lv_iadd hx hb dJ6_numberOfTrailingZeros_0f7a4_78 ?_
            exact sx_ret hx hb hr hlk rfl (by simp only [s_J6_numberOfTrailingZeros_0f7a4, if_pos c1, if_neg c2, if_neg c10, if_pos c14, if_neg c15]) dJ6_numberOfTrailingZeros_0f7a4_79
        · refine lv_iinc (v := ((1 + 16) + 8) + 4) (lv' := [(1, .int (((1 + 16) + 8) + 4)), (0, .int (s_ushr (s_ushr ((p1 ^^^ (-1)) &&& (p1 - 1)) 16) 8))]) hx hb dJ6_numberOfTrailingZeros_0f7a4_55 hl (k := 1) rfl (rfl) (by decide) rfl (fun ls hl => ?_)
          refine lv_iload_n hx hb dJ6_numberOfTrailingZeros_0f7a4_58 rfl (lv_at hl 1 rfl) ?_
          refine lv_iconst (v := 4) hx hb dJ6_numberOfTrailingZeros_0f7a4_59 (by decide) ?_
          refine lv_iushr (v := s_ushr (s_ushr (s_ushr ((p1 ^^^ (-1)) &&& (p1 - 1)) 16) 8) 4) hx hb dJ6_numberOfTrailingZeros_0f7a4_60 rfl ?_
          refine lv_istore_n (lv' := [(0, .int (s_ushr (s_ushr (s_ushr ((p1 ^^^ (-1)) &&& (p1 - 1)) 16) 8) 4)), (1, .int (((1 + 16) + 8) + 4))]) hx hb dJ6_numberOfTrailingZeros_0f7a4_61 rfl hl (by decide) rfl (fun ls hl => ?_)
          refine lv_iload_n hx hb dJ6_numberOfTrailingZeros_0f7a4_62 rfl (lv_at hl 0 rfl) ?_
          refine lv_iconst (v := 4) hx hb dJ6_numberOfTrailingZeros_0f7a4_63 (by decide) ?_
          refine lv_icmp_le (tgt := 74) hx hb dJ6_numberOfTrailingZeros_0f7a4_64 (by decide) (fun c16 => ?_) (fun c16 => ?_)
          · refine lv_iload_n hx hb dJ6_numberOfTrailingZeros_0f7a4_74 rfl (lv_at hl 1 rfl) ?_
            refine lv_iload_n hx hb dJ6_numberOfTrailingZeros_0f7a4_75 rfl (lv_at hl 0 rfl) ?_
            refine lv_iconst (v := 1) hx hb dJ6_numberOfTrailingZeros_0f7a4_76 (by decide) ?_
            refine lv_iushr (v := s_ushr (s_ushr (s_ushr (s_ushr ((p1 ^^^ (-1)) &&& (p1 - 1)) 16) 8) 4) 1) hx hb dJ6_numberOfTrailingZeros_0f7a4_77 rfl ?_
            refine lv_iadd hx hb dJ6_numberOfTrailingZeros_0f7a4_78 ?_
            exact sx_ret hx hb hr hlk rfl (by simp only [s_J6_numberOfTrailingZeros_0f7a4, if_pos c1, if_neg c2, if_neg c10, if_neg c14, if_pos c16]) dJ6_numberOfTrailingZeros_0f7a4_79
          · refine lv_iinc (v := (((1 + 16) + 8) + 4) + 2) (lv' := [(1, .int ((((1 + 16) + 8) + 4) + 2)), (0, .int (s_ushr (s_ushr (s_ushr ((p1 ^^^ (-1)) &&& (p1 - 1)) 16) 8) 4))]) hx hb dJ6_numberOfTrailingZeros_0f7a4_67 hl (k := 1) rfl (rfl) (by decide) rfl (fun ls hl => ?_)
            refine lv_iload_n hx hb dJ6_numberOfTrailingZeros_0f7a4_70 rfl (lv_at hl 1 rfl) ?_
            refine lv_iconst (v := 2) hx hb dJ6_numberOfTrailingZeros_0f7a4_71 (by decide) ?_
            refine lv_iushr (v := s_ushr (s_ushr (s_ushr (s_ushr ((p1 ^^^ (-1)) &&& (p1 - 1)) 16) 8) 4) 2) hx hb dJ6_numberOfTrailingZeros_0f7a4_72 rfl ?_
            refine lv_istore_n (lv' := [(0, .int (s_ushr (s_ushr (s_ushr (s_ushr ((p1 ^^^ (-1)) &&& (p1 - 1)) 16) 8) 4) 2)), (1, .int ((((1 + 16) + 8) + 4) + 2))]) hx hb dJ6_numberOfTrailingZeros_0f7a4_73 rfl hl (by decide) rfl (fun ls hl => ?_)
            refine lv_iload_n hx hb dJ6_numberOfTrailingZeros_0f7a4_74 rfl (lv_at hl 1 rfl) ?_
            refine lv_iload_n hx hb dJ6_numberOfTrailingZeros_0f7a4_75 rfl (lv_at hl 0 rfl) ?_
            refine lv_iconst (v := 1) hx hb dJ6_numberOfTrailingZeros_0f7a4_76 (by decide) ?_
            refine lv_iushr (v := s_ushr (s_ushr (s_ushr (s_ushr (s_ushr ((p1 ^^^ (-1)) &&& (p1 - 1)) 16) 8) 4) 2) 1) hx hb dJ6_numberOfTrailingZeros_0f7a4_77 rfl ?_
            refine lv_iadd hx hb dJ6_numberOfTrailingZeros_0f7a4_78 ?_
            exact sx_ret hx hb hr hlk rfl (by simp only [s_J6_numberOfTrailingZeros_0f7a4, if_pos c1, if_neg c2, if_neg c10, if_neg c14, if_neg c16]) dJ6_numberOfTrailingZeros_0f7a4_79
  · refine lv_iload_n hx hb dJ6_numberOfTrailingZeros_0f7a4_12 rfl (lv_at hl 0 rfl) ?_
    refine lv_bipush (v := 32) hx hb dJ6_numberOfTrailingZeros_0f7a4_13 (by decide) ?_
    refine lv_iand hx hb dJ6_numberOfTrailingZeros_0f7a4_15 ?_
    exact sx_ret hx hb hr hlk rfl (by simp only [s_J6_numberOfTrailingZeros_0f7a4, if_neg c1]) dJ6_numberOfTrailingZeros_0f7a4_16
