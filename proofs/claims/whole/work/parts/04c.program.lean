abbrev wdX5_allLeaves : List Cond := Cond.code yX5_allLeaves cX5_allLeaves 3 (some .int) :: bwC
def sl_X5_allLeaves_L4 (pv : Nat) (fk : Nat → Int32)  : Nat → (Int32) → (Nat) → Int32
  | 0, _, _ => 0
  | k + 1, va, i => if (nI pv) ≤ (nI i) then va else sl_X5_allLeaves_L4 pv fk k (va ||| (s_X5_leavesOf pv fk (nI (3 * i)))) (i + 1)
set_option maxHeartbeats 4000000 in
set_option maxRecDepth 100000 in
theorem l_X5_allLeaves_L4 (l : Launch) (G : sxG) (h : Nat) (k0 : Nat) (k1 : Nat) (k2 : Nat) (k3 : Nat) (pv : Nat) (pn : Nat) (fk : Nat → Int32) (hv : pv ≤ 8)   {p : Program} {e : Env} {s : State} {m : MethodId} {args : Array Value} {below : List Frame} {meth : Method} {c : Code} (hB : sxB G yX5_allLeaves wdX5_allLeaves cX5_allLeaves 3 (.int) p s m args meth c) (hP : va_P G.1 vwCl [(h, .inr (10, [.ref k0, .ref k1, .ref k2, .ref k3, .int (nI pv), .int (nI pn)])), (k0, .inl (G.2.1, 8, .inl fk))] s.heap) (S0 : Int32) : ∀ (k : Nat) (va : Int32) (i : Nat), i ≤ pv → 8 - i < k → S0 = sl_X5_allLeaves_L4 pv fk k va i → ∀ ls : Array Slot, lv_has ls 3 [(0, .ref h), (1, .int va), (2, .int (nI i))] → W p l e ({ frames := 2, cells := 0, slots := 0, locals := 44 }) s m args below meth c s.heap [] 0 0 (MQ below (vp_Si (fun r => r = S0)) args s 0 0 (fun _ => False)) (F0 m 4 ls []) := by
  obtain ⟨hx, hb, hr, hml, hown, hlk, hts, hK⟩ := id hB
  intro k
  induction k with
  | zero =>
    intro va i _ hm
    exact absurd hm (Nat.not_lt_zero _)
  | succ k ih =>
    intro va i hi hm hE ls hl
    refine lv_iload_n hx hb dX5_allLeaves_4 rfl (lv_at hl 2 rfl) ?_
    refine lv_aload_n hx hb dX5_allLeaves_5 rfl (lv_at hl 0 rfl) ?_
    refine va_get (D := G.1) (ci := 10) (v := .int (nI pv)) (C := RX5) (T := TX5) (N := 6) hx hb hts owX5 hown hK.1 hP 0 rfl rfl 4 (by decide) (bw1 (w := Cond.fieldLink RX5 24 "DropflagMill$Program" "variables" "I") hts 47 rfl) (fun _ h9 => h9) rfl dX5_allLeaves_6 ?_
    refine lv_icmp_ge (tgt := 28) hx hb dX5_allLeaves_9 (by decide) (fun c1 => ?_) (fun c1 => ?_)
    · have nc1 := (nI_leI (a := pv) (b := i) (by omega) (by omega)).mp c1
      refine lv_iload_n hx hb dX5_allLeaves_28 rfl (lv_at hl 1 rfl) ?_
      exact sx_ret hx hb hr hlk rfl (by rw [hE]; simp only [sl_X5_allLeaves_L4, if_pos c1]) dX5_allLeaves_29
    · have nc1 := (not_congr (nI_leI (a := pv) (b := i) (by omega) (by omega))).mp c1
      refine lv_iload_n hx hb dX5_allLeaves_12 rfl (lv_at hl 1 rfl) ?_
      refine lv_aload_n hx hb dX5_allLeaves_13 rfl (lv_at hl 0 rfl) ?_
      refine lv_iconst (v := 3) hx hb dX5_allLeaves_14 (by decide) ?_
      refine lv_iload_n hx hb dX5_allLeaves_15 rfl (lv_at hl 2 rfl) ?_
      refine lv_imul hx hb dX5_allLeaves_16 ?_
      rw [show 3 * (nI i) = nI (3 * i) from pk_mul 3 i]
      refine sx_v (As := [.int (nI (3 * i))]) (rest := [.int va]) hx hb hml hown hts (c_X5_leavesOf l G h k0 k1 k2 k3 pv pn fk (nI (3 * i)) (hv)) 1 (sxGV (bi2 (w := Cond.methodLink RX5 62 yX5_leavesOf) 43 rfl) (bi2 (w := Cond.instanceMethod yX5_leavesOf) 7 rfl) (bi2 (w := Cond.selects RX5 yX5_leavesOf yX5_leavesOf) 8 rfl) (bi1 (w := Cond.initialized RX5) 30 rfl) (bi1 (w := Cond.code yX5_leavesOf cX5_leavesOf 3 (some .int)) 49 rfl)) rfl (by decide +kernel) ⟨Nat.le_of_ble_eq_true rfl, Nat.le_of_ble_eq_true rfl⟩ hK hP [0, 1] rfl 0 rfl rfl rfl hl rfl (Nat.le_of_ble_eq_true rfl) ⟨Nat.zero_le _, Nat.zero_le _⟩ dX5_allLeaves_17 (fun r er => ?_)
      subst er
      refine lv_ior hx hb dX5_allLeaves_20 ?_
      refine lv_istore_n (lv' := [(1, .int (va ||| (s_X5_leavesOf pv fk (nI (3 * i))))), (0, .ref h), (2, .int (nI i))]) hx hb dX5_allLeaves_21 rfl hl (by decide) rfl (fun ls hl => ?_)
      refine lv_iinc (v := nI (i + 1)) (lv' := [(2, .int (nI (i + 1))), (1, .int (va ||| (s_X5_leavesOf pv fk (nI (3 * i))))), (0, .ref h)]) hx hb dX5_allLeaves_22 hl (k := 2) rfl (nI_1 i) (by decide) rfl (fun ls hl => ?_)
      refine lv_goto (tgt := 4) hx hb dX5_allLeaves_25 (by decide) ?_
      exact ih (va ||| (s_X5_leavesOf pv fk (nI (3 * i)))) (i + 1) (by omega) (by omega) (by rw [hE]; simp only [sl_X5_allLeaves_L4, if_neg c1]) ls (lv_sub hl [2, 1, 0] rfl)
def s_X5_allLeaves (pv : Nat) (fk : Nat → Int32) : Int32 := sl_X5_allLeaves_L4 pv fk  9 0 0
set_option maxHeartbeats 4000000 in
set_option maxRecDepth 100000 in
theorem c_X5_allLeaves (l : Launch) (G : sxG) (h : Nat) (k0 : Nat) (k1 : Nat) (k2 : Nat) (k3 : Nat) (pv : Nat) (pn : Nat) (fk : Nat → Int32) (hv : pv ≤ 8) : sxM l yX5_allLeaves wdX5_allLeaves 2 44 G [(h, .inr (10, [.ref k0, .ref k1, .ref k2, .ref k3, .int (nI pv), .int (nI pn)])), (k0, .inl (G.2.1, 8, .inl fk))] [.ref h] (fun r => r = s_X5_allLeaves pv fk) := by
  refine sxM.of (cc := cX5_allLeaves) (maxL := 3) (by decide) rfl (Nat.le_of_ble_eq_true rfl) ?_
  intro p e s m args below meth c ⟨hx, hb, hr, hml, hown, hlk, hts, hK⟩ hP ls hl
  have hl : lv_has ls 3 [(0, .ref h)] := hl
  refine lv_iconst (v := 0) hx hb dX5_allLeaves_0 (by decide) ?_
  refine lv_istore_n (lv' := [(1, .int 0), (0, .ref h)]) hx hb dX5_allLeaves_1 rfl hl (by decide) rfl (fun ls hl => ?_)
  refine lv_iconst (v := 0) hx hb dX5_allLeaves_2 (by decide) ?_
  refine lv_istore_n (lv' := [(2, .int 0), (1, .int 0), (0, .ref h)]) hx hb dX5_allLeaves_3 rfl hl (by decide) rfl (fun ls hl => ?_)
  have hB0 : sxB G yX5_allLeaves wdX5_allLeaves cX5_allLeaves 3 (.int) p s m args meth c := ⟨hx, hb, hr, hml, hown, hlk, hts, hK⟩
  exact l_X5_allLeaves_L4 l G h k0 k1 k2 k3 pv pn fk hv   hB0 hP _  9 0 0 (Nat.zero_le _) (by omega) (by simp only [s_X5_allLeaves]) ls (lv_sub hl [2, 1, 0] rfl)
