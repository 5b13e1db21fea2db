abbrev wdX5_allLeaves : List Cond := Cond.code yX5_allLeaves cX5_allLeaves 3 (some .int) :: bwC
def sl_X5_allLeaves_L4 (pv : Nat) (fk : Nat → Int32)  : Nat → (Int32) → (Nat) → Int32
  | 0, _, _ => 0
  | k + 1, va, i => if (nI pv) ≤ (nI i) then va else sl_X5_allLeaves_L4 pv fk k (va ||| (s_X5_leavesOf pv fk (nI (3 * i)))) (i + 1)
set_option maxHeartbeats 4000000 in
set_option maxRecDepth 100000 in
theorem l_X5_allLeaves_L4 (l : Launch) (G : sxG) (h : Nat) (k0 : Nat) (k1 : Nat) (k2 : Nat) (k3 : Nat) (pv : Nat) (pn : Nat) (fk : Nat → Int32) (hv : pv ≤ 8)   {p : Program} {e : Env} {s : State} {m : MethodId} {args : Array Value} {below : List Frame} {meth : Method} {c : Code} (hB : sxB G yX5_allLeaves wdX5_allLeaves cX5_allLeaves 3 (.int) p s m args meth c) (hP : va_P G.1 vwCl [(h, .inr (5, [.ref k0, .ref k1, .ref k2, .ref k3, .int (nI pv), .int (nI pn)])), (k0, .inl (G.2.1, 8, .inl fk))] s.heap) (S0 : Int32) : ∀ (k : Nat) (va : Int32) (i : Nat), i ≤ pv → 8 - i < k → S0 = sl_X5_allLeaves_L4 pv fk k va i → ∀ ls : Array Slot, lv_has ls 3 [(0, .ref h), (1, .int va), (2, .int (nI i))] → W p l e ({ frames := 2, cells := 0, slots := 0, locals := 44 }) s m args below meth c s.heap [] 0 0 (MQ below (vp_Si (fun r => r = S0)) args s 0 0 (fun _ => False)) (F0 m 4 ls []) := by
  obtain ⟨hx, hb, hr, hml, hown, hlk, hts, hK⟩ := id hB
  intro k
  induction k with
  | zero =>
    intro va i _ hm
    exact absurd hm (Nat.not_lt_zero _)
  | succ k ih =>
    intro va i hi hm hE ls hl
    refine lv_iload_n hx hb dX5_allLeaves_4 rfl (lv_at hl 2 rfl) ?_
    refine lv_aload_n hx hb dX5_allLeaves_5 rfl (lv_at hl 0 rfl) ?_
    refine va_get (D := G.1) (ci := 5) (v := .int (nI pv)) (C := RX5) (T := TX5) (N := 6) hx hb hts owX5 hown hK.1 hP 0 rfl rfl 4 (by decide) (bw1 (w := Cond.fieldLink RX5 24 "DropflagMill$Program" "variables" "I") hts 47 rfl) (fun _ h9 => h9) rfl dX5_allLeaves_6 ?_
    refine lv_icmp_ge (tgt := 28) hx hb dX5_allLeaves_9 (by decide) (fun c1 => ?_) (fun c1 => ?_)
    · have nc1 := (nI_leI (a := pv) (b := i) (by omega) (by omega)).mp c1
      refine lv_iload_n hx hb dX5_allLeaves_28 rfl (lv_at hl 1 rfl) ?_
      exact sx_ret hx hb hr hlk rfl (by rw [hE]; simp only [sl_X5_allLeaves_L4, if_pos c1]) dX5_allLeaves_29
    · have nc1 := (not_congr (nI_leI (a := pv) (b := i) (by omega) (by omega))).mp c1
      refine lv_iload_n hx hb dX5_allLeaves_12 rfl (lv_at hl 1 rfl) ?_
      refine lv_aload_n hx hb dX5_allLeaves_13 rfl (lv_at hl 0 rfl) ?_
      refine lv_iconst (v := 3) hx hb dX5_allLeaves_14 (by decide) ?_
      refine lv_iload_n hx hb dX5_allLeaves_15 rfl (lv_at hl 2 rfl) ?_
      refine lv_imul hx hb dX5_allLeaves_16 ?_
      rw [show 3 * (nI i) = nI (3 * i) from pk_mul 3 i]
      refine sx_v (As := [.int (nI (3 * i))]) (rest := [.int va]) hx hb hml hown hts (c_X5_leavesOf l G h k0 k1 k2 k3 pv pn fk (nI (3 * i)) (by omega)) 1 (sxGV (bi2 (w := Cond.methodLink RX5 62 yX5_leavesOf) 43 rfl) (bi2 (w := Cond.instanceMethod yX5_leavesOf) 7 rfl) (bi2 (w := Cond.selects RX5 yX5_leavesOf yX5_leavesOf) 8 rfl) (bi1 (w := Cond.initialized RX5) 30 rfl) (bi1 (w := Cond.code yX5_leavesOf cX5_leavesOf 3 (some .int)) 49 rfl)) rfl (by decide +kernel) ⟨Nat.le_of_ble_eq_true rfl, Nat.le_of_ble_eq_true rfl⟩ hK hP [0, 1] rfl 0 rfl rfl rfl hl rfl (Nat.le_of_ble_eq_true rfl) ⟨Nat.zero_le _, Nat.zero_le _⟩ dX5_allLeaves_17 (fun r er => ?_)
      subst er
      refine lv_ior hx hb dX5_allLeaves_20 ?_
      refine lv_istore_n (lv' := [(1, .int (va ||| (s_X5_leavesOf pv fk (nI (3 * i))))), (0, .ref h), (2, .int (nI i))]) hx hb dX5_allLeaves_21 rfl hl (by decide) rfl (fun ls hl => ?_)
      refine lv_iinc (v := nI (i + 1)) (lv' := [(2, .int (nI (i + 1))), (1, .int (va ||| (s_X5_leavesOf pv fk (nI (3 * i))))), (0, .ref h)]) hx hb dX5_allLeaves_22 hl (k := 2) rfl (nI_1 i) (by decide) rfl (fun ls hl => ?_)
      refine lv_goto (tgt := 4) hx hb dX5_allLeaves_25 (by decide) ?_
      exact ih (va ||| (s_X5_leavesOf pv fk (nI (3 * i)))) (i + 1) (by omega) (by omega) (by rw [hE]; simp only [sl_X5_allLeaves_L4, if_neg c1]) ls (lv_sub hl [2, 1, 0] rfl)
def s_X5_allLeaves (pv : Nat) (fk : Nat → Int32) : Int32 := sl_X5_allLeaves_L4 pv fk  9 0 0
set_option maxHeartbeats 4000000 in
set_option maxRecDepth 100000 in
theorem c_X5_allLeaves (l : Launch) (G : sxG) (h : Nat) (k0 : Nat) (k1 : Nat) (k2 : Nat) (k3 : Nat) (pv : Nat) (pn : Nat) (fk : Nat → Int32) (hv : pv ≤ 8) : sxM l yX5_allLeaves wdX5_allLeaves 2 44 G [(h, .inr (5, [.ref k0, .ref k1, .ref k2, .ref k3, .int (nI pv), .int (nI pn)])), (k0, .inl (G.2.1, 8, .inl fk))] [.ref h] (fun r => r = s_X5_allLeaves pv fk) := by
  refine sxM.of (cc := cX5_allLeaves) (maxL := 3) (by decide) rfl (Nat.le_of_ble_eq_true rfl) ?_
  intro p e s m args below meth c ⟨hx, hb, hr, hml, hown, hlk, hts, hK⟩ hP ls hl
  have hl : lv_has ls 3 [(0, .ref h)] := hl
  refine lv_iconst (v := 0) hx hb dX5_allLeaves_0 (by decide) ?_
  refine lv_istore_n (lv' := [(1, .int 0), (0, .ref h)]) hx hb dX5_allLeaves_1 rfl hl (by decide) rfl (fun ls hl => ?_)
  refine lv_iconst (v := 0) hx hb dX5_allLeaves_2 (by decide) ?_
  refine lv_istore_n (lv' := [(2, .int 0), (1, .int 0), (0, .ref h)]) hx hb dX5_allLeaves_3 rfl hl (by decide) rfl (fun ls hl => ?_)
  have hB0 : sxB G yX5_allLeaves wdX5_allLeaves cX5_allLeaves 3 (.int) p s m args meth c := ⟨hx, hb, hr, hml, hown, hlk, hts, hK⟩
  exact l_X5_allLeaves_L4 l G h k0 k1 k2 k3 pv pn fk hv   hB0 hP _  9 0 0 (Nat.zero_le _) (by omega) (by simp only [s_X5_allLeaves]) ls (lv_sub hl [2, 1, 0] rfl)

abbrev wdX5_ownedLeaves : List Cond := Cond.code yX5_ownedLeaves cX5_ownedLeaves 3 (some .int) :: bwC
def sl_X5_ownedLeaves_L4 (pv : Nat) (fk : Nat → Int32)  : Nat → (Int32) → (Nat) → Int32
  | 0, _, _ => 0
  | k + 1, va, i => if (nI pv) ≤ (nI i) then va else (if (s_X9_isOwned (s_X5_kindAt pv fk (nI (3 * i)))) = 0 then sl_X5_ownedLeaves_L4 pv fk k va (i + 1) else sl_X5_ownedLeaves_L4 pv fk k (va ||| (s_X5_leavesOf pv fk (nI (3 * i)))) (i + 1))
set_option maxHeartbeats 4000000 in
set_option maxRecDepth 100000 in
theorem l_X5_ownedLeaves_L4 (l : Launch) (G : sxG) (h : Nat) (k0 : Nat) (k1 : Nat) (k2 : Nat) (k3 : Nat) (pv : Nat) (pn : Nat) (fk : Nat → Int32) (hv : pv ≤ 8)   {p : Program} {e : Env} {s : State} {m : MethodId} {args : Array Value} {below : List Frame} {meth : Method} {c : Code} (hB : sxB G yX5_ownedLeaves wdX5_ownedLeaves cX5_ownedLeaves 3 (.int) p s m args meth c) (hP : va_P G.1 vwCl [(h, .inr (5, [.ref k0, .ref k1, .ref k2, .ref k3, .int (nI pv), .int (nI pn)])), (k0, .inl (G.2.1, 8, .inl fk))] s.heap) (S0 : Int32) : ∀ (k : Nat) (va : Int32) (i : Nat), i ≤ pv → 8 - i < k → S0 = sl_X5_ownedLeaves_L4 pv fk k va i → ∀ ls : Array Slot, lv_has ls 3 [(0, .ref h), (1, .int va), (2, .int (nI i))] → W p l e ({ frames := 2, cells := 0, slots := 0, locals := 44 }) s m args below meth c s.heap [] 0 0 (MQ below (vp_Si (fun r => r = S0)) args s 0 0 (fun _ => False)) (F0 m 4 ls []) := by
  obtain ⟨hx, hb, hr, hml, hown, hlk, hts, hK⟩ := id hB
  intro k
  induction k with
  | zero =>
    intro va i _ hm
    exact absurd hm (Nat.not_lt_zero _)
  | succ k ih =>
    intro va i hi hm hE ls hl
    refine lv_iload_n hx hb dX5_ownedLeaves_4 rfl (lv_at hl 2 rfl) ?_
    refine lv_aload_n hx hb dX5_ownedLeaves_5 rfl (lv_at hl 0 rfl) ?_
    refine va_get (D := G.1) (ci := 5) (v := .int (nI pv)) (C := RX5) (T := TX5) (N := 6) hx hb hts owX5 hown hK.1 hP 0 rfl rfl 4 (by decide) (bw1 (w := Cond.fieldLink RX5 24 "DropflagMill$Program" "variables" "I") hts 47 rfl) (fun _ h9 => h9) rfl dX5_ownedLeaves_6 ?_
    refine lv_icmp_ge (tgt := 41) hx hb dX5_ownedLeaves_9 (by decide) (fun c1 => ?_) (fun c1 => ?_)
    · have nc1 := (nI_leI (a := pv) (b := i) (by omega) (by omega)).mp c1
      refine lv_iload_n hx hb dX5_ownedLeaves_41 rfl (lv_at hl 1 rfl) ?_
      exact sx_ret hx hb hr hlk rfl (by rw [hE]; simp only [sl_X5_ownedLeaves_L4, if_pos c1]) dX5_ownedLeaves_42
    · have nc1 := (not_congr (nI_leI (a := pv) (b := i) (by omega) (by omega))).mp c1
      refine lv_aload_n hx hb dX5_ownedLeaves_12 rfl (lv_at hl 0 rfl) ?_
      refine lv_iconst (v := 3) hx hb dX5_ownedLeaves_13 (by decide) ?_
      refine lv_iload_n hx hb dX5_ownedLeaves_14 rfl (lv_at hl 2 rfl) ?_
      refine lv_imul hx hb dX5_ownedLeaves_15 ?_
      rw [show 3 * (nI i) = nI (3 * i) from pk_mul 3 i]
      refine sx_v (As := [.int (nI (3 * i))]) (rest := []) hx hb hml hown hts (c_X5_kindAt l G h k0 k1 k2 k3 pv pn fk (nI (3 * i)) (by omega)) 1 (sxGV (bi1 (w := Cond.methodLink RX5 58 yX5_kindAt) 50 rfl) (bi1 (w := Cond.instanceMethod yX5_kindAt) 51 rfl) (bi1 (w := Cond.selects RX5 yX5_kindAt yX5_kindAt) 52 rfl) (bi1 (w := Cond.initialized RX5) 30 rfl) (bi1 (w := Cond.code yX5_kindAt cX5_kindAt 3 (some .int)) 46 rfl)) rfl (by decide +kernel) ⟨Nat.le_of_ble_eq_true rfl, Nat.le_of_ble_eq_true rfl⟩ hK hP [0, 1] rfl 0 rfl rfl rfl hl rfl (Nat.le_of_ble_eq_true rfl) ⟨Nat.zero_le _, Nat.zero_le _⟩ dX5_ownedLeaves_16 (fun r er => ?_)
      subst er
      refine sx_sn (As := [.int (s_X5_kindAt pv fk (nI (3 * i)))]) (rest := []) hx hb hml hown hts (c_X9_isOwned l G (s_X5_kindAt pv fk (nI (3 * i))) ) 1 (sxGC (bi4 (w := Cond.code yX9_isOwned cX9_isOwned 1 (some .boolean)) 24 rfl)) rfl (hK.2.at 7 rfl) (List.mem_cons_of_mem _ (bi1 (w := Cond.initialized RX9) 58 rfl)) (List.mem_cons_of_mem _ (bi4 (w := Cond.static yX9_isOwned) 26 rfl)) (by decide +kernel) ⟨Nat.le_of_ble_eq_true rfl, Nat.le_of_ble_eq_true rfl⟩ hK hP [] rfl rfl hl rfl (Nat.le_of_ble_eq_true rfl) ⟨Nat.zero_le _, Nat.zero_le _⟩ dX5_ownedLeaves_19 (fun r er => ?_)
      subst er
      refine lv_if_eq (tgt := 35) hx hb dX5_ownedLeaves_22 (by decide) (fun c2 => ?_) (fun c2 => ?_)
      · refine lv_iinc (v := nI (i + 1)) (lv' := [(2, .int (nI (i + 1))), (0, .ref h), (1, .int va)]) hx hb dX5_ownedLeaves_35 hl (k := 2) rfl (nI_1 i) (by decide) rfl (fun ls hl => ?_)
        refine lv_goto (tgt := 4) hx hb dX5_ownedLeaves_38 (by decide) ?_
        exact ih va (i + 1) (by omega) (by omega) (by rw [hE]; simp only [sl_X5_ownedLeaves_L4, if_neg c1, if_pos c2]) ls (lv_sub hl [1, 2, 0] rfl)
      · refine lv_iload_n hx hb dX5_ownedLeaves_25 rfl (lv_at hl 1 rfl) ?_
        refine lv_aload_n hx hb dX5_ownedLeaves_26 rfl (lv_at hl 0 rfl) ?_
        refine lv_iconst (v := 3) hx hb dX5_ownedLeaves_27 (by decide) ?_
        refine lv_iload_n hx hb dX5_ownedLeaves_28 rfl (lv_at hl 2 rfl) ?_
        refine lv_imul hx hb dX5_ownedLeaves_29 ?_
        rw [show 3 * (nI i) = nI (3 * i) from pk_mul 3 i]
        refine sx_v (As := [.int (nI (3 * i))]) (rest := [.int va]) hx hb hml hown hts (c_X5_leavesOf l G h k0 k1 k2 k3 pv pn fk (nI (3 * i)) (by omega)) 1 (sxGV (bi2 (w := Cond.methodLink RX5 62 yX5_leavesOf) 43 rfl) (bi2 (w := Cond.instanceMethod yX5_leavesOf) 7 rfl) (bi2 (w := Cond.selects RX5 yX5_leavesOf yX5_leavesOf) 8 rfl) (bi1 (w := Cond.initialized RX5) 30 rfl) (bi1 (w := Cond.code yX5_leavesOf cX5_leavesOf 3 (some .int)) 49 rfl)) rfl (by decide +kernel) ⟨Nat.le_of_ble_eq_true rfl, Nat.le_of_ble_eq_true rfl⟩ hK hP [0, 1] rfl 0 rfl rfl rfl hl rfl (Nat.le_of_ble_eq_true rfl) ⟨Nat.zero_le _, Nat.zero_le _⟩ dX5_ownedLeaves_30 (fun r er => ?_)
        subst er
        refine lv_ior hx hb dX5_ownedLeaves_33 ?_
        refine lv_istore_n (lv' := [(1, .int (va ||| (s_X5_leavesOf pv fk (nI (3 * i))))), (0, .ref h), (2, .int (nI i))]) hx hb dX5_ownedLeaves_34 rfl hl (by decide) rfl (fun ls hl => ?_)
        refine lv_iinc (v := nI (i + 1)) (lv' := [(2, .int (nI (i + 1))), (1, .int (va ||| (s_X5_leavesOf pv fk (nI (3 * i))))), (0, .ref h)]) hx hb dX5_ownedLeaves_35 hl (k := 2) rfl (nI_1 i) (by decide) rfl (fun ls hl => ?_)
        refine lv_goto (tgt := 4) hx hb dX5_ownedLeaves_38 (by decide) ?_
        exact ih (va ||| (s_X5_leavesOf pv fk (nI (3 * i)))) (i + 1) (by omega) (by omega) (by rw [hE]; simp only [sl_X5_ownedLeaves_L4, if_neg c1, if_neg c2]) ls (lv_sub hl [2, 1, 0] rfl)
def s_X5_ownedLeaves (pv : Nat) (fk : Nat → Int32) : Int32 := sl_X5_ownedLeaves_L4 pv fk  9 0 0
set_option maxHeartbeats 4000000 in
set_option maxRecDepth 100000 in
theorem c_X5_ownedLeaves (l : Launch) (G : sxG) (h : Nat) (k0 : Nat) (k1 : Nat) (k2 : Nat) (k3 : Nat) (pv : Nat) (pn : Nat) (fk : Nat → Int32) (hv : pv ≤ 8) : sxM l yX5_ownedLeaves wdX5_ownedLeaves 2 44 G [(h, .inr (5, [.ref k0, .ref k1, .ref k2, .ref k3, .int (nI pv), .int (nI pn)])), (k0, .inl (G.2.1, 8, .inl fk))] [.ref h] (fun r => r = s_X5_ownedLeaves pv fk) := by
  refine sxM.of (cc := cX5_ownedLeaves) (maxL := 3) (by decide) rfl (Nat.le_of_ble_eq_true rfl) ?_
  intro p e s m args below meth c ⟨hx, hb, hr, hml, hown, hlk, hts, hK⟩ hP ls hl
  have hl : lv_has ls 3 [(0, .ref h)] := hl
  refine lv_iconst (v := 0) hx hb dX5_ownedLeaves_0 (by decide) ?_
  refine lv_istore_n (lv' := [(1, .int 0), (0, .ref h)]) hx hb dX5_ownedLeaves_1 rfl hl (by decide) rfl (fun ls hl => ?_)
  refine lv_iconst (v := 0) hx hb dX5_ownedLeaves_2 (by decide) ?_
  refine lv_istore_n (lv' := [(2, .int 0), (1, .int 0), (0, .ref h)]) hx hb dX5_ownedLeaves_3 rfl hl (by decide) rfl (fun ls hl => ?_)
  have hB0 : sxB G yX5_ownedLeaves wdX5_ownedLeaves cX5_ownedLeaves 3 (.int) p s m args meth c := ⟨hx, hb, hr, hml, hown, hlk, hts, hK⟩
  exact l_X5_ownedLeaves_L4 l G h k0 k1 k2 k3 pv pn fk hv   hB0 hP _  9 0 0 (Nat.zero_le _) (by omega) (by simp only [s_X5_ownedLeaves]) ls (lv_sub hl [2, 1, 0] rfl)

abbrev wdX5_countLoans : List Cond := Cond.code yX5_countLoans cX5_countLoans 3 (some .int) :: bwC
def sl_X5_countLoans_L4 (pn : Nat) (fs : Nat → Int32)  : Nat → (Int32) → (Nat) → Int32
  | 0, _, _ => 0
  | k + 1, va, i => if (nI pn) ≤ (nI i) then va else sl_X5_countLoans_L4 pn fs k (va + (s_X9_loansOf (fs i))) (i + 1)
set_option maxHeartbeats 4000000 in
set_option maxRecDepth 100000 in
theorem l_X5_countLoans_L4 (l : Launch) (G : sxG) (h : Nat) (k0 : Nat) (k1 : Nat) (k2 : Nat) (k3 : Nat) (pv : Nat) (pn : Nat) (fs : Nat → Int32) (hn : pn ≤ 34)   {p : Program} {e : Env} {s : State} {m : MethodId} {args : Array Value} {below : List Frame} {meth : Method} {c : Code} (hB : sxB G yX5_countLoans wdX5_countLoans cX5_countLoans 3 (.int) p s m args meth c) (hP : va_P G.1 vwCl [(h, .inr (5, [.ref k0, .ref k1, .ref k2, .ref k3, .int (nI pv), .int (nI pn)])), (k1, .inl (G.2.1, 34, .inl fs))] s.heap) (S0 : Int32) : ∀ (k : Nat) (va : Int32) (i : Nat), i ≤ pn → 34 - i < k → S0 = sl_X5_countLoans_L4 pn fs k va i → ∀ ls : Array Slot, lv_has ls 3 [(0, .ref h), (1, .int va), (2, .int (nI i))] → W p l e ({ frames := 1, cells := 0, slots := 0, locals := 20 }) s m args below meth c s.heap [] 0 0 (MQ below (vp_Si (fun r => r = S0)) args s 0 0 (fun _ => False)) (F0 m 4 ls []) := by
  obtain ⟨hx, hb, hr, hml, hown, hlk, hts, hK⟩ := id hB
  intro k
  induction k with
  | zero =>
    intro va i _ hm
    exact absurd hm (Nat.not_lt_zero _)
  | succ k ih =>
    intro va i hi hm hE ls hl
    refine lv_iload_n hx hb dX5_countLoans_4 rfl (lv_at hl 2 rfl) ?_
    refine lv_aload_n hx hb dX5_countLoans_5 rfl (lv_at hl 0 rfl) ?_
    refine va_get (D := G.1) (ci := 5) (v := .int (nI pn)) (C := RX5) (T := TX5) (N := 6) hx hb hts owX5 hown hK.1 hP 0 rfl rfl 5 (by decide) (bw1 (w := Cond.fieldLink RX5 28 "DropflagMill$Program" "lines" "I") hts 24 rfl) (fun _ h9 => h9) rfl dX5_countLoans_6 ?_
    refine lv_icmp_ge (tgt := 30) hx hb dX5_countLoans_9 (by decide) (fun c1 => ?_) (fun c1 => ?_)
    · have nc1 := (nI_leI (a := pn) (b := i) (by omega) (by omega)).mp c1
      refine lv_iload_n hx hb dX5_countLoans_30 rfl (lv_at hl 1 rfl) ?_
      exact sx_ret hx hb hr hlk rfl (by rw [hE]; simp only [sl_X5_countLoans_L4, if_pos c1]) dX5_countLoans_31
    · have nc1 := (not_congr (nI_leI (a := pn) (b := i) (by omega) (by omega))).mp c1
      refine lv_iload_n hx hb dX5_countLoans_12 rfl (lv_at hl 1 rfl) ?_
      refine lv_aload_n hx hb dX5_countLoans_13 rfl (lv_at hl 0 rfl) ?_
      refine va_get (D := G.1) (ci := 5) (v := .ref k1) (C := RX5) (T := TX5) (N := 6) hx hb hts owX5 hown hK.1 hP 0 rfl rfl 1 (by decide) (bw1 (w := Cond.fieldLink RX5 15 "DropflagMill$Program" "sorts" "[I") hts 26 rfl) (fun _ h9 => h9) rfl dX5_countLoans_14 ?_
      refine lv_iload_n hx hb dX5_countLoans_17 rfl (lv_at hl 2 rfl) ?_
      refine va_iald hx hb hK.1 hP 1 0 rfl rfl (i := nI i) (vp_in_nI (n := i) (by omega) (by omega)) dX5_countLoans_18 ?_
      rw [show (nI i : Int32).toNatClampNeg = i from nI_clamp (n := i) (by omega)]
      refine sx_sn (As := [.int (fs i)]) (rest := [.int va]) hx hb hml hown hts (c_X9_loansOf l G (fs i) ) 1 (sxGC (bi2 (w := Cond.code yX9_loansOf cX9_loansOf 1 (some .int)) 16 rfl)) rfl (hK.2.at 17 rfl) (List.mem_cons_of_mem _ (bi1 (w := Cond.initialized RX9) 58 rfl)) (List.mem_cons_of_mem _ (bi2 (w := Cond.static yX9_loansOf) 20 rfl)) (by decide +kernel) ⟨Nat.le_of_ble_eq_true rfl, Nat.le_of_ble_eq_true rfl⟩ hK hP [] rfl rfl hl rfl (Nat.le_of_ble_eq_true rfl) ⟨Nat.zero_le _, Nat.zero_le _⟩ dX5_countLoans_19 (fun r er => ?_)
      subst er
      refine lv_iadd hx hb dX5_countLoans_22 ?_
      refine lv_istore_n (lv' := [(1, .int (va + (s_X9_loansOf (fs i)))), (0, .ref h), (2, .int (nI i))]) hx hb dX5_countLoans_23 rfl hl (by decide) rfl (fun ls hl => ?_)
      refine lv_iinc (v := nI (i + 1)) (lv' := [(2, .int (nI (i + 1))), (1, .int (va + (s_X9_loansOf (fs i)))), (0, .ref h)]) hx hb dX5_countLoans_24 hl (k := 2) rfl (nI_1 i) (by decide) rfl (fun ls hl => ?_)
      refine lv_goto (tgt := 4) hx hb dX5_countLoans_27 (by decide) ?_
      exact ih (va + (s_X9_loansOf (fs i))) (i + 1) (by omega) (by omega) (by rw [hE]; simp only [sl_X5_countLoans_L4, if_neg c1]) ls (lv_sub hl [2, 1, 0] rfl)
def s_X5_countLoans (pn : Nat) (fs : Nat → Int32) : Int32 := sl_X5_countLoans_L4 pn fs  35 0 0
set_option maxHeartbeats 4000000 in
set_option maxRecDepth 100000 in
theorem c_X5_countLoans (l : Launch) (G : sxG) (h : Nat) (k0 : Nat) (k1 : Nat) (k2 : Nat) (k3 : Nat) (pv : Nat) (pn : Nat) (fs : Nat → Int32) (hn : pn ≤ 34) : sxM l yX5_countLoans wdX5_countLoans 1 20 G [(h, .inr (5, [.ref k0, .ref k1, .ref k2, .ref k3, .int (nI pv), .int (nI pn)])), (k1, .inl (G.2.1, 34, .inl fs))] [.ref h] (fun r => r = s_X5_countLoans pn fs) := by
  refine sxM.of (cc := cX5_countLoans) (maxL := 3) (by decide) rfl (Nat.le_of_ble_eq_true rfl) ?_
  intro p e s m args below meth c ⟨hx, hb, hr, hml, hown, hlk, hts, hK⟩ hP ls hl
  have hl : lv_has ls 3 [(0, .ref h)] := hl
  refine lv_iconst (v := 0) hx hb dX5_countLoans_0 (by decide) ?_
  refine lv_istore_n (lv' := [(1, .int 0), (0, .ref h)]) hx hb dX5_countLoans_1 rfl hl (by decide) rfl (fun ls hl => ?_)
  refine lv_iconst (v := 0) hx hb dX5_countLoans_2 (by decide) ?_
  refine lv_istore_n (lv' := [(2, .int 0), (1, .int 0), (0, .ref h)]) hx hb dX5_countLoans_3 rfl hl (by decide) rfl (fun ls hl => ?_)
  have hB0 : sxB G yX5_countLoans wdX5_countLoans cX5_countLoans 3 (.int) p s m args meth c := ⟨hx, hb, hr, hml, hown, hlk, hts, hK⟩
  exact l_X5_countLoans_L4 l G h k0 k1 k2 k3 pv pn fs hn   hB0 hP _  35 0 0 (Nat.zero_le _) (by omega) (by simp only [s_X5_countLoans]) ls (lv_sub hl [2, 1, 0] rfl)

abbrev wdX5_newVariable : List Cond := Cond.code yX5_newVariable cX5_newVariable 2 (some .int) :: bwC
def s_X5_newVariable (pv : Nat) (fk : Nat → Int32) (p1 : Int32) : ((Nat → Int32) × Nat) × Int32 := if (s_X9_isIndexOf 8 (nI pv)) = 0 then ((fk, pv), (-1)) else ((upd fk pv p1, (pv + 1)), nI (pv + 1) + (-1))
set_option maxHeartbeats 4000000 in
set_option maxRecDepth 100000 in
theorem c_X5_newVariable (l : Launch) (G : sxG) (h : Nat) (k0 : Nat) (k1 : Nat) (k2 : Nat) (k3 : Nat) (pv : Nat) (pn : Nat) (fk : Nat → Int32) (p1 : Int32) (hv : pv ≤ 8) : sxC l yX5_newVariable wdX5_newVariable 1 21 G [(h, .inr (5, [.ref k0, .ref k1, .ref k2, .ref k3, .int (nI pv), .int (nI pn)])), (k0, .inl (G.2.1, 8, .inl fk))] [.ref h, .int p1] (fun u : (Nat → Int32) × Nat => ([(h, .inr (5, [.ref k0, .ref k1, .ref k2, .ref k3, .int (nI u.2), .int (nI pn)])), (k0, .inl (G.2.1, 8, .inl u.1))] : va_W)) (s_X5_newVariable pv fk p1) := by
  refine sxC.of (cc := cX5_newVariable) (maxL := 2) (by decide) rfl (Nat.le_of_ble_eq_true rfl) ?_
  intro p e s m args below meth c ⟨hx, hb, hr, hml, hown, hlk, hts, hK⟩ A hA hP hD hS ls hl
  have hl : lv_has ls 2 [(0, .ref h), (1, .int p1)] := hl
  refine lv_aload_n hx hb dX5_newVariable_0 rfl (lv_at hl 0 rfl) ?_
  refine va_get (D := G.1) (ci := 5) (v := .ref k0) (C := RX5) (T := TX5) (N := 6) hx hb hts owX5 hown hK.1 hP 0 rfl rfl 0 (by decide) (bw1 (w := Cond.fieldLink RX5 9 "DropflagMill$Program" "kinds" "[I") hts 48 rfl) (fun _ h9 => h9) rfl dX5_newVariable_1 ?_
  refine lv_aload_n hx hb dX5_newVariable_4 rfl (lv_at hl 0 rfl) ?_
  refine va_get (D := G.1) (ci := 5) (v := .int (nI pv)) (C := RX5) (T := TX5) (N := 6) hx hb hts owX5 hown hK.1 hP 0 rfl rfl 4 (by decide) (bw1 (w := Cond.fieldLink RX5 24 "DropflagMill$Program" "variables" "I") hts 47 rfl) (fun _ h9 => h9) rfl dX5_newVariable_5 ?_
  refine sx_sn (As := [.ref k0, .int (nI pv)]) (rest := []) hx hb hml hown hts (c_X9_isIndexOf l G k0 8 fk (nI pv) ) 2 (sxGC (bi2 (w := Cond.code yX9_isIndexOf cX9_isIndexOf 2 (some .boolean)) 17 rfl)) rfl (hK.2.at 14 rfl) (List.mem_cons_of_mem _ (bi1 (w := Cond.initialized RX9) 58 rfl)) (List.mem_cons_of_mem _ (bi2 (w := Cond.static yX9_isIndexOf) 21 rfl)) (by decide +kernel) ⟨Nat.le_of_ble_eq_true rfl, Nat.le_of_ble_eq_true rfl⟩ hK hP [1] rfl rfl hl rfl (Nat.le_of_ble_eq_true rfl) ⟨Nat.zero_le _, Nat.zero_le _⟩ dX5_newVariable_8 (fun r er => ?_)
  subst er
  refine lv_if_ne (tgt := 16) hx hb dX5_newVariable_11 (by decide) (fun c1 => ?_) (fun c1 => ?_)
  · have nc1 : pv < 8 := sx_ixNat (by decide) (by omega) c1
    refine lv_aload_n hx hb dX5_newVariable_16 rfl (lv_at hl 0 rfl) ?_
    refine va_get (D := G.1) (ci := 5) (v := .ref k0) (C := RX5) (T := TX5) (N := 6) hx hb hts owX5 hown hK.1 hP 0 rfl rfl 0 (by decide) (bw1 (w := Cond.fieldLink RX5 9 "DropflagMill$Program" "kinds" "[I") hts 48 rfl) (fun _ h9 => h9) rfl dX5_newVariable_17 ?_
    refine lv_aload_n hx hb dX5_newVariable_20 rfl (lv_at hl 0 rfl) ?_
    refine va_get (D := G.1) (ci := 5) (v := .int (nI pv)) (C := RX5) (T := TX5) (N := 6) hx hb hts owX5 hown hK.1 hP 0 rfl rfl 4 (by decide) (bw1 (w := Cond.fieldLink RX5 24 "DropflagMill$Program" "variables" "I") hts 47 rfl) (fun _ h9 => h9) rfl dX5_newVariable_21 ?_
    refine lv_iload_n hx hb dX5_newVariable_24 rfl (lv_at hl 1 rfl) ?_
    refine va_iast hx hb hK.1 hP hD hS 1 0 rfl rfl (i := nI pv) (sx_in_ix (by decide) c1) dX5_newVariable_25 (fun H locs hP hD hS => ?_)
    rw [show (nI pv : Int32).toNatClampNeg = pv from nI_clamp (n := pv) (by omega)] at hP hD
    have hP : va_P G.1 vwCl [(h, .inr (5, [.ref k0, .ref k1, .ref k2, .ref k3, .int (nI pv), .int (nI pn)])), (k0, .inl (G.2.1, 8, .inl (upd fk pv p1)))] H := hP
    have hD : va_D A [(h, .inr (5, [.ref k0, .ref k1, .ref k2, .ref k3, .int (nI pv), .int (nI pn)])), (k0, .inl (G.2.1, 8, .inl (upd fk pv p1)))] := hD
    refine lv_aload_n hx hb dX5_newVariable_26 rfl (lv_at hl 0 rfl) ?_
    refine lv_dup hx hb dX5_newVariable_27 rfl ?_
    refine va_get (D := G.1) (ci := 5) (v := .int (nI pv)) (C := RX5) (T := TX5) (N := 6) hx hb hts owX5 hown hK.1 hP 0 rfl rfl 4 (by decide) (bw1 (w := Cond.fieldLink RX5 24 "DropflagMill$Program" "variables" "I") hts 47 rfl) (fun _ h9 => h9) rfl dX5_newVariable_28 ?_
    refine lv_iconst (v := 1) hx hb dX5_newVariable_31 (by decide) ?_
    refine lv_iadd hx hb dX5_newVariable_32 ?_
    rw [show (nI pv) + 1 = nI (pv + 1) from nI_add pv 1]
    refine va_put (D := G.1) (ci := 5) (v := .int (nI (pv + 1))) (ty := .int) (C := RX5) (T := TX5) (N := 6) hx hb hts owX5 tyX5 tyX5_ok nmX5 hown hK.1 hP hD hS 0 rfl rfl 4 (by decide) (bw1 (w := Cond.fieldLink RX5 24 "DropflagMill$Program" "variables" "I") hts 47 rfl) (fun _ h9 => h9) rfl (by decide +kernel) rfl rfl (Nat.le_of_ble_eq_true rfl) dX5_newVariable_33 (fun H locs hP hD hS => ?_)
    have hP : va_P G.1 vwCl [(h, .inr (5, [.ref k0, .ref k1, .ref k2, .ref k3, .int (nI (pv + 1)), .int (nI pn)])), (k0, .inl (G.2.1, 8, .inl (upd fk pv p1)))] H := hP
    have hD : va_D A [(h, .inr (5, [.ref k0, .ref k1, .ref k2, .ref k3, .int (nI (pv + 1)), .int (nI pn)])), (k0, .inl (G.2.1, 8, .inl (upd fk pv p1)))] := hD
    refine lv_aload_n hx hb dX5_newVariable_36 rfl (lv_at hl 0 rfl) ?_
    refine va_get (D := G.1) (ci := 5) (v := .int (nI (pv + 1))) (C := RX5) (T := TX5) (N := 6) hx hb hts owX5 hown hK.1 hP 0 rfl rfl 4 (by decide) (bw1 (w := Cond.fieldLink RX5 24 "DropflagMill$Program" "variables" "I") hts 47 rfl) (fun _ h9 => h9) rfl dX5_newVariable_37 ?_
    refine lv_iconst (v := 1) hx hb dX5_newVariable_40 (by decide) ?_
    refine lv_isub hx hb dX5_newVariable_41 ?_
    rw [show (nI (pv + 1)) - 1 = nI (pv + 1) + (-1) from sx_sub1 _]
    exact sx_retI (u := (upd fk pv p1, (pv + 1))) hx hb hr hlk hK hP hD hS rfl (by simp only [s_X5_newVariable, if_neg c1]) (by simp only [s_X5_newVariable, if_neg c1]) dX5_newVariable_42
  · refine lv_iconst (v := (-1)) hx hb dX5_newVariable_14 (by decide) ?_
    exact sx_retI (u := (fk, pv)) hx hb hr hlk hK hP hD hS rfl (by simp only [s_X5_newVariable, if_pos c1]) (by simp only [s_X5_newVariable, if_pos c1]) dX5_newVariable_15

abbrev wdX5_setLine : List Cond := Cond.code yX5_setLine cX5_setLine 5 none :: bwC
def s_X5_setLine (pn : Nat) (fs : Nat → Int32) (fa : Nat → Int32) (fb : Nat → Int32) (p1 : Int32) (p2 : Int32) (p3 : Int32) (p4 : Int32) : (Nat → Int32) × (Nat → Int32) × (Nat → Int32) := if (s_X5_isLine pn p1) = 0 then (fs, fa, fb) else (upd fs p1.toNatClampNeg p2, upd fa p1.toNatClampNeg p3, upd fb p1.toNatClampNeg p4)
set_option maxHeartbeats 4000000 in
set_option maxRecDepth 100000 in
theorem c_X5_setLine (l : Launch) (G : sxG) (h : Nat) (k0 : Nat) (k1 : Nat) (k2 : Nat) (k3 : Nat) (pv : Nat) (pn : Nat) (fs : Nat → Int32) (fa : Nat → Int32) (fb : Nat → Int32) (p1 : Int32) (p2 : Int32) (p3 : Int32) (p4 : Int32) (hn : pn ≤ 34) : sxV l yX5_setLine wdX5_setLine 1 21 G [(h, .inr (5, [.ref k0, .ref k1, .ref k2, .ref k3, .int (nI pv), .int (nI pn)])), (k1, .inl (G.2.1, 34, .inl fs)), (k2, .inl (G.2.1, 34, .inl fa)), (k3, .inl (G.2.1, 34, .inl fb))] [.ref h, .int p1, .int p2, .int p3, .int p4] (fun u : (Nat → Int32) × (Nat → Int32) × (Nat → Int32) => ([(h, .inr (5, [.ref k0, .ref k1, .ref k2, .ref k3, .int (nI pv), .int (nI pn)])), (k1, .inl (G.2.1, 34, .inl u.1)), (k2, .inl (G.2.1, 34, .inl u.2.1)), (k3, .inl (G.2.1, 34, .inl u.2.2))] : va_W)) (s_X5_setLine pn fs fa fb p1 p2 p3 p4) := by
  refine sxV.of (cc := cX5_setLine) (maxL := 5) (by decide) rfl (Nat.le_of_ble_eq_true rfl) ?_
  intro p e s m args below meth c ⟨hx, hb, hr, hml, hown, hlk, hts, hK⟩ A hA hP hD hS ls hl
  have hl : lv_has ls 5 [(0, .ref h), (1, .int p1), (2, .int p2), (3, .int p3), (4, .int p4)] := hl
  refine lv_aload_n hx hb dX5_setLine_0 rfl (lv_at hl 0 rfl) ?_
  refine lv_iload_n hx hb dX5_setLine_1 rfl (lv_at hl 1 rfl) ?_
  refine sx_v (As := [.int p1]) (rest := []) hx hb hml hown hts (c_X5_isLine l G h k0 k1 k2 k3 pv pn p1 ) 1 (sxGV (bi1 (w := Cond.methodLink RX5 49 yX5_isLine) 27 rfl) (bi1 (w := Cond.instanceMethod yX5_isLine) 28 rfl) (bi1 (w := Cond.selects RX5 yX5_isLine yX5_isLine) 29 rfl) (bi1 (w := Cond.initialized RX5) 30 rfl) (bi1 (w := Cond.code yX5_isLine cX5_isLine 2 (some .boolean)) 23 rfl)) rfl (by decide +kernel) ⟨Nat.le_of_ble_eq_true rfl, Nat.le_of_ble_eq_true rfl⟩ hK hP [0] rfl 0 rfl rfl rfl hl rfl (Nat.le_of_ble_eq_true rfl) ⟨Nat.zero_le _, Nat.zero_le _⟩ dX5_setLine_2 (fun r er => ?_)
  subst er
  refine lv_if_eq (tgt := 30) hx hb dX5_setLine_5 (by decide) (fun c1 => ?_) (fun c1 => ?_)
  · exact sx_retV (u := (fs, fa, fb)) hx hb hr hlk hK hP hD hS (by simp only [s_X5_setLine, if_pos c1]) dX5_setLine_30
  · refine lv_aload_n hx hb dX5_setLine_8 rfl (lv_at hl 0 rfl) ?_
    refine va_get (D := G.1) (ci := 5) (v := .ref k1) (C := RX5) (T := TX5) (N := 6) hx hb hts owX5 hown hK.1 hP 0 rfl rfl 1 (by decide) (bw1 (w := Cond.fieldLink RX5 15 "DropflagMill$Program" "sorts" "[I") hts 26 rfl) (fun _ h9 => h9) rfl dX5_setLine_9 ?_
    refine lv_iload_n hx hb dX5_setLine_12 rfl (lv_at hl 1 rfl) ?_
    refine lv_iload_n hx hb dX5_setLine_13 rfl (lv_at hl 2 rfl) ?_
    refine va_iast hx hb hK.1 hP hD hS 1 0 rfl rfl (i := p1) (sx_in_line hn c1) dX5_setLine_14 (fun H locs hP hD hS => ?_)
    have hP : va_P G.1 vwCl [(h, .inr (5, [.ref k0, .ref k1, .ref k2, .ref k3, .int (nI pv), .int (nI pn)])), (k1, .inl (G.2.1, 34, .inl (upd fs p1.toNatClampNeg p2))), (k2, .inl (G.2.1, 34, .inl fa)), (k3, .inl (G.2.1, 34, .inl fb))] H := hP
    have hD : va_D A [(h, .inr (5, [.ref k0, .ref k1, .ref k2, .ref k3, .int (nI pv), .int (nI pn)])), (k1, .inl (G.2.1, 34, .inl (upd fs p1.toNatClampNeg p2))), (k2, .inl (G.2.1, 34, .inl fa)), (k3, .inl (G.2.1, 34, .inl fb))] := hD
    refine lv_aload_n hx hb dX5_setLine_15 rfl (lv_at hl 0 rfl) ?_
    refine va_get (D := G.1) (ci := 5) (v := .ref k2) (C := RX5) (T := TX5) (N := 6) hx hb hts owX5 hown hK.1 hP 0 rfl rfl 2 (by decide) (bw1 (w := Cond.fieldLink RX5 18 "DropflagMill$Program" "as" "[I") hts 34 rfl) (fun _ h9 => h9) rfl dX5_setLine_16 ?_
    refine lv_iload_n hx hb dX5_setLine_19 rfl (lv_at hl 1 rfl) ?_
    refine lv_iload_n hx hb dX5_setLine_20 rfl (lv_at hl 3 rfl) ?_
    refine va_iast hx hb hK.1 hP hD hS 2 0 rfl rfl (i := p1) (sx_in_line hn c1) dX5_setLine_21 (fun H locs hP hD hS => ?_)
    have hP : va_P G.1 vwCl [(h, .inr (5, [.ref k0, .ref k1, .ref k2, .ref k3, .int (nI pv), .int (nI pn)])), (k1, .inl (G.2.1, 34, .inl (upd fs p1.toNatClampNeg p2))), (k2, .inl (G.2.1, 34, .inl (upd fa p1.toNatClampNeg p3))), (k3, .inl (G.2.1, 34, .inl fb))] H := hP
    have hD : va_D A [(h, .inr (5, [.ref k0, .ref k1, .ref k2, .ref k3, .int (nI pv), .int (nI pn)])), (k1, .inl (G.2.1, 34, .inl (upd fs p1.toNatClampNeg p2))), (k2, .inl (G.2.1, 34, .inl (upd fa p1.toNatClampNeg p3))), (k3, .inl (G.2.1, 34, .inl fb))] := hD
    refine lv_aload_n hx hb dX5_setLine_22 rfl (lv_at hl 0 rfl) ?_
    refine va_get (D := G.1) (ci := 5) (v := .ref k3) (C := RX5) (T := TX5) (N := 6) hx hb hts owX5 hown hK.1 hP 0 rfl rfl 3 (by decide) (bw1 (w := Cond.fieldLink RX5 21 "DropflagMill$Program" "bs" "[I") hts 32 rfl) (fun _ h9 => h9) rfl dX5_setLine_23 ?_
    refine lv_iload_n hx hb dX5_setLine_26 rfl (lv_at hl 1 rfl) ?_
    refine lv_iload hx hb dX5_setLine_27 (lv_at hl 4 rfl) ?_
    refine va_iast hx hb hK.1 hP hD hS 3 0 rfl rfl (i := p1) (sx_in_line hn c1) dX5_setLine_29 (fun H locs hP hD hS => ?_)
    have hP : va_P G.1 vwCl [(h, .inr (5, [.ref k0, .ref k1, .ref k2, .ref k3, .int (nI pv), .int (nI pn)])), (k1, .inl (G.2.1, 34, .inl (upd fs p1.toNatClampNeg p2))), (k2, .inl (G.2.1, 34, .inl (upd fa p1.toNatClampNeg p3))), (k3, .inl (G.2.1, 34, .inl (upd fb p1.toNatClampNeg p4)))] H := hP
    have hD : va_D A [(h, .inr (5, [.ref k0, .ref k1, .ref k2, .ref k3, .int (nI pv), .int (nI pn)])), (k1, .inl (G.2.1, 34, .inl (upd fs p1.toNatClampNeg p2))), (k2, .inl (G.2.1, 34, .inl (upd fa p1.toNatClampNeg p3))), (k3, .inl (G.2.1, 34, .inl (upd fb p1.toNatClampNeg p4)))] := hD
    exact sx_retV (u := (upd fs p1.toNatClampNeg p2, upd fa p1.toNatClampNeg p3, upd fb p1.toNatClampNeg p4)) hx hb hr hlk hK hP hD hS (by simp only [s_X5_setLine, if_neg c1]) dX5_setLine_30
