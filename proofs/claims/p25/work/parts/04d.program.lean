abbrev wdX5_insertLine : List Cond := Cond.code yX5_insertLine cX5_insertLine 6 none :: bwC
def sl_X5_insertLine_L24 (pn : Nat) (p1 : Int32) (p2 : Int32) (p3 : Int32) (p4 : Int32)  : Nat → (Nat) → (Nat → Int32) → (Nat → Int32) → (Nat → Int32) → (Nat → Int32) × (Nat → Int32) × (Nat → Int32) × Nat
  | 0, _, _, _, _ => ((fun _ => 0), (fun _ => 0), (fun _ => 0), 0)
  | k + 1, i, fs, fa, fb => if (nI i) ≤ p1 then ((s_X5_setLine (pn + 1) fs fa fb p1 p2 p3 p4).1, (s_X5_setLine (pn + 1) fs fa fb p1 p2 p3 p4).2.1, (s_X5_setLine (pn + 1) fs fa fb p1 p2 p3 p4).2.2, (pn + 1)) else sl_X5_insertLine_L24 pn p1 p2 p3 p4 k (i - 1) (upd fs i (fs (i - 1))) (upd fa i (fa (i - 1))) (upd fb i (fb (i - 1)))
set_option maxHeartbeats 4000000 in
set_option maxRecDepth 100000 in
theorem l_X5_insertLine_L24 (l : Launch) (G : sxG) (h : Nat) (k0 : Nat) (k1 : Nat) (k2 : Nat) (k3 : Nat) (pv : Nat) (pn : Nat) (p1 : Int32) (p2 : Int32) (p3 : Int32) (p4 : Int32) (hn : pn ≤ 34)   {p : Program} {e : Env} {s : State} {m : MethodId} {args : Array Value} {below : List Frame} {meth : Method} {c : Code} (hB : sxBv G yX5_insertLine wdX5_insertLine cX5_insertLine 6  p s m args meth c) (A : Nat → Prop) (hA : ∀ q : Nat, s.heap.size ≤ q → A q) (S0 : (Nat → Int32) × (Nat → Int32) × (Nat → Int32) × Nat) : ∀ (k : Nat) (i : Nat) (fs : Nat → Int32) (fa : Nat → Int32) (fb : Nat → Int32), i ≤ pn → pn < 33 → ¬ p1 < 0 → i < k → S0 = sl_X5_insertLine_L24 pn p1 p2 p3 p4 k i fs fa fb → ∀ (H : Heap) (locs : List Loc), va_P G.1 vwCl [(h, .inr (5, [.ref k0, .ref k1, .ref k2, .ref k3, .int (nI pv), .int (nI pn)])), (k1, .inl (G.2.1, 34, .inl fs)), (k2, .inl (G.2.1, 34, .inl fa)), (k3, .inl (G.2.1, 34, .inl fb))] H → va_D A [(h, .inr (5, [.ref k0, .ref k1, .ref k2, .ref k3, .int (nI pv), .int (nI pn)])), (k1, .inl (G.2.1, 34, .inl fs)), (k2, .inl (G.2.1, 34, .inl fa)), (k3, .inl (G.2.1, 34, .inl fb))] → va_S A s.heap H locs → ∀ ls : Array Slot, lv_has ls 6 [(0, .ref h), (1, .int p1), (2, .int p2), (3, .int p3), (4, .int p4), (5, .int (nI i))] → W p l e ({ frames := 2, cells := 0, slots := 0, locals := 45 }) s m args below meth c H locs 0 0 (sxZv G args s below A (fun u : (Nat → Int32) × (Nat → Int32) × (Nat → Int32) × Nat => ([(h, .inr (5, [.ref k0, .ref k1, .ref k2, .ref k3, .int (nI pv), .int (nI u.2.2.2)])), (k1, .inl (G.2.1, 34, .inl u.1)), (k2, .inl (G.2.1, 34, .inl u.2.1)), (k3, .inl (G.2.1, 34, .inl u.2.2.1))] : va_W)) S0) (F0 m 24 ls []) := by
  obtain ⟨hx, hb, hr, hml, hown, hlk, hts, hK⟩ := id hB
  intro k
  induction k with
  | zero =>
    intro i fs fa fb _ _ _ hm
    exact absurd hm (Nat.not_lt_zero _)
  | succ k ih =>
    intro i fs fa fb hi hp h0 hm hE H locs hP hD hS ls hl
    refine lv_iload hx hb dX5_insertLine_24 (lv_at hl 5 rfl) ?_
    refine lv_iload_n hx hb dX5_insertLine_26 rfl (lv_at hl 1 rfl) ?_
    refine lv_icmp_le (tgt := 84) hx hb dX5_insertLine_27 (by decide) (fun c3 => ?_) (fun c3 => ?_)
    · refine lv_aload_n hx hb dX5_insertLine_84 rfl (lv_at hl 0 rfl) ?_
      refine lv_dup hx hb dX5_insertLine_85 rfl ?_
      refine va_get (D := G.1) (ci := 5) (v := .int (nI pn)) (C := RX5) (T := TX5) (N := 6) hx hb hts owX5 hown hK.1 hP 0 rfl rfl 5 (by decide) (bw1 (w := Cond.fieldLink RX5 28 "DropflagMill$Program" "lines" "I") hts 24 rfl) (fun _ h9 => h9) rfl dX5_insertLine_86 ?_
      refine lv_iconst (v := 1) hx hb dX5_insertLine_89 (by decide) ?_
      refine lv_iadd hx hb dX5_insertLine_90 ?_
      rw [show (nI pn) + 1 = nI (pn + 1) from nI_add pn 1]
      refine va_put (D := G.1) (ci := 5) (v := .int (nI (pn + 1))) (ty := .int) (C := RX5) (T := TX5) (N := 6) hx hb hts owX5 tyX5 tyX5_ok nmX5 hown hK.1 hP hD hS 0 rfl rfl 5 (by decide) (bw1 (w := Cond.fieldLink RX5 28 "DropflagMill$Program" "lines" "I") hts 24 rfl) (fun _ h9 => h9) rfl (by decide +kernel) rfl rfl (Nat.le_of_ble_eq_true rfl) dX5_insertLine_91 (fun H locs hP hD hS => ?_)
      have hP : va_P G.1 vwCl [(h, .inr (5, [.ref k0, .ref k1, .ref k2, .ref k3, .int (nI pv), .int (nI (pn + 1))])), (k1, .inl (G.2.1, 34, .inl fs)), (k2, .inl (G.2.1, 34, .inl fa)), (k3, .inl (G.2.1, 34, .inl fb))] H := hP
      have hD : va_D A [(h, .inr (5, [.ref k0, .ref k1, .ref k2, .ref k3, .int (nI pv), .int (nI (pn + 1))])), (k1, .inl (G.2.1, 34, .inl fs)), (k2, .inl (G.2.1, 34, .inl fa)), (k3, .inl (G.2.1, 34, .inl fb))] := hD
      refine lv_aload_n hx hb dX5_insertLine_94 rfl (lv_at hl 0 rfl) ?_
      refine lv_iload_n hx hb dX5_insertLine_95 rfl (lv_at hl 1 rfl) ?_
      refine lv_iload_n hx hb dX5_insertLine_96 rfl (lv_at hl 2 rfl) ?_
      refine lv_iload_n hx hb dX5_insertLine_97 rfl (lv_at hl 3 rfl) ?_
      refine lv_iload hx hb dX5_insertLine_98 (lv_at hl 4 rfl) ?_
      refine sx_vV (As := [.int p1, .int p2, .int p3, .int p4]) (rest := []) hx hb hml hown hts (c_X5_setLine l G h k0 k1 k2 k3 pv (pn + 1) fs fa fb p1 p2 p3 p4 (by omega)) 4 (sxGV (bi6 (w := Cond.methodLink RX5 45 yX5_setLine) 10 rfl) (bi6 (w := Cond.instanceMethod yX5_setLine) 11 rfl) (bi6 (w := Cond.selects RX5 yX5_setLine yX5_setLine) 12 rfl) (bi1 (w := Cond.initialized RX5) 30 rfl) (bi6 (w := Cond.code yX5_setLine cX5_setLine 5 none) 7 rfl)) rfl (by decide +kernel) ⟨Nat.le_of_ble_eq_true rfl, Nat.le_of_ble_eq_true rfl⟩ (wr := []) (ws' := [(h, .inr (5, [.ref k0, .ref k1, .ref k2, .ref k3, .int (nI pv), .int (nI (pn + 1))])), (k1, .inl (G.2.1, 34, .inl ((s_X5_setLine (pn + 1) fs fa fb p1 p2 p3 p4).1))), (k2, .inl (G.2.1, 34, .inl ((s_X5_setLine (pn + 1) fs fa fb p1 p2 p3 p4).2.1))), (k3, .inl (G.2.1, 34, .inl ((s_X5_setLine (pn + 1) fs fa fb p1 p2 p3 p4).2.2)))]) hK hP hD hS hA [0, 1, 2, 3] [] rfl (by decide) rfl (by decide) (by decide) [0, 1, 2, 3] rfl rfl (by decide) 0 rfl rfl rfl hl rfl (Nat.le_of_ble_eq_true rfl) ⟨Nat.zero_le _, Nat.zero_le _⟩ dX5_insertLine_100 (fun H locs hP hD hS => ?_)
      exact sx_retV (u := ((s_X5_setLine (pn + 1) fs fa fb p1 p2 p3 p4).1, (s_X5_setLine (pn + 1) fs fa fb p1 p2 p3 p4).2.1, (s_X5_setLine (pn + 1) fs fa fb p1 p2 p3 p4).2.2, (pn + 1))) hx hb hr hlk hK hP hD hS (by rw [hE]; simp only [sl_X5_insertLine_L24, if_pos c3]) dX5_insertLine_103
    · have gc3 := sx_gt (by omega) h0 (Int32.not_le.mp c3)
      refine lv_aload_n hx hb dX5_insertLine_30 rfl (lv_at hl 0 rfl) ?_
      refine va_get (D := G.1) (ci := 5) (v := .ref k1) (C := RX5) (T := TX5) (N := 6) hx hb hts owX5 hown hK.1 hP 0 rfl rfl 1 (by decide) (bw1 (w := Cond.fieldLink RX5 15 "DropflagMill$Program" "sorts" "[I") hts 26 rfl) (fun _ h9 => h9) rfl dX5_insertLine_31 ?_
      refine lv_iload hx hb dX5_insertLine_34 (lv_at hl 5 rfl) ?_
      refine lv_aload_n hx hb dX5_insertLine_36 rfl (lv_at hl 0 rfl) ?_
      refine va_get (D := G.1) (ci := 5) (v := .ref k1) (C := RX5) (T := TX5) (N := 6) hx hb hts owX5 hown hK.1 hP 0 rfl rfl 1 (by decide) (bw1 (w := Cond.fieldLink RX5 15 "DropflagMill$Program" "sorts" "[I") hts 26 rfl) (fun _ h9 => h9) rfl dX5_insertLine_37 ?_
      refine lv_iload hx hb dX5_insertLine_40 (lv_at hl 5 rfl) ?_
      refine lv_iconst (v := 1) hx hb dX5_insertLine_42 (by decide) ?_
      refine lv_isub hx hb dX5_insertLine_43 ?_
      rw [show (nI i) - 1 = nI (i - 1) from pk_sub (b := 1) (by omega)]
      refine va_iald hx hb hK.1 hP 1 0 rfl rfl (i := nI (i - 1)) (vp_in_nI (n := (i - 1)) (by omega) (by omega)) dX5_insertLine_44 ?_
      rw [show (nI (i - 1) : Int32).toNatClampNeg = (i - 1) from nI_clamp (n := (i - 1)) (by omega)]
      refine va_iast hx hb hK.1 hP hD hS 1 0 rfl rfl (i := nI i) (vp_in_nI (n := i) (by omega) (by omega)) dX5_insertLine_45 (fun H locs hP hD hS => ?_)
      rw [show (nI i : Int32).toNatClampNeg = i from nI_clamp (n := i) (by omega)] at hP hD
      have hP : va_P G.1 vwCl [(h, .inr (5, [.ref k0, .ref k1, .ref k2, .ref k3, .int (nI pv), .int (nI pn)])), (k1, .inl (G.2.1, 34, .inl (upd fs i (fs (i - 1))))), (k2, .inl (G.2.1, 34, .inl fa)), (k3, .inl (G.2.1, 34, .inl fb))] H := hP
      have hD : va_D A [(h, .inr (5, [.ref k0, .ref k1, .ref k2, .ref k3, .int (nI pv), .int (nI pn)])), (k1, .inl (G.2.1, 34, .inl (upd fs i (fs (i - 1))))), (k2, .inl (G.2.1, 34, .inl fa)), (k3, .inl (G.2.1, 34, .inl fb))] := hD
      refine lv_aload_n hx hb dX5_insertLine_46 rfl (lv_at hl 0 rfl) ?_
      refine va_get (D := G.1) (ci := 5) (v := .ref k2) (C := RX5) (T := TX5) (N := 6) hx hb hts owX5 hown hK.1 hP 0 rfl rfl 2 (by decide) (bw1 (w := Cond.fieldLink RX5 18 "DropflagMill$Program" "as" "[I") hts 34 rfl) (fun _ h9 => h9) rfl dX5_insertLine_47 ?_
      refine lv_iload hx hb dX5_insertLine_50 (lv_at hl 5 rfl) ?_
      refine lv_aload_n hx hb dX5_insertLine_52 rfl (lv_at hl 0 rfl) ?_
      refine va_get (D := G.1) (ci := 5) (v := .ref k2) (C := RX5) (T := TX5) (N := 6) hx hb hts owX5 hown hK.1 hP 0 rfl rfl 2 (by decide) (bw1 (w := Cond.fieldLink RX5 18 "DropflagMill$Program" "as" "[I") hts 34 rfl) (fun _ h9 => h9) rfl dX5_insertLine_53 ?_
      refine lv_iload hx hb dX5_insertLine_56 (lv_at hl 5 rfl) ?_
      refine lv_iconst (v := 1) hx hb dX5_insertLine_58 (by decide) ?_
      refine lv_isub hx hb dX5_insertLine_59 ?_
      rw [show (nI i) - 1 = nI (i - 1) from pk_sub (b := 1) (by omega)]
      refine va_iald hx hb hK.1 hP 2 0 rfl rfl (i := nI (i - 1)) (vp_in_nI (n := (i - 1)) (by omega) (by omega)) dX5_insertLine_60 ?_
      rw [show (nI (i - 1) : Int32).toNatClampNeg = (i - 1) from nI_clamp (n := (i - 1)) (by omega)]
      refine va_iast hx hb hK.1 hP hD hS 2 0 rfl rfl (i := nI i) (vp_in_nI (n := i) (by omega) (by omega)) dX5_insertLine_61 (fun H locs hP hD hS => ?_)
      rw [show (nI i : Int32).toNatClampNeg = i from nI_clamp (n := i) (by omega)] at hP hD
      have hP : va_P G.1 vwCl [(h, .inr (5, [.ref k0, .ref k1, .ref k2, .ref k3, .int (nI pv), .int (nI pn)])), (k1, .inl (G.2.1, 34, .inl (upd fs i (fs (i - 1))))), (k2, .inl (G.2.1, 34, .inl (upd fa i (fa (i - 1))))), (k3, .inl (G.2.1, 34, .inl fb))] H := hP
      have hD : va_D A [(h, .inr (5, [.ref k0, .ref k1, .ref k2, .ref k3, .int (nI pv), .int (nI pn)])), (k1, .inl (G.2.1, 34, .inl (upd fs i (fs (i - 1))))), (k2, .inl (G.2.1, 34, .inl (upd fa i (fa (i - 1))))), (k3, .inl (G.2.1, 34, .inl fb))] := hD
      refine lv_aload_n hx hb dX5_insertLine_62 rfl (lv_at hl 0 rfl) ?_
      refine va_get (D := G.1) (ci := 5) (v := .ref k3) (C := RX5) (T := TX5) (N := 6) hx hb hts owX5 hown hK.1 hP 0 rfl rfl 3 (by decide) (bw1 (w := Cond.fieldLink RX5 21 "DropflagMill$Program" "bs" "[I") hts 32 rfl) (fun _ h9 => h9) rfl dX5_insertLine_63 ?_
      refine lv_iload hx hb dX5_insertLine_66 (lv_at hl 5 rfl) ?_
      refine lv_aload_n hx hb dX5_insertLine_68 rfl (lv_at hl 0 rfl) ?_
      refine va_get (D := G.1) (ci := 5) (v := .ref k3) (C := RX5) (T := TX5) (N := 6) hx hb hts owX5 hown hK.1 hP 0 rfl rfl 3 (by decide) (bw1 (w := Cond.fieldLink RX5 21 "DropflagMill$Program" "bs" "[I") hts 32 rfl) (fun _ h9 => h9) rfl dX5_insertLine_69 ?_
      refine lv_iload hx hb dX5_insertLine_72 (lv_at hl 5 rfl) ?_
      refine lv_iconst (v := 1) hx hb dX5_insertLine_74 (by decide) ?_
      refine lv_isub hx hb dX5_insertLine_75 ?_
      rw [show (nI i) - 1 = nI (i - 1) from pk_sub (b := 1) (by omega)]
      refine va_iald hx hb hK.1 hP 3 0 rfl rfl (i := nI (i - 1)) (vp_in_nI (n := (i - 1)) (by omega) (by omega)) dX5_insertLine_76 ?_
      rw [show (nI (i - 1) : Int32).toNatClampNeg = (i - 1) from nI_clamp (n := (i - 1)) (by omega)]
      refine va_iast hx hb hK.1 hP hD hS 3 0 rfl rfl (i := nI i) (vp_in_nI (n := i) (by omega) (by omega)) dX5_insertLine_77 (fun H locs hP hD hS => ?_)
      rw [show (nI i : Int32).toNatClampNeg = i from nI_clamp (n := i) (by omega)] at hP hD
      have hP : va_P G.1 vwCl [(h, .inr (5, [.ref k0, .ref k1, .ref k2, .ref k3, .int (nI pv), .int (nI pn)])), (k1, .inl (G.2.1, 34, .inl (upd fs i (fs (i - 1))))), (k2, .inl (G.2.1, 34, .inl (upd fa i (fa (i - 1))))), (k3, .inl (G.2.1, 34, .inl (upd fb i (fb (i - 1)))))] H := hP
      have hD : va_D A [(h, .inr (5, [.ref k0, .ref k1, .ref k2, .ref k3, .int (nI pv), .int (nI pn)])), (k1, .inl (G.2.1, 34, .inl (upd fs i (fs (i - 1))))), (k2, .inl (G.2.1, 34, .inl (upd fa i (fa (i - 1))))), (k3, .inl (G.2.1, 34, .inl (upd fb i (fb (i - 1)))))] := hD
      refine lv_iinc (v := nI i + (-1)) (lv' := [(5, .int (nI i + (-1))), (0, .ref h), (1, .int p1), (2, .int p2), (3, .int p3), (4, .int p4)]) hx hb dX5_insertLine_78 hl (k := 5) rfl (rfl) (by decide) rfl (fun ls hl => ?_)
      refine lv_goto (tgt := 24) hx hb dX5_insertLine_81 (by decide) ?_
      rw [show nI i + (-1) = nI (i - 1) from sx_m1 (by omega)] at hl
      exact ih (i - 1) (upd fs i (fs (i - 1))) (upd fa i (fa (i - 1))) (upd fb i (fb (i - 1))) (by omega) (hp) (h0) (by omega) (by rw [hE]; simp only [sl_X5_insertLine_L24, if_neg c3]) _ _ hP hD hS ls (lv_sub hl [1, 2, 3, 4, 5, 0] rfl)
def s_X5_insertLine (pn : Nat) (fs : Nat → Int32) (fa : Nat → Int32) (fb : Nat → Int32) (p1 : Int32) (p2 : Int32) (p3 : Int32) (p4 : Int32) : (Nat → Int32) × (Nat → Int32) × (Nat → Int32) × Nat := if (s_X5_isLineOrEnd pn p1) = 0 then (fs, fa, fb, pn) else (if (nI pn) < 33 then sl_X5_insertLine_L24 pn p1 p2 p3 p4  35 pn fs fa fb else (fs, fa, fb, pn))
set_option maxHeartbeats 4000000 in
set_option maxRecDepth 100000 in
theorem c_X5_insertLine (l : Launch) (G : sxG) (h : Nat) (k0 : Nat) (k1 : Nat) (k2 : Nat) (k3 : Nat) (pv : Nat) (pn : Nat) (fs : Nat → Int32) (fa : Nat → Int32) (fb : Nat → Int32) (p1 : Int32) (p2 : Int32) (p3 : Int32) (p4 : Int32) (hn : pn ≤ 34) : sxV l yX5_insertLine wdX5_insertLine 2 45 G [(h, .inr (5, [.ref k0, .ref k1, .ref k2, .ref k3, .int (nI pv), .int (nI pn)])), (k1, .inl (G.2.1, 34, .inl fs)), (k2, .inl (G.2.1, 34, .inl fa)), (k3, .inl (G.2.1, 34, .inl fb))] [.ref h, .int p1, .int p2, .int p3, .int p4] (fun u : (Nat → Int32) × (Nat → Int32) × (Nat → Int32) × Nat => ([(h, .inr (5, [.ref k0, .ref k1, .ref k2, .ref k3, .int (nI pv), .int (nI u.2.2.2)])), (k1, .inl (G.2.1, 34, .inl u.1)), (k2, .inl (G.2.1, 34, .inl u.2.1)), (k3, .inl (G.2.1, 34, .inl u.2.2.1))] : va_W)) (s_X5_insertLine pn fs fa fb p1 p2 p3 p4) := by
  refine sxV.of (cc := cX5_insertLine) (maxL := 6) (by decide) rfl (Nat.le_of_ble_eq_true rfl) ?_
  intro p e s m args below meth c ⟨hx, hb, hr, hml, hown, hlk, hts, hK⟩ A hA hP hD hS ls hl
  have hl : lv_has ls 6 [(0, .ref h), (1, .int p1), (2, .int p2), (3, .int p3), (4, .int p4)] := hl
  refine lv_aload_n hx hb dX5_insertLine_0 rfl (lv_at hl 0 rfl) ?_
  refine lv_iload_n hx hb dX5_insertLine_1 rfl (lv_at hl 1 rfl) ?_
  refine sx_v (As := [.int p1]) (rest := []) hx hb hml hown hts (c_X5_isLineOrEnd l G h k0 k1 k2 k3 pv pn p1 ) 1 (sxGV (bi6 (w := Cond.methodLink RX5 41 yX5_isLineOrEnd) 9 rfl) (bi3 (w := Cond.instanceMethod yX5_isLineOrEnd) 2 rfl) (bi3 (w := Cond.selects RX5 yX5_isLineOrEnd yX5_isLineOrEnd) 3 rfl) (bi1 (w := Cond.initialized RX5) 30 rfl) (bi2 (w := Cond.code yX5_isLineOrEnd cX5_isLineOrEnd 2 (some .boolean)) 58 rfl)) rfl (by decide +kernel) ⟨Nat.le_of_ble_eq_true rfl, Nat.le_of_ble_eq_true rfl⟩ hK hP [0] rfl 0 rfl rfl rfl hl rfl (Nat.le_of_ble_eq_true rfl) ⟨Nat.zero_le _, Nat.zero_le _⟩ dX5_insertLine_2 (fun r er => ?_)
  subst er
  refine lv_if_eq (tgt := 17) hx hb dX5_insertLine_5 (by decide) (fun c1 => ?_) (fun c1 => ?_)
  · exact sx_retV (u := (fs, fa, fb, pn)) hx hb hr hlk hK hP hD hS (by simp only [s_X5_insertLine, if_pos c1]) dX5_insertLine_17
  · refine lv_aload_n hx hb dX5_insertLine_8 rfl (lv_at hl 0 rfl) ?_
    refine va_get (D := G.1) (ci := 5) (v := .int (nI pn)) (C := RX5) (T := TX5) (N := 6) hx hb hts owX5 hown hK.1 hP 0 rfl rfl 5 (by decide) (bw1 (w := Cond.fieldLink RX5 28 "DropflagMill$Program" "lines" "I") hts 24 rfl) (fun _ h9 => h9) rfl dX5_insertLine_9 ?_
    refine lv_bipush (v := 33) hx hb dX5_insertLine_12 (by decide) ?_
    refine lv_icmp_lt (tgt := 18) hx hb dX5_insertLine_14 (by decide) (fun c2 => ?_) (fun c2 => ?_)
    · have nc2 := (nI_ltI (a := pn) (b := 33) (by omega) (by omega)).mp c2
      refine lv_aload_n hx hb dX5_insertLine_18 rfl (lv_at hl 0 rfl) ?_
      refine va_get (D := G.1) (ci := 5) (v := .int (nI pn)) (C := RX5) (T := TX5) (N := 6) hx hb hts owX5 hown hK.1 hP 0 rfl rfl 5 (by decide) (bw1 (w := Cond.fieldLink RX5 28 "DropflagMill$Program" "lines" "I") hts 24 rfl) (fun _ h9 => h9) rfl dX5_insertLine_19 ?_
      refine lv_istore (lv' := [(5, .int (nI pn)), (0, .ref h), (1, .int p1), (2, .int p2), (3, .int p3), (4, .int p4)]) hx hb dX5_insertLine_22 hl (by decide) rfl (fun ls hl => ?_)
      have hB0 : sxBv G yX5_insertLine wdX5_insertLine cX5_insertLine 6  p s m args meth c := ⟨hx, hb, hr, hml, hown, hlk, hts, hK⟩
      exact l_X5_insertLine_L24 l G h k0 k1 k2 k3 pv pn p1 p2 p3 p4 hn   hB0 A hA _  35 pn fs fa fb (Nat.le_refl _) (by omega) ((sx_isLineOrEnd c1).1) (by omega) (by simp only [s_X5_insertLine, if_neg c1, if_pos c2]) _ _ hP hD hS ls (lv_sub hl [1, 2, 3, 4, 5, 0] rfl)
    · have nc2 := (not_congr (nI_ltI (a := pn) (b := 33) (by omega) (by omega))).mp c2
      exact sx_retV (u := (fs, fa, fb, pn)) hx hb hr hlk hK hP hD hS (by simp only [s_X5_insertLine, if_neg c1, if_neg c2]) dX5_insertLine_17

abbrev wdX5_removeLine : List Cond := Cond.code yX5_removeLine cX5_removeLine 3 none :: bwC
def sl_X5_removeLine_L21 (pn : Nat)  : Nat → (Nat) → (Nat → Int32) → (Nat → Int32) → (Nat → Int32) → (Nat → Int32) × (Nat → Int32) × (Nat → Int32) × Nat
  | 0, _, _, _, _ => ((fun _ => 0), (fun _ => 0), (fun _ => 0), 0)
  | k + 1, i, fs, fa, fb => if (nI (pn - 1)) ≤ (nI i) then (fs, fa, fb, (pn - 1)) else sl_X5_removeLine_L21 pn k (i + 1) (upd fs i (fs (i + 1))) (upd fa i (fa (i + 1))) (upd fb i (fb (i + 1)))
set_option maxHeartbeats 4000000 in
set_option maxRecDepth 100000 in
theorem l_X5_removeLine_L21 (l : Launch) (G : sxG) (h : Nat) (k0 : Nat) (k1 : Nat) (k2 : Nat) (k3 : Nat) (pv : Nat) (pn : Nat) (j : Nat) (hn : pn ≤ 34) (hj : j < 2 ^ 31)   {p : Program} {e : Env} {s : State} {m : MethodId} {args : Array Value} {below : List Frame} {meth : Method} {c : Code} (hB : sxBv G yX5_removeLine wdX5_removeLine cX5_removeLine 3  p s m args meth c) (A : Nat → Prop) (hA : ∀ q : Nat, s.heap.size ≤ q → A q) (S0 : (Nat → Int32) × (Nat → Int32) × (Nat → Int32) × Nat) : ∀ (k : Nat) (i : Nat) (fs : Nat → Int32) (fa : Nat → Int32) (fb : Nat → Int32), i < 34 → 1 ≤ pn → 34 - i < k → S0 = sl_X5_removeLine_L21 pn k i fs fa fb → ∀ (H : Heap) (locs : List Loc), va_P G.1 vwCl [(h, .inr (5, [.ref k0, .ref k1, .ref k2, .ref k3, .int (nI pv), .int (nI (pn - 1))])), (k1, .inl (G.2.1, 34, .inl fs)), (k2, .inl (G.2.1, 34, .inl fa)), (k3, .inl (G.2.1, 34, .inl fb))] H → va_D A [(h, .inr (5, [.ref k0, .ref k1, .ref k2, .ref k3, .int (nI pv), .int (nI (pn - 1))])), (k1, .inl (G.2.1, 34, .inl fs)), (k2, .inl (G.2.1, 34, .inl fa)), (k3, .inl (G.2.1, 34, .inl fb))] → va_S A s.heap H locs → ∀ ls : Array Slot, lv_has ls 3 [(0, .ref h), (1, .int (nI j)), (2, .int (nI i))] → W p l e ({ frames := 1, cells := 0, slots := 0, locals := 21 }) s m args below meth c H locs 0 0 (sxZv G args s below A (fun u : (Nat → Int32) × (Nat → Int32) × (Nat → Int32) × Nat => ([(h, .inr (5, [.ref k0, .ref k1, .ref k2, .ref k3, .int (nI pv), .int (nI u.2.2.2)])), (k1, .inl (G.2.1, 34, .inl u.1)), (k2, .inl (G.2.1, 34, .inl u.2.1)), (k3, .inl (G.2.1, 34, .inl u.2.2.1))] : va_W)) S0) (F0 m 21 ls []) := by
  obtain ⟨hx, hb, hr, hml, hown, hlk, hts, hK⟩ := id hB
  intro k
  induction k with
  | zero =>
    intro i fs fa fb _ _ hm
    exact absurd hm (Nat.not_lt_zero _)
  | succ k ih =>
    intro i fs fa fb hi hp hm hE H locs hP hD hS ls hl
    refine lv_iload_n hx hb dX5_removeLine_21 rfl (lv_at hl 2 rfl) ?_
    refine lv_aload_n hx hb dX5_removeLine_22 rfl (lv_at hl 0 rfl) ?_
    refine va_get (D := G.1) (ci := 5) (v := .int (nI (pn - 1))) (C := RX5) (T := TX5) (N := 6) hx hb hts owX5 hown hK.1 hP 0 rfl rfl 5 (by decide) (bw1 (w := Cond.fieldLink RX5 28 "DropflagMill$Program" "lines" "I") hts 24 rfl) (fun _ h9 => h9) rfl dX5_removeLine_23 ?_
    refine lv_icmp_ge (tgt := 77) hx hb dX5_removeLine_26 (by decide) (fun c2 => ?_) (fun c2 => ?_)
    · have nc2 := (nI_leI (a := (pn - 1)) (b := i) (by omega) (by omega)).mp c2
      exact sx_retV (u := (fs, fa, fb, (pn - 1))) hx hb hr hlk hK hP hD hS (by rw [hE]; simp only [sl_X5_removeLine_L21, if_pos c2]) dX5_removeLine_77
    · have nc2 := (not_congr (nI_leI (a := (pn - 1)) (b := i) (by omega) (by omega))).mp c2
      refine lv_aload_n hx hb dX5_removeLine_29 rfl (lv_at hl 0 rfl) ?_
      refine va_get (D := G.1) (ci := 5) (v := .ref k1) (C := RX5) (T := TX5) (N := 6) hx hb hts owX5 hown hK.1 hP 0 rfl rfl 1 (by decide) (bw1 (w := Cond.fieldLink RX5 15 "DropflagMill$Program" "sorts" "[I") hts 26 rfl) (fun _ h9 => h9) rfl dX5_removeLine_30 ?_
      refine lv_iload_n hx hb dX5_removeLine_33 rfl (lv_at hl 2 rfl) ?_
      refine lv_aload_n hx hb dX5_removeLine_34 rfl (lv_at hl 0 rfl) ?_
      refine va_get (D := G.1) (ci := 5) (v := .ref k1) (C := RX5) (T := TX5) (N := 6) hx hb hts owX5 hown hK.1 hP 0 rfl rfl 1 (by decide) (bw1 (w := Cond.fieldLink RX5 15 "DropflagMill$Program" "sorts" "[I") hts 26 rfl) (fun _ h9 => h9) rfl dX5_removeLine_35 ?_
      refine lv_iload_n hx hb dX5_removeLine_38 rfl (lv_at hl 2 rfl) ?_
      refine lv_iconst (v := 1) hx hb dX5_removeLine_39 (by decide) ?_
      refine lv_iadd hx hb dX5_removeLine_40 ?_
      rw [show (nI i) + 1 = nI (i + 1) from nI_add i 1]
      refine va_iald hx hb hK.1 hP 1 0 rfl rfl (i := nI (i + 1)) (vp_in_nI (n := (i + 1)) (by omega) (by omega)) dX5_removeLine_41 ?_
      rw [show (nI (i + 1) : Int32).toNatClampNeg = (i + 1) from nI_clamp (n := (i + 1)) (by omega)]
      refine va_iast hx hb hK.1 hP hD hS 1 0 rfl rfl (i := nI i) (vp_in_nI (n := i) (by omega) (by omega)) dX5_removeLine_42 (fun H locs hP hD hS => ?_)
      rw [show (nI i : Int32).toNatClampNeg = i from nI_clamp (n := i) (by omega)] at hP hD
      have hP : va_P G.1 vwCl [(h, .inr (5, [.ref k0, .ref k1, .ref k2, .ref k3, .int (nI pv), .int (nI (pn - 1))])), (k1, .inl (G.2.1, 34, .inl (upd fs i (fs (i + 1))))), (k2, .inl (G.2.1, 34, .inl fa)), (k3, .inl (G.2.1, 34, .inl fb))] H := hP
      have hD : va_D A [(h, .inr (5, [.ref k0, .ref k1, .ref k2, .ref k3, .int (nI pv), .int (nI (pn - 1))])), (k1, .inl (G.2.1, 34, .inl (upd fs i (fs (i + 1))))), (k2, .inl (G.2.1, 34, .inl fa)), (k3, .inl (G.2.1, 34, .inl fb))] := hD
      refine lv_aload_n hx hb dX5_removeLine_43 rfl (lv_at hl 0 rfl) ?_
      refine va_get (D := G.1) (ci := 5) (v := .ref k2) (C := RX5) (T := TX5) (N := 6) hx hb hts owX5 hown hK.1 hP 0 rfl rfl 2 (by decide) (bw1 (w := Cond.fieldLink RX5 18 "DropflagMill$Program" "as" "[I") hts 34 rfl) (fun _ h9 => h9) rfl dX5_removeLine_44 ?_
      refine lv_iload_n hx hb dX5_removeLine_47 rfl (lv_at hl 2 rfl) ?_
      refine lv_aload_n hx hb dX5_removeLine_48 rfl (lv_at hl 0 rfl) ?_
      refine va_get (D := G.1) (ci := 5) (v := .ref k2) (C := RX5) (T := TX5) (N := 6) hx hb hts owX5 hown hK.1 hP 0 rfl rfl 2 (by decide) (bw1 (w := Cond.fieldLink RX5 18 "DropflagMill$Program" "as" "[I") hts 34 rfl) (fun _ h9 => h9) rfl dX5_removeLine_49 ?_
      refine lv_iload_n hx hb dX5_removeLine_52 rfl (lv_at hl 2 rfl) ?_
      refine lv_iconst (v := 1) hx hb dX5_removeLine_53 (by decide) ?_
      refine lv_iadd hx hb dX5_removeLine_54 ?_
      rw [show (nI i) + 1 = nI (i + 1) from nI_add i 1]
      refine va_iald hx hb hK.1 hP 2 0 rfl rfl (i := nI (i + 1)) (vp_in_nI (n := (i + 1)) (by omega) (by omega)) dX5_removeLine_55 ?_
      rw [show (nI (i + 1) : Int32).toNatClampNeg = (i + 1) from nI_clamp (n := (i + 1)) (by omega)]
      refine va_iast hx hb hK.1 hP hD hS 2 0 rfl rfl (i := nI i) (vp_in_nI (n := i) (by omega) (by omega)) dX5_removeLine_56 (fun H locs hP hD hS => ?_)
      rw [show (nI i : Int32).toNatClampNeg = i from nI_clamp (n := i) (by omega)] at hP hD
      have hP : va_P G.1 vwCl [(h, .inr (5, [.ref k0, .ref k1, .ref k2, .ref k3, .int (nI pv), .int (nI (pn - 1))])), (k1, .inl (G.2.1, 34, .inl (upd fs i (fs (i + 1))))), (k2, .inl (G.2.1, 34, .inl (upd fa i (fa (i + 1))))), (k3, .inl (G.2.1, 34, .inl fb))] H := hP
      have hD : va_D A [(h, .inr (5, [.ref k0, .ref k1, .ref k2, .ref k3, .int (nI pv), .int (nI (pn - 1))])), (k1, .inl (G.2.1, 34, .inl (upd fs i (fs (i + 1))))), (k2, .inl (G.2.1, 34, .inl (upd fa i (fa (i + 1))))), (k3, .inl (G.2.1, 34, .inl fb))] := hD
      refine lv_aload_n hx hb dX5_removeLine_57 rfl (lv_at hl 0 rfl) ?_
      refine va_get (D := G.1) (ci := 5) (v := .ref k3) (C := RX5) (T := TX5) (N := 6) hx hb hts owX5 hown hK.1 hP 0 rfl rfl 3 (by decide) (bw1 (w := Cond.fieldLink RX5 21 "DropflagMill$Program" "bs" "[I") hts 32 rfl) (fun _ h9 => h9) rfl dX5_removeLine_58 ?_
      refine lv_iload_n hx hb dX5_removeLine_61 rfl (lv_at hl 2 rfl) ?_
      refine lv_aload_n hx hb dX5_removeLine_62 rfl (lv_at hl 0 rfl) ?_
      refine va_get (D := G.1) (ci := 5) (v := .ref k3) (C := RX5) (T := TX5) (N := 6) hx hb hts owX5 hown hK.1 hP 0 rfl rfl 3 (by decide) (bw1 (w := Cond.fieldLink RX5 21 "DropflagMill$Program" "bs" "[I") hts 32 rfl) (fun _ h9 => h9) rfl dX5_removeLine_63 ?_
      refine lv_iload_n hx hb dX5_removeLine_66 rfl (lv_at hl 2 rfl) ?_
      refine lv_iconst (v := 1) hx hb dX5_removeLine_67 (by decide) ?_
      refine lv_iadd hx hb dX5_removeLine_68 ?_
      rw [show (nI i) + 1 = nI (i + 1) from nI_add i 1]
      refine va_iald hx hb hK.1 hP 3 0 rfl rfl (i := nI (i + 1)) (vp_in_nI (n := (i + 1)) (by omega) (by omega)) dX5_removeLine_69 ?_
      rw [show (nI (i + 1) : Int32).toNatClampNeg = (i + 1) from nI_clamp (n := (i + 1)) (by omega)]
      refine va_iast hx hb hK.1 hP hD hS 3 0 rfl rfl (i := nI i) (vp_in_nI (n := i) (by omega) (by omega)) dX5_removeLine_70 (fun H locs hP hD hS => ?_)
      rw [show (nI i : Int32).toNatClampNeg = i from nI_clamp (n := i) (by omega)] at hP hD
      have hP : va_P G.1 vwCl [(h, .inr (5, [.ref k0, .ref k1, .ref k2, .ref k3, .int (nI pv), .int (nI (pn - 1))])), (k1, .inl (G.2.1, 34, .inl (upd fs i (fs (i + 1))))), (k2, .inl (G.2.1, 34, .inl (upd fa i (fa (i + 1))))), (k3, .inl (G.2.1, 34, .inl (upd fb i (fb (i + 1)))))] H := hP
      have hD : va_D A [(h, .inr (5, [.ref k0, .ref k1, .ref k2, .ref k3, .int (nI pv), .int (nI (pn - 1))])), (k1, .inl (G.2.1, 34, .inl (upd fs i (fs (i + 1))))), (k2, .inl (G.2.1, 34, .inl (upd fa i (fa (i + 1))))), (k3, .inl (G.2.1, 34, .inl (upd fb i (fb (i + 1)))))] := hD
      refine lv_iinc (v := nI (i + 1)) (lv' := [(2, .int (nI (i + 1))), (0, .ref h), (1, .int (nI j))]) hx hb dX5_removeLine_71 hl (k := 2) rfl (nI_1 i) (by decide) rfl (fun ls hl => ?_)
      refine lv_goto (tgt := 21) hx hb dX5_removeLine_74 (by decide) ?_
      exact ih (i + 1) (upd fs i (fs (i + 1))) (upd fa i (fa (i + 1))) (upd fb i (fb (i + 1))) (by omega) (hp) (by omega) (by rw [hE]; simp only [sl_X5_removeLine_L21, if_neg c2]) _ _ hP hD hS ls (lv_sub hl [1, 2, 0] rfl)
def s_X5_removeLine (pn : Nat) (fs : Nat → Int32) (fa : Nat → Int32) (fb : Nat → Int32) (p1 : Int32) : (Nat → Int32) × (Nat → Int32) × (Nat → Int32) × Nat := if (s_X5_isLine pn p1) = 0 then (fs, fa, fb, pn) else (fun j : Nat => sl_X5_removeLine_L21 pn  35 j fs fa fb) p1.toNatClampNeg
set_option maxHeartbeats 4000000 in
set_option maxRecDepth 100000 in
theorem c_X5_removeLine (l : Launch) (G : sxG) (h : Nat) (k0 : Nat) (k1 : Nat) (k2 : Nat) (k3 : Nat) (pv : Nat) (pn : Nat) (fs : Nat → Int32) (fa : Nat → Int32) (fb : Nat → Int32) (p1 : Int32) (hn : pn ≤ 34) : sxV l yX5_removeLine wdX5_removeLine 1 21 G [(h, .inr (5, [.ref k0, .ref k1, .ref k2, .ref k3, .int (nI pv), .int (nI pn)])), (k1, .inl (G.2.1, 34, .inl fs)), (k2, .inl (G.2.1, 34, .inl fa)), (k3, .inl (G.2.1, 34, .inl fb))] [.ref h, .int p1] (fun u : (Nat → Int32) × (Nat → Int32) × (Nat → Int32) × Nat => ([(h, .inr (5, [.ref k0, .ref k1, .ref k2, .ref k3, .int (nI pv), .int (nI u.2.2.2)])), (k1, .inl (G.2.1, 34, .inl u.1)), (k2, .inl (G.2.1, 34, .inl u.2.1)), (k3, .inl (G.2.1, 34, .inl u.2.2.1))] : va_W)) (s_X5_removeLine pn fs fa fb p1) := by
  refine sxV.of (cc := cX5_removeLine) (maxL := 3) (by decide) rfl (Nat.le_of_ble_eq_true rfl) ?_
  intro p e s m args below meth c ⟨hx, hb, hr, hml, hown, hlk, hts, hK⟩ A hA hP hD hS ls hl
  have hl : lv_has ls 3 [(0, .ref h), (1, .int p1)] := hl
  refine lv_aload_n hx hb dX5_removeLine_0 rfl (lv_at hl 0 rfl) ?_
  refine lv_iload_n hx hb dX5_removeLine_1 rfl (lv_at hl 1 rfl) ?_
  refine sx_v (As := [.int p1]) (rest := []) hx hb hml hown hts (c_X5_isLine l G h k0 k1 k2 k3 pv pn p1 ) 1 (sxGV (bi1 (w := Cond.methodLink RX5 49 yX5_isLine) 27 rfl) (bi1 (w := Cond.instanceMethod yX5_isLine) 28 rfl) (bi1 (w := Cond.selects RX5 yX5_isLine yX5_isLine) 29 rfl) (bi1 (w := Cond.initialized RX5) 30 rfl) (bi1 (w := Cond.code yX5_isLine cX5_isLine 2 (some .boolean)) 23 rfl)) rfl (by decide +kernel) ⟨Nat.le_of_ble_eq_true rfl, Nat.le_of_ble_eq_true rfl⟩ hK hP [0] rfl 0 rfl rfl rfl hl rfl (Nat.le_of_ble_eq_true rfl) ⟨Nat.zero_le _, Nat.zero_le _⟩ dX5_removeLine_2 (fun r er => ?_)
  subst er
  refine lv_if_ne (tgt := 9) hx hb dX5_removeLine_5 (by decide) (fun c1 => ?_) (fun c1 => ?_)
  · have gc1 := sx_linePos (by omega) c1
    obtain ⟨j, hj, rfl⟩ : ∃ j : Nat, j < 2 ^ 31 ∧ p1 = nI j := nI_of (sx_isLine c1).1
    refine lv_aload_n hx hb dX5_removeLine_9 rfl (lv_at hl 0 rfl) ?_
    refine lv_dup hx hb dX5_removeLine_10 rfl ?_
    refine va_get (D := G.1) (ci := 5) (v := .int (nI pn)) (C := RX5) (T := TX5) (N := 6) hx hb hts owX5 hown hK.1 hP 0 rfl rfl 5 (by decide) (bw1 (w := Cond.fieldLink RX5 28 "DropflagMill$Program" "lines" "I") hts 24 rfl) (fun _ h9 => h9) rfl dX5_removeLine_11 ?_
    refine lv_iconst (v := 1) hx hb dX5_removeLine_14 (by decide) ?_
    refine lv_isub hx hb dX5_removeLine_15 ?_
    rw [show (nI pn) - 1 = nI (pn - 1) from pk_sub (b := 1) (by omega)]
    refine va_put (D := G.1) (ci := 5) (v := .int (nI (pn - 1))) (ty := .int) (C := RX5) (T := TX5) (N := 6) hx hb hts owX5 tyX5 tyX5_ok nmX5 hown hK.1 hP hD hS 0 rfl rfl 5 (by decide) (bw1 (w := Cond.fieldLink RX5 28 "DropflagMill$Program" "lines" "I") hts 24 rfl) (fun _ h9 => h9) rfl (by decide +kernel) rfl rfl (Nat.le_of_ble_eq_true rfl) dX5_removeLine_16 (fun H locs hP hD hS => ?_)
    have hP : va_P G.1 vwCl [(h, .inr (5, [.ref k0, .ref k1, .ref k2, .ref k3, .int (nI pv), .int (nI (pn - 1))])), (k1, .inl (G.2.1, 34, .inl fs)), (k2, .inl (G.2.1, 34, .inl fa)), (k3, .inl (G.2.1, 34, .inl fb))] H := hP
    have hD : va_D A [(h, .inr (5, [.ref k0, .ref k1, .ref k2, .ref k3, .int (nI pv), .int (nI (pn - 1))])), (k1, .inl (G.2.1, 34, .inl fs)), (k2, .inl (G.2.1, 34, .inl fa)), (k3, .inl (G.2.1, 34, .inl fb))] := hD
    refine lv_iload_n hx hb dX5_removeLine_19 rfl (lv_at hl 1 rfl) ?_
    refine lv_istore_n (lv' := [(2, .int (nI j)), (0, .ref h), (1, .int (nI j))]) hx hb dX5_removeLine_20 rfl hl (by decide) rfl (fun ls hl => ?_)
    have hB0 : sxBv G yX5_removeLine wdX5_removeLine cX5_removeLine 3  p s m args meth c := ⟨hx, hb, hr, hml, hown, hlk, hts, hK⟩
    exact l_X5_removeLine_L21 l G h k0 k1 k2 k3 pv pn j hn hj   hB0 A hA _  35 j fs fa fb (by have := sx_lineNat hj (by omega) c1; omega) (by omega) (by omega) (by simp only [s_X5_removeLine, nI_clamp hj, if_neg c1]) _ _ hP hD hS ls (lv_sub hl [1, 2, 0] rfl)
  · exact sx_retV (u := (fs, fa, fb, pn)) hx hb hr hlk hK hP hD hS (by simp only [s_X5_removeLine, if_pos c1]) dX5_removeLine_8

abbrev wdX5_copyOf : List Cond := Cond.code yX5_copyOf cX5_copyOf 2 none :: bwC
def s_X5_copyOf (fk : Nat → Int32) (fs : Nat → Int32) (fa : Nat → Int32) (fb : Nat → Int32) (qv : Nat) (qn : Nat) (gk : Nat → Int32) (gs : Nat → Int32) (ga : Nat → Int32) (gb : Nat → Int32) : (Nat → Int32) × (Nat → Int32) × (Nat → Int32) × (Nat → Int32) × Nat × Nat := (va_cpy gk fk 0 0 8, va_cpy gs fs 0 0 34, va_cpy ga fa 0 0 34, va_cpy gb fb 0 0 34, qv, qn)
set_option maxHeartbeats 4000000 in
set_option maxRecDepth 100000 in
theorem c_X5_copyOf (l : Launch) (G : sxG) (h : Nat) (k0 : Nat) (k1 : Nat) (k2 : Nat) (k3 : Nat) (pv : Nat) (pn : Nat) (fk : Nat → Int32) (fs : Nat → Int32) (fa : Nat → Int32) (fb : Nat → Int32) (g : Nat) (e0 : Nat) (e1 : Nat) (e2 : Nat) (e3 : Nat) (qv : Nat) (qn : Nat) (gk : Nat → Int32) (gs : Nat → Int32) (ga : Nat → Int32) (gb : Nat → Int32)  : sxV l yX5_copyOf wdX5_copyOf 1 40 G [(h, .inr (5, [.ref k0, .ref k1, .ref k2, .ref k3, .int (nI pv), .int (nI pn)])), (k0, .inl (G.2.1, 8, .inl fk)), (k1, .inl (G.2.1, 34, .inl fs)), (k2, .inl (G.2.1, 34, .inl fa)), (k3, .inl (G.2.1, 34, .inl fb)), (g, .inr (5, [.ref e0, .ref e1, .ref e2, .ref e3, .int (nI qv), .int (nI qn)])), (e0, .inl (G.2.1, 8, .inl gk)), (e1, .inl (G.2.1, 34, .inl gs)), (e2, .inl (G.2.1, 34, .inl ga)), (e3, .inl (G.2.1, 34, .inl gb))] [.ref h, .ref g] (fun u : (Nat → Int32) × (Nat → Int32) × (Nat → Int32) × (Nat → Int32) × Nat × Nat => ([(h, .inr (5, [.ref k0, .ref k1, .ref k2, .ref k3, .int (nI u.2.2.2.2.1), .int (nI u.2.2.2.2.2)])), (k0, .inl (G.2.1, 8, .inl u.1)), (k1, .inl (G.2.1, 34, .inl u.2.1)), (k2, .inl (G.2.1, 34, .inl u.2.2.1)), (k3, .inl (G.2.1, 34, .inl u.2.2.2.1)), (g, .inr (5, [.ref e0, .ref e1, .ref e2, .ref e3, .int (nI qv), .int (nI qn)])), (e0, .inl (G.2.1, 8, .inl gk)), (e1, .inl (G.2.1, 34, .inl gs)), (e2, .inl (G.2.1, 34, .inl ga)), (e3, .inl (G.2.1, 34, .inl gb))] : va_W)) (s_X5_copyOf fk fs fa fb qv qn gk gs ga gb) := by
  refine sxV.of (cc := cX5_copyOf) (maxL := 2) (by decide) rfl (Nat.le_of_ble_eq_true rfl) ?_
  intro p e s m args below meth c ⟨hx, hb, hr, hml, hown, hlk, hts, hK⟩ A hA hP hD hS ls hl
  have hl : lv_has ls 2 [(0, .ref h), (1, .ref g)] := hl
  refine lv_aload_n hx hb dX5_copyOf_0 rfl (lv_at hl 1 rfl) ?_
  refine va_get (D := G.1) (ci := 5) (v := .ref e0) (C := RX5) (T := TX5) (N := 6) hx hb hts owX5 hown hK.1 hP 5 rfl rfl 0 (by decide) (bw1 (w := Cond.fieldLink RX5 9 "DropflagMill$Program" "kinds" "[I") hts 48 rfl) (fun _ h9 => h9) rfl dX5_copyOf_1 ?_
  refine lv_iconst (v := 0) hx hb dX5_copyOf_4 (by decide) ?_
  refine lv_aload_n hx hb dX5_copyOf_5 rfl (lv_at hl 0 rfl) ?_
  refine va_get (D := G.1) (ci := 5) (v := .ref k0) (C := RX5) (T := TX5) (N := 6) hx hb hts owX5 hown hK.1 hP 0 rfl rfl 0 (by decide) (bw1 (w := Cond.fieldLink RX5 9 "DropflagMill$Program" "kinds" "[I") hts 48 rfl) (fun _ h9 => h9) rfl dX5_copyOf_6 ?_
  refine lv_iconst (v := 0) hx hb dX5_copyOf_9 (by decide) ?_
  refine lv_bipush (v := 8) hx hb dX5_copyOf_10 (by decide) ?_
  refine va_copyi hx hb (hml.trans hl.1.symm) hown (bw6 (w := Cond.methodLink RX5 31 arraycopyName) hts 2 rfl) (bw6 (w := Cond.native arraycopyName) hts 3 rfl) (bw6 (w := Cond.static arraycopyName) hts 4 rfl) (bw6 (w := Cond.initialized "java/lang/System") hts 5 rfl) hK.1 hP hD hS 6 1 0 0 rfl rfl rfl rfl rfl (by decide) (by decide) (by decide) (by decide) (by decide) (fun _ _ => rfl) (Nat.le_of_ble_eq_true rfl) (Nat.le_of_ble_eq_true rfl) dX5_copyOf_12 (fun H locs hP hD hS => ?_)
  have hP : va_P G.1 vwCl [(h, .inr (5, [.ref k0, .ref k1, .ref k2, .ref k3, .int (nI pv), .int (nI pn)])), (k0, .inl (G.2.1, 8, .inl (va_cpy gk fk 0 0 8))), (k1, .inl (G.2.1, 34, .inl fs)), (k2, .inl (G.2.1, 34, .inl fa)), (k3, .inl (G.2.1, 34, .inl fb)), (g, .inr (5, [.ref e0, .ref e1, .ref e2, .ref e3, .int (nI qv), .int (nI qn)])), (e0, .inl (G.2.1, 8, .inl gk)), (e1, .inl (G.2.1, 34, .inl gs)), (e2, .inl (G.2.1, 34, .inl ga)), (e3, .inl (G.2.1, 34, .inl gb))] H := hP
  have hD : va_D A [(h, .inr (5, [.ref k0, .ref k1, .ref k2, .ref k3, .int (nI pv), .int (nI pn)])), (k0, .inl (G.2.1, 8, .inl (va_cpy gk fk 0 0 8))), (k1, .inl (G.2.1, 34, .inl fs)), (k2, .inl (G.2.1, 34, .inl fa)), (k3, .inl (G.2.1, 34, .inl fb)), (g, .inr (5, [.ref e0, .ref e1, .ref e2, .ref e3, .int (nI qv), .int (nI qn)])), (e0, .inl (G.2.1, 8, .inl gk)), (e1, .inl (G.2.1, 34, .inl gs)), (e2, .inl (G.2.1, 34, .inl ga)), (e3, .inl (G.2.1, 34, .inl gb))] := hD
  refine lv_aload_n hx hb dX5_copyOf_15 rfl (lv_at hl 1 rfl) ?_
  refine va_get (D := G.1) (ci := 5) (v := .ref e1) (C := RX5) (T := TX5) (N := 6) hx hb hts owX5 hown hK.1 hP 5 rfl rfl 1 (by decide) (bw1 (w := Cond.fieldLink RX5 15 "DropflagMill$Program" "sorts" "[I") hts 26 rfl) (fun _ h9 => h9) rfl dX5_copyOf_16 ?_
  refine lv_iconst (v := 0) hx hb dX5_copyOf_19 (by decide) ?_
  refine lv_aload_n hx hb dX5_copyOf_20 rfl (lv_at hl 0 rfl) ?_
  refine va_get (D := G.1) (ci := 5) (v := .ref k1) (C := RX5) (T := TX5) (N := 6) hx hb hts owX5 hown hK.1 hP 0 rfl rfl 1 (by decide) (bw1 (w := Cond.fieldLink RX5 15 "DropflagMill$Program" "sorts" "[I") hts 26 rfl) (fun _ h9 => h9) rfl dX5_copyOf_21 ?_
  refine lv_iconst (v := 0) hx hb dX5_copyOf_24 (by decide) ?_
  refine lv_bipush (v := 34) hx hb dX5_copyOf_25 (by decide) ?_
  refine va_copyi hx hb (hml.trans hl.1.symm) hown (bw6 (w := Cond.methodLink RX5 31 arraycopyName) hts 2 rfl) (bw6 (w := Cond.native arraycopyName) hts 3 rfl) (bw6 (w := Cond.static arraycopyName) hts 4 rfl) (bw6 (w := Cond.initialized "java/lang/System") hts 5 rfl) hK.1 hP hD hS 7 2 0 0 rfl rfl rfl rfl rfl (by decide) (by decide) (by decide) (by decide) (by decide) (fun _ _ => rfl) (Nat.le_of_ble_eq_true rfl) (Nat.le_of_ble_eq_true rfl) dX5_copyOf_27 (fun H locs hP hD hS => ?_)
  have hP : va_P G.1 vwCl [(h, .inr (5, [.ref k0, .ref k1, .ref k2, .ref k3, .int (nI pv), .int (nI pn)])), (k0, .inl (G.2.1, 8, .inl (va_cpy gk fk 0 0 8))), (k1, .inl (G.2.1, 34, .inl (va_cpy gs fs 0 0 34))), (k2, .inl (G.2.1, 34, .inl fa)), (k3, .inl (G.2.1, 34, .inl fb)), (g, .inr (5, [.ref e0, .ref e1, .ref e2, .ref e3, .int (nI qv), .int (nI qn)])), (e0, .inl (G.2.1, 8, .inl gk)), (e1, .inl (G.2.1, 34, .inl gs)), (e2, .inl (G.2.1, 34, .inl ga)), (e3, .inl (G.2.1, 34, .inl gb))] H := hP
  have hD : va_D A [(h, .inr (5, [.ref k0, .ref k1, .ref k2, .ref k3, .int (nI pv), .int (nI pn)])), (k0, .inl (G.2.1, 8, .inl (va_cpy gk fk 0 0 8))), (k1, .inl (G.2.1, 34, .inl (va_cpy gs fs 0 0 34))), (k2, .inl (G.2.1, 34, .inl fa)), (k3, .inl (G.2.1, 34, .inl fb)), (g, .inr (5, [.ref e0, .ref e1, .ref e2, .ref e3, .int (nI qv), .int (nI qn)])), (e0, .inl (G.2.1, 8, .inl gk)), (e1, .inl (G.2.1, 34, .inl gs)), (e2, .inl (G.2.1, 34, .inl ga)), (e3, .inl (G.2.1, 34, .inl gb))] := hD
  refine lv_aload_n hx hb dX5_copyOf_30 rfl (lv_at hl 1 rfl) ?_
  refine va_get (D := G.1) (ci := 5) (v := .ref e2) (C := RX5) (T := TX5) (N := 6) hx hb hts owX5 hown hK.1 hP 5 rfl rfl 2 (by decide) (bw1 (w := Cond.fieldLink RX5 18 "DropflagMill$Program" "as" "[I") hts 34 rfl) (fun _ h9 => h9) rfl dX5_copyOf_31 ?_
  refine lv_iconst (v := 0) hx hb dX5_copyOf_34 (by decide) ?_
  refine lv_aload_n hx hb dX5_copyOf_35 rfl (lv_at hl 0 rfl) ?_
  refine va_get (D := G.1) (ci := 5) (v := .ref k2) (C := RX5) (T := TX5) (N := 6) hx hb hts owX5 hown hK.1 hP 0 rfl rfl 2 (by decide) (bw1 (w := Cond.fieldLink RX5 18 "DropflagMill$Program" "as" "[I") hts 34 rfl) (fun _ h9 => h9) rfl dX5_copyOf_36 ?_
  refine lv_iconst (v := 0) hx hb dX5_copyOf_39 (by decide) ?_
  refine lv_bipush (v := 34) hx hb dX5_copyOf_40 (by decide) ?_
  refine va_copyi hx hb (hml.trans hl.1.symm) hown (bw6 (w := Cond.methodLink RX5 31 arraycopyName) hts 2 rfl) (bw6 (w := Cond.native arraycopyName) hts 3 rfl) (bw6 (w := Cond.static arraycopyName) hts 4 rfl) (bw6 (w := Cond.initialized "java/lang/System") hts 5 rfl) hK.1 hP hD hS 8 3 0 0 rfl rfl rfl rfl rfl (by decide) (by decide) (by decide) (by decide) (by decide) (fun _ _ => rfl) (Nat.le_of_ble_eq_true rfl) (Nat.le_of_ble_eq_true rfl) dX5_copyOf_42 (fun H locs hP hD hS => ?_)
  have hP : va_P G.1 vwCl [(h, .inr (5, [.ref k0, .ref k1, .ref k2, .ref k3, .int (nI pv), .int (nI pn)])), (k0, .inl (G.2.1, 8, .inl (va_cpy gk fk 0 0 8))), (k1, .inl (G.2.1, 34, .inl (va_cpy gs fs 0 0 34))), (k2, .inl (G.2.1, 34, .inl (va_cpy ga fa 0 0 34))), (k3, .inl (G.2.1, 34, .inl fb)), (g, .inr (5, [.ref e0, .ref e1, .ref e2, .ref e3, .int (nI qv), .int (nI qn)])), (e0, .inl (G.2.1, 8, .inl gk)), (e1, .inl (G.2.1, 34, .inl gs)), (e2, .inl (G.2.1, 34, .inl ga)), (e3, .inl (G.2.1, 34, .inl gb))] H := hP
  have hD : va_D A [(h, .inr (5, [.ref k0, .ref k1, .ref k2, .ref k3, .int (nI pv), .int (nI pn)])), (k0, .inl (G.2.1, 8, .inl (va_cpy gk fk 0 0 8))), (k1, .inl (G.2.1, 34, .inl (va_cpy gs fs 0 0 34))), (k2, .inl (G.2.1, 34, .inl (va_cpy ga fa 0 0 34))), (k3, .inl (G.2.1, 34, .inl fb)), (g, .inr (5, [.ref e0, .ref e1, .ref e2, .ref e3, .int (nI qv), .int (nI qn)])), (e0, .inl (G.2.1, 8, .inl gk)), (e1, .inl (G.2.1, 34, .inl gs)), (e2, .inl (G.2.1, 34, .inl ga)), (e3, .inl (G.2.1, 34, .inl gb))] := hD
  refine lv_aload_n hx hb dX5_copyOf_45 rfl (lv_at hl 1 rfl) ?_
  refine va_get (D := G.1) (ci := 5) (v := .ref e3) (C := RX5) (T := TX5) (N := 6) hx hb hts owX5 hown hK.1 hP 5 rfl rfl 3 (by decide) (bw1 (w := Cond.fieldLink RX5 21 "DropflagMill$Program" "bs" "[I") hts 32 rfl) (fun _ h9 => h9) rfl dX5_copyOf_46 ?_
  refine lv_iconst (v := 0) hx hb dX5_copyOf_49 (by decide) ?_
  refine lv_aload_n hx hb dX5_copyOf_50 rfl (lv_at hl 0 rfl) ?_
  refine va_get (D := G.1) (ci := 5) (v := .ref k3) (C := RX5) (T := TX5) (N := 6) hx hb hts owX5 hown hK.1 hP 0 rfl rfl 3 (by decide) (bw1 (w := Cond.fieldLink RX5 21 "DropflagMill$Program" "bs" "[I") hts 32 rfl) (fun _ h9 => h9) rfl dX5_copyOf_51 ?_
  refine lv_iconst (v := 0) hx hb dX5_copyOf_54 (by decide) ?_
  refine lv_bipush (v := 34) hx hb dX5_copyOf_55 (by decide) ?_
  refine va_copyi hx hb (hml.trans hl.1.symm) hown (bw6 (w := Cond.methodLink RX5 31 arraycopyName) hts 2 rfl) (bw6 (w := Cond.native arraycopyName) hts 3 rfl) (bw6 (w := Cond.static arraycopyName) hts 4 rfl) (bw6 (w := Cond.initialized "java/lang/System") hts 5 rfl) hK.1 hP hD hS 9 4 0 0 rfl rfl rfl rfl rfl (by decide) (by decide) (by decide) (by decide) (by decide) (fun _ _ => rfl) (Nat.le_of_ble_eq_true rfl) (Nat.le_of_ble_eq_true rfl) dX5_copyOf_57 (fun H locs hP hD hS => ?_)
  have hP : va_P G.1 vwCl [(h, .inr (5, [.ref k0, .ref k1, .ref k2, .ref k3, .int (nI pv), .int (nI pn)])), (k0, .inl (G.2.1, 8, .inl (va_cpy gk fk 0 0 8))), (k1, .inl (G.2.1, 34, .inl (va_cpy gs fs 0 0 34))), (k2, .inl (G.2.1, 34, .inl (va_cpy ga fa 0 0 34))), (k3, .inl (G.2.1, 34, .inl (va_cpy gb fb 0 0 34))), (g, .inr (5, [.ref e0, .ref e1, .ref e2, .ref e3, .int (nI qv), .int (nI qn)])), (e0, .inl (G.2.1, 8, .inl gk)), (e1, .inl (G.2.1, 34, .inl gs)), (e2, .inl (G.2.1, 34, .inl ga)), (e3, .inl (G.2.1, 34, .inl gb))] H := hP
  have hD : va_D A [(h, .inr (5, [.ref k0, .ref k1, .ref k2, .ref k3, .int (nI pv), .int (nI pn)])), (k0, .inl (G.2.1, 8, .inl (va_cpy gk fk 0 0 8))), (k1, .inl (G.2.1, 34, .inl (va_cpy gs fs 0 0 34))), (k2, .inl (G.2.1, 34, .inl (va_cpy ga fa 0 0 34))), (k3, .inl (G.2.1, 34, .inl (va_cpy gb fb 0 0 34))), (g, .inr (5, [.ref e0, .ref e1, .ref e2, .ref e3, .int (nI qv), .int (nI qn)])), (e0, .inl (G.2.1, 8, .inl gk)), (e1, .inl (G.2.1, 34, .inl gs)), (e2, .inl (G.2.1, 34, .inl ga)), (e3, .inl (G.2.1, 34, .inl gb))] := hD
  refine lv_aload_n hx hb dX5_copyOf_60 rfl (lv_at hl 0 rfl) ?_
  refine lv_aload_n hx hb dX5_copyOf_61 rfl (lv_at hl 1 rfl) ?_
  refine va_get (D := G.1) (ci := 5) (v := .int (nI qv)) (C := RX5) (T := TX5) (N := 6) hx hb hts owX5 hown hK.1 hP 5 rfl rfl 4 (by decide) (bw1 (w := Cond.fieldLink RX5 24 "DropflagMill$Program" "variables" "I") hts 47 rfl) (fun _ h9 => h9) rfl dX5_copyOf_62 ?_
  refine va_put (D := G.1) (ci := 5) (v := .int (nI qv)) (ty := .int) (C := RX5) (T := TX5) (N := 6) hx hb hts owX5 tyX5 tyX5_ok nmX5 hown hK.1 hP hD hS 0 rfl rfl 4 (by decide) (bw1 (w := Cond.fieldLink RX5 24 "DropflagMill$Program" "variables" "I") hts 47 rfl) (fun _ h9 => h9) rfl (by decide +kernel) rfl rfl (Nat.le_of_ble_eq_true rfl) dX5_copyOf_65 (fun H locs hP hD hS => ?_)
  have hP : va_P G.1 vwCl [(h, .inr (5, [.ref k0, .ref k1, .ref k2, .ref k3, .int (nI qv), .int (nI pn)])), (k0, .inl (G.2.1, 8, .inl (va_cpy gk fk 0 0 8))), (k1, .inl (G.2.1, 34, .inl (va_cpy gs fs 0 0 34))), (k2, .inl (G.2.1, 34, .inl (va_cpy ga fa 0 0 34))), (k3, .inl (G.2.1, 34, .inl (va_cpy gb fb 0 0 34))), (g, .inr (5, [.ref e0, .ref e1, .ref e2, .ref e3, .int (nI qv), .int (nI qn)])), (e0, .inl (G.2.1, 8, .inl gk)), (e1, .inl (G.2.1, 34, .inl gs)), (e2, .inl (G.2.1, 34, .inl ga)), (e3, .inl (G.2.1, 34, .inl gb))] H := hP
  have hD : va_D A [(h, .inr (5, [.ref k0, .ref k1, .ref k2, .ref k3, .int (nI qv), .int (nI pn)])), (k0, .inl (G.2.1, 8, .inl (va_cpy gk fk 0 0 8))), (k1, .inl (G.2.1, 34, .inl (va_cpy gs fs 0 0 34))), (k2, .inl (G.2.1, 34, .inl (va_cpy ga fa 0 0 34))), (k3, .inl (G.2.1, 34, .inl (va_cpy gb fb 0 0 34))), (g, .inr (5, [.ref e0, .ref e1, .ref e2, .ref e3, .int (nI qv), .int (nI qn)])), (e0, .inl (G.2.1, 8, .inl gk)), (e1, .inl (G.2.1, 34, .inl gs)), (e2, .inl (G.2.1, 34, .inl ga)), (e3, .inl (G.2.1, 34, .inl gb))] := hD
  refine lv_aload_n hx hb dX5_copyOf_68 rfl (lv_at hl 0 rfl) ?_
  refine lv_aload_n hx hb dX5_copyOf_69 rfl (lv_at hl 1 rfl) ?_
  refine va_get (D := G.1) (ci := 5) (v := .int (nI qn)) (C := RX5) (T := TX5) (N := 6) hx hb hts owX5 hown hK.1 hP 5 rfl rfl 5 (by decide) (bw1 (w := Cond.fieldLink RX5 28 "DropflagMill$Program" "lines" "I") hts 24 rfl) (fun _ h9 => h9) rfl dX5_copyOf_70 ?_
  refine va_put (D := G.1) (ci := 5) (v := .int (nI qn)) (ty := .int) (C := RX5) (T := TX5) (N := 6) hx hb hts owX5 tyX5 tyX5_ok nmX5 hown hK.1 hP hD hS 0 rfl rfl 5 (by decide) (bw1 (w := Cond.fieldLink RX5 28 "DropflagMill$Program" "lines" "I") hts 24 rfl) (fun _ h9 => h9) rfl (by decide +kernel) rfl rfl (Nat.le_of_ble_eq_true rfl) dX5_copyOf_73 (fun H locs hP hD hS => ?_)
  have hP : va_P G.1 vwCl [(h, .inr (5, [.ref k0, .ref k1, .ref k2, .ref k3, .int (nI qv), .int (nI qn)])), (k0, .inl (G.2.1, 8, .inl (va_cpy gk fk 0 0 8))), (k1, .inl (G.2.1, 34, .inl (va_cpy gs fs 0 0 34))), (k2, .inl (G.2.1, 34, .inl (va_cpy ga fa 0 0 34))), (k3, .inl (G.2.1, 34, .inl (va_cpy gb fb 0 0 34))), (g, .inr (5, [.ref e0, .ref e1, .ref e2, .ref e3, .int (nI qv), .int (nI qn)])), (e0, .inl (G.2.1, 8, .inl gk)), (e1, .inl (G.2.1, 34, .inl gs)), (e2, .inl (G.2.1, 34, .inl ga)), (e3, .inl (G.2.1, 34, .inl gb))] H := hP
  have hD : va_D A [(h, .inr (5, [.ref k0, .ref k1, .ref k2, .ref k3, .int (nI qv), .int (nI qn)])), (k0, .inl (G.2.1, 8, .inl (va_cpy gk fk 0 0 8))), (k1, .inl (G.2.1, 34, .inl (va_cpy gs fs 0 0 34))), (k2, .inl (G.2.1, 34, .inl (va_cpy ga fa 0 0 34))), (k3, .inl (G.2.1, 34, .inl (va_cpy gb fb 0 0 34))), (g, .inr (5, [.ref e0, .ref e1, .ref e2, .ref e3, .int (nI qv), .int (nI qn)])), (e0, .inl (G.2.1, 8, .inl gk)), (e1, .inl (G.2.1, 34, .inl gs)), (e2, .inl (G.2.1, 34, .inl ga)), (e3, .inl (G.2.1, 34, .inl gb))] := hD
  exact sx_retV (u := (va_cpy gk fk 0 0 8, va_cpy gs fs 0 0 34, va_cpy ga fa 0 0 34, va_cpy gb fb 0 0 34, qv, qn)) hx hb hr hlk hK hP hD hS (by simp only [s_X5_copyOf]) dX5_copyOf_76
