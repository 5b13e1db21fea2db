abbrev wdX9_withLine : List Cond := Cond.code yX9_withLine cX9_withLine 7 (some .long) :: bwC
set_option maxHeartbeats 4000000 in
set_option maxRecDepth 100000 in
theorem t_X9_withLine (l : Launch) (G : sxG) (k : lxC) (q : Nat → Nat) (n : Nat) (fk fs fa fb : Nat → Int32) (T T2 : qk_T) (Y Y2 : qr_Y) (rn : Int32) (P2 : mlP) (i : Nat) (d0 : Int64) (hKK : qp_K 8 fk) (hP4 : lgP 8 fk n fs fa fb) (hL : qk_L 8 n fk fs fa fb T) (hY : ylk Y) (hY2 : ylk Y2) (hZ : zbP (fk, fs, fa, fb, 8, n)) (hZ2 : zbP P2) (hi : i < n) : lyM l yX9_withLine wdX9_withLine 6 143 0 0 G k [mlW G q ((fk, fs, fa, fb, 8, n), T, Y, rn, P2, T2, Y2)] [.ref (q 0), .long d0, .int (nI i)] (fun B v => ∃ (P2x : mlP) (T2x : qk_T) (Y2x : qr_Y), B = [mlW G q ((fk, fs, fa, fb, 8, n), T, Y, rn, P2x, T2x, Y2x)] ∧ v = some (.long (dgL T n fk fs fa fb i d0)) ∧ mlI 8 fk n fs fa fb ((fk, fs, fa, fb, 8, n), T, Y, rn, P2x, T2x, Y2x)) := by
  refine lyM.of (cc := cX9_withLine) (maxL := 7) (rt := (some .long)) (by decide) rfl (Nat.le_of_ble_eq_true rfl) ?_
  intro p e s m args below meth c ⟨hx, hb, hr, hml, hown, hlk, hts, hK⟩ hnm A hA hP hD hS hE ls hl
  have hl : lv_has ls 7 [(0, .ref (q 0)), (1, .long d0), (3, .int (nI i))] := hl
  have hn := hP4.2.1
  have hlc := qv_lc hL hP4.2.2.2
  refine lv_lload_n hx hb dX9_withLine_0 rfl (lv_at hl 1 rfl) ?_
  refine lv_lstore (lv' := [(4, .long d0), (0, .ref (q 0)), (1, .long d0), (3, .int (nI i))]) hx hb dX9_withLine_1 hl (by decide) rfl (fun ls hl => ?_)
  refine lv_iconst (v := 3) hx hb dX9_withLine_3 (by decide) ?_
  refine lv_istore (lv' := [(6, .int 3), (4, .long d0), (0, .ref (q 0)), (1, .long d0), (3, .int (nI i))]) hx hb dX9_withLine_4 hl (by decide) rfl (fun ls hl => ?_)
  have LP6_1 : ∀ (kk1 : Nat) (w : Nat) (d : Int64), 3 - w < kk1 → (w ≤ 3) → (d = dgI (dgW T n fs fa fb i) d0 w) → ∀ cells slots : Nat, cells ≤ 0 → slots ≤ 0 → ∀ (H : Heap) (locs : List Loc), va_P G.1 vwCl (lxF [mlW G q ((fk, fs, fa, fb, 8, n), T, Y, rn, P2, T2, Y2)]) H → va_D A (lxF [mlW G q ((fk, fs, fa, fb, 8, n), T, Y, rn, P2, T2, Y2)]) → va_S A s.heap H locs → ∀ ls : Array Slot, lv_has ls 7 [(0, .ref (q 0)), (3, .int (nI i)), (4, .long d), (6, .int (nI (w + 3)))] → W p l e ({ frames := 6, cells := 0, slots := 0, locals := 143 } : Room) s m args below meth c H locs cells slots (lyZ 0 0 G args s below A (fun B v => ∃ (P2x : mlP) (T2x : qk_T) (Y2x : qr_Y), B = [mlW G q ((fk, fs, fa, fb, 8, n), T, Y, rn, P2x, T2x, Y2x)] ∧ v = some (.long (dgL T n fk fs fa fb i d0)) ∧ mlI 8 fk n fs fa fb ((fk, fs, fa, fb, 8, n), T, Y, rn, P2x, T2x, Y2x))) (F0 m 6 ls []) := by
    intro kk1
    induction kk1 with
    | zero =>
      intro w d hm
      exact absurd hm (Nat.not_lt_zero _)
    | succ kk1 ih1 =>
      intro w d hm1 hw hd cells slots hcc1 hss1 H locs hP hD hS ls hl
      refine lv_iload hx hb dX9_withLine_6 (lv_at hl 3 rfl) ?_
      refine lv_iconst (v := 5) hx hb dX9_withLine_8 (by decide) ?_
      refine lv_icmp_gt (tgt := 35) hx hb dX9_withLine_9 (by decide) (fun c2 => ?_) (fun c2 => ?_)
      · have nc2 := (nI_ltI (a := 5) (b := (w + 3)) (by omega) (by omega)).mp c2
        refine lv_iconst (v := 0) hx hb dX9_withLine_35 (by decide) ?_
        refine lv_istore (lv' := [(6, .int 0), (0, .ref (q 0)), (3, .int (nI i)), (4, .long d)]) hx hb dX9_withLine_36 hl (by decide) rfl (fun ls hl => ?_)
        have LP38_3 : ∀ (kk3 : Nat) (v : Nat) (d : Int64), 8 - v < kk3 → (v ≤ 8) → (d = dgI (dgV T n fk i) (dgI (dgW T n fs fa fb i) d0 3) v) → ∀ cells slots : Nat, cells ≤ 0 → slots ≤ 0 → ∀ (H : Heap) (locs : List Loc), va_P G.1 vwCl (lxF [mlW G q ((fk, fs, fa, fb, 8, n), T, Y, rn, P2, T2, Y2)]) H → va_D A (lxF [mlW G q ((fk, fs, fa, fb, 8, n), T, Y, rn, P2, T2, Y2)]) → va_S A s.heap H locs → ∀ ls : Array Slot, lv_has ls 7 [(0, .ref (q 0)), (3, .int (nI i)), (4, .long d), (6, .int (nI v))] → W p l e ({ frames := 6, cells := 0, slots := 0, locals := 143 } : Room) s m args below meth c H locs cells slots (lyZ 0 0 G args s below A (fun B v => ∃ (P2x : mlP) (T2x : qk_T) (Y2x : qr_Y), B = [mlW G q ((fk, fs, fa, fb, 8, n), T, Y, rn, P2x, T2x, Y2x)] ∧ v = some (.long (dgL T n fk fs fa fb i d0)) ∧ mlI 8 fk n fs fa fb ((fk, fs, fa, fb, 8, n), T, Y, rn, P2x, T2x, Y2x))) (F0 m 38 ls []) := by
          intro kk3
          induction kk3 with
          | zero =>
            intro v d hm
            exact absurd hm (Nat.not_lt_zero _)
          | succ kk3 ih3 =>
            intro v d hm3 hv hd cells slots hcc3 hss3 H locs hP hD hS ls hl
            refine lv_iload hx hb dX9_withLine_38 (lv_at hl 3 rfl) ?_
            refine lv_aload_n hx hb dX9_withLine_40 rfl (lv_at hl 0 rfl) ?_
            refine lb_get (ci := 9) (v := .ref (q 1)) (C := RX9) (T := TX9) (N := 7) hx hb hts owX9 hown hK hP 0 0 rfl rfl rfl 0 (by decide) (bw9 (w := Cond.fieldLink RX9 12 "DropflagMill" "program" "LDropflagMill$Program;") hts 44 rfl) (fun _ h9 => h9) rfl dX9_withLine_41 ?_
            refine lb_get (ci := 5) (v := .int 8) (C := RX5) (T := TX5) (N := 6) hx hb hts owX5 hown hK hP 0 1 rfl rfl rfl 4 (by decide) (bw10 (w := Cond.fieldLink RX9 61 "DropflagMill$Program" "variables" "I") hts 10 rfl) (fun _ h9 => h9) rfl dX9_withLine_44 ?_
            refine lv_icmp_ge (tgt := 148) hx hb dX9_withLine_47 (by decide) (fun c4 => ?_) (fun c4 => ?_)
            · have nc4 := (nI_leI (a := 8) (b := v) (by omega) (by omega)).mp c4
              refine lv_lload hx hb dX9_withLine_148 (lv_at hl 2 rfl) ?_
              refine lv_ldc2 (v := 31) hx hb hown (bw12 (w := Cond.constantLong RX9 315 (31)) hts 13 rfl) dX9_withLine_150 ?_
              refine lv_lmul hx hb dX9_withLine_153 ?_
              refine lv_aload_n hx hb dX9_withLine_154 rfl (lv_at hl 0 rfl) ?_
              refine lv_iload_n hx hb dX9_withLine_155 rfl (lv_at hl 1 rfl) ?_
              refine ly_v (As := [.int (nI i)]) (rest := [.long (d * 31)]) hx hb hml hown hts (d_without (l := l) (G := G) (k := k) (q := q) (n := n) (fk := fk) (fs := fs) (fa := fa) (fb := fb) (T := T) (T2 := T2) (Y := Y) (Y2 := Y2) (r := rn) (P2 := P2) (i := i) ⟨rfl, hL, hY, hY2, hZ, hZ2⟩ hP4 hi) 1 (sxGV (bi12 (w := Cond.methodLink RX9 353 yX9_faultsWithout) 29 rfl) (bi12 (w := Cond.instanceMethod yX9_faultsWithout) 30 rfl) (bi12 (w := Cond.selects RX9 yX9_faultsWithout yX9_faultsWithout) 31 rfl) (bi1 (w := Cond.initialized RX9) 58 rfl) (bi12 (w := Cond.code yX9_faultsWithout cX9_faultsWithout 2 (some .int)) 3 rfl)) rfl (by decide +kernel) ⟨Nat.le_of_ble_eq_true rfl, Nat.le_of_ble_eq_true rfl⟩ hK hP hD hS hA hE [0] [] rfl rfl (by show List.Perm _ (List.range 1); decide) 0 0 rfl rfl rfl rfl hl rfl (Nat.le_of_ble_eq_true rfl) ⟨by show _ ≤ 0; omega, by show _ ≤ 0; omega⟩ dX9_withLine_156 (fun B1 v1 hp1 H locs hP hD hS => ?_)
              obtain ⟨P2x, T2x, Y2x, rfl, rfl, hMx⟩ := hp1
              show W p l e _ s m args below meth c H locs _ _ _ (F0 m 159 ls [.int (nI (fwN fk n fs fa fb i)), .long (d * 31)])
              have hP : va_P G.1 vwCl (lxF [mlW G q ((fk, fs, fa, fb, 8, n), T, Y, rn, P2x, T2x, Y2x)]) H := hP
              have hD : va_D A (lxF [mlW G q ((fk, fs, fa, fb, 8, n), T, Y, rn, P2x, T2x, Y2x)]) := hD
              refine lv_i2l (v := (nI (fwN fk n fs fa fb i)).toInt64) hx hb dX9_withLine_159 rfl ?_
              refine lv_ladd hx hb dX9_withLine_160 ?_
              exact ly_rl hx hb hr hlk hP hD hS (⟨P2x, T2x, Y2x, rfl, by rw [hd, show v = 8 by omega]; rfl, hMx⟩) (by omega) (by omega) dX9_withLine_161
            · have nc4 := (not_congr (nI_leI (a := 8) (b := v) (by omega) (by omega))).mp c4
              refine lv_lload hx hb dX9_withLine_50 (lv_at hl 2 rfl) ?_
              refine lv_ldc2 (v := 31) hx hb hown (bw12 (w := Cond.constantLong RX9 315 (31)) hts 13 rfl) dX9_withLine_52 ?_
              refine lv_lmul hx hb dX9_withLine_55 ?_
              refine lv_aload_n hx hb dX9_withLine_56 rfl (lv_at hl 0 rfl) ?_
              refine lv_iload_n hx hb dX9_withLine_57 rfl (lv_at hl 1 rfl) ?_
              refine lv_iconst (v := 3) hx hb dX9_withLine_58 (by decide) ?_
              refine lv_iload hx hb dX9_withLine_59 (lv_at hl 3 rfl) ?_
              refine lv_imul hx hb dX9_withLine_61 ?_
              rw [show ((3 : Int32) * (nI v) : Int32) = nI (3 * v) from pk_mul 3 v]
              refine ly_v (As := [.int (nI i), .int (nI (3 * v))]) (rest := [.long (d * 31)]) hx hb hml hown hts (d_state (l := l) (G := G) (k := k) (q := q) (n := n) (fk := fk) (fs := fs) (fa := fa) (fb := fb) (T := T) (T2 := T2) (Y := Y) (Y2 := Y2) (r := rn) (P2 := P2) (i := i) (v := v) hKK hn (by omega) (by omega)) 2 (sxGV (bi12 (w := Cond.methodLink RX9 340 yX9_state) 17 rfl) (bi12 (w := Cond.instanceMethod yX9_state) 18 rfl) (bi12 (w := Cond.selects RX9 yX9_state yX9_state) 19 rfl) (bi1 (w := Cond.initialized RX9) 58 rfl) (bi10 (w := Cond.code yX9_state cX9_state 3 (some .int)) 44 rfl)) rfl (by decide +kernel) ⟨Nat.le_of_ble_eq_true rfl, Nat.le_of_ble_eq_true rfl⟩ hK hP hD hS hA hE [0] [] rfl rfl (by show List.Perm _ (List.range 1); decide) 0 0 rfl rfl rfl rfl hl rfl (Nat.le_of_ble_eq_true rfl) ⟨by show _ ≤ 0; omega, by show _ ≤ 0; omega⟩ dX9_withLine_62 (fun B1 v1 hp1 H locs hP hD hS => ?_)
              obtain ⟨rfl, rfl⟩ := hp1
              show W p l e _ s m args below meth c H locs _ _ _ (F0 m 65 ls [.int (dgState T n fk (nI i) (nI (3 * v))), .long (d * 31)])
              have hP : va_P G.1 vwCl (lxF [mlW G q ((fk, fs, fa, fb, 8, n), T, Y, rn, P2, T2, Y2)]) H := hP
              have hD : va_D A (lxF [mlW G q ((fk, fs, fa, fb, 8, n), T, Y, rn, P2, T2, Y2)]) := hD
              refine lv_i2l (v := (dgState T n fk (nI i) (nI (3 * v))).toInt64) hx hb dX9_withLine_65 rfl ?_
              refine lv_ladd hx hb dX9_withLine_66 ?_
              refine lv_lstore (lv' := [(4, .long ((d * 31) + ((dgState T n fk (nI i) (nI (3 * v))).toInt64))), (0, .ref (q 0)), (3, .int (nI i)), (6, .int (nI v))]) hx hb dX9_withLine_67 hl (by decide) rfl (fun ls hl => ?_)
              refine lv_lload hx hb dX9_withLine_69 (lv_at hl 0 rfl) ?_
              refine lv_ldc2 (v := 31) hx hb hown (bw12 (w := Cond.constantLong RX9 315 (31)) hts 13 rfl) dX9_withLine_71 ?_
              refine lv_lmul hx hb dX9_withLine_74 ?_
              refine lv_aload_n hx hb dX9_withLine_75 rfl (lv_at hl 1 rfl) ?_
              refine lv_iload_n hx hb dX9_withLine_76 rfl (lv_at hl 2 rfl) ?_
              refine lv_iconst (v := 3) hx hb dX9_withLine_77 (by decide) ?_
              refine lv_iload hx hb dX9_withLine_78 (lv_at hl 3 rfl) ?_
              refine lv_imul hx hb dX9_withLine_80 ?_
              rw [show ((3 : Int32) * (nI v) : Int32) = nI (3 * v) from pk_mul 3 v]
              refine ly_v (As := [.int (nI i), .int (nI (3 * v))]) (rest := [.long (((d * 31) + ((dgState T n fk (nI i) (nI (3 * v))).toInt64)) * 31)]) hx hb hml hown hts (d_inTheWay (l := l) (G := G) (k := k) (q := q) (n := n) (fk := fk) (fs := fs) (fa := fa) (fb := fb) (T := T) (T2 := T2) (Y := Y) (Y2 := Y2) (r := rn) (P2 := P2) (i := i) (v := v) hKK hn (by omega) (by omega) hlc) 2 (sxGV (bi12 (w := Cond.methodLink RX9 343 yX9_inTheWay) 20 rfl) (bi12 (w := Cond.instanceMethod yX9_inTheWay) 21 rfl) (bi12 (w := Cond.selects RX9 yX9_inTheWay yX9_inTheWay) 22 rfl) (bi1 (w := Cond.initialized RX9) 58 rfl) (bi10 (w := Cond.code yX9_inTheWay cX9_inTheWay 3 (some .int)) 53 rfl)) rfl (by decide +kernel) ⟨Nat.le_of_ble_eq_true rfl, Nat.le_of_ble_eq_true rfl⟩ hK hP hD hS hA hE [0] [] rfl rfl (by show List.Perm _ (List.range 1); decide) 0 0 rfl rfl rfl rfl hl rfl (Nat.le_of_ble_eq_true rfl) ⟨by show _ ≤ 0; omega, by show _ ≤ 0; omega⟩ dX9_withLine_81 (fun B1 v1 hp1 H locs hP hD hS => ?_)
              obtain ⟨rfl, rfl⟩ := hp1
              show W p l e _ s m args below meth c H locs _ _ _ (F0 m 84 ls [.int (dgWay T n fk (nI i) (nI (3 * v))), .long (((d * 31) + ((dgState T n fk (nI i) (nI (3 * v))).toInt64)) * 31)])
              have hP : va_P G.1 vwCl (lxF [mlW G q ((fk, fs, fa, fb, 8, n), T, Y, rn, P2, T2, Y2)]) H := hP
              have hD : va_D A (lxF [mlW G q ((fk, fs, fa, fb, 8, n), T, Y, rn, P2, T2, Y2)]) := hD
              refine lv_i2l (v := (dgWay T n fk (nI i) (nI (3 * v))).toInt64) hx hb dX9_withLine_84 rfl ?_
              refine lv_ladd hx hb dX9_withLine_85 ?_
              refine lv_lstore (lv' := [(4, .long ((((d * 31) + ((dgState T n fk (nI i) (nI (3 * v))).toInt64)) * 31) + ((dgWay T n fk (nI i) (nI (3 * v))).toInt64))), (0, .ref (q 0)), (3, .int (nI i)), (6, .int (nI v))]) hx hb dX9_withLine_86 hl (by decide) rfl (fun ls hl => ?_)
              refine lv_aload_n hx hb dX9_withLine_88 rfl (lv_at hl 1 rfl) ?_
              refine lb_get (ci := 9) (v := .ref (q 1)) (C := RX9) (T := TX9) (N := 7) hx hb hts owX9 hown hK hP 0 0 rfl rfl rfl 0 (by decide) (bw9 (w := Cond.fieldLink RX9 12 "DropflagMill" "program" "LDropflagMill$Program;") hts 44 rfl) (fun _ h9 => h9) rfl dX9_withLine_89 ?_
              refine lv_iload hx hb dX9_withLine_92 (lv_at hl 3 rfl) ?_
              refine ly_v (As := [.int (nI v)]) (rest := []) hx hb hml hown hts (d_borrow (l := l) (G := G) (k := k) (q := q) (n := n) (fk := fk) (fs := fs) (fa := fa) (fb := fb) (T := T) (T2 := T2) (Y := Y) (Y2 := Y2) (r := rn) (P2 := P2) (v := v)) 1 (sxGV (bi10 (w := Cond.methodLink RX9 149 yX5_isBorrow) 45 rfl) (bi10 (w := Cond.instanceMethod yX5_isBorrow) 46 rfl) (bi10 (w := Cond.selects RX5 yX5_isBorrow yX5_isBorrow) 47 rfl) (bi1 (w := Cond.initialized RX5) 30 rfl) (bi6 (w := Cond.code yX5_isBorrow cX5_isBorrow 2 (some .boolean)) 15 rfl)) rfl (by decide +kernel) ⟨Nat.le_of_ble_eq_true rfl, Nat.le_of_ble_eq_true rfl⟩ hK hP hD hS hA hE [0] [] rfl rfl (by show List.Perm _ (List.range 1); decide) 0 1 rfl rfl rfl rfl hl rfl (Nat.le_of_ble_eq_true rfl) ⟨by show _ ≤ 0; omega, by show _ ≤ 0; omega⟩ dX9_withLine_94 (fun B1 v1 hp1 H locs hP hD hS => ?_)
              obtain ⟨rfl, rfl⟩ := hp1
              show W p l e _ s m args below meth c H locs _ _ _ (F0 m 97 ls [.int (s_X5_isBorrow 8 fk (nI v))])
              have hP : va_P G.1 vwCl (lxF [mlW G q ((fk, fs, fa, fb, 8, n), T, Y, rn, P2, T2, Y2)]) H := hP
              have hD : va_D A (lxF [mlW G q ((fk, fs, fa, fb, 8, n), T, Y, rn, P2, T2, Y2)]) := hD
              refine lv_if_eq (tgt := 142) hx hb dX9_withLine_97 (by decide) (fun c5 => ?_) (fun c5 => ?_)
              · refine lv_iinc (v := nI (v + 1)) (lv' := [(6, .int (nI (v + 1))), (4, .long ((((d * 31) + ((dgState T n fk (nI i) (nI (3 * v))).toInt64)) * 31) + ((dgWay T n fk (nI i) (nI (3 * v))).toInt64))), (0, .ref (q 0)), (3, .int (nI i))]) hx hb dX9_withLine_142 hl (k := 3) rfl (nI_1 v) (by decide) rfl (fun ls hl => ?_)
                refine lv_goto (tgt := 38) hx hb dX9_withLine_145 (by decide) ?_
                exact ih3 (v + 1) ((((d * 31) + ((dgState T n fk (nI i) (nI (3 * v))).toInt64)) * 31) + ((dgWay T n fk (nI i) (nI (3 * v))).toInt64)) (by omega) (by omega) (by rw [hd]; exact (if_pos c5).symm) _ _ (by omega) (by omega) _ _ hP hD hS ls (lv_sub hl [2, 3, 1, 0] rfl)
              · refine lv_lload hx hb dX9_withLine_100 (lv_at hl 0 rfl) ?_
                refine lv_ldc2 (v := 31) hx hb hown (bw12 (w := Cond.constantLong RX9 315 (31)) hts 13 rfl) dX9_withLine_102 ?_
                refine lv_lmul hx hb dX9_withLine_105 ?_
                refine lv_aload_n hx hb dX9_withLine_106 rfl (lv_at hl 1 rfl) ?_
                refine lv_iload_n hx hb dX9_withLine_107 rfl (lv_at hl 2 rfl) ?_
                refine lv_iload hx hb dX9_withLine_108 (lv_at hl 3 rfl) ?_
                refine ly_v (As := [.int (nI i), .int (nI v)]) (rest := [.long (((((d * 31) + ((dgState T n fk (nI i) (nI (3 * v))).toInt64)) * 31) + ((dgWay T n fk (nI i) (nI (3 * v))).toInt64)) * 31)]) hx hb hml hown hts (d_holds (l := l) (G := G) (k := k) (q := q) (n := n) (fk := fk) (fs := fs) (fa := fa) (fb := fb) (T := T) (T2 := T2) (Y := Y) (Y2 := Y2) (r := rn) (P2 := P2) (i := i) (v := v) hn (by omega) c5) 2 (sxGV (bi12 (w := Cond.methodLink RX9 346 yX9_holds) 23 rfl) (bi12 (w := Cond.instanceMethod yX9_holds) 24 rfl) (bi12 (w := Cond.selects RX9 yX9_holds yX9_holds) 25 rfl) (bi1 (w := Cond.initialized RX9) 58 rfl) (bi10 (w := Cond.code yX9_holds cX9_holds 3 (some .int)) 49 rfl)) rfl (by decide +kernel) ⟨Nat.le_of_ble_eq_true rfl, Nat.le_of_ble_eq_true rfl⟩ hK hP hD hS hA hE [0] [] rfl rfl (by show List.Perm _ (List.range 1); decide) 0 0 rfl rfl rfl rfl hl rfl (Nat.le_of_ble_eq_true rfl) ⟨by show _ ≤ 0; omega, by show _ ≤ 0; omega⟩ dX9_withLine_110 (fun B1 v1 hp1 H locs hP hD hS => ?_)
                obtain ⟨rfl, rfl⟩ := hp1
                show W p l e _ s m args below meth c H locs _ _ _ (F0 m 113 ls [.int (dgHolds T n fk (nI i) (nI v)), .long (((((d * 31) + ((dgState T n fk (nI i) (nI (3 * v))).toInt64)) * 31) + ((dgWay T n fk (nI i) (nI (3 * v))).toInt64)) * 31)])
                have hP : va_P G.1 vwCl (lxF [mlW G q ((fk, fs, fa, fb, 8, n), T, Y, rn, P2, T2, Y2)]) H := hP
                have hD : va_D A (lxF [mlW G q ((fk, fs, fa, fb, 8, n), T, Y, rn, P2, T2, Y2)]) := hD
                refine lv_i2l (v := (dgHolds T n fk (nI i) (nI v)).toInt64) hx hb dX9_withLine_113 rfl ?_
                refine lv_ladd hx hb dX9_withLine_114 ?_
                refine lv_lstore (lv' := [(4, .long ((((((d * 31) + ((dgState T n fk (nI i) (nI (3 * v))).toInt64)) * 31) + ((dgWay T n fk (nI i) (nI (3 * v))).toInt64)) * 31) + ((dgHolds T n fk (nI i) (nI v)).toInt64))), (0, .ref (q 0)), (3, .int (nI i)), (6, .int (nI v))]) hx hb dX9_withLine_115 hl (by decide) rfl (fun ls hl => ?_)
                refine lv_lload hx hb dX9_withLine_117 (lv_at hl 0 rfl) ?_
                refine lv_ldc2 (v := 31) hx hb hown (bw12 (w := Cond.constantLong RX9 315 (31)) hts 13 rfl) dX9_withLine_119 ?_
                refine lv_lmul hx hb dX9_withLine_122 ?_
                refine lv_aload_n hx hb dX9_withLine_123 rfl (lv_at hl 1 rfl) ?_
                refine lv_iload_n hx hb dX9_withLine_124 rfl (lv_at hl 2 rfl) ?_
                refine lv_iload hx hb dX9_withLine_125 (lv_at hl 3 rfl) ?_
                refine ly_v (As := [.int (nI i), .int (nI v)]) (rest := [.long (((((((d * 31) + ((dgState T n fk (nI i) (nI (3 * v))).toInt64)) * 31) + ((dgWay T n fk (nI i) (nI (3 * v))).toInt64)) * 31) + ((dgHolds T n fk (nI i) (nI v)).toInt64)) * 31)]) hx hb hml hown hts (d_isWanted (l := l) (G := G) (k := k) (q := q) (n := n) (fk := fk) (fs := fs) (fa := fa) (fb := fb) (T := T) (T2 := T2) (Y := Y) (Y2 := Y2) (r := rn) (P2 := P2) (i := i) (v := v) hn (by omega) c5) 2 (sxGV (bi12 (w := Cond.methodLink RX9 349 yX9_isWanted) 26 rfl) (bi12 (w := Cond.instanceMethod yX9_isWanted) 27 rfl) (bi12 (w := Cond.selects RX9 yX9_isWanted yX9_isWanted) 28 rfl) (bi1 (w := Cond.initialized RX9) 58 rfl) (bi10 (w := Cond.code yX9_isWanted cX9_isWanted 3 (some .boolean)) 51 rfl)) rfl (by decide +kernel) ⟨Nat.le_of_ble_eq_true rfl, Nat.le_of_ble_eq_true rfl⟩ hK hP hD hS hA hE [0] [] rfl rfl (by show List.Perm _ (List.range 1); decide) 0 0 rfl rfl rfl rfl hl rfl (Nat.le_of_ble_eq_true rfl) ⟨by show _ ≤ 0; omega, by show _ ≤ 0; omega⟩ dX9_withLine_127 (fun B1 v1 hp1 H locs hP hD hS => ?_)
                obtain ⟨rfl, rfl⟩ := hp1
                show W p l e _ s m args below meth c H locs _ _ _ (F0 m 130 ls [.int (dgWant T n fk (nI i) (nI v)), .long (((((((d * 31) + ((dgState T n fk (nI i) (nI (3 * v))).toInt64)) * 31) + ((dgWay T n fk (nI i) (nI (3 * v))).toInt64)) * 31) + ((dgHolds T n fk (nI i) (nI v)).toInt64)) * 31)])
                have hP : va_P G.1 vwCl (lxF [mlW G q ((fk, fs, fa, fb, 8, n), T, Y, rn, P2, T2, Y2)]) H := hP
                have hD : va_D A (lxF [mlW G q ((fk, fs, fa, fb, 8, n), T, Y, rn, P2, T2, Y2)]) := hD
                refine lv_if_eq (tgt := 137) hx hb dX9_withLine_130 (by decide) (fun c6 => ?_) (fun c6 => ?_)
                · refine lv_iconst (v := 0) hx hb dX9_withLine_137 (by decide) ?_
                  refine lv_i2l (v := (0 : Int32).toInt64) hx hb dX9_withLine_138 rfl ?_
                  refine lv_ladd hx hb dX9_withLine_139 ?_
                  refine lv_lstore (lv' := [(4, .long ((((((((d * 31) + ((dgState T n fk (nI i) (nI (3 * v))).toInt64)) * 31) + ((dgWay T n fk (nI i) (nI (3 * v))).toInt64)) * 31) + ((dgHolds T n fk (nI i) (nI v)).toInt64)) * 31) + ((0 : Int32).toInt64))), (0, .ref (q 0)), (3, .int (nI i)), (6, .int (nI v))]) hx hb dX9_withLine_140 hl (by decide) rfl (fun ls hl => ?_)
                  refine lv_iinc (v := nI (v + 1)) (lv' := [(6, .int (nI (v + 1))), (4, .long ((((((((d * 31) + ((dgState T n fk (nI i) (nI (3 * v))).toInt64)) * 31) + ((dgWay T n fk (nI i) (nI (3 * v))).toInt64)) * 31) + ((dgHolds T n fk (nI i) (nI v)).toInt64)) * 31) + ((0 : Int32).toInt64))), (0, .ref (q 0)), (3, .int (nI i))]) hx hb dX9_withLine_142 hl (k := 3) rfl (nI_1 v) (by decide) rfl (fun ls hl => ?_)
                  refine lv_goto (tgt := 38) hx hb dX9_withLine_145 (by decide) ?_
                  exact ih3 (v + 1) ((((((((d * 31) + ((dgState T n fk (nI i) (nI (3 * v))).toInt64)) * 31) + ((dgWay T n fk (nI i) (nI (3 * v))).toInt64)) * 31) + ((dgHolds T n fk (nI i) (nI v)).toInt64)) * 31) + ((0 : Int32).toInt64)) (by omega) (by omega) (by rw [hd]; refine Eq.trans ?_ (if_neg c5).symm; unfold dgV4; rw [if_pos c6]; rfl) _ _ (by omega) (by omega) _ _ hP hD hS ls (lv_sub hl [2, 3, 1, 0] rfl)
                · refine lv_iconst (v := 1) hx hb dX9_withLine_133 (by decide) ?_
                  refine lv_goto (tgt := 138) hx hb dX9_withLine_134 (by decide) ?_
                  refine lv_i2l (v := (1 : Int32).toInt64) hx hb dX9_withLine_138 rfl ?_
                  refine lv_ladd hx hb dX9_withLine_139 ?_
                  refine lv_lstore (lv' := [(4, .long ((((((((d * 31) + ((dgState T n fk (nI i) (nI (3 * v))).toInt64)) * 31) + ((dgWay T n fk (nI i) (nI (3 * v))).toInt64)) * 31) + ((dgHolds T n fk (nI i) (nI v)).toInt64)) * 31) + ((1 : Int32).toInt64))), (0, .ref (q 0)), (3, .int (nI i)), (6, .int (nI v))]) hx hb dX9_withLine_140 hl (by decide) rfl (fun ls hl => ?_)
                  refine lv_iinc (v := nI (v + 1)) (lv' := [(6, .int (nI (v + 1))), (4, .long ((((((((d * 31) + ((dgState T n fk (nI i) (nI (3 * v))).toInt64)) * 31) + ((dgWay T n fk (nI i) (nI (3 * v))).toInt64)) * 31) + ((dgHolds T n fk (nI i) (nI v)).toInt64)) * 31) + ((1 : Int32).toInt64))), (0, .ref (q 0)), (3, .int (nI i))]) hx hb dX9_withLine_142 hl (k := 3) rfl (nI_1 v) (by decide) rfl (fun ls hl => ?_)
                  refine lv_goto (tgt := 38) hx hb dX9_withLine_145 (by decide) ?_
                  exact ih3 (v + 1) ((((((((d * 31) + ((dgState T n fk (nI i) (nI (3 * v))).toInt64)) * 31) + ((dgWay T n fk (nI i) (nI (3 * v))).toInt64)) * 31) + ((dgHolds T n fk (nI i) (nI v)).toInt64)) * 31) + ((1 : Int32).toInt64)) (by omega) (by omega) (by rw [hd]; refine Eq.trans ?_ (if_neg c5).symm; unfold dgV4; rw [if_neg c6]; rfl) _ _ (by omega) (by omega) _ _ hP hD hS ls (lv_sub hl [2, 3, 1, 0] rfl)
        exact LP38_3 9 0 d (by omega) (Nat.zero_le _) (hd.trans (congrArg (dgI _ _) (show w = 3 by omega))) _ _ (by omega) (by omega) _ _ hP hD hS ls (lv_sub hl [1, 2, 3, 0] rfl)
      · have nc2 := (not_congr (nI_ltI (a := 5) (b := (w + 3)) (by omega) (by omega))).mp c2
        refine lv_lload hx hb dX9_withLine_12 (lv_at hl 2 rfl) ?_
        refine lv_ldc2 (v := 31) hx hb hown (bw12 (w := Cond.constantLong RX9 315 (31)) hts 13 rfl) dX9_withLine_14 ?_
        refine lv_lmul hx hb dX9_withLine_17 ?_
        refine lv_aload_n hx hb dX9_withLine_18 rfl (lv_at hl 0 rfl) ?_
        refine lv_iload_n hx hb dX9_withLine_19 rfl (lv_at hl 1 rfl) ?_
        refine lv_iload hx hb dX9_withLine_20 (lv_at hl 3 rfl) ?_
        refine ly_v (As := [.int (nI i), .int (nI (w + 3))]) (rest := [.long (d * 31)]) hx hb hml hown hts (d_ofLine (l := l) (G := G) (k := k) (q := q) (n := n) (fk := fk) (fs := fs) (fa := fa) (fb := fb) (T := T) (T2 := T2) (Y := Y) (Y2 := Y2) (r := rn) (P2 := P2) hn hi (w := w) (by omega)) 2 (sxGV (bi12 (w := Cond.methodLink RX9 337 yX9_ofLine) 14 rfl) (bi12 (w := Cond.instanceMethod yX9_ofLine) 15 rfl) (bi12 (w := Cond.selects RX9 yX9_ofLine yX9_ofLine) 16 rfl) (bi1 (w := Cond.initialized RX9) 58 rfl) (bi10 (w := Cond.code yX9_ofLine cX9_ofLine 3 (some .int)) 38 rfl)) rfl (by decide +kernel) ⟨Nat.le_of_ble_eq_true rfl, Nat.le_of_ble_eq_true rfl⟩ hK hP hD hS hA hE [0] [] rfl rfl (by show List.Perm _ (List.range 1); decide) 0 0 rfl rfl rfl rfl hl rfl (Nat.le_of_ble_eq_true rfl) ⟨by show _ ≤ 0; omega, by show _ ≤ 0; omega⟩ dX9_withLine_22 (fun B1 v1 hp1 H locs hP hD hS => ?_)
        obtain ⟨rfl, rfl⟩ := hp1
        show W p l e _ s m args below meth c H locs _ _ _ (F0 m 25 ls [.int (dgLine T n fs fa fb (nI i) (nI (w + 3))), .long (d * 31)])
        have hP : va_P G.1 vwCl (lxF [mlW G q ((fk, fs, fa, fb, 8, n), T, Y, rn, P2, T2, Y2)]) H := hP
        have hD : va_D A (lxF [mlW G q ((fk, fs, fa, fb, 8, n), T, Y, rn, P2, T2, Y2)]) := hD
        refine lv_i2l (v := (dgLine T n fs fa fb (nI i) (nI (w + 3))).toInt64) hx hb dX9_withLine_25 rfl ?_
        refine lv_ladd hx hb dX9_withLine_26 ?_
        refine lv_lstore (lv' := [(4, .long ((d * 31) + ((dgLine T n fs fa fb (nI i) (nI (w + 3))).toInt64))), (0, .ref (q 0)), (3, .int (nI i)), (6, .int (nI (w + 3)))]) hx hb dX9_withLine_27 hl (by decide) rfl (fun ls hl => ?_)
        refine lv_iinc (v := nI (w + 1 + 3)) (lv' := [(6, .int (nI (w + 1 + 3))), (4, .long ((d * 31) + ((dgLine T n fs fa fb (nI i) (nI (w + 3))).toInt64))), (0, .ref (q 0)), (3, .int (nI i))]) hx hb dX9_withLine_29 hl (k := 3) rfl (nI_1 (w + 3)) (by decide) rfl (fun ls hl => ?_)
        refine lv_goto (tgt := 6) hx hb dX9_withLine_32 (by decide) ?_
        exact ih1 (w + 1) ((d * 31) + ((dgLine T n fs fa fb (nI i) (nI (w + 3))).toInt64)) (by omega) (by omega) (by rw [hd]; rfl) _ _ (by omega) (by omega) _ _ hP hD hS ls (lv_sub hl [2, 3, 1, 0] rfl)
  exact LP6_1 4 0 d0 (by omega) (Nat.zero_le _) (rfl) _ _ (by omega) (by omega) _ _ hP hD hS ls (lv_sub hl [2, 4, 1, 0] rfl)
