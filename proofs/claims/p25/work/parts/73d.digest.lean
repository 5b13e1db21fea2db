abbrev wdX9_digest : List Cond := Cond.code yX9_digest cX9_digest 5 (some .long) :: bwC
set_option maxHeartbeats 4000000 in
set_option maxRecDepth 100000 in
theorem t_X9_digest (l : Launch) (G : sxG) (k : lxC) (q : Nat → Nat) (n : Nat) (fk fs fa fb : Nat → Int32) (T T2 : qk_T) (Y Y2 : qr_Y) (rn : Int32) (P2 : mlP) (hKK : qp_K 8 fk) (hP4 : lgP 8 fk n fs fa fb) (hL : qk_L 8 n fk fs fa fb T) (hY : ylk Y) (hY2 : ylk Y2) (hZ : zbP (fk, fs, fa, fb, 8, n)) (hZ2 : zbP P2) (hn1 : 1 ≤ n) : lyM l yX9_digest wdX9_digest 7 169 0 0 G k [mlW G q ((fk, fs, fa, fb, 8, n), T, Y, rn, P2, T2, Y2)] [.ref (q 0)] (fun B v => ∃ (P2x : mlP) (T2x : qk_T) (Y2x : qr_Y), B = [mlW G q ((fk, fs, fa, fb, 8, n), T, Y, rn, P2x, T2x, Y2x)] ∧ v = some (.long (dgD T Y rn n fk fs fa fb)) ∧ mlI 8 fk n fs fa fb ((fk, fs, fa, fb, 8, n), T, Y, rn, P2x, T2x, Y2x)) := by
  refine lyM.of (cc := cX9_digest) (maxL := 5) (rt := (some .long)) (by decide) rfl (Nat.le_of_ble_eq_true rfl) ?_
  intro p e s m args below meth c ⟨hx, hb, hr, hml, hown, hlk, hts, hK⟩ hnm A hA hP hD hS hE ls hl
  have hl : lv_has ls 5 [(0, .ref (q 0))] := hl
  have hn := hP4.2.1
  have hlc := qv_lc hL hP4.2.2.2
  have hfc := qv_fc hL (show n ≤ 33 by omega)
  refine lv_ldc2 (v := 58135) hx hb hown (bw12 (w := Cond.constantLong RX9 313 (58135)) hts 48 rfl) dX9_digest_0 ?_
  refine lv_lstore_n (lv' := [(1, .long 58135), (0, .ref (q 0))]) hx hb dX9_digest_3 rfl hl (by decide) rfl (fun ls hl => ?_)
  refine lv_iconst (v := 0) hx hb dX9_digest_4 (by decide) ?_
  refine lv_istore_n (lv' := [(3, .int 0), (1, .long 58135), (0, .ref (q 0))]) hx hb dX9_digest_5 rfl hl (by decide) rfl (fun ls hl => ?_)
  have LP6_1 : ∀ (kk1 : Nat) (w : Nat) (d : Int64), 7 - w < kk1 → (w ≤ 7) → (d = dgI (dgM T n) (58135 : Int64) w) → ∀ cells slots : Nat, cells ≤ 0 → slots ≤ 0 → ∀ (H : Heap) (locs : List Loc), va_P G.1 vwCl (lxF [mlW G q ((fk, fs, fa, fb, 8, n), T, Y, rn, P2, T2, Y2)]) H → va_D A (lxF [mlW G q ((fk, fs, fa, fb, 8, n), T, Y, rn, P2, T2, Y2)]) → va_S A s.heap H locs → ∀ ls : Array Slot, lv_has ls 5 [(0, .ref (q 0)), (1, .long d), (3, .int (nI w))] → W p l e ({ frames := 7, cells := 0, slots := 0, locals := 169 } : Room) s m args below meth c H locs cells slots (lyZ 0 0 G args s below A (fun B v => ∃ (P2x : mlP) (T2x : qk_T) (Y2x : qr_Y), B = [mlW G q ((fk, fs, fa, fb, 8, n), T, Y, rn, P2x, T2x, Y2x)] ∧ v = some (.long (dgD T Y rn n fk fs fa fb)) ∧ mlI 8 fk n fs fa fb ((fk, fs, fa, fb, 8, n), T, Y, rn, P2x, T2x, Y2x))) (F0 m 6 ls []) := by
    intro kk1
    induction kk1 with
    | zero =>
      intro w d hm
      exact absurd hm (Nat.not_lt_zero _)
    | succ kk1 ih1 =>
      intro w d hm1 hw hd cells slots hcc1 hss1 H locs hP hD hS ls hl
      refine lv_iload_n hx hb dX9_digest_6 rfl (lv_at hl 2 rfl) ?_
      refine lv_bipush (v := 6) hx hb dX9_digest_7 (by decide) ?_
      refine lv_icmp_gt (tgt := 31) hx hb dX9_digest_9 (by decide) (fun c2 => ?_) (fun c2 => ?_)
      · have nc2 := (nI_ltI (a := 6) (b := w) (by omega) (by omega)).mp c2
        refine lv_iconst (v := 0) hx hb dX9_digest_31 (by decide) ?_
        refine lv_istore_n (lv' := [(3, .int 0), (0, .ref (q 0)), (1, .long d)]) hx hb dX9_digest_32 rfl hl (by decide) rfl (fun ls hl => ?_)
        have LP33_3 : ∀ (kk3 : Nat) (v : Nat) (d : Int64), 8 - v < kk3 → (v ≤ 8) → (d = dgI (dgY T n fk) (dgI (dgM T n) 58135 7) v) → ∀ cells slots : Nat, cells ≤ 0 → slots ≤ 0 → ∀ (H : Heap) (locs : List Loc), va_P G.1 vwCl (lxF [mlW G q ((fk, fs, fa, fb, 8, n), T, Y, rn, P2, T2, Y2)]) H → va_D A (lxF [mlW G q ((fk, fs, fa, fb, 8, n), T, Y, rn, P2, T2, Y2)]) → va_S A s.heap H locs → ∀ ls : Array Slot, lv_has ls 5 [(0, .ref (q 0)), (1, .long d), (3, .int (nI v))] → W p l e ({ frames := 7, cells := 0, slots := 0, locals := 169 } : Room) s m args below meth c H locs cells slots (lyZ 0 0 G args s below A (fun B v => ∃ (P2x : mlP) (T2x : qk_T) (Y2x : qr_Y), B = [mlW G q ((fk, fs, fa, fb, 8, n), T, Y, rn, P2x, T2x, Y2x)] ∧ v = some (.long (dgD T Y rn n fk fs fa fb)) ∧ mlI 8 fk n fs fa fb ((fk, fs, fa, fb, 8, n), T, Y, rn, P2x, T2x, Y2x))) (F0 m 33 ls []) := by
          intro kk3
          induction kk3 with
          | zero =>
            intro v d hm
            exact absurd hm (Nat.not_lt_zero _)
          | succ kk3 ih3 =>
            intro v d hm3 hv hd cells slots hcc3 hss3 H locs hP hD hS ls hl
            refine lv_iload_n hx hb dX9_digest_33 rfl (lv_at hl 2 rfl) ?_
            refine lv_aload_n hx hb dX9_digest_34 rfl (lv_at hl 0 rfl) ?_
            refine lb_get (ci := 9) (v := .ref (q 1)) (C := RX9) (T := TX9) (N := 7) hx hb hts owX9 hown hK hP 0 0 rfl rfl rfl 0 (by decide) (bw9 (w := Cond.fieldLink RX9 12 "DropflagMill" "program" "LDropflagMill$Program;") hts 44 rfl) (fun _ h9 => h9) rfl dX9_digest_35 ?_
            refine lb_get (ci := 5) (v := .int 8) (C := RX5) (T := TX5) (N := 6) hx hb hts owX5 hown hK hP 0 1 rfl rfl rfl 4 (by decide) (bw10 (w := Cond.fieldLink RX9 61 "DropflagMill$Program" "variables" "I") hts 10 rfl) (fun _ h9 => h9) rfl dX9_digest_38 ?_
            refine lv_icmp_ge (tgt := 80) hx hb dX9_digest_41 (by decide) (fun c4 => ?_) (fun c4 => ?_)
            · have nc4 := (nI_leI (a := 8) (b := v) (by omega) (by omega)).mp c4
              refine lv_iconst (v := 0) hx hb dX9_digest_80 (by decide) ?_
              refine lv_istore_n (lv' := [(3, .int 0), (0, .ref (q 0)), (1, .long d)]) hx hb dX9_digest_81 rfl hl (by decide) rfl (fun ls hl => ?_)
              have LP82_5 : ∀ (kk5 : Nat) (i : Nat) (d : Int64) (P2 : mlP) (T2 : qk_T) (Y2 : qr_Y), n - i < kk5 → (i ≤ n) → (d = dgI (dgL T n fk fs fa fb) (dgI (dgY T n fk) (dgI (dgM T n) 58135 7) 8) i) → (ylk Y2) → (zbP P2) → ∀ cells slots : Nat, cells ≤ 0 → slots ≤ 0 → ∀ (H : Heap) (locs : List Loc), va_P G.1 vwCl (lxF [mlW G q ((fk, fs, fa, fb, 8, n), T, Y, rn, P2, T2, Y2)]) H → va_D A (lxF [mlW G q ((fk, fs, fa, fb, 8, n), T, Y, rn, P2, T2, Y2)]) → va_S A s.heap H locs → ∀ ls : Array Slot, lv_has ls 5 [(0, .ref (q 0)), (1, .long d), (3, .int (nI i))] → W p l e ({ frames := 7, cells := 0, slots := 0, locals := 169 } : Room) s m args below meth c H locs cells slots (lyZ 0 0 G args s below A (fun B v => ∃ (P2x : mlP) (T2x : qk_T) (Y2x : qr_Y), B = [mlW G q ((fk, fs, fa, fb, 8, n), T, Y, rn, P2x, T2x, Y2x)] ∧ v = some (.long (dgD T Y rn n fk fs fa fb)) ∧ mlI 8 fk n fs fa fb ((fk, fs, fa, fb, 8, n), T, Y, rn, P2x, T2x, Y2x))) (F0 m 82 ls []) := by
                intro kk5
                induction kk5 with
                | zero =>
                  intro i d P2 T2 Y2 hm
                  exact absurd hm (Nat.not_lt_zero _)
                | succ kk5 ih5 =>
                  intro i d P2 T2 Y2 hm5 hi hd hY2 hZ2 cells slots hcc5 hss5 H locs hP hD hS ls hl
                  refine lv_iload_n hx hb dX9_digest_82 rfl (lv_at hl 2 rfl) ?_
                  refine lv_aload_n hx hb dX9_digest_83 rfl (lv_at hl 0 rfl) ?_
                  refine lb_get (ci := 9) (v := .ref (q 1)) (C := RX9) (T := TX9) (N := 7) hx hb hts owX9 hown hK hP 0 0 rfl rfl rfl 0 (by decide) (bw9 (w := Cond.fieldLink RX9 12 "DropflagMill" "program" "LDropflagMill$Program;") hts 44 rfl) (fun _ h9 => h9) rfl dX9_digest_84 ?_
                  refine lb_get (ci := 5) (v := .int (nI n)) (C := RX5) (T := TX5) (N := 6) hx hb hts owX5 hown hK hP 0 1 rfl rfl rfl 5 (by decide) (bw10 (w := Cond.fieldLink RX9 79 "DropflagMill$Program" "lines" "I") hts 15 rfl) (fun _ h9 => h9) rfl dX9_digest_87 ?_
                  refine lv_icmp_ge (tgt := 106) hx hb dX9_digest_90 (by decide) (fun c6 => ?_) (fun c6 => ?_)
                  · have nc6 := (nI_leI (a := n) (b := i) (by omega) (by omega)).mp c6
                    refine lv_aload_n hx hb dX9_digest_106 rfl (lv_at hl 0 rfl) ?_
                    refine lv_lload_n hx hb dX9_digest_107 rfl (lv_at hl 1 rfl) ?_
                    refine ly_v (As := [.long d]) (rest := []) hx hb hml hown hts (d_loans (l := l) (G := G) (k := k) (q := q) (n := n) (fk := fk) (fs := fs) (fa := fa) (fb := fb) (T := T) (T2 := T2) (Y := Y) (Y2 := Y2) (r := rn) (P2 := P2) (d := d) hn hlc hfc) 1 (sxGV (bi12 (w := Cond.methodLink RX9 327 yX9_withLoansAndFaults) 58 rfl) (bi12 (w := Cond.instanceMethod yX9_withLoansAndFaults) 59 rfl) (bi13 (w := Cond.selects RX9 yX9_withLoansAndFaults yX9_withLoansAndFaults) 0 rfl) (bi1 (w := Cond.initialized RX9) 58 rfl) (bi12 (w := Cond.code yX9_withLoansAndFaults cX9_withLoansAndFaults 7 (some .long)) 39 rfl)) rfl (by decide +kernel) ⟨Nat.le_of_ble_eq_true rfl, Nat.le_of_ble_eq_true rfl⟩ hK hP hD hS hA hE [0] [] rfl rfl (by show List.Perm _ (List.range 1); decide) 0 0 rfl rfl rfl rfl hl rfl (Nat.le_of_ble_eq_true rfl) ⟨by show _ ≤ 0; omega, by show _ ≤ 0; omega⟩ dX9_digest_108 (fun B1 v1 hp1 H locs hP hD hS => ?_)
                    obtain ⟨rfl, rfl⟩ := hp1
                    show W p l e _ s m args below meth c H locs _ _ _ (F0 m 111 ls [.long (dgA T n rn d)])
                    have hP : va_P G.1 vwCl (lxF [mlW G q ((fk, fs, fa, fb, 8, n), T, Y, rn, P2, T2, Y2)]) H := hP
                    have hD : va_D A (lxF [mlW G q ((fk, fs, fa, fb, 8, n), T, Y, rn, P2, T2, Y2)]) := hD
                    refine lv_lstore_n (lv' := [(1, .long (dgA T n rn d)), (0, .ref (q 0)), (3, .int (nI i))]) hx hb dX9_digest_111 rfl hl (by decide) rfl (fun ls hl => ?_)
                    refine lv_aload_n hx hb dX9_digest_112 rfl (lv_at hl 1 rfl) ?_
                    refine lv_lload_n hx hb dX9_digest_113 rfl (lv_at hl 0 rfl) ?_
                    refine ly_v (As := [.long (dgA T n rn d)]) (rest := []) hx hb hml hown hts (d_latest (l := l) (G := G) (k := k) (q := q) (n := n) (fk := fk) (fs := fs) (fa := fa) (fb := fb) (T := T) (T2 := T2) (Y := Y) (Y2 := Y2) (r := rn) (P2 := P2) (d := (dgA T n rn d))) 1 (sxGV (bi13 (w := Cond.methodLink RX9 331 yX9_withLatestRun) 1 rfl) (bi13 (w := Cond.instanceMethod yX9_withLatestRun) 2 rfl) (bi13 (w := Cond.selects RX9 yX9_withLatestRun yX9_withLatestRun) 3 rfl) (bi1 (w := Cond.initialized RX9) 58 rfl) (bi12 (w := Cond.code yX9_withLatestRun cX9_withLatestRun 8 (some .long)) 47 rfl)) rfl (by decide +kernel) ⟨Nat.le_of_ble_eq_true rfl, Nat.le_of_ble_eq_true rfl⟩ hK hP hD hS hA hE [0] [] rfl rfl (by show List.Perm _ (List.range 1); decide) 0 0 rfl rfl rfl rfl hl rfl (Nat.le_of_ble_eq_true rfl) ⟨by show _ ≤ 0; omega, by show _ ≤ 0; omega⟩ dX9_digest_114 (fun B1 v1 hp1 H locs hP hD hS => ?_)
                    obtain ⟨rfl, rfl⟩ := hp1
                    show W p l e _ s m args below meth c H locs _ _ _ (F0 m 117 ls [.long (dgB Y rn (dgA T n rn d))])
                    have hP : va_P G.1 vwCl (lxF [mlW G q ((fk, fs, fa, fb, 8, n), T, Y, rn, P2, T2, Y2)]) H := hP
                    have hD : va_D A (lxF [mlW G q ((fk, fs, fa, fb, 8, n), T, Y, rn, P2, T2, Y2)]) := hD
                    refine lv_lstore_n (lv' := [(1, .long (dgB Y rn (dgA T n rn d))), (0, .ref (q 0)), (3, .int (nI i))]) hx hb dX9_digest_117 rfl hl (by decide) rfl (fun ls hl => ?_)
                    refine lv_aload_n hx hb dX9_digest_118 rfl (lv_at hl 1 rfl) ?_
                    refine lb_get (ci := 9) (v := .ref (q 1)) (C := RX9) (T := TX9) (N := 7) hx hb hts owX9 hown hK hP 0 0 rfl rfl rfl 0 (by decide) (bw9 (w := Cond.fieldLink RX9 12 "DropflagMill" "program" "LDropflagMill$Program;") hts 44 rfl) (fun _ h9 => h9) rfl dX9_digest_119 ?_
                    refine lb_get (ci := 5) (v := .int (nI n)) (C := RX5) (T := TX5) (N := 6) hx hb hts owX5 hown hK hP 0 1 rfl rfl rfl 5 (by decide) (bw10 (w := Cond.fieldLink RX9 79 "DropflagMill$Program" "lines" "I") hts 15 rfl) (fun _ h9 => h9) rfl dX9_digest_122 ?_
                    refine lv_if_le (tgt := 149) hx hb dX9_digest_125 (by decide) (fun c7 => False.elim (by have nc7 := (nI_leI (a := n) (b := 0) (by omega) (by omega)).mp c7; omega)) (fun c7 => ?_)
                    have nc7 := (not_congr (nI_leI (a := n) (b := 0) (by omega) (by omega))).mp c7
                    refine lv_lload_n hx hb dX9_digest_128 rfl (lv_at hl 0 rfl) ?_
                    refine lv_ldc2 (v := 31) hx hb hown (bw12 (w := Cond.constantLong RX9 315 (31)) hts 13 rfl) dX9_digest_129 ?_
                    refine lv_lmul hx hb dX9_digest_132 ?_
                    refine lv_aload_n hx hb dX9_digest_133 rfl (lv_at hl 1 rfl) ?_
                    refine lv_aload_n hx hb dX9_digest_134 rfl (lv_at hl 1 rfl) ?_
                    refine lb_get (ci := 9) (v := .ref (q 1)) (C := RX9) (T := TX9) (N := 7) hx hb hts owX9 hown hK hP 0 0 rfl rfl rfl 0 (by decide) (bw9 (w := Cond.fieldLink RX9 12 "DropflagMill" "program" "LDropflagMill$Program;") hts 44 rfl) (fun _ h9 => h9) rfl dX9_digest_135 ?_
                    refine lb_get (ci := 5) (v := .int (nI n)) (C := RX5) (T := TX5) (N := 6) hx hb hts owX5 hown hK hP 0 1 rfl rfl rfl 5 (by decide) (bw10 (w := Cond.fieldLink RX9 79 "DropflagMill$Program" "lines" "I") hts 15 rfl) (fun _ h9 => h9) rfl dX9_digest_138 ?_
                    refine lv_iconst (v := 1) hx hb dX9_digest_141 (by decide) ?_
                    refine lv_isub hx hb dX9_digest_142 ?_
                    rw [show ((nI n) - 1 : Int32) = nI (n - 1) from pk_sub (b := 1) (by omega)]
                    refine ly_v (As := [.int (nI (n - 1))]) (rest := [.long ((dgB Y rn (dgA T n rn d)) * 31)]) hx hb hml hown hts (d_leaked (l := l) (G := G) (k := k) (q := q) (n := n) (fk := fk) (fs := fs) (fa := fa) (fb := fb) (T := T) (T2 := T2) (Y := Y) (Y2 := Y2) (r := rn) (P2 := P2) (i := n - 1) ⟨rfl, hL, hY, hY2, hZ, hZ2⟩ hP4 hKK (by omega)) 1 (sxGV (bi13 (w := Cond.methodLink RX9 334 yX9_leakedBy) 4 rfl) (bi13 (w := Cond.instanceMethod yX9_leakedBy) 5 rfl) (bi13 (w := Cond.selects RX9 yX9_leakedBy yX9_leakedBy) 6 rfl) (bi1 (w := Cond.initialized RX9) 58 rfl) (bi12 (w := Cond.code yX9_leakedBy cX9_leakedBy 2 (some .int)) 10 rfl)) rfl (by decide +kernel) ⟨Nat.le_of_ble_eq_true rfl, Nat.le_of_ble_eq_true rfl⟩ hK hP hD hS hA hE [0] [] rfl rfl (by show List.Perm _ (List.range 1); decide) 0 0 rfl rfl rfl rfl hl rfl (Nat.le_of_ble_eq_true rfl) ⟨by show _ ≤ 0; omega, by show _ ≤ 0; omega⟩ dX9_digest_143 (fun B1 v1 hp1 H locs hP hD hS => ?_)
                    obtain ⟨P2x, T2x, Y2x, rfl, rfl, hMx⟩ := hp1
                    show W p l e _ s m args below meth c H locs _ _ _ (F0 m 146 ls [.int (lkN n fk fs fa fb (n - 1)), .long ((dgB Y rn (dgA T n rn d)) * 31)])
                    have hP : va_P G.1 vwCl (lxF [mlW G q ((fk, fs, fa, fb, 8, n), T, Y, rn, P2x, T2x, Y2x)]) H := hP
                    have hD : va_D A (lxF [mlW G q ((fk, fs, fa, fb, 8, n), T, Y, rn, P2x, T2x, Y2x)]) := hD
                    refine lv_i2l (v := (lkN n fk fs fa fb (n - 1)).toInt64) hx hb dX9_digest_146 rfl ?_
                    refine lv_ladd hx hb dX9_digest_147 ?_
                    refine lv_lstore_n (lv' := [(1, .long (((dgB Y rn (dgA T n rn d)) * 31) + ((lkN n fk fs fa fb (n - 1)).toInt64))), (0, .ref (q 0)), (3, .int (nI i))]) hx hb dX9_digest_148 rfl hl (by decide) rfl (fun ls hl => ?_)
                    refine lv_lload_n hx hb dX9_digest_149 rfl (lv_at hl 0 rfl) ?_
                    exact ly_rl hx hb hr hlk hP hD hS (⟨P2x, T2x, Y2x, rfl, by rw [hd, show i = n by omega]; rfl, hMx⟩) (by omega) (by omega) dX9_digest_150
                  · have nc6 := (not_congr (nI_leI (a := n) (b := i) (by omega) (by omega))).mp c6
                    refine lv_aload_n hx hb dX9_digest_93 rfl (lv_at hl 0 rfl) ?_
                    refine lv_lload_n hx hb dX9_digest_94 rfl (lv_at hl 1 rfl) ?_
                    refine lv_iload_n hx hb dX9_digest_95 rfl (lv_at hl 2 rfl) ?_
                    refine ly_v (As := [.long d, .int (nI i)]) (rest := []) hx hb hml hown hts (t_X9_withLine l G k q n fk fs fa fb T T2 Y Y2 rn P2 i d hKK hP4 hL hY hY2 hZ hZ2 (by omega)) 2 (sxGV (bi12 (w := Cond.methodLink RX9 323 yX9_withLine) 55 rfl) (bi12 (w := Cond.instanceMethod yX9_withLine) 56 rfl) (bi12 (w := Cond.selects RX9 yX9_withLine yX9_withLine) 57 rfl) (bi1 (w := Cond.initialized RX9) 58 rfl) (bi12 (w := Cond.code yX9_withLine cX9_withLine 7 (some .long)) 32 rfl)) rfl (by decide +kernel) ⟨Nat.le_of_ble_eq_true rfl, Nat.le_of_ble_eq_true rfl⟩ hK hP hD hS hA hE [0] [] rfl rfl (by show List.Perm _ (List.range 1); decide) 0 0 rfl rfl rfl rfl hl rfl (Nat.le_of_ble_eq_true rfl) ⟨by show _ ≤ 0; omega, by show _ ≤ 0; omega⟩ dX9_digest_96 (fun B1 v1 hp1 H locs hP hD hS => ?_)
                    obtain ⟨P2x, T2x, Y2x, rfl, rfl, hMx⟩ := hp1
                    show W p l e _ s m args below meth c H locs _ _ _ (F0 m 99 ls [.long (dgL T n fk fs fa fb i d)])
                    have hP : va_P G.1 vwCl (lxF [mlW G q ((fk, fs, fa, fb, 8, n), T, Y, rn, P2x, T2x, Y2x)]) H := hP
                    have hD : va_D A (lxF [mlW G q ((fk, fs, fa, fb, 8, n), T, Y, rn, P2x, T2x, Y2x)]) := hD
                    refine lv_lstore_n (lv' := [(1, .long (dgL T n fk fs fa fb i d)), (0, .ref (q 0)), (3, .int (nI i))]) hx hb dX9_digest_99 rfl hl (by decide) rfl (fun ls hl => ?_)
                    refine lv_iinc (v := nI (i + 1)) (lv' := [(3, .int (nI (i + 1))), (1, .long (dgL T n fk fs fa fb i d)), (0, .ref (q 0))]) hx hb dX9_digest_100 hl (k := 2) rfl (nI_1 i) (by decide) rfl (fun ls hl => ?_)
                    refine lv_goto (tgt := 82) hx hb dX9_digest_103 (by decide) ?_
                    exact ih5 (i + 1) (dgL T n fk fs fa fb i d) P2x T2x Y2x (by omega) (by omega) (dgI_S hd rfl) (hMx.2.2.2.1) (hMx.2.2.2.2.2) _ _ (by omega) (by omega) _ _ hP hD hS ls (lv_sub hl [2, 1, 0] rfl)
              exact LP82_5 (n + 1) 0 d P2 T2 Y2 (by omega) (Nat.zero_le _) (dgI_0 hd (by omega)) (hY2) (hZ2) _ _ (by omega) (by omega) _ _ hP hD hS ls (lv_sub hl [1, 2, 0] rfl)
            · have nc4 := (not_congr (nI_leI (a := 8) (b := v) (by omega) (by omega))).mp c4
              refine lv_iconst (v := 0) hx hb dX9_digest_44 (by decide) ?_
              refine lv_istore (lv' := [(4, .int 0), (0, .ref (q 0)), (1, .long d), (3, .int (nI v))]) hx hb dX9_digest_45 hl (by decide) rfl (fun ls hl => ?_)
              have LP47_8 : ∀ (kk8 : Nat) (x : Nat) (dx : Int64), 4 - x < kk8 → (x ≤ 4) → (dx = dgI (dgX T n fk v) d x) → ∀ cells slots : Nat, cells ≤ 0 → slots ≤ 0 → ∀ (H : Heap) (locs : List Loc), va_P G.1 vwCl (lxF [mlW G q ((fk, fs, fa, fb, 8, n), T, Y, rn, P2, T2, Y2)]) H → va_D A (lxF [mlW G q ((fk, fs, fa, fb, 8, n), T, Y, rn, P2, T2, Y2)]) → va_S A s.heap H locs → ∀ ls : Array Slot, lv_has ls 5 [(0, .ref (q 0)), (1, .long dx), (3, .int (nI v)), (4, .int (nI x))] → W p l e ({ frames := 7, cells := 0, slots := 0, locals := 169 } : Room) s m args below meth c H locs cells slots (lyZ 0 0 G args s below A (fun B v => ∃ (P2x : mlP) (T2x : qk_T) (Y2x : qr_Y), B = [mlW G q ((fk, fs, fa, fb, 8, n), T, Y, rn, P2x, T2x, Y2x)] ∧ v = some (.long (dgD T Y rn n fk fs fa fb)) ∧ mlI 8 fk n fs fa fb ((fk, fs, fa, fb, 8, n), T, Y, rn, P2x, T2x, Y2x))) (F0 m 47 ls []) := by
                intro kk8
                induction kk8 with
                | zero =>
                  intro x dx hm
                  exact absurd hm (Nat.not_lt_zero _)
                | succ kk8 ih8 =>
                  intro x dx hm8 hx4 hdx cells slots hcc8 hss8 H locs hP hD hS ls hl
                  refine lv_iload hx hb dX9_digest_47 (lv_at hl 3 rfl) ?_
                  refine lv_iconst (v := 3) hx hb dX9_digest_49 (by decide) ?_
                  refine lv_icmp_gt (tgt := 74) hx hb dX9_digest_50 (by decide) (fun c9 => ?_) (fun c9 => ?_)
                  · have nc9 := (nI_ltI (a := 3) (b := x) (by omega) (by omega)).mp c9
                    refine lv_iinc (v := nI (v + 1)) (lv' := [(3, .int (nI (v + 1))), (0, .ref (q 0)), (1, .long dx), (4, .int (nI x))]) hx hb dX9_digest_74 hl (k := 2) rfl (nI_1 v) (by decide) rfl (fun ls hl => ?_)
                    refine lv_goto (tgt := 33) hx hb dX9_digest_77 (by decide) ?_
                    exact ih3 (v + 1) dx (by omega) (by omega) (dgI_S hd (hdx.trans (congrArg (dgI (dgX T n fk v) d) (show x = 4 by omega)))) _ _ (by omega) (by omega) _ _ hP hD hS ls (lv_sub hl [1, 2, 0] rfl)
                  · have nc9 := (not_congr (nI_ltI (a := 3) (b := x) (by omega) (by omega))).mp c9
                    refine lv_lload_n hx hb dX9_digest_53 rfl (lv_at hl 1 rfl) ?_
                    refine lv_ldc2 (v := 31) hx hb hown (bw12 (w := Cond.constantLong RX9 315 (31)) hts 13 rfl) dX9_digest_54 ?_
                    refine lv_lmul hx hb dX9_digest_57 ?_
                    refine lv_aload_n hx hb dX9_digest_58 rfl (lv_at hl 0 rfl) ?_
                    refine lv_iload_n hx hb dX9_digest_59 rfl (lv_at hl 2 rfl) ?_
                    refine lv_iload hx hb dX9_digest_60 (lv_at hl 3 rfl) ?_
                    refine ly_v (As := [.int (nI v), .int (nI x)]) (rest := [.long (dx * 31)]) hx hb hml hown hts (d_ofVariable (l := l) (G := G) (k := k) (q := q) (n := n) (fk := fk) (fs := fs) (fa := fa) (fb := fb) (T := T) (T2 := T2) (Y := Y) (Y2 := Y2) (r := rn) (P2 := P2) (v := v) (w := x) hn (by omega) (by omega)) 2 (sxGV (bi12 (w := Cond.methodLink RX9 320 yX9_ofVariable) 52 rfl) (bi12 (w := Cond.instanceMethod yX9_ofVariable) 53 rfl) (bi12 (w := Cond.selects RX9 yX9_ofVariable yX9_ofVariable) 54 rfl) (bi1 (w := Cond.initialized RX9) 58 rfl) (bi11 (w := Cond.code yX9_ofVariable cX9_ofVariable 3 (some .int)) 22 rfl)) rfl (by decide +kernel) ⟨Nat.le_of_ble_eq_true rfl, Nat.le_of_ble_eq_true rfl⟩ hK hP hD hS hA hE [0] [] rfl rfl (by show List.Perm _ (List.range 1); decide) 0 0 rfl rfl rfl rfl hl rfl (Nat.le_of_ble_eq_true rfl) ⟨by show _ ≤ 0; omega, by show _ ≤ 0; omega⟩ dX9_digest_62 (fun B1 v1 hp1 H locs hP hD hS => ?_)
                    obtain ⟨rfl, rfl⟩ := hp1
                    show W p l e _ s m args below meth c H locs _ _ _ (F0 m 65 ls [.int (dgVar T n fk (nI v) (nI x)), .long (dx * 31)])
                    have hP : va_P G.1 vwCl (lxF [mlW G q ((fk, fs, fa, fb, 8, n), T, Y, rn, P2, T2, Y2)]) H := hP
                    have hD : va_D A (lxF [mlW G q ((fk, fs, fa, fb, 8, n), T, Y, rn, P2, T2, Y2)]) := hD
                    refine lv_i2l (v := (dgVar T n fk (nI v) (nI x)).toInt64) hx hb dX9_digest_65 rfl ?_
                    refine lv_ladd hx hb dX9_digest_66 ?_
                    refine lv_lstore_n (lv' := [(1, .long ((dx * 31) + ((dgVar T n fk (nI v) (nI x)).toInt64))), (0, .ref (q 0)), (3, .int (nI v)), (4, .int (nI x))]) hx hb dX9_digest_67 rfl hl (by decide) rfl (fun ls hl => ?_)
                    refine lv_iinc (v := nI (x + 1)) (lv' := [(4, .int (nI (x + 1))), (1, .long ((dx * 31) + ((dgVar T n fk (nI v) (nI x)).toInt64))), (0, .ref (q 0)), (3, .int (nI v))]) hx hb dX9_digest_68 hl (k := 3) rfl (nI_1 x) (by decide) rfl (fun ls hl => ?_)
                    refine lv_goto (tgt := 47) hx hb dX9_digest_71 (by decide) ?_
                    exact ih8 (x + 1) ((dx * 31) + ((dgVar T n fk (nI v) (nI x)).toInt64)) (by omega) (by omega) (dgI_S hdx rfl) _ _ (by omega) (by omega) _ _ hP hD hS ls (lv_sub hl [2, 1, 3, 0] rfl)
              exact LP47_8 5 0 d (by omega) (Nat.zero_le _) (rfl) _ _ (by omega) (by omega) _ _ hP hD hS ls (lv_sub hl [1, 2, 3, 0] rfl)
        exact LP33_3 (8 + 1) 0 d (by omega) (Nat.zero_le _) (dgI_0 hd (by omega)) _ _ (by omega) (by omega) _ _ hP hD hS ls (lv_sub hl [1, 2, 0] rfl)
      · have nc2 := (not_congr (nI_ltI (a := 6) (b := w) (by omega) (by omega))).mp c2
        refine lv_lload_n hx hb dX9_digest_12 rfl (lv_at hl 1 rfl) ?_
        refine lv_ldc2 (v := 31) hx hb hown (bw12 (w := Cond.constantLong RX9 315 (31)) hts 13 rfl) dX9_digest_13 ?_
        refine lv_lmul hx hb dX9_digest_16 ?_
        refine lv_aload_n hx hb dX9_digest_17 rfl (lv_at hl 0 rfl) ?_
        refine lv_iload_n hx hb dX9_digest_18 rfl (lv_at hl 2 rfl) ?_
        refine ly_v (As := [.int (nI w)]) (rest := [.long (d * 31)]) hx hb hml hown hts (d_many (l := l) (G := G) (k := k) (q := q) (n := n) (fk := fk) (fs := fs) (fa := fa) (fb := fb) (T := T) (T2 := T2) (Y := Y) (Y2 := Y2) (r := rn) (P2 := P2) (w := w) hn (by omega)) 1 (sxGV (bi12 (w := Cond.methodLink RX9 317 yX9_many) 49 rfl) (bi12 (w := Cond.instanceMethod yX9_many) 50 rfl) (bi12 (w := Cond.selects RX9 yX9_many yX9_many) 51 rfl) (bi1 (w := Cond.initialized RX9) 58 rfl) (bi11 (w := Cond.code yX9_many cX9_many 2 (some .int)) 56 rfl)) rfl (by decide +kernel) ⟨Nat.le_of_ble_eq_true rfl, Nat.le_of_ble_eq_true rfl⟩ hK hP hD hS hA hE [0] [] rfl rfl (by show List.Perm _ (List.range 1); decide) 0 0 rfl rfl rfl rfl hl rfl (Nat.le_of_ble_eq_true rfl) ⟨by show _ ≤ 0; omega, by show _ ≤ 0; omega⟩ dX9_digest_19 (fun B1 v1 hp1 H locs hP hD hS => ?_)
        obtain ⟨rfl, rfl⟩ := hp1
        show W p l e _ s m args below meth c H locs _ _ _ (F0 m 22 ls [.int (dgMany T n (nI w)), .long (d * 31)])
        have hP : va_P G.1 vwCl (lxF [mlW G q ((fk, fs, fa, fb, 8, n), T, Y, rn, P2, T2, Y2)]) H := hP
        have hD : va_D A (lxF [mlW G q ((fk, fs, fa, fb, 8, n), T, Y, rn, P2, T2, Y2)]) := hD
        refine lv_i2l (v := (dgMany T n (nI w)).toInt64) hx hb dX9_digest_22 rfl ?_
        refine lv_ladd hx hb dX9_digest_23 ?_
        refine lv_lstore_n (lv' := [(1, .long ((d * 31) + ((dgMany T n (nI w)).toInt64))), (0, .ref (q 0)), (3, .int (nI w))]) hx hb dX9_digest_24 rfl hl (by decide) rfl (fun ls hl => ?_)
        refine lv_iinc (v := nI (w + 1)) (lv' := [(3, .int (nI (w + 1))), (1, .long ((d * 31) + ((dgMany T n (nI w)).toInt64))), (0, .ref (q 0))]) hx hb dX9_digest_25 hl (k := 2) rfl (nI_1 w) (by decide) rfl (fun ls hl => ?_)
        refine lv_goto (tgt := 6) hx hb dX9_digest_28 (by decide) ?_
        exact ih1 (w + 1) ((d * 31) + ((dgMany T n (nI w)).toInt64)) (by omega) (by omega) (dgI_S hd rfl) _ _ (by omega) (by omega) _ _ hP hD hS ls (lv_sub hl [2, 1, 0] rfl)
  exact LP6_1 (7 + 1) 0 58135 (by omega) (Nat.zero_le _) (rfl) _ _ (by omega) (by omega) _ _ hP hD hS ls (lv_sub hl [2, 1, 0] rfl)
