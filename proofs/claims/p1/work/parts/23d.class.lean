set_option maxHeartbeats 8000000 in
set_option maxRecDepth 100000 in
theorem k_mean0 (l : Launch) (G : sxG) (k : pxC) (os : Nat) (t0 : Nat) (t1 : Nat) (t2 : Nat) (zs : Nat → Int32) (zn : Nat → Int32) (zl : Nat → Int32)  : pxM l yX7_meanOfReads (Cond.code yX7_meanOfReads cX7_meanOfReads 5 (some .double) :: bwA) 2 41 0 0 G k [(os, .inr (12, [.ref t0, .ref t1, .ref t2, .int 0])), (t0, .inl (G.2.1, 60, .inl zs)), (t1, .inl (G.2.1, 60, .inl zn)), (t2, .inl (G.2.1, 60, .inl zl))] [.ref os] (fun u : Unit => some (.double 0)) (fun u : Unit => ([] : va_W)) := by
  refine pxM.of (cc := cX7_meanOfReads) (maxL := 5) (by decide) rfl (Nat.le_of_ble_eq_true rfl) ?_
  intro p e s m args below meth c ⟨hx, hb, hr, hml, hown, hlk, hts, hK⟩ hin A hA hP hD hS hE ls hl
  have hl : lv_has ls 5 [(0, .ref os)] := hl
  refine lv_iconst (v := 0) hx hb dX7_meanOfReads_0 (by decide) ?_
  refine lv_istore_n (lv' := [(1, .int 0), (0, .ref os)]) hx hb dX7_meanOfReads_1 rfl hl (by decide) rfl (fun ls hl => ?_)
  refine lv_iconst (v := 0) hx hb dX7_meanOfReads_2 (by decide) ?_
  refine lv_istore_n (lv' := [(2, .int 0), (1, .int 0), (0, .ref os)]) hx hb dX7_meanOfReads_3 rfl hl (by decide) rfl (fun ls hl => ?_)
  refine lv_aload_n hx hb dX7_meanOfReads_4 rfl (lv_at hl 2 rfl) ?_
  refine sx_v (As := []) (rest := []) hx hb hml hown hts (c_X7_countKept l G os t0 t1 t2 0 ) 0 (gAV idC (ahC (bi9 (w := Cond.methodLink RX7 35 yX7_countKept) 34 rfl)) (ahC (bi9 (w := Cond.instanceMethod yX7_countKept) 35 rfl)) (ahC (bi9 (w := Cond.selects RX7 yX7_countKept yX7_countKept) 36 rfl)) (ahC (bi6 (w := Cond.initialized RX7) 36 rfl)) (ahC (bi9 (w := Cond.code yX7_countKept cX7_countKept 1 (some .int)) 29 rfl))) rfl (by decide +kernel) ⟨(Nat.le_of_ble_eq_true rfl), (Nat.le_of_ble_eq_true rfl)⟩ hK hP [0] rfl 0 rfl rfl rfl hl rfl (Nat.le_of_ble_eq_true rfl) ⟨(Nat.le_of_ble_eq_true rfl), (Nat.le_of_ble_eq_true rfl)⟩ dX7_meanOfReads_5 (fun r er => ?_)
  subst er
  rw [show (s_X7_countKept 0 : Int32) = 0 from fr_countKept]
  refine lv_istore_n (lv' := [(3, .int 0), (2, .int 0), (1, .int 0), (0, .ref os)]) hx hb dX7_meanOfReads_8 rfl hl (by decide) rfl (fun ls hl => ?_)
  refine lv_iconst (v := 0) hx hb dX7_meanOfReads_9 (by decide) ?_
  refine lv_istore (lv' := [(4, .int 0), (3, .int 0), (2, .int 0), (1, .int 0), (0, .ref os)]) hx hb dX7_meanOfReads_10 hl (by decide) rfl (fun ls hl => ?_)
  refine lv_iload hx hb dX7_meanOfReads_12 (lv_at hl 0 rfl) ?_
  refine lv_iload_n hx hb dX7_meanOfReads_14 rfl (lv_at hl 1 rfl) ?_
  refine lv_icmp_ge (tgt := 47) hx hb dX7_meanOfReads_15 (by decide) (fun c1 => ?_) (fun c1 => absurd c1 (by decide))
  refine lv_iload_n hx hb dX7_meanOfReads_47 rfl (lv_at hl 2 rfl) ?_
  refine lv_if_ne (tgt := 55) hx hb dX7_meanOfReads_48 (by decide) (fun c2 => absurd c2 (by decide)) (fun c2 => ?_)
  refine lv_dconst0 hx hb dX7_meanOfReads_51 ?_
  refine lv_goto (tgt := 60) hx hb dX7_meanOfReads_52 (by decide) ?_
  refine W.widen (k := 0) (n := 0) (Nat.le_of_ble_eq_true rfl) (Nat.le_of_ble_eq_true rfl) ?_
  exact px_rd () hx hb hr hlk (hP.sub [] rfl) (hD.sub [] (by decide) rfl) hS rfl dX7_meanOfReads_60

set_option maxHeartbeats 8000000 in
set_option maxRecDepth 100000 in
theorem k_c_meanRead (l : Launch) (G : sxG) (k : pxC) (z : Nat) (h : Nat) (r : Nat) (x : Nat) (g : Nat) (rr : Nat) (xx : Nat) (ow : Nat) (os : Nat) (on : Nat) (v1 : Nat) (v2 : Nat) (v3 : Nat) (v4 : Nat) (t0 : Nat) (t1 : Nat) (t2 : Nat) (zs : Nat → Int32) (zn : Nat → Int32) (zl : Nat → Int32)  : pxM l yX9_meanRead (Cond.code yX9_meanRead cX9_meanRead 1 (some .double) :: bwA) 3 65 0 0 G k [(z, .inr (14, [.ref h, .ref r, .ref x, .ref g, .ref rr, .ref xx, .int 0])), (x, .inr (11, [.ref h, .ref ow, .ref os, .ref on, .ref v1, .ref v2, .ref v3, .ref v4, .int (-1), .int 0, .int 0, .int 0, .int 0, .int 0, .int 0, .int (-1), .int 0])), (os, .inr (12, [.ref t0, .ref t1, .ref t2, .int 0])), (t0, .inl (G.2.1, 60, .inl zs)), (t1, .inl (G.2.1, 60, .inl zn)), (t2, .inl (G.2.1, 60, .inl zl))] [.ref z] (fun u : Unit => some (.double 0)) (fun u : Unit => ([] : va_W)) := by
  refine pxM.of (cc := cX9_meanRead) (maxL := 1) (by decide) rfl (Nat.le_of_ble_eq_true rfl) ?_
  intro p e s m args below meth c ⟨hx, hb, hr, hml, hown, hlk, hts, hK⟩ hin A hA hP hD hS hE ls hl
  have hl : lv_has ls 1 [(0, .ref z)] := hl
  refine lv_aload_n hx hb dX9_meanRead_0 rfl (lv_at hl 0 rfl) ?_
  refine va_get (D := G.1) (ci := 14) (v := .ref x) (C := RX9) (T := TX9) (N := 7) hx hb hts oaX9 hown hK.1 hP 0 rfl rfl 2 (by decide) (aw (w := Cond.fieldLink RX9 34 "DropflagMill" "latest" "LDropflagMill$Run;") hts (ahC (bi9 (w := Cond.fieldLink RX9 34 "DropflagMill" "latest" "LDropflagMill$Run;") 52 rfl))) (fun _ h9 => h9) rfl dX9_meanRead_1 ?_
  refine va_get (D := G.1) (ci := 11) (v := .ref os) (C := RX6) (T := TX6) (N := 17) hx hb hts oaX6 hown hK.1 hP 1 rfl rfl 2 (by decide) (aw (w := Cond.fieldLink RX9 235 "DropflagMill$Run" "story" "LDropflagMill$Story;") hts (ahC (bi11 (w := Cond.fieldLink RX9 235 "DropflagMill$Run" "story" "LDropflagMill$Story;") 36 rfl))) (fun _ h9 => h9) rfl dX9_meanRead_4 ?_
  refine px_v (As := []) (rest := []) (wr := [(z, .inr (14, [.ref h, .ref r, .ref x, .ref g, .ref rr, .ref xx, .int 0])), (x, .inr (11, [.ref h, .ref ow, .ref os, .ref on, .ref v1, .ref v2, .ref v3, .ref v4, .int (-1), .int 0, .int 0, .int 0, .int 0, .int 0, .int 0, .int (-1), .int 0]))]) hx hb hml hown hts (k_mean0 l G k os t0 t1 t2 zs zn zl ) 0 (gAV idA (ahC (bi12 (w := Cond.methodLink RX9 287 yX7_meanOfReads) 3 rfl)) (ahC (bi12 (w := Cond.instanceMethod yX7_meanOfReads) 4 rfl)) (ahC (bi12 (w := Cond.selects RX7 yX7_meanOfReads yX7_meanOfReads) 5 rfl)) (ahC (bi6 (w := Cond.initialized RX7) 36 rfl)) (ahC (bi9 (w := Cond.code yX7_meanOfReads cX7_meanOfReads 5 (some .double)) 41 rfl))) rfl (by decide +kernel) ⟨(Nat.le_of_ble_eq_true rfl), (Nat.le_of_ble_eq_true rfl)⟩ hK hP hD hS hA hE [2, 3, 4, 5] [0, 1] rfl (by decide) rfl (by decide) (by decide) 0 rfl rfl rfl hl rfl (Nat.le_of_ble_eq_true rfl) ⟨(Nat.le_of_ble_eq_true rfl), (Nat.le_of_ble_eq_true rfl)⟩ dX9_meanRead_7 (fun u H locs hP hD hS => ?_)
  have hP : va_P G.1 vwCl [(z, .inr (14, [.ref h, .ref r, .ref x, .ref g, .ref rr, .ref xx, .int 0])), (x, .inr (11, [.ref h, .ref ow, .ref os, .ref on, .ref v1, .ref v2, .ref v3, .ref v4, .int (-1), .int 0, .int 0, .int 0, .int 0, .int 0, .int 0, .int (-1), .int 0]))] _ := hP
  have hD : va_D A [(z, .inr (14, [.ref h, .ref r, .ref x, .ref g, .ref rr, .ref xx, .int 0])), (x, .inr (11, [.ref h, .ref ow, .ref os, .ref on, .ref v1, .ref v2, .ref v3, .ref v4, .int (-1), .int 0, .int 0, .int 0, .int 0, .int 0, .int 0, .int (-1), .int 0]))] := hD
  refine W.eq (g2 := F0 m _ ls [.double 0]) rfl ?_
  refine W.widen (k := 0) (n := 0) (Nat.le_of_ble_eq_true rfl) (Nat.le_of_ble_eq_true rfl) ?_
  exact px_rd () hx hb hr hlk (hP.sub [] rfl) (hD.sub [] (by decide) rfl) hS rfl dX9_meanRead_10

set_option maxHeartbeats 8000000 in
set_option maxRecDepth 100000 in
theorem k_c_loans (l : Launch) (G : sxG) (k : pxC) (z : Nat) (h : Nat) (r : Nat) (x : Nat) (g : Nat) (rr : Nat) (xx : Nat) (od : Nat) (ow : Nat) (ol : Nat) (oq : Nat) (r1 : Nat) (r2 : Nat) (r3 : Nat) (r4 : Nat) (r5 : Nat) (r6 : Nat) (r7 : Nat) (l1 : Nat) (l2 : Nat) (l3 : Nat) (l4 : Nat) (m0 : Nat) (m1 : Nat) (m2 : Nat) (m3 : Nat) (d0 : Int64)  : pxM l yX9_withLoansAndFaults (Cond.code yX9_withLoansAndFaults cX9_withLoansAndFaults 7 (some .long) :: bwA) 0 12 0 0 G k [(z, .inr (14, [.ref h, .ref r, .ref x, .ref g, .ref rr, .ref xx, .int 0])), (r, .inr (5, [.ref h, .ref od, .ref ow, .ref ol, .ref oq, .ref r1, .ref r2, .ref r3, .ref r4, .ref r5, .ref r6, .ref r7, .int 0])), (ol, .inr (8, [.ref h, .ref l1, .ref l2, .ref l3, .ref l4, .int 0])), (oq, .inr (7, [.ref m0, .ref m1, .ref m2, .ref m3, .int 0]))] [.ref z, .long d0] (fun u : Unit => some (.long d0)) (fun u : Unit => ([(z, .inr (14, [.ref h, .ref r, .ref x, .ref g, .ref rr, .ref xx, .int 0])), (r, .inr (5, [.ref h, .ref od, .ref ow, .ref ol, .ref oq, .ref r1, .ref r2, .ref r3, .ref r4, .ref r5, .ref r6, .ref r7, .int 0])), (ol, .inr (8, [.ref h, .ref l1, .ref l2, .ref l3, .ref l4, .int 0])), (oq, .inr (7, [.ref m0, .ref m1, .ref m2, .ref m3, .int 0]))] : va_W)) := by
  refine pxM.of (cc := cX9_withLoansAndFaults) (maxL := 7) (by decide) rfl (Nat.le_of_ble_eq_true rfl) ?_
  intro p e s m args below meth c ⟨hx, hb, hr, hml, hown, hlk, hts, hK⟩ hin A hA hP hD hS hE ls hl
  have hl : lv_has ls 7 [(0, .ref z), (1, .long d0)] := hl
  refine lv_lload_n hx hb dX9_withLoansAndFaults_0 rfl (lv_at hl 1 rfl) ?_
  refine lv_lstore_n (lv' := [(3, .long d0), (0, .ref z), (1, .long d0)]) hx hb dX9_withLoansAndFaults_1 rfl hl (by decide) rfl (fun ls hl => ?_)
  refine lv_iconst (v := 0) hx hb dX9_withLoansAndFaults_2 (by decide) ?_
  refine lv_istore (lv' := [(5, .int 0), (3, .long d0), (0, .ref z), (1, .long d0)]) hx hb dX9_withLoansAndFaults_3 hl (by decide) rfl (fun ls hl => ?_)
  refine lv_iload hx hb dX9_withLoansAndFaults_5 (lv_at hl 0 rfl) ?_
  refine lv_aload_n hx hb dX9_withLoansAndFaults_7 rfl (lv_at hl 2 rfl) ?_
  refine va_get (D := G.1) (ci := 14) (v := .ref r) (C := RX9) (T := TX9) (N := 7) hx hb hts oaX9 hown hK.1 hP 0 rfl rfl 1 (by decide) (aw (w := Cond.fieldLink RX9 21 "DropflagMill" "check" "LDropflagMill$Check;") hts (ahC (bi9 (w := Cond.fieldLink RX9 21 "DropflagMill" "check" "LDropflagMill$Check;") 48 rfl))) (fun _ h9 => h9) rfl dX9_withLoansAndFaults_8 ?_
  refine va_get (D := G.1) (ci := 5) (v := .ref ol) (C := RX0) (T := TX0) (N := 13) hx hb hts oaX0 hown hK.1 hP 1 rfl rfl 3 (by decide) (aw (w := Cond.fieldLink RX9 164 "DropflagMill$Check" "loans" "LDropflagMill$Loans;") hts (ahC (bi10 (w := Cond.fieldLink RX9 164 "DropflagMill$Check" "loans" "LDropflagMill$Loans;") 59 rfl))) (fun _ h9 => h9) rfl dX9_withLoansAndFaults_11 ?_
  refine va_get (D := G.1) (ci := 8) (v := .int 0) (C := RX3) (T := TX3) (N := 6) hx hb hts oaX3 hown hK.1 hP 2 rfl rfl 5 (by decide) (aw (w := Cond.fieldLink RX9 272 "DropflagMill$Loans" "count" "I") hts (ahC (bi11 (w := Cond.fieldLink RX9 272 "DropflagMill$Loans" "count" "I") 52 rfl))) (fun _ h9 => h9) rfl dX9_withLoansAndFaults_14 ?_
  refine lv_icmp_ge (tgt := 57) hx hb dX9_withLoansAndFaults_17 (by decide) (fun c1 => ?_) (fun c1 => absurd c1 (by decide))
  refine lv_iconst (v := 0) hx hb dX9_withLoansAndFaults_57 (by decide) ?_
  refine lv_istore (lv' := [(5, .int 0), (3, .long d0), (0, .ref z), (1, .long d0)]) hx hb dX9_withLoansAndFaults_58 hl (by decide) rfl (fun ls hl => ?_)
  refine lv_iload hx hb dX9_withLoansAndFaults_60 (lv_at hl 0 rfl) ?_
  refine lv_aload_n hx hb dX9_withLoansAndFaults_62 rfl (lv_at hl 2 rfl) ?_
  refine va_get (D := G.1) (ci := 14) (v := .ref r) (C := RX9) (T := TX9) (N := 7) hx hb hts oaX9 hown hK.1 hP 0 rfl rfl 1 (by decide) (aw (w := Cond.fieldLink RX9 21 "DropflagMill" "check" "LDropflagMill$Check;") hts (ahC (bi9 (w := Cond.fieldLink RX9 21 "DropflagMill" "check" "LDropflagMill$Check;") 48 rfl))) (fun _ h9 => h9) rfl dX9_withLoansAndFaults_63 ?_
  refine va_get (D := G.1) (ci := 5) (v := .ref oq) (C := RX0) (T := TX0) (N := 13) hx hb hts oaX0 hown hK.1 hP 1 rfl rfl 4 (by decide) (aw (w := Cond.fieldLink RX9 187 "DropflagMill$Check" "faults" "LDropflagMill$Faults;") hts (ahC (bi11 (w := Cond.fieldLink RX9 187 "DropflagMill$Check" "faults" "LDropflagMill$Faults;") 10 rfl))) (fun _ h9 => h9) rfl dX9_withLoansAndFaults_66 ?_
  refine va_get (D := G.1) (ci := 7) (v := .int 0) (C := RX2) (T := TX2) (N := 5) hx hb hts oaX2 hown hK.1 hP 3 rfl rfl 4 (by decide) (aw (w := Cond.fieldLink RX9 221 "DropflagMill$Faults" "count" "I") hts (ahC (bi11 (w := Cond.fieldLink RX9 221 "DropflagMill$Faults" "count" "I") 28 rfl))) (fun _ h9 => h9) rfl dX9_withLoansAndFaults_69 ?_
  refine lv_icmp_ge (tgt := 112) hx hb dX9_withLoansAndFaults_72 (by decide) (fun c2 => ?_) (fun c2 => absurd c2 (by decide))
  refine lv_lload_n hx hb dX9_withLoansAndFaults_112 rfl (lv_at hl 1 rfl) ?_
  refine W.widen (k := 0) (n := 0) (Nat.le_of_ble_eq_true rfl) (Nat.le_of_ble_eq_true rfl) ?_
  exact px_rl () hx hb hr hlk (hP.sub [0, 1, 2, 3] rfl) (hD.sub [0, 1, 2, 3] (by decide) rfl) hS rfl dX9_withLoansAndFaults_113

set_option maxHeartbeats 8000000 in
set_option maxRecDepth 100000 in
theorem k_c_latest (l : Launch) (G : sxG) (k : pxC) (z : Nat) (h : Nat) (r : Nat) (x : Nat) (g : Nat) (rr : Nat) (xx : Nat) (ow : Nat) (os : Nat) (on : Nat) (v1 : Nat) (v2 : Nat) (v3 : Nat) (v4 : Nat) (t0 : Nat) (t1 : Nat) (t2 : Nat) (u0 : Nat) (u1 : Nat) (u2 : Nat) (u3 : Nat)  : pxM l yX9_withLatestRun (Cond.code yX9_withLatestRun cX9_withLatestRun 8 (some .long) :: bwA) 2 41 0 0 G k [(z, .inr (14, [.ref h, .ref r, .ref x, .ref g, .ref rr, .ref xx, .int 0])), (x, .inr (11, [.ref h, .ref ow, .ref os, .ref on, .ref v1, .ref v2, .ref v3, .ref v4, .int (-1), .int 0, .int 0, .int 0, .int 0, .int 0, .int 0, .int (-1), .int 0])), (os, .inr (12, [.ref t0, .ref t1, .ref t2, .int 0])), (on, .inr (9, [.ref u0, .ref u1, .ref u2, .ref u3, .int 0, .int 0]))] [.ref z, .long 1599445821342985] (fun u : Unit => some (.long 3461236070008278473)) (fun u : Unit => ([(z, .inr (14, [.ref h, .ref r, .ref x, .ref g, .ref rr, .ref xx, .int 0])), (x, .inr (11, [.ref h, .ref ow, .ref os, .ref on, .ref v1, .ref v2, .ref v3, .ref v4, .int (-1), .int 0, .int 0, .int 0, .int 0, .int 0, .int 0, .int (-1), .int 0])), (os, .inr (12, [.ref t0, .ref t1, .ref t2, .int 0])), (on, .inr (9, [.ref u0, .ref u1, .ref u2, .ref u3, .int 0, .int 0]))] : va_W)) := by
  refine pxM.of (cc := cX9_withLatestRun) (maxL := 8) (by decide) rfl (Nat.le_of_ble_eq_true rfl) ?_
  intro p e s m args below meth c ⟨hx, hb, hr, hml, hown, hlk, hts, hK⟩ hin A hA hP hD hS hE ls hl
  have hl : lv_has ls 8 [(0, .ref z), (1, .long 1599445821342985)] := hl
  refine lv_lload_n hx hb dX9_withLatestRun_0 rfl (lv_at hl 1 rfl) ?_
  refine lv_lstore_n (lv' := [(3, .long 1599445821342985), (0, .ref z), (1, .long 1599445821342985)]) hx hb dX9_withLatestRun_1 rfl hl (by decide) rfl (fun ls hl => ?_)
  refine lv_iconst (v := 0) hx hb dX9_withLatestRun_2 (by decide) ?_
  refine lv_istore (lv' := [(5, .int 0), (3, .long 1599445821342985), (0, .ref z), (1, .long 1599445821342985)]) hx hb dX9_withLatestRun_3 hl (by decide) rfl (fun ls hl => ?_)
  refine lv_iload hx hb dX9_withLatestRun_5 (lv_at hl 0 rfl) ?_
  refine lv_bipush (v := 9) hx hb dX9_withLatestRun_7 (by decide) ?_
  refine lv_icmp_gt (tgt := 32) hx hb dX9_withLatestRun_9 (by decide) (fun c1 => absurd c1 (by decide)) (fun c1 => ?_)
  refine lv_lload_n hx hb dX9_withLatestRun_12 rfl (lv_at hl 1 rfl) ?_
  refine lv_ldc2 (v := 31) hx hb hown (aw (w := Cond.constantLong RX9 315 (31)) hts (ahC (bi12 (w := Cond.constantLong RX9 315 (31)) 19 rfl))) dX9_withLatestRun_13 ?_
  refine lv_lmul hx hb dX9_withLatestRun_16 ?_
  rw [show ((1599445821342985 : Int64) * 31) = 49582820461632535 from by decide]
  refine lv_aload_n hx hb dX9_withLatestRun_17 rfl (lv_at hl 2 rfl) ?_
  refine lv_iload hx hb dX9_withLatestRun_18 (lv_at hl 0 rfl) ?_
  refine sx_v (As := [.int 0]) (rest := [.long 49582820461632535]) hx hb hml hown hts (c_X9_ofRun l G z h r x g rr xx 0 ow os on v1 v2 v3 v4 (-1) 0 0 0 0 0 0 (-1) 0 t0 t1 t2 0 u0 u1 u2 u3 0 0 0 (by decide)) 1 (gAV idC (ahC (bi12 (w := Cond.methodLink RX9 362 yX9_ofRun) 46 rfl)) (ahC (bi12 (w := Cond.instanceMethod yX9_ofRun) 47 rfl)) (ahC (bi12 (w := Cond.selects RX9 yX9_ofRun yX9_ofRun) 48 rfl)) (ahC (bi1 (w := Cond.initialized RX9) 58 rfl)) (ahC (bi11 (w := Cond.code yX9_ofRun cX9_ofRun 2 (some .int)) 34 rfl))) rfl (by decide +kernel) ⟨(Nat.le_of_ble_eq_true rfl), (Nat.le_of_ble_eq_true rfl)⟩ hK hP [0, 1, 2, 3] rfl 0 rfl rfl rfl hl rfl (Nat.le_of_ble_eq_true rfl) ⟨(Nat.le_of_ble_eq_true rfl), (Nat.le_of_ble_eq_true rfl)⟩ dX9_withLatestRun_20 (fun r er => ?_)
  subst er
  rw [show (s_X9_ofRun 0 0 0 0 0 (-1) 0 0 0 0 : Int32) = 0 from fr_ofRun _]
  refine lv_i2l (v := 0) hx hb dX9_withLatestRun_23 (by decide) ?_
  refine lv_ladd hx hb dX9_withLatestRun_24 ?_
  rw [show ((49582820461632535 : Int64) + 0) = 49582820461632535 from by decide]
  refine lv_lstore_n (lv' := [(3, .long 49582820461632535), (5, .int 0), (0, .ref z), (1, .long 1599445821342985)]) hx hb dX9_withLatestRun_25 rfl hl (by decide) rfl (fun ls hl => ?_)
  refine lv_iinc (v := 1) (lv' := [(5, .int 1), (3, .long 49582820461632535), (0, .ref z), (1, .long 1599445821342985)]) hx hb dX9_withLatestRun_26 hl (k := 1) rfl (by decide) (by decide) rfl (fun ls hl => ?_)
  refine lv_goto (tgt := 5) hx hb dX9_withLatestRun_29 (by decide) ?_
  refine lv_iload hx hb dX9_withLatestRun_5 (lv_at hl 0 rfl) ?_
  refine lv_bipush (v := 9) hx hb dX9_withLatestRun_7 (by decide) ?_
  refine lv_icmp_gt (tgt := 32) hx hb dX9_withLatestRun_9 (by decide) (fun c2 => absurd c2 (by decide)) (fun c2 => ?_)
  refine lv_lload_n hx hb dX9_withLatestRun_12 rfl (lv_at hl 1 rfl) ?_
  refine lv_ldc2 (v := 31) hx hb hown (aw (w := Cond.constantLong RX9 315 (31)) hts (ahC (bi12 (w := Cond.constantLong RX9 315 (31)) 19 rfl))) dX9_withLatestRun_13 ?_
  refine lv_lmul hx hb dX9_withLatestRun_16 ?_
  rw [show ((49582820461632535 : Int64) * 31) = 1537067434310608585 from by decide]
  refine lv_aload_n hx hb dX9_withLatestRun_17 rfl (lv_at hl 2 rfl) ?_
  refine lv_iload hx hb dX9_withLatestRun_18 (lv_at hl 0 rfl) ?_
  refine sx_v (As := [.int 1]) (rest := [.long 1537067434310608585]) hx hb hml hown hts (c_X9_ofRun l G z h r x g rr xx 0 ow os on v1 v2 v3 v4 (-1) 0 0 0 0 0 0 (-1) 0 t0 t1 t2 0 u0 u1 u2 u3 0 0 1 (by decide)) 1 (gAV idC (ahC (bi12 (w := Cond.methodLink RX9 362 yX9_ofRun) 46 rfl)) (ahC (bi12 (w := Cond.instanceMethod yX9_ofRun) 47 rfl)) (ahC (bi12 (w := Cond.selects RX9 yX9_ofRun yX9_ofRun) 48 rfl)) (ahC (bi1 (w := Cond.initialized RX9) 58 rfl)) (ahC (bi11 (w := Cond.code yX9_ofRun cX9_ofRun 2 (some .int)) 34 rfl))) rfl (by decide +kernel) ⟨(Nat.le_of_ble_eq_true rfl), (Nat.le_of_ble_eq_true rfl)⟩ hK hP [0, 1, 2, 3] rfl 0 rfl rfl rfl hl rfl (Nat.le_of_ble_eq_true rfl) ⟨(Nat.le_of_ble_eq_true rfl), (Nat.le_of_ble_eq_true rfl)⟩ dX9_withLatestRun_20 (fun r er => ?_)
  subst er
  rw [show (s_X9_ofRun 0 0 0 0 0 (-1) 0 0 0 1 : Int32) = 0 from fr_ofRun _]
  refine lv_i2l (v := 0) hx hb dX9_withLatestRun_23 (by decide) ?_
  refine lv_ladd hx hb dX9_withLatestRun_24 ?_
  rw [show ((1537067434310608585 : Int64) + 0) = 1537067434310608585 from by decide]
  refine lv_lstore_n (lv' := [(3, .long 1537067434310608585), (5, .int 1), (0, .ref z), (1, .long 1599445821342985)]) hx hb dX9_withLatestRun_25 rfl hl (by decide) rfl (fun ls hl => ?_)
  refine lv_iinc (v := 2) (lv' := [(5, .int 2), (3, .long 1537067434310608585), (0, .ref z), (1, .long 1599445821342985)]) hx hb dX9_withLatestRun_26 hl (k := 1) rfl (by decide) (by decide) rfl (fun ls hl => ?_)
  refine lv_goto (tgt := 5) hx hb dX9_withLatestRun_29 (by decide) ?_
  refine lv_iload hx hb dX9_withLatestRun_5 (lv_at hl 0 rfl) ?_
  refine lv_bipush (v := 9) hx hb dX9_withLatestRun_7 (by decide) ?_
  refine lv_icmp_gt (tgt := 32) hx hb dX9_withLatestRun_9 (by decide) (fun c3 => absurd c3 (by decide)) (fun c3 => ?_)
  refine lv_lload_n hx hb dX9_withLatestRun_12 rfl (lv_at hl 1 rfl) ?_
  refine lv_ldc2 (v := 31) hx hb hown (aw (w := Cond.constantLong RX9 315 (31)) hts (ahC (bi12 (w := Cond.constantLong RX9 315 (31)) 19 rfl))) dX9_withLatestRun_13 ?_
  refine lv_lmul hx hb dX9_withLatestRun_16 ?_
  rw [show ((1537067434310608585 : Int64) * 31) = (-7691141757499788713) from by decide]
  refine lv_aload_n hx hb dX9_withLatestRun_17 rfl (lv_at hl 2 rfl) ?_
  refine lv_iload hx hb dX9_withLatestRun_18 (lv_at hl 0 rfl) ?_
  refine sx_v (As := [.int 2]) (rest := [.long (-7691141757499788713)]) hx hb hml hown hts (c_X9_ofRun l G z h r x g rr xx 0 ow os on v1 v2 v3 v4 (-1) 0 0 0 0 0 0 (-1) 0 t0 t1 t2 0 u0 u1 u2 u3 0 0 2 (by decide)) 1 (gAV idC (ahC (bi12 (w := Cond.methodLink RX9 362 yX9_ofRun) 46 rfl)) (ahC (bi12 (w := Cond.instanceMethod yX9_ofRun) 47 rfl)) (ahC (bi12 (w := Cond.selects RX9 yX9_ofRun yX9_ofRun) 48 rfl)) (ahC (bi1 (w := Cond.initialized RX9) 58 rfl)) (ahC (bi11 (w := Cond.code yX9_ofRun cX9_ofRun 2 (some .int)) 34 rfl))) rfl (by decide +kernel) ⟨(Nat.le_of_ble_eq_true rfl), (Nat.le_of_ble_eq_true rfl)⟩ hK hP [0, 1, 2, 3] rfl 0 rfl rfl rfl hl rfl (Nat.le_of_ble_eq_true rfl) ⟨(Nat.le_of_ble_eq_true rfl), (Nat.le_of_ble_eq_true rfl)⟩ dX9_withLatestRun_20 (fun r er => ?_)
  subst er
  rw [show (s_X9_ofRun 0 0 0 0 0 (-1) 0 0 0 2 : Int32) = 0 from fr_ofRun _]
  refine lv_i2l (v := 0) hx hb dX9_withLatestRun_23 (by decide) ?_
  refine lv_ladd hx hb dX9_withLatestRun_24 ?_
  rw [show (((-7691141757499788713) : Int64) + 0) = (-7691141757499788713) from by decide]
  refine lv_lstore_n (lv' := [(3, .long (-7691141757499788713)), (5, .int 2), (0, .ref z), (1, .long 1599445821342985)]) hx hb dX9_withLatestRun_25 rfl hl (by decide) rfl (fun ls hl => ?_)
  refine lv_iinc (v := 3) (lv' := [(5, .int 3), (3, .long (-7691141757499788713)), (0, .ref z), (1, .long 1599445821342985)]) hx hb dX9_withLatestRun_26 hl (k := 1) rfl (by decide) (by decide) rfl (fun ls hl => ?_)
  refine lv_goto (tgt := 5) hx hb dX9_withLatestRun_29 (by decide) ?_
  refine lv_iload hx hb dX9_withLatestRun_5 (lv_at hl 0 rfl) ?_
  refine lv_bipush (v := 9) hx hb dX9_withLatestRun_7 (by decide) ?_
  refine lv_icmp_gt (tgt := 32) hx hb dX9_withLatestRun_9 (by decide) (fun c4 => absurd c4 (by decide)) (fun c4 => ?_)
  refine lv_lload_n hx hb dX9_withLatestRun_12 rfl (lv_at hl 1 rfl) ?_
  refine lv_ldc2 (v := 31) hx hb hown (aw (w := Cond.constantLong RX9 315 (31)) hts (ahC (bi12 (w := Cond.constantLong RX9 315 (31)) 19 rfl))) dX9_withLatestRun_13 ?_
  refine lv_lmul hx hb dX9_withLatestRun_16 ?_
  rw [show (((-7691141757499788713) : Int64) * 31) = 1382278475730720905 from by decide]
  refine lv_aload_n hx hb dX9_withLatestRun_17 rfl (lv_at hl 2 rfl) ?_
  refine lv_iload hx hb dX9_withLatestRun_18 (lv_at hl 0 rfl) ?_
  refine sx_v (As := [.int 3]) (rest := [.long 1382278475730720905]) hx hb hml hown hts (c_X9_ofRun l G z h r x g rr xx 0 ow os on v1 v2 v3 v4 (-1) 0 0 0 0 0 0 (-1) 0 t0 t1 t2 0 u0 u1 u2 u3 0 0 3 (by decide)) 1 (gAV idC (ahC (bi12 (w := Cond.methodLink RX9 362 yX9_ofRun) 46 rfl)) (ahC (bi12 (w := Cond.instanceMethod yX9_ofRun) 47 rfl)) (ahC (bi12 (w := Cond.selects RX9 yX9_ofRun yX9_ofRun) 48 rfl)) (ahC (bi1 (w := Cond.initialized RX9) 58 rfl)) (ahC (bi11 (w := Cond.code yX9_ofRun cX9_ofRun 2 (some .int)) 34 rfl))) rfl (by decide +kernel) ⟨(Nat.le_of_ble_eq_true rfl), (Nat.le_of_ble_eq_true rfl)⟩ hK hP [0, 1, 2, 3] rfl 0 rfl rfl rfl hl rfl (Nat.le_of_ble_eq_true rfl) ⟨(Nat.le_of_ble_eq_true rfl), (Nat.le_of_ble_eq_true rfl)⟩ dX9_withLatestRun_20 (fun r er => ?_)
  subst er
  rw [show (s_X9_ofRun 0 0 0 0 0 (-1) 0 0 0 3 : Int32) = 0 from fr_ofRun _]
  refine lv_i2l (v := 0) hx hb dX9_withLatestRun_23 (by decide) ?_
  refine lv_ladd hx hb dX9_withLatestRun_24 ?_
  rw [show ((1382278475730720905 : Int64) + 0) = 1382278475730720905 from by decide]
  refine lv_lstore_n (lv' := [(3, .long 1382278475730720905), (5, .int 3), (0, .ref z), (1, .long 1599445821342985)]) hx hb dX9_withLatestRun_25 rfl hl (by decide) rfl (fun ls hl => ?_)
  refine lv_iinc (v := 4) (lv' := [(5, .int 4), (3, .long 1382278475730720905), (0, .ref z), (1, .long 1599445821342985)]) hx hb dX9_withLatestRun_26 hl (k := 1) rfl (by decide) (by decide) rfl (fun ls hl => ?_)
  refine lv_goto (tgt := 5) hx hb dX9_withLatestRun_29 (by decide) ?_
  refine lv_iload hx hb dX9_withLatestRun_5 (lv_at hl 0 rfl) ?_
  refine lv_bipush (v := 9) hx hb dX9_withLatestRun_7 (by decide) ?_
  refine lv_icmp_gt (tgt := 32) hx hb dX9_withLatestRun_9 (by decide) (fun c5 => absurd c5 (by decide)) (fun c5 => ?_)
  refine lv_lload_n hx hb dX9_withLatestRun_12 rfl (lv_at hl 1 rfl) ?_
  refine lv_ldc2 (v := 31) hx hb hown (aw (w := Cond.constantLong RX9 315 (31)) hts (ahC (bi12 (w := Cond.constantLong RX9 315 (31)) 19 rfl))) dX9_withLatestRun_13 ?_
  refine lv_lmul hx hb dX9_withLatestRun_16 ?_
  rw [show ((1382278475730720905 : Int64) * 31) = 5957144600233244823 from by decide]
  refine lv_aload_n hx hb dX9_withLatestRun_17 rfl (lv_at hl 2 rfl) ?_
  refine lv_iload hx hb dX9_withLatestRun_18 (lv_at hl 0 rfl) ?_
  refine sx_v (As := [.int 4]) (rest := [.long 5957144600233244823]) hx hb hml hown hts (c_X9_ofRun l G z h r x g rr xx 0 ow os on v1 v2 v3 v4 (-1) 0 0 0 0 0 0 (-1) 0 t0 t1 t2 0 u0 u1 u2 u3 0 0 4 (by decide)) 1 (gAV idC (ahC (bi12 (w := Cond.methodLink RX9 362 yX9_ofRun) 46 rfl)) (ahC (bi12 (w := Cond.instanceMethod yX9_ofRun) 47 rfl)) (ahC (bi12 (w := Cond.selects RX9 yX9_ofRun yX9_ofRun) 48 rfl)) (ahC (bi1 (w := Cond.initialized RX9) 58 rfl)) (ahC (bi11 (w := Cond.code yX9_ofRun cX9_ofRun 2 (some .int)) 34 rfl))) rfl (by decide +kernel) ⟨(Nat.le_of_ble_eq_true rfl), (Nat.le_of_ble_eq_true rfl)⟩ hK hP [0, 1, 2, 3] rfl 0 rfl rfl rfl hl rfl (Nat.le_of_ble_eq_true rfl) ⟨(Nat.le_of_ble_eq_true rfl), (Nat.le_of_ble_eq_true rfl)⟩ dX9_withLatestRun_20 (fun r er => ?_)
  subst er
  rw [show (s_X9_ofRun 0 0 0 0 0 (-1) 0 0 0 4 : Int32) = 0 from fr_ofRun _]
  refine lv_i2l (v := 0) hx hb dX9_withLatestRun_23 (by decide) ?_
  refine lv_ladd hx hb dX9_withLatestRun_24 ?_
  rw [show ((5957144600233244823 : Int64) + 0) = 5957144600233244823 from by decide]
  refine lv_lstore_n (lv' := [(3, .long 5957144600233244823), (5, .int 4), (0, .ref z), (1, .long 1599445821342985)]) hx hb dX9_withLatestRun_25 rfl hl (by decide) rfl (fun ls hl => ?_)
  refine lv_iinc (v := 5) (lv' := [(5, .int 5), (3, .long 5957144600233244823), (0, .ref z), (1, .long 1599445821342985)]) hx hb dX9_withLatestRun_26 hl (k := 1) rfl (by decide) (by decide) rfl (fun ls hl => ?_)
  refine lv_goto (tgt := 5) hx hb dX9_withLatestRun_29 (by decide) ?_
  refine lv_iload hx hb dX9_withLatestRun_5 (lv_at hl 0 rfl) ?_
  refine lv_bipush (v := 9) hx hb dX9_withLatestRun_7 (by decide) ?_
  refine lv_icmp_gt (tgt := 32) hx hb dX9_withLatestRun_9 (by decide) (fun c6 => absurd c6 (by decide)) (fun c6 => ?_)
  refine lv_lload_n hx hb dX9_withLatestRun_12 rfl (lv_at hl 1 rfl) ?_
  refine lv_ldc2 (v := 31) hx hb hown (aw (w := Cond.constantLong RX9 315 (31)) hts (ahC (bi12 (w := Cond.constantLong RX9 315 (31)) 19 rfl))) dX9_withLatestRun_13 ?_
  refine lv_lmul hx hb dX9_withLatestRun_16 ?_
  rw [show ((5957144600233244823 : Int64) * 31) = 204041870135073353 from by decide]
  refine lv_aload_n hx hb dX9_withLatestRun_17 rfl (lv_at hl 2 rfl) ?_
  refine lv_iload hx hb dX9_withLatestRun_18 (lv_at hl 0 rfl) ?_
  refine sx_v (As := [.int 5]) (rest := [.long 204041870135073353]) hx hb hml hown hts (c_X9_ofRun l G z h r x g rr xx 0 ow os on v1 v2 v3 v4 (-1) 0 0 0 0 0 0 (-1) 0 t0 t1 t2 0 u0 u1 u2 u3 0 0 5 (by decide)) 1 (gAV idC (ahC (bi12 (w := Cond.methodLink RX9 362 yX9_ofRun) 46 rfl)) (ahC (bi12 (w := Cond.instanceMethod yX9_ofRun) 47 rfl)) (ahC (bi12 (w := Cond.selects RX9 yX9_ofRun yX9_ofRun) 48 rfl)) (ahC (bi1 (w := Cond.initialized RX9) 58 rfl)) (ahC (bi11 (w := Cond.code yX9_ofRun cX9_ofRun 2 (some .int)) 34 rfl))) rfl (by decide +kernel) ⟨(Nat.le_of_ble_eq_true rfl), (Nat.le_of_ble_eq_true rfl)⟩ hK hP [0, 1, 2, 3] rfl 0 rfl rfl rfl hl rfl (Nat.le_of_ble_eq_true rfl) ⟨(Nat.le_of_ble_eq_true rfl), (Nat.le_of_ble_eq_true rfl)⟩ dX9_withLatestRun_20 (fun r er => ?_)
  subst er
  rw [show (s_X9_ofRun 0 0 0 0 0 (-1) 0 0 0 5 : Int32) = 0 from fr_ofRun _]
  refine lv_i2l (v := 0) hx hb dX9_withLatestRun_23 (by decide) ?_
  refine lv_ladd hx hb dX9_withLatestRun_24 ?_
  rw [show ((204041870135073353 : Int64) + 0) = 204041870135073353 from by decide]
  refine lv_lstore_n (lv' := [(3, .long 204041870135073353), (5, .int 5), (0, .ref z), (1, .long 1599445821342985)]) hx hb dX9_withLatestRun_25 rfl hl (by decide) rfl (fun ls hl => ?_)
  refine lv_iinc (v := 6) (lv' := [(5, .int 6), (3, .long 204041870135073353), (0, .ref z), (1, .long 1599445821342985)]) hx hb dX9_withLatestRun_26 hl (k := 1) rfl (by decide) (by decide) rfl (fun ls hl => ?_)
  refine lv_goto (tgt := 5) hx hb dX9_withLatestRun_29 (by decide) ?_
  refine lv_iload hx hb dX9_withLatestRun_5 (lv_at hl 0 rfl) ?_
  refine lv_bipush (v := 9) hx hb dX9_withLatestRun_7 (by decide) ?_
  refine lv_icmp_gt (tgt := 32) hx hb dX9_withLatestRun_9 (by decide) (fun c7 => absurd c7 (by decide)) (fun c7 => ?_)
  refine lv_lload_n hx hb dX9_withLatestRun_12 rfl (lv_at hl 1 rfl) ?_
  refine lv_ldc2 (v := 31) hx hb hown (aw (w := Cond.constantLong RX9 315 (31)) hts (ahC (bi12 (w := Cond.constantLong RX9 315 (31)) 19 rfl))) dX9_withLatestRun_13 ?_
  refine lv_lmul hx hb dX9_withLatestRun_16 ?_
  rw [show ((204041870135073353 : Int64) * 31) = 6325297974187273943 from by decide]
  refine lv_aload_n hx hb dX9_withLatestRun_17 rfl (lv_at hl 2 rfl) ?_
  refine lv_iload hx hb dX9_withLatestRun_18 (lv_at hl 0 rfl) ?_
  refine sx_v (As := [.int 6]) (rest := [.long 6325297974187273943]) hx hb hml hown hts (c_X9_ofRun l G z h r x g rr xx 0 ow os on v1 v2 v3 v4 (-1) 0 0 0 0 0 0 (-1) 0 t0 t1 t2 0 u0 u1 u2 u3 0 0 6 (by decide)) 1 (gAV idC (ahC (bi12 (w := Cond.methodLink RX9 362 yX9_ofRun) 46 rfl)) (ahC (bi12 (w := Cond.instanceMethod yX9_ofRun) 47 rfl)) (ahC (bi12 (w := Cond.selects RX9 yX9_ofRun yX9_ofRun) 48 rfl)) (ahC (bi1 (w := Cond.initialized RX9) 58 rfl)) (ahC (bi11 (w := Cond.code yX9_ofRun cX9_ofRun 2 (some .int)) 34 rfl))) rfl (by decide +kernel) ⟨(Nat.le_of_ble_eq_true rfl), (Nat.le_of_ble_eq_true rfl)⟩ hK hP [0, 1, 2, 3] rfl 0 rfl rfl rfl hl rfl (Nat.le_of_ble_eq_true rfl) ⟨(Nat.le_of_ble_eq_true rfl), (Nat.le_of_ble_eq_true rfl)⟩ dX9_withLatestRun_20 (fun r er => ?_)
  subst er
  rw [show (s_X9_ofRun 0 0 0 0 0 (-1) 0 0 0 6 : Int32) = 0 from fr_ofRun _]
  refine lv_i2l (v := 0) hx hb dX9_withLatestRun_23 (by decide) ?_
  refine lv_ladd hx hb dX9_withLatestRun_24 ?_
  rw [show ((6325297974187273943 : Int64) + 0) = 6325297974187273943 from by decide]
  refine lv_lstore_n (lv' := [(3, .long 6325297974187273943), (5, .int 6), (0, .ref z), (1, .long 1599445821342985)]) hx hb dX9_withLatestRun_25 rfl hl (by decide) rfl (fun ls hl => ?_)
  refine lv_iinc (v := 7) (lv' := [(5, .int 7), (3, .long 6325297974187273943), (0, .ref z), (1, .long 1599445821342985)]) hx hb dX9_withLatestRun_26 hl (k := 1) rfl (by decide) (by decide) rfl (fun ls hl => ?_)
  refine lv_goto (tgt := 5) hx hb dX9_withLatestRun_29 (by decide) ?_
  refine lv_iload hx hb dX9_withLatestRun_5 (lv_at hl 0 rfl) ?_
  refine lv_bipush (v := 9) hx hb dX9_withLatestRun_7 (by decide) ?_
  refine lv_icmp_gt (tgt := 32) hx hb dX9_withLatestRun_9 (by decide) (fun c8 => absurd c8 (by decide)) (fun c8 => ?_)
  refine lv_lload_n hx hb dX9_withLatestRun_12 rfl (lv_at hl 1 rfl) ?_
  refine lv_ldc2 (v := 31) hx hb hown (aw (w := Cond.constantLong RX9 315 (31)) hts (ahC (bi12 (w := Cond.constantLong RX9 315 (31)) 19 rfl))) dX9_withLatestRun_13 ?_
  refine lv_lmul hx hb dX9_withLatestRun_16 ?_
  rw [show ((6325297974187273943 : Int64) * 31) = (-6829947610999575543) from by decide]
  refine lv_aload_n hx hb dX9_withLatestRun_17 rfl (lv_at hl 2 rfl) ?_
  refine lv_iload hx hb dX9_withLatestRun_18 (lv_at hl 0 rfl) ?_
  refine sx_v (As := [.int 7]) (rest := [.long (-6829947610999575543)]) hx hb hml hown hts (c_X9_ofRun l G z h r x g rr xx 0 ow os on v1 v2 v3 v4 (-1) 0 0 0 0 0 0 (-1) 0 t0 t1 t2 0 u0 u1 u2 u3 0 0 7 (by decide)) 1 (gAV idC (ahC (bi12 (w := Cond.methodLink RX9 362 yX9_ofRun) 46 rfl)) (ahC (bi12 (w := Cond.instanceMethod yX9_ofRun) 47 rfl)) (ahC (bi12 (w := Cond.selects RX9 yX9_ofRun yX9_ofRun) 48 rfl)) (ahC (bi1 (w := Cond.initialized RX9) 58 rfl)) (ahC (bi11 (w := Cond.code yX9_ofRun cX9_ofRun 2 (some .int)) 34 rfl))) rfl (by decide +kernel) ⟨(Nat.le_of_ble_eq_true rfl), (Nat.le_of_ble_eq_true rfl)⟩ hK hP [0, 1, 2, 3] rfl 0 rfl rfl rfl hl rfl (Nat.le_of_ble_eq_true rfl) ⟨(Nat.le_of_ble_eq_true rfl), (Nat.le_of_ble_eq_true rfl)⟩ dX9_withLatestRun_20 (fun r er => ?_)
  subst er
  rw [show (s_X9_ofRun 0 0 0 0 0 (-1) 0 0 0 7 : Int32) = 0 from fr_ofRun _]
  refine lv_i2l (v := 0) hx hb dX9_withLatestRun_23 (by decide) ?_
  refine lv_ladd hx hb dX9_withLatestRun_24 ?_
  rw [show (((-6829947610999575543) : Int64) + 0) = (-6829947610999575543) from by decide]
  refine lv_lstore_n (lv' := [(3, .long (-6829947610999575543)), (5, .int 7), (0, .ref z), (1, .long 1599445821342985)]) hx hb dX9_withLatestRun_25 rfl hl (by decide) rfl (fun ls hl => ?_)
  refine lv_iinc (v := 8) (lv' := [(5, .int 8), (3, .long (-6829947610999575543)), (0, .ref z), (1, .long 1599445821342985)]) hx hb dX9_withLatestRun_26 hl (k := 1) rfl (by decide) (by decide) rfl (fun ls hl => ?_)
  refine lv_goto (tgt := 5) hx hb dX9_withLatestRun_29 (by decide) ?_
  refine lv_iload hx hb dX9_withLatestRun_5 (lv_at hl 0 rfl) ?_
  refine lv_bipush (v := 9) hx hb dX9_withLatestRun_7 (by decide) ?_
  refine lv_icmp_gt (tgt := 32) hx hb dX9_withLatestRun_9 (by decide) (fun c9 => absurd c9 (by decide)) (fun c9 => ?_)
  refine lv_lload_n hx hb dX9_withLatestRun_12 rfl (lv_at hl 1 rfl) ?_
  refine lv_ldc2 (v := 31) hx hb hown (aw (w := Cond.constantLong RX9 315 (31)) hts (ahC (bi12 (w := Cond.constantLong RX9 315 (31)) 19 rfl))) dX9_withLatestRun_13 ?_
  refine lv_lmul hx hb dX9_withLatestRun_16 ?_
  rw [show (((-6829947610999575543) : Int64) * 31) = (-8814191130181774057) from by decide]
  refine lv_aload_n hx hb dX9_withLatestRun_17 rfl (lv_at hl 2 rfl) ?_
  refine lv_iload hx hb dX9_withLatestRun_18 (lv_at hl 0 rfl) ?_
  refine sx_v (As := [.int 8]) (rest := [.long (-8814191130181774057)]) hx hb hml hown hts (c_X9_ofRun l G z h r x g rr xx 0 ow os on v1 v2 v3 v4 (-1) 0 0 0 0 0 0 (-1) 0 t0 t1 t2 0 u0 u1 u2 u3 0 0 8 (by decide)) 1 (gAV idC (ahC (bi12 (w := Cond.methodLink RX9 362 yX9_ofRun) 46 rfl)) (ahC (bi12 (w := Cond.instanceMethod yX9_ofRun) 47 rfl)) (ahC (bi12 (w := Cond.selects RX9 yX9_ofRun yX9_ofRun) 48 rfl)) (ahC (bi1 (w := Cond.initialized RX9) 58 rfl)) (ahC (bi11 (w := Cond.code yX9_ofRun cX9_ofRun 2 (some .int)) 34 rfl))) rfl (by decide +kernel) ⟨(Nat.le_of_ble_eq_true rfl), (Nat.le_of_ble_eq_true rfl)⟩ hK hP [0, 1, 2, 3] rfl 0 rfl rfl rfl hl rfl (Nat.le_of_ble_eq_true rfl) ⟨(Nat.le_of_ble_eq_true rfl), (Nat.le_of_ble_eq_true rfl)⟩ dX9_withLatestRun_20 (fun r er => ?_)
  subst er
  rw [show (s_X9_ofRun 0 0 0 0 0 (-1) 0 0 0 8 : Int32) = 0 from fr_ofRun _]
  refine lv_i2l (v := 0) hx hb dX9_withLatestRun_23 (by decide) ?_
  refine lv_ladd hx hb dX9_withLatestRun_24 ?_
  rw [show (((-8814191130181774057) : Int64) + 0) = (-8814191130181774057) from by decide]
  refine lv_lstore_n (lv' := [(3, .long (-8814191130181774057)), (5, .int 8), (0, .ref z), (1, .long 1599445821342985)]) hx hb dX9_withLatestRun_25 rfl hl (by decide) rfl (fun ls hl => ?_)
  refine lv_iinc (v := 9) (lv' := [(5, .int 9), (3, .long (-8814191130181774057)), (0, .ref z), (1, .long 1599445821342985)]) hx hb dX9_withLatestRun_26 hl (k := 1) rfl (by decide) (by decide) rfl (fun ls hl => ?_)
  refine lv_goto (tgt := 5) hx hb dX9_withLatestRun_29 (by decide) ?_
  refine lv_iload hx hb dX9_withLatestRun_5 (lv_at hl 0 rfl) ?_
  refine lv_bipush (v := 9) hx hb dX9_withLatestRun_7 (by decide) ?_
  refine lv_icmp_gt (tgt := 32) hx hb dX9_withLatestRun_9 (by decide) (fun c10 => absurd c10 (by decide)) (fun c10 => ?_)
  refine lv_lload_n hx hb dX9_withLatestRun_12 rfl (lv_at hl 1 rfl) ?_
  refine lv_ldc2 (v := 31) hx hb hown (aw (w := Cond.constantLong RX9 315 (31)) hts (ahC (bi12 (w := Cond.constantLong RX9 315 (31)) 19 rfl))) dX9_withLatestRun_13 ?_
  refine lv_lmul hx hb dX9_withLatestRun_16 ?_
  rw [show (((-8814191130181774057) : Int64) * 31) = 3461236070008278473 from by decide]
  refine lv_aload_n hx hb dX9_withLatestRun_17 rfl (lv_at hl 2 rfl) ?_
  refine lv_iload hx hb dX9_withLatestRun_18 (lv_at hl 0 rfl) ?_
  refine sx_v (As := [.int 9]) (rest := [.long 3461236070008278473]) hx hb hml hown hts (c_X9_ofRun l G z h r x g rr xx 0 ow os on v1 v2 v3 v4 (-1) 0 0 0 0 0 0 (-1) 0 t0 t1 t2 0 u0 u1 u2 u3 0 0 9 (by decide)) 1 (gAV idC (ahC (bi12 (w := Cond.methodLink RX9 362 yX9_ofRun) 46 rfl)) (ahC (bi12 (w := Cond.instanceMethod yX9_ofRun) 47 rfl)) (ahC (bi12 (w := Cond.selects RX9 yX9_ofRun yX9_ofRun) 48 rfl)) (ahC (bi1 (w := Cond.initialized RX9) 58 rfl)) (ahC (bi11 (w := Cond.code yX9_ofRun cX9_ofRun 2 (some .int)) 34 rfl))) rfl (by decide +kernel) ⟨(Nat.le_of_ble_eq_true rfl), (Nat.le_of_ble_eq_true rfl)⟩ hK hP [0, 1, 2, 3] rfl 0 rfl rfl rfl hl rfl (Nat.le_of_ble_eq_true rfl) ⟨(Nat.le_of_ble_eq_true rfl), (Nat.le_of_ble_eq_true rfl)⟩ dX9_withLatestRun_20 (fun r er => ?_)
  subst er
  rw [show (s_X9_ofRun 0 0 0 0 0 (-1) 0 0 0 9 : Int32) = 0 from fr_ofRun _]
  refine lv_i2l (v := 0) hx hb dX9_withLatestRun_23 (by decide) ?_
  refine lv_ladd hx hb dX9_withLatestRun_24 ?_
  rw [show ((3461236070008278473 : Int64) + 0) = 3461236070008278473 from by decide]
  refine lv_lstore_n (lv' := [(3, .long 3461236070008278473), (5, .int 9), (0, .ref z), (1, .long 1599445821342985)]) hx hb dX9_withLatestRun_25 rfl hl (by decide) rfl (fun ls hl => ?_)
  refine lv_iinc (v := 10) (lv' := [(5, .int 10), (3, .long 3461236070008278473), (0, .ref z), (1, .long 1599445821342985)]) hx hb dX9_withLatestRun_26 hl (k := 1) rfl (by decide) (by decide) rfl (fun ls hl => ?_)
  refine lv_goto (tgt := 5) hx hb dX9_withLatestRun_29 (by decide) ?_
  refine lv_iload hx hb dX9_withLatestRun_5 (lv_at hl 0 rfl) ?_
  refine lv_bipush (v := 9) hx hb dX9_withLatestRun_7 (by decide) ?_
  refine lv_icmp_gt (tgt := 32) hx hb dX9_withLatestRun_9 (by decide) (fun c11 => ?_) (fun c11 => absurd c11 (by decide))
  refine lv_aload_n hx hb dX9_withLatestRun_32 rfl (lv_at hl 2 rfl) ?_
  refine va_get (D := G.1) (ci := 14) (v := .ref x) (C := RX9) (T := TX9) (N := 7) hx hb hts oaX9 hown hK.1 hP 0 rfl rfl 2 (by decide) (aw (w := Cond.fieldLink RX9 34 "DropflagMill" "latest" "LDropflagMill$Run;") hts (ahC (bi9 (w := Cond.fieldLink RX9 34 "DropflagMill" "latest" "LDropflagMill$Run;") 52 rfl))) (fun _ h9 => h9) rfl dX9_withLatestRun_33 ?_
  refine va_get (D := G.1) (ci := 11) (v := .ref os) (C := RX6) (T := TX6) (N := 17) hx hb hts oaX6 hown hK.1 hP 1 rfl rfl 2 (by decide) (aw (w := Cond.fieldLink RX9 235 "DropflagMill$Run" "story" "LDropflagMill$Story;") hts (ahC (bi11 (w := Cond.fieldLink RX9 235 "DropflagMill$Run" "story" "LDropflagMill$Story;") 36 rfl))) (fun _ h9 => h9) rfl dX9_withLatestRun_36 ?_
  refine sx_v (As := []) (rest := []) hx hb hml hown hts (c_X7_countKept l G os t0 t1 t2 0 ) 0 (gAV idC (ahC (bi12 (w := Cond.methodLink RX9 365 yX7_countKept) 49 rfl)) (ahC (bi9 (w := Cond.instanceMethod yX7_countKept) 35 rfl)) (ahC (bi9 (w := Cond.selects RX7 yX7_countKept yX7_countKept) 36 rfl)) (ahC (bi6 (w := Cond.initialized RX7) 36 rfl)) (ahC (bi9 (w := Cond.code yX7_countKept cX7_countKept 1 (some .int)) 29 rfl))) rfl (by decide +kernel) ⟨(Nat.le_of_ble_eq_true rfl), (Nat.le_of_ble_eq_true rfl)⟩ hK hP [2] rfl 0 rfl rfl rfl hl rfl (Nat.le_of_ble_eq_true rfl) ⟨(Nat.le_of_ble_eq_true rfl), (Nat.le_of_ble_eq_true rfl)⟩ dX9_withLatestRun_39 (fun r er => ?_)
  subst er
  rw [show (s_X7_countKept 0 : Int32) = 0 from fr_countKept]
  refine lv_istore (lv' := [(5, .int 0), (3, .long 3461236070008278473), (0, .ref z), (1, .long 1599445821342985)]) hx hb dX9_withLatestRun_42 hl (by decide) rfl (fun ls hl => ?_)
  refine lv_iconst (v := 0) hx hb dX9_withLatestRun_44 (by decide) ?_
  refine lv_istore (lv' := [(6, .int 0), (5, .int 0), (3, .long 3461236070008278473), (0, .ref z), (1, .long 1599445821342985)]) hx hb dX9_withLatestRun_45 hl (by decide) rfl (fun ls hl => ?_)
  refine lv_iload hx hb dX9_withLatestRun_47 (lv_at hl 0 rfl) ?_
  refine lv_iload hx hb dX9_withLatestRun_49 (lv_at hl 1 rfl) ?_
  refine lv_icmp_ge (tgt := 91) hx hb dX9_withLatestRun_51 (by decide) (fun c12 => ?_) (fun c12 => absurd c12 (by decide))
  refine lv_lload_n hx hb dX9_withLatestRun_91 rfl (lv_at hl 2 rfl) ?_
  refine W.widen (k := 0) (n := 0) (Nat.le_of_ble_eq_true rfl) (Nat.le_of_ble_eq_true rfl) ?_
  exact px_rl () hx hb hr hlk (hP.sub [0, 1, 2, 3] rfl) (hD.sub [0, 1, 2, 3] (by decide) rfl) hS rfl dX9_withLatestRun_92

set_option maxHeartbeats 8000000 in
set_option maxRecDepth 100000 in
theorem k_c_digest (l : Launch) (G : sxG) (k : pxC) (z : Nat) (h : Nat) (r : Nat) (x : Nat) (g : Nat) (rr : Nat) (xx : Nat) (od : Nat) (ow : Nat) (ol : Nat) (oq : Nat) (r1 : Nat) (r2 : Nat) (r3 : Nat) (r4 : Nat) (r5 : Nat) (r6 : Nat) (r7 : Nat) (w1 : Nat) (w2 : Nat) (w3 : Nat) (w4 : Nat) (w5 : Nat) (w6 : Nat) (wdp : Int32) (wwr : Int32) (l1 : Nat) (l2 : Nat) (l3 : Nat) (l4 : Nat) (m0 : Nat) (m1 : Nat) (m2 : Nat) (m3 : Nat) (k0 : Nat) (k1 : Nat) (k2 : Nat) (k3 : Nat) (cr : Nat → Int32) (cn : Nat → Int32) (os : Nat) (on : Nat) (v1 : Nat) (v2 : Nat) (v3 : Nat) (v4 : Nat) (t0 : Nat) (t1 : Nat) (t2 : Nat) (u0 : Nat) (u1 : Nat) (u2 : Nat) (u3 : Nat)  : pxM l yX9_digest (Cond.code yX9_digest cX9_digest 5 (some .long) :: bwA) 4 85 0 0 G k [(z, .inr (14, [.ref h, .ref r, .ref x, .ref g, .ref rr, .ref xx, .int 0])), (r, .inr (5, [.ref h, .ref od, .ref ow, .ref ol, .ref oq, .ref r1, .ref r2, .ref r3, .ref r4, .ref r5, .ref r6, .ref r7, .int 0])), (ow, .inr (13, [.ref h, .ref w1, .ref w2, .ref w3, .ref w4, .ref w5, .ref w6, .int wdp, .int wwr])), (ol, .inr (8, [.ref h, .ref l1, .ref l2, .ref l3, .ref l4, .int 0])), (oq, .inr (7, [.ref m0, .ref m1, .ref m2, .ref m3, .int 0])), (h, .inr (10, [.ref k0, .ref k1, .ref k2, .ref k3, .int 0, .int 0])), (r1, .inl (G.2.2, 34, .inl cr)), (r7, .inl (G.2.1, 34, .inl cn)), (x, .inr (11, [.ref h, .ref ow, .ref os, .ref on, .ref v1, .ref v2, .ref v3, .ref v4, .int (-1), .int 0, .int 0, .int 0, .int 0, .int 0, .int 0, .int (-1), .int 0])), (os, .inr (12, [.ref t0, .ref t1, .ref t2, .int 0])), (on, .inr (9, [.ref u0, .ref u1, .ref u2, .ref u3, .int 0, .int 0]))] [.ref z] (fun u : Unit => some (.long 3461236070008278473)) (fun u : Unit => ([] : va_W)) := by
  refine pxM.of (cc := cX9_digest) (maxL := 5) (by decide) rfl (Nat.le_of_ble_eq_true rfl) ?_
  intro p e s m args below meth c ⟨hx, hb, hr, hml, hown, hlk, hts, hK⟩ hin A hA hP hD hS hE ls hl
  have hl : lv_has ls 5 [(0, .ref z)] := hl
  refine lv_ldc2 (v := 58135) hx hb hown (aw (w := Cond.constantLong RX9 313 (58135)) hts (ahC (bi12 (w := Cond.constantLong RX9 313 (58135)) 54 rfl))) dX9_digest_0 ?_
  refine lv_lstore_n (lv' := [(1, .long 58135), (0, .ref z)]) hx hb dX9_digest_3 rfl hl (by decide) rfl (fun ls hl => ?_)
  refine lv_iconst (v := 0) hx hb dX9_digest_4 (by decide) ?_
  refine lv_istore_n (lv' := [(3, .int 0), (1, .long 58135), (0, .ref z)]) hx hb dX9_digest_5 rfl hl (by decide) rfl (fun ls hl => ?_)
  refine lv_iload_n hx hb dX9_digest_6 rfl (lv_at hl 0 rfl) ?_
  refine lv_bipush (v := 6) hx hb dX9_digest_7 (by decide) ?_
  refine lv_icmp_gt (tgt := 31) hx hb dX9_digest_9 (by decide) (fun c1 => absurd c1 (by decide)) (fun c1 => ?_)
  refine lv_lload_n hx hb dX9_digest_12 rfl (lv_at hl 1 rfl) ?_
  refine lv_ldc2 (v := 31) hx hb hown (aw (w := Cond.constantLong RX9 315 (31)) hts (ahC (bi12 (w := Cond.constantLong RX9 315 (31)) 19 rfl))) dX9_digest_13 ?_
  refine lv_lmul hx hb dX9_digest_16 ?_
  rw [show ((58135 : Int64) * 31) = 1802185 from by decide]
  refine lv_aload_n hx hb dX9_digest_17 rfl (lv_at hl 2 rfl) ?_
  refine lv_iload_n hx hb dX9_digest_18 rfl (lv_at hl 0 rfl) ?_
  refine sx_v (As := [.int 0]) (rest := [.long 1802185]) hx hb hml hown hts (c_X9_many l G z h r x g rr xx 0 od ow ol oq r1 r2 r3 r4 r5 r6 r7 0 w1 w2 w3 w4 w5 w6 wdp wwr l1 l2 l3 l4 0 m0 m1 m2 m3 0 k0 k1 k2 k3 0 0 cr cn 0 (by omega) (by decide)) 1 (gAV idC (ahC (bi12 (w := Cond.methodLink RX9 317 yX9_many) 55 rfl)) (ahC (bi12 (w := Cond.instanceMethod yX9_many) 56 rfl)) (ahC (bi12 (w := Cond.selects RX9 yX9_many yX9_many) 57 rfl)) (ahC (bi1 (w := Cond.initialized RX9) 58 rfl)) (ahC (bi12 (w := Cond.code yX9_many cX9_many 2 (some .int)) 1 rfl))) rfl (by decide +kernel) ⟨(Nat.le_of_ble_eq_true rfl), (Nat.le_of_ble_eq_true rfl)⟩ hK hP [0, 1, 2, 3, 4, 5, 6, 7] rfl 0 rfl rfl rfl hl rfl (Nat.le_of_ble_eq_true rfl) ⟨(Nat.le_of_ble_eq_true rfl), (Nat.le_of_ble_eq_true rfl)⟩ dX9_digest_19 (fun r er => ?_)
  subst er
  rw [show (s_X9_many 0 wwr 0 0 0 0 cr cn 0 : Int32) = 0 from fr_many _ _ _ _]
  refine lv_i2l (v := 0) hx hb dX9_digest_22 (by decide) ?_
  refine lv_ladd hx hb dX9_digest_23 ?_
  rw [show ((1802185 : Int64) + 0) = 1802185 from by decide]
  refine lv_lstore_n (lv' := [(1, .long 1802185), (3, .int 0), (0, .ref z)]) hx hb dX9_digest_24 rfl hl (by decide) rfl (fun ls hl => ?_)
  refine lv_iinc (v := 1) (lv' := [(3, .int 1), (1, .long 1802185), (0, .ref z)]) hx hb dX9_digest_25 hl (k := 1) rfl (by decide) (by decide) rfl (fun ls hl => ?_)
  refine lv_goto (tgt := 6) hx hb dX9_digest_28 (by decide) ?_
  refine lv_iload_n hx hb dX9_digest_6 rfl (lv_at hl 0 rfl) ?_
  refine lv_bipush (v := 6) hx hb dX9_digest_7 (by decide) ?_
  refine lv_icmp_gt (tgt := 31) hx hb dX9_digest_9 (by decide) (fun c2 => absurd c2 (by decide)) (fun c2 => ?_)
  refine lv_lload_n hx hb dX9_digest_12 rfl (lv_at hl 1 rfl) ?_
  refine lv_ldc2 (v := 31) hx hb hown (aw (w := Cond.constantLong RX9 315 (31)) hts (ahC (bi12 (w := Cond.constantLong RX9 315 (31)) 19 rfl))) dX9_digest_13 ?_
  refine lv_lmul hx hb dX9_digest_16 ?_
  rw [show ((1802185 : Int64) * 31) = 55867735 from by decide]
  refine lv_aload_n hx hb dX9_digest_17 rfl (lv_at hl 2 rfl) ?_
  refine lv_iload_n hx hb dX9_digest_18 rfl (lv_at hl 0 rfl) ?_
  refine sx_v (As := [.int 1]) (rest := [.long 55867735]) hx hb hml hown hts (c_X9_many l G z h r x g rr xx 0 od ow ol oq r1 r2 r3 r4 r5 r6 r7 0 w1 w2 w3 w4 w5 w6 wdp wwr l1 l2 l3 l4 0 m0 m1 m2 m3 0 k0 k1 k2 k3 0 0 cr cn 1 (by omega) (by decide)) 1 (gAV idC (ahC (bi12 (w := Cond.methodLink RX9 317 yX9_many) 55 rfl)) (ahC (bi12 (w := Cond.instanceMethod yX9_many) 56 rfl)) (ahC (bi12 (w := Cond.selects RX9 yX9_many yX9_many) 57 rfl)) (ahC (bi1 (w := Cond.initialized RX9) 58 rfl)) (ahC (bi12 (w := Cond.code yX9_many cX9_many 2 (some .int)) 1 rfl))) rfl (by decide +kernel) ⟨(Nat.le_of_ble_eq_true rfl), (Nat.le_of_ble_eq_true rfl)⟩ hK hP [0, 1, 2, 3, 4, 5, 6, 7] rfl 0 rfl rfl rfl hl rfl (Nat.le_of_ble_eq_true rfl) ⟨(Nat.le_of_ble_eq_true rfl), (Nat.le_of_ble_eq_true rfl)⟩ dX9_digest_19 (fun r er => ?_)
  subst er
  rw [show (s_X9_many 0 wwr 0 0 0 0 cr cn 1 : Int32) = 0 from fr_many _ _ _ _]
  refine lv_i2l (v := 0) hx hb dX9_digest_22 (by decide) ?_
  refine lv_ladd hx hb dX9_digest_23 ?_
  rw [show ((55867735 : Int64) + 0) = 55867735 from by decide]
  refine lv_lstore_n (lv' := [(1, .long 55867735), (3, .int 1), (0, .ref z)]) hx hb dX9_digest_24 rfl hl (by decide) rfl (fun ls hl => ?_)
  refine lv_iinc (v := 2) (lv' := [(3, .int 2), (1, .long 55867735), (0, .ref z)]) hx hb dX9_digest_25 hl (k := 1) rfl (by decide) (by decide) rfl (fun ls hl => ?_)
  refine lv_goto (tgt := 6) hx hb dX9_digest_28 (by decide) ?_
  refine lv_iload_n hx hb dX9_digest_6 rfl (lv_at hl 0 rfl) ?_
  refine lv_bipush (v := 6) hx hb dX9_digest_7 (by decide) ?_
  refine lv_icmp_gt (tgt := 31) hx hb dX9_digest_9 (by decide) (fun c3 => absurd c3 (by decide)) (fun c3 => ?_)
  refine lv_lload_n hx hb dX9_digest_12 rfl (lv_at hl 1 rfl) ?_
  refine lv_ldc2 (v := 31) hx hb hown (aw (w := Cond.constantLong RX9 315 (31)) hts (ahC (bi12 (w := Cond.constantLong RX9 315 (31)) 19 rfl))) dX9_digest_13 ?_
  refine lv_lmul hx hb dX9_digest_16 ?_
  rw [show ((55867735 : Int64) * 31) = 1731899785 from by decide]
  refine lv_aload_n hx hb dX9_digest_17 rfl (lv_at hl 2 rfl) ?_
  refine lv_iload_n hx hb dX9_digest_18 rfl (lv_at hl 0 rfl) ?_
  refine sx_v (As := [.int 2]) (rest := [.long 1731899785]) hx hb hml hown hts (c_X9_many l G z h r x g rr xx 0 od ow ol oq r1 r2 r3 r4 r5 r6 r7 0 w1 w2 w3 w4 w5 w6 wdp wwr l1 l2 l3 l4 0 m0 m1 m2 m3 0 k0 k1 k2 k3 0 0 cr cn 2 (by omega) (by decide)) 1 (gAV idC (ahC (bi12 (w := Cond.methodLink RX9 317 yX9_many) 55 rfl)) (ahC (bi12 (w := Cond.instanceMethod yX9_many) 56 rfl)) (ahC (bi12 (w := Cond.selects RX9 yX9_many yX9_many) 57 rfl)) (ahC (bi1 (w := Cond.initialized RX9) 58 rfl)) (ahC (bi12 (w := Cond.code yX9_many cX9_many 2 (some .int)) 1 rfl))) rfl (by decide +kernel) ⟨(Nat.le_of_ble_eq_true rfl), (Nat.le_of_ble_eq_true rfl)⟩ hK hP [0, 1, 2, 3, 4, 5, 6, 7] rfl 0 rfl rfl rfl hl rfl (Nat.le_of_ble_eq_true rfl) ⟨(Nat.le_of_ble_eq_true rfl), (Nat.le_of_ble_eq_true rfl)⟩ dX9_digest_19 (fun r er => ?_)
  subst er
  rw [show (s_X9_many 0 wwr 0 0 0 0 cr cn 2 : Int32) = 0 from fr_many _ _ _ _]
  refine lv_i2l (v := 0) hx hb dX9_digest_22 (by decide) ?_
  refine lv_ladd hx hb dX9_digest_23 ?_
  rw [show ((1731899785 : Int64) + 0) = 1731899785 from by decide]
  refine lv_lstore_n (lv' := [(1, .long 1731899785), (3, .int 2), (0, .ref z)]) hx hb dX9_digest_24 rfl hl (by decide) rfl (fun ls hl => ?_)
  refine lv_iinc (v := 3) (lv' := [(3, .int 3), (1, .long 1731899785), (0, .ref z)]) hx hb dX9_digest_25 hl (k := 1) rfl (by decide) (by decide) rfl (fun ls hl => ?_)
  refine lv_goto (tgt := 6) hx hb dX9_digest_28 (by decide) ?_
  refine lv_iload_n hx hb dX9_digest_6 rfl (lv_at hl 0 rfl) ?_
  refine lv_bipush (v := 6) hx hb dX9_digest_7 (by decide) ?_
  refine lv_icmp_gt (tgt := 31) hx hb dX9_digest_9 (by decide) (fun c4 => absurd c4 (by decide)) (fun c4 => ?_)
  refine lv_lload_n hx hb dX9_digest_12 rfl (lv_at hl 1 rfl) ?_
  refine lv_ldc2 (v := 31) hx hb hown (aw (w := Cond.constantLong RX9 315 (31)) hts (ahC (bi12 (w := Cond.constantLong RX9 315 (31)) 19 rfl))) dX9_digest_13 ?_
  refine lv_lmul hx hb dX9_digest_16 ?_
  rw [show ((1731899785 : Int64) * 31) = 53688893335 from by decide]
  refine lv_aload_n hx hb dX9_digest_17 rfl (lv_at hl 2 rfl) ?_
  refine lv_iload_n hx hb dX9_digest_18 rfl (lv_at hl 0 rfl) ?_
  refine sx_v (As := [.int 3]) (rest := [.long 53688893335]) hx hb hml hown hts (c_X9_many l G z h r x g rr xx 0 od ow ol oq r1 r2 r3 r4 r5 r6 r7 0 w1 w2 w3 w4 w5 w6 wdp wwr l1 l2 l3 l4 0 m0 m1 m2 m3 0 k0 k1 k2 k3 0 0 cr cn 3 (by omega) (by decide)) 1 (gAV idC (ahC (bi12 (w := Cond.methodLink RX9 317 yX9_many) 55 rfl)) (ahC (bi12 (w := Cond.instanceMethod yX9_many) 56 rfl)) (ahC (bi12 (w := Cond.selects RX9 yX9_many yX9_many) 57 rfl)) (ahC (bi1 (w := Cond.initialized RX9) 58 rfl)) (ahC (bi12 (w := Cond.code yX9_many cX9_many 2 (some .int)) 1 rfl))) rfl (by decide +kernel) ⟨(Nat.le_of_ble_eq_true rfl), (Nat.le_of_ble_eq_true rfl)⟩ hK hP [0, 1, 2, 3, 4, 5, 6, 7] rfl 0 rfl rfl rfl hl rfl (Nat.le_of_ble_eq_true rfl) ⟨(Nat.le_of_ble_eq_true rfl), (Nat.le_of_ble_eq_true rfl)⟩ dX9_digest_19 (fun r er => ?_)
  subst er
  rw [show (s_X9_many 0 wwr 0 0 0 0 cr cn 3 : Int32) = 0 from fr_many _ _ _ _]
  refine lv_i2l (v := 0) hx hb dX9_digest_22 (by decide) ?_
  refine lv_ladd hx hb dX9_digest_23 ?_
  rw [show ((53688893335 : Int64) + 0) = 53688893335 from by decide]
  refine lv_lstore_n (lv' := [(1, .long 53688893335), (3, .int 3), (0, .ref z)]) hx hb dX9_digest_24 rfl hl (by decide) rfl (fun ls hl => ?_)
  refine lv_iinc (v := 4) (lv' := [(3, .int 4), (1, .long 53688893335), (0, .ref z)]) hx hb dX9_digest_25 hl (k := 1) rfl (by decide) (by decide) rfl (fun ls hl => ?_)
  refine lv_goto (tgt := 6) hx hb dX9_digest_28 (by decide) ?_
  refine lv_iload_n hx hb dX9_digest_6 rfl (lv_at hl 0 rfl) ?_
  refine lv_bipush (v := 6) hx hb dX9_digest_7 (by decide) ?_
  refine lv_icmp_gt (tgt := 31) hx hb dX9_digest_9 (by decide) (fun c5 => absurd c5 (by decide)) (fun c5 => ?_)
  refine lv_lload_n hx hb dX9_digest_12 rfl (lv_at hl 1 rfl) ?_
  refine lv_ldc2 (v := 31) hx hb hown (aw (w := Cond.constantLong RX9 315 (31)) hts (ahC (bi12 (w := Cond.constantLong RX9 315 (31)) 19 rfl))) dX9_digest_13 ?_
  refine lv_lmul hx hb dX9_digest_16 ?_
  rw [show ((53688893335 : Int64) * 31) = 1664355693385 from by decide]
  refine lv_aload_n hx hb dX9_digest_17 rfl (lv_at hl 2 rfl) ?_
  refine lv_iload_n hx hb dX9_digest_18 rfl (lv_at hl 0 rfl) ?_
  refine sx_v (As := [.int 4]) (rest := [.long 1664355693385]) hx hb hml hown hts (c_X9_many l G z h r x g rr xx 0 od ow ol oq r1 r2 r3 r4 r5 r6 r7 0 w1 w2 w3 w4 w5 w6 wdp wwr l1 l2 l3 l4 0 m0 m1 m2 m3 0 k0 k1 k2 k3 0 0 cr cn 4 (by omega) (by decide)) 1 (gAV idC (ahC (bi12 (w := Cond.methodLink RX9 317 yX9_many) 55 rfl)) (ahC (bi12 (w := Cond.instanceMethod yX9_many) 56 rfl)) (ahC (bi12 (w := Cond.selects RX9 yX9_many yX9_many) 57 rfl)) (ahC (bi1 (w := Cond.initialized RX9) 58 rfl)) (ahC (bi12 (w := Cond.code yX9_many cX9_many 2 (some .int)) 1 rfl))) rfl (by decide +kernel) ⟨(Nat.le_of_ble_eq_true rfl), (Nat.le_of_ble_eq_true rfl)⟩ hK hP [0, 1, 2, 3, 4, 5, 6, 7] rfl 0 rfl rfl rfl hl rfl (Nat.le_of_ble_eq_true rfl) ⟨(Nat.le_of_ble_eq_true rfl), (Nat.le_of_ble_eq_true rfl)⟩ dX9_digest_19 (fun r er => ?_)
  subst er
  rw [show (s_X9_many 0 wwr 0 0 0 0 cr cn 4 : Int32) = 0 from fr_many _ _ _ _]
  refine lv_i2l (v := 0) hx hb dX9_digest_22 (by decide) ?_
  refine lv_ladd hx hb dX9_digest_23 ?_
  rw [show ((1664355693385 : Int64) + 0) = 1664355693385 from by decide]
  refine lv_lstore_n (lv' := [(1, .long 1664355693385), (3, .int 4), (0, .ref z)]) hx hb dX9_digest_24 rfl hl (by decide) rfl (fun ls hl => ?_)
  refine lv_iinc (v := 5) (lv' := [(3, .int 5), (1, .long 1664355693385), (0, .ref z)]) hx hb dX9_digest_25 hl (k := 1) rfl (by decide) (by decide) rfl (fun ls hl => ?_)
  refine lv_goto (tgt := 6) hx hb dX9_digest_28 (by decide) ?_
  refine lv_iload_n hx hb dX9_digest_6 rfl (lv_at hl 0 rfl) ?_
  refine lv_bipush (v := 6) hx hb dX9_digest_7 (by decide) ?_
  refine lv_icmp_gt (tgt := 31) hx hb dX9_digest_9 (by decide) (fun c6 => absurd c6 (by decide)) (fun c6 => ?_)
  refine lv_lload_n hx hb dX9_digest_12 rfl (lv_at hl 1 rfl) ?_
  refine lv_ldc2 (v := 31) hx hb hown (aw (w := Cond.constantLong RX9 315 (31)) hts (ahC (bi12 (w := Cond.constantLong RX9 315 (31)) 19 rfl))) dX9_digest_13 ?_
  refine lv_lmul hx hb dX9_digest_16 ?_
  rw [show ((1664355693385 : Int64) * 31) = 51595026494935 from by decide]
  refine lv_aload_n hx hb dX9_digest_17 rfl (lv_at hl 2 rfl) ?_
  refine lv_iload_n hx hb dX9_digest_18 rfl (lv_at hl 0 rfl) ?_
  refine sx_v (As := [.int 5]) (rest := [.long 51595026494935]) hx hb hml hown hts (c_X9_many l G z h r x g rr xx 0 od ow ol oq r1 r2 r3 r4 r5 r6 r7 0 w1 w2 w3 w4 w5 w6 wdp wwr l1 l2 l3 l4 0 m0 m1 m2 m3 0 k0 k1 k2 k3 0 0 cr cn 5 (by omega) (by decide)) 1 (gAV idC (ahC (bi12 (w := Cond.methodLink RX9 317 yX9_many) 55 rfl)) (ahC (bi12 (w := Cond.instanceMethod yX9_many) 56 rfl)) (ahC (bi12 (w := Cond.selects RX9 yX9_many yX9_many) 57 rfl)) (ahC (bi1 (w := Cond.initialized RX9) 58 rfl)) (ahC (bi12 (w := Cond.code yX9_many cX9_many 2 (some .int)) 1 rfl))) rfl (by decide +kernel) ⟨(Nat.le_of_ble_eq_true rfl), (Nat.le_of_ble_eq_true rfl)⟩ hK hP [0, 1, 2, 3, 4, 5, 6, 7] rfl 0 rfl rfl rfl hl rfl (Nat.le_of_ble_eq_true rfl) ⟨(Nat.le_of_ble_eq_true rfl), (Nat.le_of_ble_eq_true rfl)⟩ dX9_digest_19 (fun r er => ?_)
  subst er
  rw [show (s_X9_many 0 wwr 0 0 0 0 cr cn 5 : Int32) = 0 from fr_many _ _ _ _]
  refine lv_i2l (v := 0) hx hb dX9_digest_22 (by decide) ?_
  refine lv_ladd hx hb dX9_digest_23 ?_
  rw [show ((51595026494935 : Int64) + 0) = 51595026494935 from by decide]
  refine lv_lstore_n (lv' := [(1, .long 51595026494935), (3, .int 5), (0, .ref z)]) hx hb dX9_digest_24 rfl hl (by decide) rfl (fun ls hl => ?_)
  refine lv_iinc (v := 6) (lv' := [(3, .int 6), (1, .long 51595026494935), (0, .ref z)]) hx hb dX9_digest_25 hl (k := 1) rfl (by decide) (by decide) rfl (fun ls hl => ?_)
  refine lv_goto (tgt := 6) hx hb dX9_digest_28 (by decide) ?_
  refine lv_iload_n hx hb dX9_digest_6 rfl (lv_at hl 0 rfl) ?_
  refine lv_bipush (v := 6) hx hb dX9_digest_7 (by decide) ?_
  refine lv_icmp_gt (tgt := 31) hx hb dX9_digest_9 (by decide) (fun c7 => absurd c7 (by decide)) (fun c7 => ?_)
  refine lv_lload_n hx hb dX9_digest_12 rfl (lv_at hl 1 rfl) ?_
  refine lv_ldc2 (v := 31) hx hb hown (aw (w := Cond.constantLong RX9 315 (31)) hts (ahC (bi12 (w := Cond.constantLong RX9 315 (31)) 19 rfl))) dX9_digest_13 ?_
  refine lv_lmul hx hb dX9_digest_16 ?_
  rw [show ((51595026494935 : Int64) * 31) = 1599445821342985 from by decide]
  refine lv_aload_n hx hb dX9_digest_17 rfl (lv_at hl 2 rfl) ?_
  refine lv_iload_n hx hb dX9_digest_18 rfl (lv_at hl 0 rfl) ?_
  refine sx_v (As := [.int 6]) (rest := [.long 1599445821342985]) hx hb hml hown hts (c_X9_many l G z h r x g rr xx 0 od ow ol oq r1 r2 r3 r4 r5 r6 r7 0 w1 w2 w3 w4 w5 w6 wdp wwr l1 l2 l3 l4 0 m0 m1 m2 m3 0 k0 k1 k2 k3 0 0 cr cn 6 (by omega) (by decide)) 1 (gAV idC (ahC (bi12 (w := Cond.methodLink RX9 317 yX9_many) 55 rfl)) (ahC (bi12 (w := Cond.instanceMethod yX9_many) 56 rfl)) (ahC (bi12 (w := Cond.selects RX9 yX9_many yX9_many) 57 rfl)) (ahC (bi1 (w := Cond.initialized RX9) 58 rfl)) (ahC (bi12 (w := Cond.code yX9_many cX9_many 2 (some .int)) 1 rfl))) rfl (by decide +kernel) ⟨(Nat.le_of_ble_eq_true rfl), (Nat.le_of_ble_eq_true rfl)⟩ hK hP [0, 1, 2, 3, 4, 5, 6, 7] rfl 0 rfl rfl rfl hl rfl (Nat.le_of_ble_eq_true rfl) ⟨(Nat.le_of_ble_eq_true rfl), (Nat.le_of_ble_eq_true rfl)⟩ dX9_digest_19 (fun r er => ?_)
  subst er
  rw [show (s_X9_many 0 wwr 0 0 0 0 cr cn 6 : Int32) = 0 from fr_many _ _ _ _]
  refine lv_i2l (v := 0) hx hb dX9_digest_22 (by decide) ?_
  refine lv_ladd hx hb dX9_digest_23 ?_
  rw [show ((1599445821342985 : Int64) + 0) = 1599445821342985 from by decide]
  refine lv_lstore_n (lv' := [(1, .long 1599445821342985), (3, .int 6), (0, .ref z)]) hx hb dX9_digest_24 rfl hl (by decide) rfl (fun ls hl => ?_)
  refine lv_iinc (v := 7) (lv' := [(3, .int 7), (1, .long 1599445821342985), (0, .ref z)]) hx hb dX9_digest_25 hl (k := 1) rfl (by decide) (by decide) rfl (fun ls hl => ?_)
  refine lv_goto (tgt := 6) hx hb dX9_digest_28 (by decide) ?_
  refine lv_iload_n hx hb dX9_digest_6 rfl (lv_at hl 0 rfl) ?_
  refine lv_bipush (v := 6) hx hb dX9_digest_7 (by decide) ?_
  refine lv_icmp_gt (tgt := 31) hx hb dX9_digest_9 (by decide) (fun c8 => ?_) (fun c8 => absurd c8 (by decide))
  refine lv_iconst (v := 0) hx hb dX9_digest_31 (by decide) ?_
  refine lv_istore_n (lv' := [(3, .int 0), (1, .long 1599445821342985), (0, .ref z)]) hx hb dX9_digest_32 rfl hl (by decide) rfl (fun ls hl => ?_)
  refine lv_iload_n hx hb dX9_digest_33 rfl (lv_at hl 0 rfl) ?_
  refine lv_aload_n hx hb dX9_digest_34 rfl (lv_at hl 2 rfl) ?_
  refine va_get (D := G.1) (ci := 14) (v := .ref h) (C := RX9) (T := TX9) (N := 7) hx hb hts oaX9 hown hK.1 hP 0 rfl rfl 0 (by decide) (aw (w := Cond.fieldLink RX9 12 "DropflagMill" "program" "LDropflagMill$Program;") hts (ahC (bi9 (w := Cond.fieldLink RX9 12 "DropflagMill" "program" "LDropflagMill$Program;") 45 rfl))) (fun _ h9 => h9) rfl dX9_digest_35 ?_
  refine va_get (D := G.1) (ci := 10) (v := .int 0) (C := RX5) (T := TX5) (N := 6) hx hb hts oaX5 hown hK.1 hP 5 rfl rfl 4 (by decide) (aw (w := Cond.fieldLink RX9 61 "DropflagMill$Program" "variables" "I") hts (ahC (bi10 (w := Cond.fieldLink RX9 61 "DropflagMill$Program" "variables" "I") 11 rfl))) (fun _ h9 => h9) rfl dX9_digest_38 ?_
  refine lv_icmp_ge (tgt := 80) hx hb dX9_digest_41 (by decide) (fun c9 => ?_) (fun c9 => absurd c9 (by decide))
  refine lv_iconst (v := 0) hx hb dX9_digest_80 (by decide) ?_
  refine lv_istore_n (lv' := [(3, .int 0), (1, .long 1599445821342985), (0, .ref z)]) hx hb dX9_digest_81 rfl hl (by decide) rfl (fun ls hl => ?_)
  refine lv_iload_n hx hb dX9_digest_82 rfl (lv_at hl 0 rfl) ?_
  refine lv_aload_n hx hb dX9_digest_83 rfl (lv_at hl 2 rfl) ?_
  refine va_get (D := G.1) (ci := 14) (v := .ref h) (C := RX9) (T := TX9) (N := 7) hx hb hts oaX9 hown hK.1 hP 0 rfl rfl 0 (by decide) (aw (w := Cond.fieldLink RX9 12 "DropflagMill" "program" "LDropflagMill$Program;") hts (ahC (bi9 (w := Cond.fieldLink RX9 12 "DropflagMill" "program" "LDropflagMill$Program;") 45 rfl))) (fun _ h9 => h9) rfl dX9_digest_84 ?_
  refine va_get (D := G.1) (ci := 10) (v := .int 0) (C := RX5) (T := TX5) (N := 6) hx hb hts oaX5 hown hK.1 hP 5 rfl rfl 5 (by decide) (aw (w := Cond.fieldLink RX9 79 "DropflagMill$Program" "lines" "I") hts (ahC (bi10 (w := Cond.fieldLink RX9 79 "DropflagMill$Program" "lines" "I") 16 rfl))) (fun _ h9 => h9) rfl dX9_digest_87 ?_
  refine lv_icmp_ge (tgt := 106) hx hb dX9_digest_90 (by decide) (fun c10 => ?_) (fun c10 => absurd c10 (by decide))
  refine lv_aload_n hx hb dX9_digest_106 rfl (lv_at hl 2 rfl) ?_
  refine lv_lload_n hx hb dX9_digest_107 rfl (lv_at hl 1 rfl) ?_
  refine px_v (As := [.long 1599445821342985]) (rest := []) (wr := [(ow, .inr (13, [.ref h, .ref w1, .ref w2, .ref w3, .ref w4, .ref w5, .ref w6, .int wdp, .int wwr])), (h, .inr (10, [.ref k0, .ref k1, .ref k2, .ref k3, .int 0, .int 0])), (r1, .inl (G.2.2, 34, .inl cr)), (r7, .inl (G.2.1, 34, .inl cn)), (x, .inr (11, [.ref h, .ref ow, .ref os, .ref on, .ref v1, .ref v2, .ref v3, .ref v4, .int (-1), .int 0, .int 0, .int 0, .int 0, .int 0, .int 0, .int (-1), .int 0])), (os, .inr (12, [.ref t0, .ref t1, .ref t2, .int 0])), (on, .inr (9, [.ref u0, .ref u1, .ref u2, .ref u3, .int 0, .int 0]))]) hx hb hml hown hts (k_c_loans l G k z h r x g rr xx od ow ol oq r1 r2 r3 r4 r5 r6 r7 l1 l2 l3 l4 m0 m1 m2 m3 1599445821342985 ) 1 (gAV idA (ahC (bi13 (w := Cond.methodLink RX9 327 yX9_withLoansAndFaults) 4 rfl)) (ahC (bi13 (w := Cond.instanceMethod yX9_withLoansAndFaults) 5 rfl)) (ahC (bi13 (w := Cond.selects RX9 yX9_withLoansAndFaults yX9_withLoansAndFaults) 6 rfl)) (ahC (bi1 (w := Cond.initialized RX9) 58 rfl)) (ahC (bi12 (w := Cond.code yX9_withLoansAndFaults cX9_withLoansAndFaults 7 (some .long)) 45 rfl))) rfl (by decide +kernel) ⟨(Nat.le_of_ble_eq_true rfl), (Nat.le_of_ble_eq_true rfl)⟩ hK hP hD hS hA hE [0, 1, 3, 4] [2, 5, 6, 7, 8, 9, 10] rfl (by decide) rfl (by decide) (by decide) 0 rfl rfl rfl hl rfl (Nat.le_of_ble_eq_true rfl) ⟨(Nat.le_of_ble_eq_true rfl), (Nat.le_of_ble_eq_true rfl)⟩ dX9_digest_108 (fun u H locs hP hD hS => ?_)
  have hP : va_P G.1 vwCl [(ow, .inr (13, [.ref h, .ref w1, .ref w2, .ref w3, .ref w4, .ref w5, .ref w6, .int wdp, .int wwr])), (h, .inr (10, [.ref k0, .ref k1, .ref k2, .ref k3, .int 0, .int 0])), (r1, .inl (G.2.2, 34, .inl cr)), (r7, .inl (G.2.1, 34, .inl cn)), (x, .inr (11, [.ref h, .ref ow, .ref os, .ref on, .ref v1, .ref v2, .ref v3, .ref v4, .int (-1), .int 0, .int 0, .int 0, .int 0, .int 0, .int 0, .int (-1), .int 0])), (os, .inr (12, [.ref t0, .ref t1, .ref t2, .int 0])), (on, .inr (9, [.ref u0, .ref u1, .ref u2, .ref u3, .int 0, .int 0])), (z, .inr (14, [.ref h, .ref r, .ref x, .ref g, .ref rr, .ref xx, .int 0])), (r, .inr (5, [.ref h, .ref od, .ref ow, .ref ol, .ref oq, .ref r1, .ref r2, .ref r3, .ref r4, .ref r5, .ref r6, .ref r7, .int 0])), (ol, .inr (8, [.ref h, .ref l1, .ref l2, .ref l3, .ref l4, .int 0])), (oq, .inr (7, [.ref m0, .ref m1, .ref m2, .ref m3, .int 0]))] _ := hP
  have hD : va_D A [(ow, .inr (13, [.ref h, .ref w1, .ref w2, .ref w3, .ref w4, .ref w5, .ref w6, .int wdp, .int wwr])), (h, .inr (10, [.ref k0, .ref k1, .ref k2, .ref k3, .int 0, .int 0])), (r1, .inl (G.2.2, 34, .inl cr)), (r7, .inl (G.2.1, 34, .inl cn)), (x, .inr (11, [.ref h, .ref ow, .ref os, .ref on, .ref v1, .ref v2, .ref v3, .ref v4, .int (-1), .int 0, .int 0, .int 0, .int 0, .int 0, .int 0, .int (-1), .int 0])), (os, .inr (12, [.ref t0, .ref t1, .ref t2, .int 0])), (on, .inr (9, [.ref u0, .ref u1, .ref u2, .ref u3, .int 0, .int 0])), (z, .inr (14, [.ref h, .ref r, .ref x, .ref g, .ref rr, .ref xx, .int 0])), (r, .inr (5, [.ref h, .ref od, .ref ow, .ref ol, .ref oq, .ref r1, .ref r2, .ref r3, .ref r4, .ref r5, .ref r6, .ref r7, .int 0])), (ol, .inr (8, [.ref h, .ref l1, .ref l2, .ref l3, .ref l4, .int 0])), (oq, .inr (7, [.ref m0, .ref m1, .ref m2, .ref m3, .int 0]))] := hD
  refine W.eq (g2 := F0 m _ ls [.long 1599445821342985]) rfl ?_
  rw [show (1599445821342985 : Int64) = 1599445821342985 from by decide]
  refine lv_lstore_n (lv' := [(1, .long 1599445821342985), (3, .int 0), (0, .ref z)]) hx hb dX9_digest_111 rfl hl (by decide) rfl (fun ls hl => ?_)
  refine lv_aload_n hx hb dX9_digest_112 rfl (lv_at hl 2 rfl) ?_
  refine lv_lload_n hx hb dX9_digest_113 rfl (lv_at hl 0 rfl) ?_
  refine px_v (As := [.long 1599445821342985]) (rest := []) (wr := [(ow, .inr (13, [.ref h, .ref w1, .ref w2, .ref w3, .ref w4, .ref w5, .ref w6, .int wdp, .int wwr])), (h, .inr (10, [.ref k0, .ref k1, .ref k2, .ref k3, .int 0, .int 0])), (r1, .inl (G.2.2, 34, .inl cr)), (r7, .inl (G.2.1, 34, .inl cn)), (r, .inr (5, [.ref h, .ref od, .ref ow, .ref ol, .ref oq, .ref r1, .ref r2, .ref r3, .ref r4, .ref r5, .ref r6, .ref r7, .int 0])), (ol, .inr (8, [.ref h, .ref l1, .ref l2, .ref l3, .ref l4, .int 0])), (oq, .inr (7, [.ref m0, .ref m1, .ref m2, .ref m3, .int 0]))]) hx hb hml hown hts (k_c_latest l G k z h r x g rr xx ow os on v1 v2 v3 v4 t0 t1 t2 u0 u1 u2 u3 ) 1 (gAV idA (ahC (bi13 (w := Cond.methodLink RX9 331 yX9_withLatestRun) 7 rfl)) (ahC (bi13 (w := Cond.instanceMethod yX9_withLatestRun) 8 rfl)) (ahC (bi13 (w := Cond.selects RX9 yX9_withLatestRun yX9_withLatestRun) 9 rfl)) (ahC (bi1 (w := Cond.initialized RX9) 58 rfl)) (ahC (bi12 (w := Cond.code yX9_withLatestRun cX9_withLatestRun 8 (some .long)) 53 rfl))) rfl (by decide +kernel) ⟨(Nat.le_of_ble_eq_true rfl), (Nat.le_of_ble_eq_true rfl)⟩ hK hP hD hS hA hE [7, 4, 5, 6] [0, 1, 2, 3, 8, 9, 10] rfl (by decide) rfl (by decide) (by decide) 0 rfl rfl rfl hl rfl (Nat.le_of_ble_eq_true rfl) ⟨(Nat.le_of_ble_eq_true rfl), (Nat.le_of_ble_eq_true rfl)⟩ dX9_digest_114 (fun u H locs hP hD hS => ?_)
  have hP : va_P G.1 vwCl [(ow, .inr (13, [.ref h, .ref w1, .ref w2, .ref w3, .ref w4, .ref w5, .ref w6, .int wdp, .int wwr])), (h, .inr (10, [.ref k0, .ref k1, .ref k2, .ref k3, .int 0, .int 0])), (r1, .inl (G.2.2, 34, .inl cr)), (r7, .inl (G.2.1, 34, .inl cn)), (r, .inr (5, [.ref h, .ref od, .ref ow, .ref ol, .ref oq, .ref r1, .ref r2, .ref r3, .ref r4, .ref r5, .ref r6, .ref r7, .int 0])), (ol, .inr (8, [.ref h, .ref l1, .ref l2, .ref l3, .ref l4, .int 0])), (oq, .inr (7, [.ref m0, .ref m1, .ref m2, .ref m3, .int 0])), (z, .inr (14, [.ref h, .ref r, .ref x, .ref g, .ref rr, .ref xx, .int 0])), (x, .inr (11, [.ref h, .ref ow, .ref os, .ref on, .ref v1, .ref v2, .ref v3, .ref v4, .int (-1), .int 0, .int 0, .int 0, .int 0, .int 0, .int 0, .int (-1), .int 0])), (os, .inr (12, [.ref t0, .ref t1, .ref t2, .int 0])), (on, .inr (9, [.ref u0, .ref u1, .ref u2, .ref u3, .int 0, .int 0]))] _ := hP
  have hD : va_D A [(ow, .inr (13, [.ref h, .ref w1, .ref w2, .ref w3, .ref w4, .ref w5, .ref w6, .int wdp, .int wwr])), (h, .inr (10, [.ref k0, .ref k1, .ref k2, .ref k3, .int 0, .int 0])), (r1, .inl (G.2.2, 34, .inl cr)), (r7, .inl (G.2.1, 34, .inl cn)), (r, .inr (5, [.ref h, .ref od, .ref ow, .ref ol, .ref oq, .ref r1, .ref r2, .ref r3, .ref r4, .ref r5, .ref r6, .ref r7, .int 0])), (ol, .inr (8, [.ref h, .ref l1, .ref l2, .ref l3, .ref l4, .int 0])), (oq, .inr (7, [.ref m0, .ref m1, .ref m2, .ref m3, .int 0])), (z, .inr (14, [.ref h, .ref r, .ref x, .ref g, .ref rr, .ref xx, .int 0])), (x, .inr (11, [.ref h, .ref ow, .ref os, .ref on, .ref v1, .ref v2, .ref v3, .ref v4, .int (-1), .int 0, .int 0, .int 0, .int 0, .int 0, .int 0, .int (-1), .int 0])), (os, .inr (12, [.ref t0, .ref t1, .ref t2, .int 0])), (on, .inr (9, [.ref u0, .ref u1, .ref u2, .ref u3, .int 0, .int 0]))] := hD
  refine W.eq (g2 := F0 m _ ls [.long 3461236070008278473]) rfl ?_
  rw [show (3461236070008278473 : Int64) = 3461236070008278473 from by decide]
  refine lv_lstore_n (lv' := [(1, .long 3461236070008278473), (3, .int 0), (0, .ref z)]) hx hb dX9_digest_117 rfl hl (by decide) rfl (fun ls hl => ?_)
  refine lv_aload_n hx hb dX9_digest_118 rfl (lv_at hl 2 rfl) ?_
  refine va_get (D := G.1) (ci := 14) (v := .ref h) (C := RX9) (T := TX9) (N := 7) hx hb hts oaX9 hown hK.1 hP 7 rfl rfl 0 (by decide) (aw (w := Cond.fieldLink RX9 12 "DropflagMill" "program" "LDropflagMill$Program;") hts (ahC (bi9 (w := Cond.fieldLink RX9 12 "DropflagMill" "program" "LDropflagMill$Program;") 45 rfl))) (fun _ h9 => h9) rfl dX9_digest_119 ?_
  refine va_get (D := G.1) (ci := 10) (v := .int 0) (C := RX5) (T := TX5) (N := 6) hx hb hts oaX5 hown hK.1 hP 1 rfl rfl 5 (by decide) (aw (w := Cond.fieldLink RX9 79 "DropflagMill$Program" "lines" "I") hts (ahC (bi10 (w := Cond.fieldLink RX9 79 "DropflagMill$Program" "lines" "I") 16 rfl))) (fun _ h9 => h9) rfl dX9_digest_122 ?_
  refine lv_if_le (tgt := 149) hx hb dX9_digest_125 (by decide) (fun c11 => ?_) (fun c11 => absurd c11 (by decide))
  refine lv_lload_n hx hb dX9_digest_149 rfl (lv_at hl 0 rfl) ?_
  refine W.widen (k := 0) (n := 0) (Nat.le_of_ble_eq_true rfl) (Nat.le_of_ble_eq_true rfl) ?_
  exact px_rl () hx hb hr hlk (hP.sub [] rfl) (hD.sub [] (by decide) rfl) hS rfl dX9_digest_150
