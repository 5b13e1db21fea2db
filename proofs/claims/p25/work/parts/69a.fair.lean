/-- what is told, in order -/
theorem li_min {n : Nat} (h : n < 2 ^ 31) : s_mmin 60 (nI n) = nI (min 60 n) := by
  unfold s_mmin
  by_cases c : n < 60
  · have c2 : nI n < 60 := show nI n < nI 60 from (nI_ltI h (by omega)).mpr c
    rw [if_pos c2, show min 60 n = n by omega]
  · have c2 : ¬ nI n < 60 := show ¬ nI n < nI 60 from fun z => c ((nI_ltI h (by omega)).mp z)
    rw [if_neg c2, show min 60 n = 60 by omega]
    rfl
theorem li_ct1 {zs : Nat → Int32} {x : Int32} {i : Nat} (h : zs i = x) : qr_ct zs x (i + 1) = qr_ct zs x i + 1 := by
  show qb_sum (fun k => if zs k = x then 1 else 0) i + (if zs i = x then 1 else 0) = _
  rw [if_pos h]
  rfl
theorem li_ct0 {zs : Nat → Int32} {x : Int32} {i : Nat} (h : ¬ zs i = x) : qr_ct zs x (i + 1) = qr_ct zs x i := by
  show qb_sum (fun k => if zs k = x then 1 else 0) i + (if zs i = x then 1 else 0) = _
  rw [if_neg h]
  rfl
theorem li_swap (a b c d : Int32) : a + b - c - d = a - c + b - d := by
  have e : a + b - c = a - c + b := by
    rw [Int32.sub_eq_add_neg, Int32.sub_eq_add_neg, Int32.add_assoc, Int32.add_comm b, ← Int32.add_assoc]
  rw [e]

abbrev wdL_isFair : List Cond := Cond.code yL_isFair cL_isFair 6 (some .boolean) :: bwC
set_option maxHeartbeats 4000000 in
set_option maxRecDepth 100000 in
theorem t_L_isFair0 (l : Launch) (G : sxG) (k : lxC) (q : Nat → Nat) (M : mlS) (sn mn dn gn t4 : Nat) (hrn : ¬ M.2.2.2.1 = 0) (es : qr_ysc M.2.2.1 = nI sn) (em : qr_ybxm M.2.2.1 = nI mn) (ed : qr_ybxd M.2.2.1 = nI dn) (eg : qr_yng M.2.2.1 = nI gn) (ls1 : sn < 2 ^ 20) (ls2 : mn < 2 ^ 20) (ls3 : dn < 2 ^ 20) (lg : gn ≤ qr_ynm M.2.2.1) (lnm : qr_ynm M.2.2.1 ≤ 500) (lst : qr_ystp M.2.2.1 ≤ 500) (hct : sn ≤ 60 → qr_ct (qr_yzs M.2.2.1) 1 sn = dn ∧ qr_ct (qr_yzs M.2.2.1) 2 sn = gn) (hp4 : qr_ypnl M.2.2.1 = -1) (hmd : mn = dn) : lyM l yL_isFair wdL_isFair 5 106 0 0 G k [mlW G q M] [.ref (q 0), .int 0] (fun B v => B = [mlW G q M] ∧ v = some (.int 1)) := by
  refine lyM.of (cc := cL_isFair) (maxL := 6) (rt := (some .boolean)) (by decide) rfl (Nat.le_of_ble_eq_true rfl) ?_
  intro p e s m args below meth c ⟨hx, hb, hr, hml, hown, hlk, hts, hK⟩ hnm A hA hP hD hS hE ls hl
  have hl : lv_has ls 6 [(0, .ref (q 0)), (1, .int 0)] := hl
  refine lv_iconst (v := 0) hx hb dL_isFair_0 (by decide) ?_
  refine lv_istore_n (lv' := [(2, .int 0), (0, .ref (q 0)), (1, .int 0)]) hx hb dL_isFair_1 rfl hl (by decide) rfl (fun ls hl => ?_)
  refine lv_iconst (v := 0) hx hb dL_isFair_2 (by decide) ?_
  refine lv_istore_n (lv' := [(3, .int 0), (2, .int 0), (0, .ref (q 0)), (1, .int 0)]) hx hb dL_isFair_3 rfl hl (by decide) rfl (fun ls hl => ?_)
  refine lv_bipush (v := 60) hx hb dL_isFair_4 (by decide) ?_
  refine lv_aload_n hx hb dL_isFair_6 rfl (lv_at hl 2 rfl) ?_
  refine lv_iconst (v := 2) hx hb dL_isFair_7 (by decide) ?_
  refine ly_v (As := [.int 2]) (rest := [.int 60]) hx hb hml hown hts (m_ofRun (l := l) (G := G) (k := k) (q := q) (M := M) (p1 := 2) (v1 := nI sn) (sx_x_ofRun _ (w := 2) (by omega)) ((qo_2 _ _ _ _ _ _ _ _ _).trans es)) 1 (sxGV (bi14 (w := Cond.methodLink RL 95 yX9_ofRun) 16 rfl) (bi12 (w := Cond.instanceMethod yX9_ofRun) 41 rfl) (bi12 (w := Cond.selects RX9 yX9_ofRun yX9_ofRun) 42 rfl) (bi1 (w := Cond.initialized RX9) 58 rfl) (bi11 (w := Cond.code yX9_ofRun cX9_ofRun 2 (some .int)) 29 rfl)) rfl (by decide +kernel) ⟨Nat.le_of_ble_eq_true rfl, Nat.le_of_ble_eq_true rfl⟩ hK hP hD hS hA hE [0] [] rfl rfl (by show List.Perm _ (List.range 1); decide) 0 0 rfl rfl rfl rfl hl rfl (Nat.le_of_ble_eq_true rfl) ⟨by show _ ≤ 0; omega, by show _ ≤ 0; omega⟩ dL_isFair_8 (fun B1 v1 hp1 H locs hP hD hS => ?_)
  obtain ⟨rfl, rfl⟩ := hp1
  show W p l e _ s m args below meth c H locs _ _ _ (F0 m 11 ls [.int (nI sn), .int 60])
  have hP : va_P G.1 vwCl (lxF [mlW G q M]) H := hP
  have hD : va_D A (lxF [mlW G q M]) := hD
  refine sx_mmin hx hb (hml.trans hl.1.symm) hown (bw14 (w := Cond.methodLink RL 121 Lib.Math.min.name) hts 15 rfl) (bw9 (w := Cond.static Lib.Math.min.name) hts 31 rfl) (bw5 (w := Cond.initialized "java/lang/Math") hts 20 rfl) (bw9 (w := Cond.code Lib.Math.min.name Lib.Math.min.code 2 (some .int)) hts 32 rfl) (Nat.le_of_ble_eq_true rfl) (Nat.le_of_ble_eq_true rfl) (by show _ ≤ 0; omega) (by show _ ≤ 0; omega) (x := 60) (y := nI sn) dL_isFair_11 ?_
  rw [show s_mmin 60 (nI sn) = nI (min 60 sn) from li_min (by omega)]
  refine lv_istore (lv' := [(4, .int (nI (min 60 sn))), (3, .int 0), (2, .int 0), (0, .ref (q 0)), (1, .int 0)]) hx hb dL_isFair_14 hl (by decide) rfl (fun ls hl => ?_)
  refine lv_iconst (v := 0) hx hb dL_isFair_16 (by decide) ?_
  refine lv_istore (lv' := [(5, .int 0), (4, .int (nI (min 60 sn))), (3, .int 0), (2, .int 0), (0, .ref (q 0)), (1, .int 0)]) hx hb dL_isFair_17 hl (by decide) rfl (fun ls hl => ?_)
  have LP19_1 : ∀ (kk1 : Nat) (i : Nat), min 60 sn - i < kk1 → (i ≤ min 60 sn) → ∀ cells slots : Nat, cells ≤ 0 → slots ≤ 0 → ∀ (H : Heap) (locs : List Loc), va_P G.1 vwCl (lxF [mlW G q M]) H → va_D A (lxF [mlW G q M]) → va_S A s.heap H locs → ∀ ls : Array Slot, lv_has ls 6 [(0, .ref (q 0)), (1, .int 0), (2, .int (nI (qr_ct (qr_yzs M.2.2.1) 1 i))), (3, .int (nI (qr_ct (qr_yzs M.2.2.1) 2 i))), (4, .int (nI (min 60 sn))), (5, .int (nI i))] → W p l e ({ frames := 5, cells := 0, slots := 0, locals := 106 } : Room) s m args below meth c H locs cells slots (lyZ 0 0 G args s below A (fun B v => B = [mlW G q M] ∧ v = some (.int 1))) (F0 m 19 ls []) := by
    intro kk1
    induction kk1 with
    | zero =>
      intro i hm
      exact absurd hm (Nat.not_lt_zero _)
    | succ kk1 ih1 =>
      intro i hm1 hi cells slots hcc1 hss1 H locs hP hD hS ls hl
      refine lv_iload hx hb dL_isFair_19 (lv_at hl 5 rfl) ?_
      refine lv_iload hx hb dL_isFair_21 (lv_at hl 4 rfl) ?_
      refine lv_icmp_ge (tgt := 70) hx hb dL_isFair_23 (by decide) (fun c2 => ?_) (fun c2 => ?_)
      · have nc2 := (nI_leI (a := (min 60 sn)) (b := i) (by omega) (by omega)).mp c2
        refine lv_aload_n hx hb dL_isFair_70 rfl (lv_at hl 0 rfl) ?_
        refine lv_iconst (v := 2) hx hb dL_isFair_71 (by decide) ?_
        refine ly_v (As := [.int 2]) (rest := []) hx hb hml hown hts (m_ofRun (l := l) (G := G) (k := k) (q := q) (M := M) (p1 := 2) (v1 := nI sn) (sx_x_ofRun _ (w := 2) (by omega)) ((qo_2 _ _ _ _ _ _ _ _ _).trans es)) 1 (sxGV (bi14 (w := Cond.methodLink RL 95 yX9_ofRun) 16 rfl) (bi12 (w := Cond.instanceMethod yX9_ofRun) 41 rfl) (bi12 (w := Cond.selects RX9 yX9_ofRun yX9_ofRun) 42 rfl) (bi1 (w := Cond.initialized RX9) 58 rfl) (bi11 (w := Cond.code yX9_ofRun cX9_ofRun 2 (some .int)) 29 rfl)) rfl (by decide +kernel) ⟨Nat.le_of_ble_eq_true rfl, Nat.le_of_ble_eq_true rfl⟩ hK hP hD hS hA hE [0] [] rfl rfl (by show List.Perm _ (List.range 1); decide) 0 0 rfl rfl rfl rfl hl rfl (Nat.le_of_ble_eq_true rfl) ⟨by show _ ≤ 0; omega, by show _ ≤ 0; omega⟩ dL_isFair_72 (fun B1 v1 hp1 H locs hP hD hS => ?_)
        obtain ⟨rfl, rfl⟩ := hp1
        show W p l e _ s m args below meth c H locs _ _ _ (F0 m 75 ls [.int (nI sn)])
        have hP : va_P G.1 vwCl (lxF [mlW G q M]) H := hP
        have hD : va_D A (lxF [mlW G q M]) := hD
        refine lv_bipush (v := 60) hx hb dL_isFair_75 (by decide) ?_
        refine lv_icmp_gt (tgt := 101) hx hb dL_isFair_77 (by decide) (fun c3 => ?_) (fun c3 => ?_)
        · have nc3 := (nI_ltI (a := 60) (b := sn) (by omega) (by omega)).mp c3
          refine lv_iload_n hx hb dL_isFair_101 rfl (lv_at hl 1 rfl) ?_
          refine lv_iconst (v := 2) hx hb dL_isFair_102 (by decide) ?_
          refine lv_icmp_ge (tgt := 119) hx hb dL_isFair_103 (by decide) (fun c4 => absurd c4 (by decide)) (fun c4 => ?_)
          refine lv_aload_n hx hb dL_isFair_106 rfl (lv_at hl 0 rfl) ?_
          refine lv_iconst (v := 3) hx hb dL_isFair_107 (by decide) ?_
          refine ly_v (As := [.int 3]) (rest := []) hx hb hml hown hts (m_ofRun (l := l) (G := G) (k := k) (q := q) (M := M) (p1 := 3) (v1 := nI mn) (sx_x_ofRun _ (w := 3) (by omega)) ((qo_3 _ _ _ _ _ _ _ _ _).trans em)) 1 (sxGV (bi14 (w := Cond.methodLink RL 95 yX9_ofRun) 16 rfl) (bi12 (w := Cond.instanceMethod yX9_ofRun) 41 rfl) (bi12 (w := Cond.selects RX9 yX9_ofRun yX9_ofRun) 42 rfl) (bi1 (w := Cond.initialized RX9) 58 rfl) (bi11 (w := Cond.code yX9_ofRun cX9_ofRun 2 (some .int)) 29 rfl)) rfl (by decide +kernel) ⟨Nat.le_of_ble_eq_true rfl, Nat.le_of_ble_eq_true rfl⟩ hK hP hD hS hA hE [0] [] rfl rfl (by show List.Perm _ (List.range 1); decide) 0 0 rfl rfl rfl rfl hl rfl (Nat.le_of_ble_eq_true rfl) ⟨by show _ ≤ 0; omega, by show _ ≤ 0; omega⟩ dL_isFair_108 (fun B1 v1 hp1 H locs hP hD hS => ?_)
          obtain ⟨rfl, rfl⟩ := hp1
          show W p l e _ s m args below meth c H locs _ _ _ (F0 m 111 ls [.int (nI mn)])
          have hP : va_P G.1 vwCl (lxF [mlW G q M]) H := hP
          have hD : va_D A (lxF [mlW G q M]) := hD
          refine lv_aload_n hx hb dL_isFair_111 rfl (lv_at hl 0 rfl) ?_
          refine lv_iconst (v := 5) hx hb dL_isFair_112 (by decide) ?_
          refine ly_v (As := [.int 5]) (rest := [.int (nI mn)]) hx hb hml hown hts (m_ofRun (l := l) (G := G) (k := k) (q := q) (M := M) (p1 := 5) (v1 := nI dn) (sx_x_ofRun _ (w := 5) (by omega)) ((qo_5 _ _ _ _ _ _ _ _ _).trans ed)) 1 (sxGV (bi14 (w := Cond.methodLink RL 95 yX9_ofRun) 16 rfl) (bi12 (w := Cond.instanceMethod yX9_ofRun) 41 rfl) (bi12 (w := Cond.selects RX9 yX9_ofRun yX9_ofRun) 42 rfl) (bi1 (w := Cond.initialized RX9) 58 rfl) (bi11 (w := Cond.code yX9_ofRun cX9_ofRun 2 (some .int)) 29 rfl)) rfl (by decide +kernel) ⟨Nat.le_of_ble_eq_true rfl, Nat.le_of_ble_eq_true rfl⟩ hK hP hD hS hA hE [0] [] rfl rfl (by show List.Perm _ (List.range 1); decide) 0 0 rfl rfl rfl rfl hl rfl (Nat.le_of_ble_eq_true rfl) ⟨by show _ ≤ 0; omega, by show _ ≤ 0; omega⟩ dL_isFair_113 (fun B1 v1 hp1 H locs hP hD hS => ?_)
          obtain ⟨rfl, rfl⟩ := hp1
          show W p l e _ s m args below meth c H locs _ _ _ (F0 m 116 ls [.int (nI dn), .int (nI mn)])
          have hP : va_P G.1 vwCl (lxF [mlW G q M]) H := hP
          have hD : va_D A (lxF [mlW G q M]) := hD
          refine lv_icmp_ne (tgt := 166) hx hb dL_isFair_116 (by decide) (fun c5 => False.elim (by have nc5 := (not_congr (nI_eq (a := mn) (b := dn) (by omega) (by omega))).mp c5; omega)) (fun c5 => ?_)
          have nc5 := (nI_eq (a := mn) (b := dn) (by omega) (by omega)).mp c5
          refine lv_aload_n hx hb dL_isFair_119 rfl (lv_at hl 0 rfl) ?_
          refine lv_bipush (v := 6) hx hb dL_isFair_120 (by decide) ?_
          refine ly_v (As := [.int 6]) (rest := []) hx hb hml hown hts (m_ofRun (l := l) (G := G) (k := k) (q := q) (M := M) (p1 := 6) (v1 := nI gn) (sx_x_ofRun _ (w := 6) (by omega)) ((qo_6 _ _ _ _ _ _ _ _ _).trans eg)) 1 (sxGV (bi14 (w := Cond.methodLink RL 95 yX9_ofRun) 16 rfl) (bi12 (w := Cond.instanceMethod yX9_ofRun) 41 rfl) (bi12 (w := Cond.selects RX9 yX9_ofRun yX9_ofRun) 42 rfl) (bi1 (w := Cond.initialized RX9) 58 rfl) (bi11 (w := Cond.code yX9_ofRun cX9_ofRun 2 (some .int)) 29 rfl)) rfl (by decide +kernel) ⟨Nat.le_of_ble_eq_true rfl, Nat.le_of_ble_eq_true rfl⟩ hK hP hD hS hA hE [0] [] rfl rfl (by show List.Perm _ (List.range 1); decide) 0 0 rfl rfl rfl rfl hl rfl (Nat.le_of_ble_eq_true rfl) ⟨by show _ ≤ 0; omega, by show _ ≤ 0; omega⟩ dL_isFair_122 (fun B1 v1 hp1 H locs hP hD hS => ?_)
          obtain ⟨rfl, rfl⟩ := hp1
          show W p l e _ s m args below meth c H locs _ _ _ (F0 m 125 ls [.int (nI gn)])
          have hP : va_P G.1 vwCl (lxF [mlW G q M]) H := hP
          have hD : va_D A (lxF [mlW G q M]) := hD
          refine lv_aload_n hx hb dL_isFair_125 rfl (lv_at hl 0 rfl) ?_
          refine lv_iconst (v := 4) hx hb dL_isFair_126 (by decide) ?_
          refine ly_v (As := [.int 4]) (rest := [.int (nI gn)]) hx hb hml hown hts (m_ofRun (l := l) (G := G) (k := k) (q := q) (M := M) (p1 := 4) (v1 := nI (qr_ynm M.2.2.1)) (sx_x_ofRun _ (w := 4) (by omega)) (qo_4 _ _ _ _ _ _ _ _ _)) 1 (sxGV (bi14 (w := Cond.methodLink RL 95 yX9_ofRun) 16 rfl) (bi12 (w := Cond.instanceMethod yX9_ofRun) 41 rfl) (bi12 (w := Cond.selects RX9 yX9_ofRun yX9_ofRun) 42 rfl) (bi1 (w := Cond.initialized RX9) 58 rfl) (bi11 (w := Cond.code yX9_ofRun cX9_ofRun 2 (some .int)) 29 rfl)) rfl (by decide +kernel) ⟨Nat.le_of_ble_eq_true rfl, Nat.le_of_ble_eq_true rfl⟩ hK hP hD hS hA hE [0] [] rfl rfl (by show List.Perm _ (List.range 1); decide) 0 0 rfl rfl rfl rfl hl rfl (Nat.le_of_ble_eq_true rfl) ⟨by show _ ≤ 0; omega, by show _ ≤ 0; omega⟩ dL_isFair_127 (fun B1 v1 hp1 H locs hP hD hS => ?_)
          obtain ⟨rfl, rfl⟩ := hp1
          show W p l e _ s m args below meth c H locs _ _ _ (F0 m 130 ls [.int (nI (qr_ynm M.2.2.1)), .int (nI gn)])
          have hP : va_P G.1 vwCl (lxF [mlW G q M]) H := hP
          have hD : va_D A (lxF [mlW G q M]) := hD
          refine lv_icmp_gt (tgt := 166) hx hb dL_isFair_130 (by decide) (fun c6 => False.elim (by have nc6 := (nI_ltI (a := (qr_ynm M.2.2.1)) (b := gn) (by omega) (by omega)).mp c6; omega)) (fun c6 => ?_)
          have nc6 := (not_congr (nI_ltI (a := (qr_ynm M.2.2.1)) (b := gn) (by omega) (by omega))).mp c6
          refine lv_aload_n hx hb dL_isFair_133 rfl (lv_at hl 0 rfl) ?_
          refine lv_bipush (v := 7) hx hb dL_isFair_134 (by decide) ?_
          refine ly_v (As := [.int 7]) (rest := []) hx hb hml hown hts (m_ofRun (l := l) (G := G) (k := k) (q := q) (M := M) (p1 := 7) (v1 := nI mn + nI (qr_ynm M.2.2.1) - nI dn - nI gn) (sx_x_ofRun _ (w := 7) (by omega)) (by rw [qo_7, em, ed, eg])) 1 (sxGV (bi14 (w := Cond.methodLink RL 95 yX9_ofRun) 16 rfl) (bi12 (w := Cond.instanceMethod yX9_ofRun) 41 rfl) (bi12 (w := Cond.selects RX9 yX9_ofRun yX9_ofRun) 42 rfl) (bi1 (w := Cond.initialized RX9) 58 rfl) (bi11 (w := Cond.code yX9_ofRun cX9_ofRun 2 (some .int)) 29 rfl)) rfl (by decide +kernel) ⟨Nat.le_of_ble_eq_true rfl, Nat.le_of_ble_eq_true rfl⟩ hK hP hD hS hA hE [0] [] rfl rfl (by show List.Perm _ (List.range 1); decide) 0 0 rfl rfl rfl rfl hl rfl (Nat.le_of_ble_eq_true rfl) ⟨by show _ ≤ 0; omega, by show _ ≤ 0; omega⟩ dL_isFair_136 (fun B1 v1 hp1 H locs hP hD hS => ?_)
          obtain ⟨rfl, rfl⟩ := hp1
          show W p l e _ s m args below meth c H locs _ _ _ (F0 m 139 ls [.int (nI mn + nI (qr_ynm M.2.2.1) - nI dn - nI gn)])
          have hP : va_P G.1 vwCl (lxF [mlW G q M]) H := hP
          have hD : va_D A (lxF [mlW G q M]) := hD
          refine lv_aload_n hx hb dL_isFair_139 rfl (lv_at hl 0 rfl) ?_
          refine lv_iconst (v := 3) hx hb dL_isFair_140 (by decide) ?_
          refine ly_v (As := [.int 3]) (rest := [.int (nI mn + nI (qr_ynm M.2.2.1) - nI dn - nI gn)]) hx hb hml hown hts (m_ofRun (l := l) (G := G) (k := k) (q := q) (M := M) (p1 := 3) (v1 := nI mn) (sx_x_ofRun _ (w := 3) (by omega)) ((qo_3 _ _ _ _ _ _ _ _ _).trans em)) 1 (sxGV (bi14 (w := Cond.methodLink RL 95 yX9_ofRun) 16 rfl) (bi12 (w := Cond.instanceMethod yX9_ofRun) 41 rfl) (bi12 (w := Cond.selects RX9 yX9_ofRun yX9_ofRun) 42 rfl) (bi1 (w := Cond.initialized RX9) 58 rfl) (bi11 (w := Cond.code yX9_ofRun cX9_ofRun 2 (some .int)) 29 rfl)) rfl (by decide +kernel) ⟨Nat.le_of_ble_eq_true rfl, Nat.le_of_ble_eq_true rfl⟩ hK hP hD hS hA hE [0] [] rfl rfl (by show List.Perm _ (List.range 1); decide) 0 0 rfl rfl rfl rfl hl rfl (Nat.le_of_ble_eq_true rfl) ⟨by show _ ≤ 0; omega, by show _ ≤ 0; omega⟩ dL_isFair_141 (fun B1 v1 hp1 H locs hP hD hS => ?_)
          obtain ⟨rfl, rfl⟩ := hp1
          show W p l e _ s m args below meth c H locs _ _ _ (F0 m 144 ls [.int (nI mn), .int (nI mn + nI (qr_ynm M.2.2.1) - nI dn - nI gn)])
          have hP : va_P G.1 vwCl (lxF [mlW G q M]) H := hP
          have hD : va_D A (lxF [mlW G q M]) := hD
          refine lv_aload_n hx hb dL_isFair_144 rfl (lv_at hl 0 rfl) ?_
          refine lv_iconst (v := 5) hx hb dL_isFair_145 (by decide) ?_
          refine ly_v (As := [.int 5]) (rest := [.int (nI mn), .int (nI mn + nI (qr_ynm M.2.2.1) - nI dn - nI gn)]) hx hb hml hown hts (m_ofRun (l := l) (G := G) (k := k) (q := q) (M := M) (p1 := 5) (v1 := nI dn) (sx_x_ofRun _ (w := 5) (by omega)) ((qo_5 _ _ _ _ _ _ _ _ _).trans ed)) 1 (sxGV (bi14 (w := Cond.methodLink RL 95 yX9_ofRun) 16 rfl) (bi12 (w := Cond.instanceMethod yX9_ofRun) 41 rfl) (bi12 (w := Cond.selects RX9 yX9_ofRun yX9_ofRun) 42 rfl) (bi1 (w := Cond.initialized RX9) 58 rfl) (bi11 (w := Cond.code yX9_ofRun cX9_ofRun 2 (some .int)) 29 rfl)) rfl (by decide +kernel) ⟨Nat.le_of_ble_eq_true rfl, Nat.le_of_ble_eq_true rfl⟩ hK hP hD hS hA hE [0] [] rfl rfl (by show List.Perm _ (List.range 1); decide) 0 0 rfl rfl rfl rfl hl rfl (Nat.le_of_ble_eq_true rfl) ⟨by show _ ≤ 0; omega, by show _ ≤ 0; omega⟩ dL_isFair_146 (fun B1 v1 hp1 H locs hP hD hS => ?_)
          obtain ⟨rfl, rfl⟩ := hp1
          show W p l e _ s m args below meth c H locs _ _ _ (F0 m 149 ls [.int (nI dn), .int (nI mn), .int (nI mn + nI (qr_ynm M.2.2.1) - nI dn - nI gn)])
          have hP : va_P G.1 vwCl (lxF [mlW G q M]) H := hP
          have hD : va_D A (lxF [mlW G q M]) := hD
          refine lv_isub hx hb dL_isFair_149 ?_
          refine lv_aload_n hx hb dL_isFair_150 rfl (lv_at hl 0 rfl) ?_
          refine lv_iconst (v := 4) hx hb dL_isFair_151 (by decide) ?_
          refine ly_v (As := [.int 4]) (rest := [.int ((nI mn) - (nI dn)), .int (nI mn + nI (qr_ynm M.2.2.1) - nI dn - nI gn)]) hx hb hml hown hts (m_ofRun (l := l) (G := G) (k := k) (q := q) (M := M) (p1 := 4) (v1 := nI (qr_ynm M.2.2.1)) (sx_x_ofRun _ (w := 4) (by omega)) (qo_4 _ _ _ _ _ _ _ _ _)) 1 (sxGV (bi14 (w := Cond.methodLink RL 95 yX9_ofRun) 16 rfl) (bi12 (w := Cond.instanceMethod yX9_ofRun) 41 rfl) (bi12 (w := Cond.selects RX9 yX9_ofRun yX9_ofRun) 42 rfl) (bi1 (w := Cond.initialized RX9) 58 rfl) (bi11 (w := Cond.code yX9_ofRun cX9_ofRun 2 (some .int)) 29 rfl)) rfl (by decide +kernel) ⟨Nat.le_of_ble_eq_true rfl, Nat.le_of_ble_eq_true rfl⟩ hK hP hD hS hA hE [0] [] rfl rfl (by show List.Perm _ (List.range 1); decide) 0 0 rfl rfl rfl rfl hl rfl (Nat.le_of_ble_eq_true rfl) ⟨by show _ ≤ 0; omega, by show _ ≤ 0; omega⟩ dL_isFair_152 (fun B1 v1 hp1 H locs hP hD hS => ?_)
          obtain ⟨rfl, rfl⟩ := hp1
          show W p l e _ s m args below meth c H locs _ _ _ (F0 m 155 ls [.int (nI (qr_ynm M.2.2.1)), .int ((nI mn) - (nI dn)), .int (nI mn + nI (qr_ynm M.2.2.1) - nI dn - nI gn)])
          have hP : va_P G.1 vwCl (lxF [mlW G q M]) H := hP
          have hD : va_D A (lxF [mlW G q M]) := hD
          refine lv_iadd hx hb dL_isFair_155 ?_
          refine lv_aload_n hx hb dL_isFair_156 rfl (lv_at hl 0 rfl) ?_
          refine lv_bipush (v := 6) hx hb dL_isFair_157 (by decide) ?_
          refine ly_v (As := [.int 6]) (rest := [.int (((nI mn) - (nI dn)) + (nI (qr_ynm M.2.2.1))), .int (nI mn + nI (qr_ynm M.2.2.1) - nI dn - nI gn)]) hx hb hml hown hts (m_ofRun (l := l) (G := G) (k := k) (q := q) (M := M) (p1 := 6) (v1 := nI gn) (sx_x_ofRun _ (w := 6) (by omega)) ((qo_6 _ _ _ _ _ _ _ _ _).trans eg)) 1 (sxGV (bi14 (w := Cond.methodLink RL 95 yX9_ofRun) 16 rfl) (bi12 (w := Cond.instanceMethod yX9_ofRun) 41 rfl) (bi12 (w := Cond.selects RX9 yX9_ofRun yX9_ofRun) 42 rfl) (bi1 (w := Cond.initialized RX9) 58 rfl) (bi11 (w := Cond.code yX9_ofRun cX9_ofRun 2 (some .int)) 29 rfl)) rfl (by decide +kernel) ⟨Nat.le_of_ble_eq_true rfl, Nat.le_of_ble_eq_true rfl⟩ hK hP hD hS hA hE [0] [] rfl rfl (by show List.Perm _ (List.range 1); decide) 0 0 rfl rfl rfl rfl hl rfl (Nat.le_of_ble_eq_true rfl) ⟨by show _ ≤ 0; omega, by show _ ≤ 0; omega⟩ dL_isFair_159 (fun B1 v1 hp1 H locs hP hD hS => ?_)
          obtain ⟨rfl, rfl⟩ := hp1
          show W p l e _ s m args below meth c H locs _ _ _ (F0 m 162 ls [.int (nI gn), .int (((nI mn) - (nI dn)) + (nI (qr_ynm M.2.2.1))), .int (nI mn + nI (qr_ynm M.2.2.1) - nI dn - nI gn)])
          have hP : va_P G.1 vwCl (lxF [mlW G q M]) H := hP
          have hD : va_D A (lxF [mlW G q M]) := hD
          refine lv_isub hx hb dL_isFair_162 ?_
          refine lv_icmp_eq (tgt := 168) hx hb dL_isFair_163 (by decide) (fun c7 => ?_) (fun c7 => False.elim (by exact c7 (li_swap _ _ _ _)))
          refine lv_aload_n hx hb dL_isFair_168 rfl (lv_at hl 0 rfl) ?_
          refine lv_bipush (v := 8) hx hb dL_isFair_169 (by decide) ?_
          refine ly_v (As := [.int 8]) (rest := []) hx hb hml hown hts (m_ofRun (l := l) (G := G) (k := k) (q := q) (M := M) (p1 := 8) (v1 := (-1)) (sx_x_ofRun _ (w := 8) (by omega)) ((qo_8 _ _ _ _ _ _ _ _ _ hrn).trans hp4)) 1 (sxGV (bi14 (w := Cond.methodLink RL 95 yX9_ofRun) 16 rfl) (bi12 (w := Cond.instanceMethod yX9_ofRun) 41 rfl) (bi12 (w := Cond.selects RX9 yX9_ofRun yX9_ofRun) 42 rfl) (bi1 (w := Cond.initialized RX9) 58 rfl) (bi11 (w := Cond.code yX9_ofRun cX9_ofRun 2 (some .int)) 29 rfl)) rfl (by decide +kernel) ⟨Nat.le_of_ble_eq_true rfl, Nat.le_of_ble_eq_true rfl⟩ hK hP hD hS hA hE [0] [] rfl rfl (by show List.Perm _ (List.range 1); decide) 0 0 rfl rfl rfl rfl hl rfl (Nat.le_of_ble_eq_true rfl) ⟨by show _ ≤ 0; omega, by show _ ≤ 0; omega⟩ dL_isFair_171 (fun B1 v1 hp1 H locs hP hD hS => ?_)
          obtain ⟨rfl, rfl⟩ := hp1
          show W p l e _ s m args below meth c H locs _ _ _ (F0 m 174 ls [.int (-1)])
          have hP : va_P G.1 vwCl (lxF [mlW G q M]) H := hP
          have hD : va_D A (lxF [mlW G q M]) := hD
          refine lv_if_ge (tgt := 181) hx hb dL_isFair_174 (by decide) (fun c8 => absurd c8 (by decide)) (fun c8 => ?_)
          refine lv_iconst (v := 1) hx hb dL_isFair_177 (by decide) ?_
          refine lv_goto (tgt := 182) hx hb dL_isFair_178 (by decide) ?_
          refine lv_iload_n hx hb dL_isFair_182 rfl (lv_at hl 1 rfl) ?_
          refine lv_if_eq (tgt := 191) hx hb dL_isFair_183 (by decide) (fun c9 => ?_) (fun c9 => absurd c9 (by decide))
          refine lv_iconst (v := 1) hx hb dL_isFair_191 (by decide) ?_
          refine lv_goto (tgt := 196) hx hb dL_isFair_192 (by decide) ?_
          refine lv_icmp_ne (tgt := 230) hx hb dL_isFair_196 (by decide) (fun c10 => absurd c10 (by decide)) (fun c10 => ?_)
          refine lv_aload_n hx hb dL_isFair_199 rfl (lv_at hl 0 rfl) ?_
          refine lv_iconst (v := 1) hx hb dL_isFair_200 (by decide) ?_
          refine ly_v (As := [.int 1]) (rest := []) hx hb hml hown hts (m_ofRun (l := l) (G := G) (k := k) (q := q) (M := M) (p1 := 1) (v1 := nI (qr_ystp M.2.2.1)) (sx_x_ofRun _ (w := 1) (by omega)) (qo_1 _ _ _ _ _ _ _ _ _)) 1 (sxGV (bi14 (w := Cond.methodLink RL 95 yX9_ofRun) 16 rfl) (bi12 (w := Cond.instanceMethod yX9_ofRun) 41 rfl) (bi12 (w := Cond.selects RX9 yX9_ofRun yX9_ofRun) 42 rfl) (bi1 (w := Cond.initialized RX9) 58 rfl) (bi11 (w := Cond.code yX9_ofRun cX9_ofRun 2 (some .int)) 29 rfl)) rfl (by decide +kernel) ⟨Nat.le_of_ble_eq_true rfl, Nat.le_of_ble_eq_true rfl⟩ hK hP hD hS hA hE [0] [] rfl rfl (by show List.Perm _ (List.range 1); decide) 0 0 rfl rfl rfl rfl hl rfl (Nat.le_of_ble_eq_true rfl) ⟨by show _ ≤ 0; omega, by show _ ≤ 0; omega⟩ dL_isFair_201 (fun B1 v1 hp1 H locs hP hD hS => ?_)
          obtain ⟨rfl, rfl⟩ := hp1
          show W p l e _ s m args below meth c H locs _ _ _ (F0 m 204 ls [.int (nI (qr_ystp M.2.2.1))])
          have hP : va_P G.1 vwCl (lxF [mlW G q M]) H := hP
          have hD : va_D A (lxF [mlW G q M]) := hD
          refine lv_sipush (v := 500) hx hb dL_isFair_204 (by decide) ?_
          refine lv_icmp_gt (tgt := 230) hx hb dL_isFair_207 (by decide) (fun c11 => False.elim (by have nc11 := (nI_ltI (a := 500) (b := (qr_ystp M.2.2.1)) (by omega) (by omega)).mp c11; omega)) (fun c11 => ?_)
          have nc11 := (not_congr (nI_ltI (a := 500) (b := (qr_ystp M.2.2.1)) (by omega) (by omega))).mp c11
          refine lv_iload_n hx hb dL_isFair_210 rfl (lv_at hl 1 rfl) ?_
          refine lv_iconst (v := 3) hx hb dL_isFair_211 (by decide) ?_
          refine lv_icmp_lt (tgt := 226) hx hb dL_isFair_212 (by decide) (fun c12 => ?_) (fun c12 => absurd c12 (by decide))
          refine lv_iconst (v := 1) hx hb dL_isFair_226 (by decide) ?_
          refine lv_goto (tgt := 231) hx hb dL_isFair_227 (by decide) ?_
          exact ly_ri hx hb hr hlk hP hD hS rfl (⟨rfl, rfl⟩) (by omega) (by omega) dL_isFair_231
        · have nc3 := (not_congr (nI_ltI (a := 60) (b := sn) (by omega) (by omega))).mp c3
          obtain ⟨hc1, hc2⟩ := hct (by omega)
          have ei : i = sn := by omega
          rw [← ei] at hc1 hc2
          refine lv_iload_n hx hb dL_isFair_80 rfl (lv_at hl 2 rfl) ?_
          refine lv_aload_n hx hb dL_isFair_81 rfl (lv_at hl 0 rfl) ?_
          refine lv_iconst (v := 5) hx hb dL_isFair_82 (by decide) ?_
          refine ly_v (As := [.int 5]) (rest := [.int (nI (qr_ct (qr_yzs M.2.2.1) 1 i))]) hx hb hml hown hts (m_ofRun (l := l) (G := G) (k := k) (q := q) (M := M) (p1 := 5) (v1 := nI dn) (sx_x_ofRun _ (w := 5) (by omega)) ((qo_5 _ _ _ _ _ _ _ _ _).trans ed)) 1 (sxGV (bi14 (w := Cond.methodLink RL 95 yX9_ofRun) 16 rfl) (bi12 (w := Cond.instanceMethod yX9_ofRun) 41 rfl) (bi12 (w := Cond.selects RX9 yX9_ofRun yX9_ofRun) 42 rfl) (bi1 (w := Cond.initialized RX9) 58 rfl) (bi11 (w := Cond.code yX9_ofRun cX9_ofRun 2 (some .int)) 29 rfl)) rfl (by decide +kernel) ⟨Nat.le_of_ble_eq_true rfl, Nat.le_of_ble_eq_true rfl⟩ hK hP hD hS hA hE [0] [] rfl rfl (by show List.Perm _ (List.range 1); decide) 0 0 rfl rfl rfl rfl hl rfl (Nat.le_of_ble_eq_true rfl) ⟨by show _ ≤ 0; omega, by show _ ≤ 0; omega⟩ dL_isFair_83 (fun B1 v1 hp1 H locs hP hD hS => ?_)
          obtain ⟨rfl, rfl⟩ := hp1
          show W p l e _ s m args below meth c H locs _ _ _ (F0 m 86 ls [.int (nI dn), .int (nI (qr_ct (qr_yzs M.2.2.1) 1 i))])
          have hP : va_P G.1 vwCl (lxF [mlW G q M]) H := hP
          have hD : va_D A (lxF [mlW G q M]) := hD
          refine lv_icmp_ne (tgt := 99) hx hb dL_isFair_86 (by decide) (fun c13 => False.elim (by have nc13 := (not_congr (nI_eq (a := (qr_ct (qr_yzs M.2.2.1) 1 i)) (b := dn) (by omega) (by omega))).mp c13; omega)) (fun c13 => ?_)
          have nc13 := (nI_eq (a := (qr_ct (qr_yzs M.2.2.1) 1 i)) (b := dn) (by omega) (by omega)).mp c13
          refine lv_iload_n hx hb dL_isFair_89 rfl (lv_at hl 3 rfl) ?_
          refine lv_aload_n hx hb dL_isFair_90 rfl (lv_at hl 0 rfl) ?_
          refine lv_bipush (v := 6) hx hb dL_isFair_91 (by decide) ?_
          refine ly_v (As := [.int 6]) (rest := [.int (nI (qr_ct (qr_yzs M.2.2.1) 2 i))]) hx hb hml hown hts (m_ofRun (l := l) (G := G) (k := k) (q := q) (M := M) (p1 := 6) (v1 := nI gn) (sx_x_ofRun _ (w := 6) (by omega)) ((qo_6 _ _ _ _ _ _ _ _ _).trans eg)) 1 (sxGV (bi14 (w := Cond.methodLink RL 95 yX9_ofRun) 16 rfl) (bi12 (w := Cond.instanceMethod yX9_ofRun) 41 rfl) (bi12 (w := Cond.selects RX9 yX9_ofRun yX9_ofRun) 42 rfl) (bi1 (w := Cond.initialized RX9) 58 rfl) (bi11 (w := Cond.code yX9_ofRun cX9_ofRun 2 (some .int)) 29 rfl)) rfl (by decide +kernel) ⟨Nat.le_of_ble_eq_true rfl, Nat.le_of_ble_eq_true rfl⟩ hK hP hD hS hA hE [0] [] rfl rfl (by show List.Perm _ (List.range 1); decide) 0 0 rfl rfl rfl rfl hl rfl (Nat.le_of_ble_eq_true rfl) ⟨by show _ ≤ 0; omega, by show _ ≤ 0; omega⟩ dL_isFair_93 (fun B1 v1 hp1 H locs hP hD hS => ?_)
          obtain ⟨rfl, rfl⟩ := hp1
          show W p l e _ s m args below meth c H locs _ _ _ (F0 m 96 ls [.int (nI gn), .int (nI (qr_ct (qr_yzs M.2.2.1) 2 i))])
          have hP : va_P G.1 vwCl (lxF [mlW G q M]) H := hP
          have hD : va_D A (lxF [mlW G q M]) := hD
          refine lv_icmp_eq (tgt := 101) hx hb dL_isFair_96 (by decide) (fun c14 => ?_) (fun c14 => False.elim (by have nc14 := (not_congr (nI_eq (a := (qr_ct (qr_yzs M.2.2.1) 2 i)) (b := gn) (by omega) (by omega))).mp c14; omega))
          have nc14 := (nI_eq (a := (qr_ct (qr_yzs M.2.2.1) 2 i)) (b := gn) (by omega) (by omega)).mp c14
          refine lv_iload_n hx hb dL_isFair_101 rfl (lv_at hl 1 rfl) ?_
          refine lv_iconst (v := 2) hx hb dL_isFair_102 (by decide) ?_
          refine lv_icmp_ge (tgt := 119) hx hb dL_isFair_103 (by decide) (fun c15 => absurd c15 (by decide)) (fun c15 => ?_)
          refine lv_aload_n hx hb dL_isFair_106 rfl (lv_at hl 0 rfl) ?_
          refine lv_iconst (v := 3) hx hb dL_isFair_107 (by decide) ?_
          refine ly_v (As := [.int 3]) (rest := []) hx hb hml hown hts (m_ofRun (l := l) (G := G) (k := k) (q := q) (M := M) (p1 := 3) (v1 := nI mn) (sx_x_ofRun _ (w := 3) (by omega)) ((qo_3 _ _ _ _ _ _ _ _ _).trans em)) 1 (sxGV (bi14 (w := Cond.methodLink RL 95 yX9_ofRun) 16 rfl) (bi12 (w := Cond.instanceMethod yX9_ofRun) 41 rfl) (bi12 (w := Cond.selects RX9 yX9_ofRun yX9_ofRun) 42 rfl) (bi1 (w := Cond.initialized RX9) 58 rfl) (bi11 (w := Cond.code yX9_ofRun cX9_ofRun 2 (some .int)) 29 rfl)) rfl (by decide +kernel) ⟨Nat.le_of_ble_eq_true rfl, Nat.le_of_ble_eq_true rfl⟩ hK hP hD hS hA hE [0] [] rfl rfl (by show List.Perm _ (List.range 1); decide) 0 0 rfl rfl rfl rfl hl rfl (Nat.le_of_ble_eq_true rfl) ⟨by show _ ≤ 0; omega, by show _ ≤ 0; omega⟩ dL_isFair_108 (fun B1 v1 hp1 H locs hP hD hS => ?_)
          obtain ⟨rfl, rfl⟩ := hp1
          show W p l e _ s m args below meth c H locs _ _ _ (F0 m 111 ls [.int (nI mn)])
          have hP : va_P G.1 vwCl (lxF [mlW G q M]) H := hP
          have hD : va_D A (lxF [mlW G q M]) := hD
          refine lv_aload_n hx hb dL_isFair_111 rfl (lv_at hl 0 rfl) ?_
          refine lv_iconst (v := 5) hx hb dL_isFair_112 (by decide) ?_
          refine ly_v (As := [.int 5]) (rest := [.int (nI mn)]) hx hb hml hown hts (m_ofRun (l := l) (G := G) (k := k) (q := q) (M := M) (p1 := 5) (v1 := nI dn) (sx_x_ofRun _ (w := 5) (by omega)) ((qo_5 _ _ _ _ _ _ _ _ _).trans ed)) 1 (sxGV (bi14 (w := Cond.methodLink RL 95 yX9_ofRun) 16 rfl) (bi12 (w := Cond.instanceMethod yX9_ofRun) 41 rfl) (bi12 (w := Cond.selects RX9 yX9_ofRun yX9_ofRun) 42 rfl) (bi1 (w := Cond.initialized RX9) 58 rfl) (bi11 (w := Cond.code yX9_ofRun cX9_ofRun 2 (some .int)) 29 rfl)) rfl (by decide +kernel) ⟨Nat.le_of_ble_eq_true rfl, Nat.le_of_ble_eq_true rfl⟩ hK hP hD hS hA hE [0] [] rfl rfl (by show List.Perm _ (List.range 1); decide) 0 0 rfl rfl rfl rfl hl rfl (Nat.le_of_ble_eq_true rfl) ⟨by show _ ≤ 0; omega, by show _ ≤ 0; omega⟩ dL_isFair_113 (fun B1 v1 hp1 H locs hP hD hS => ?_)
          obtain ⟨rfl, rfl⟩ := hp1
          show W p l e _ s m args below meth c H locs _ _ _ (F0 m 116 ls [.int (nI dn), .int (nI mn)])
          have hP : va_P G.1 vwCl (lxF [mlW G q M]) H := hP
          have hD : va_D A (lxF [mlW G q M]) := hD
          refine lv_icmp_ne (tgt := 166) hx hb dL_isFair_116 (by decide) (fun c16 => False.elim (by have nc16 := (not_congr (nI_eq (a := mn) (b := dn) (by omega) (by omega))).mp c16; omega)) (fun c16 => ?_)
          have nc16 := (nI_eq (a := mn) (b := dn) (by omega) (by omega)).mp c16
          refine lv_aload_n hx hb dL_isFair_119 rfl (lv_at hl 0 rfl) ?_
          refine lv_bipush (v := 6) hx hb dL_isFair_120 (by decide) ?_
          refine ly_v (As := [.int 6]) (rest := []) hx hb hml hown hts (m_ofRun (l := l) (G := G) (k := k) (q := q) (M := M) (p1 := 6) (v1 := nI gn) (sx_x_ofRun _ (w := 6) (by omega)) ((qo_6 _ _ _ _ _ _ _ _ _).trans eg)) 1 (sxGV (bi14 (w := Cond.methodLink RL 95 yX9_ofRun) 16 rfl) (bi12 (w := Cond.instanceMethod yX9_ofRun) 41 rfl) (bi12 (w := Cond.selects RX9 yX9_ofRun yX9_ofRun) 42 rfl) (bi1 (w := Cond.initialized RX9) 58 rfl) (bi11 (w := Cond.code yX9_ofRun cX9_ofRun 2 (some .int)) 29 rfl)) rfl (by decide +kernel) ⟨Nat.le_of_ble_eq_true rfl, Nat.le_of_ble_eq_true rfl⟩ hK hP hD hS hA hE [0] [] rfl rfl (by show List.Perm _ (List.range 1); decide) 0 0 rfl rfl rfl rfl hl rfl (Nat.le_of_ble_eq_true rfl) ⟨by show _ ≤ 0; omega, by show _ ≤ 0; omega⟩ dL_isFair_122 (fun B1 v1 hp1 H locs hP hD hS => ?_)
          obtain ⟨rfl, rfl⟩ := hp1
          show W p l e _ s m args below meth c H locs _ _ _ (F0 m 125 ls [.int (nI gn)])
          have hP : va_P G.1 vwCl (lxF [mlW G q M]) H := hP
          have hD : va_D A (lxF [mlW G q M]) := hD
          refine lv_aload_n hx hb dL_isFair_125 rfl (lv_at hl 0 rfl) ?_
          refine lv_iconst (v := 4) hx hb dL_isFair_126 (by decide) ?_
          refine ly_v (As := [.int 4]) (rest := [.int (nI gn)]) hx hb hml hown hts (m_ofRun (l := l) (G := G) (k := k) (q := q) (M := M) (p1 := 4) (v1 := nI (qr_ynm M.2.2.1)) (sx_x_ofRun _ (w := 4) (by omega)) (qo_4 _ _ _ _ _ _ _ _ _)) 1 (sxGV (bi14 (w := Cond.methodLink RL 95 yX9_ofRun) 16 rfl) (bi12 (w := Cond.instanceMethod yX9_ofRun) 41 rfl) (bi12 (w := Cond.selects RX9 yX9_ofRun yX9_ofRun) 42 rfl) (bi1 (w := Cond.initialized RX9) 58 rfl) (bi11 (w := Cond.code yX9_ofRun cX9_ofRun 2 (some .int)) 29 rfl)) rfl (by decide +kernel) ⟨Nat.le_of_ble_eq_true rfl, Nat.le_of_ble_eq_true rfl⟩ hK hP hD hS hA hE [0] [] rfl rfl (by show List.Perm _ (List.range 1); decide) 0 0 rfl rfl rfl rfl hl rfl (Nat.le_of_ble_eq_true rfl) ⟨by show _ ≤ 0; omega, by show _ ≤ 0; omega⟩ dL_isFair_127 (fun B1 v1 hp1 H locs hP hD hS => ?_)
          obtain ⟨rfl, rfl⟩ := hp1
          show W p l e _ s m args below meth c H locs _ _ _ (F0 m 130 ls [.int (nI (qr_ynm M.2.2.1)), .int (nI gn)])
          have hP : va_P G.1 vwCl (lxF [mlW G q M]) H := hP
          have hD : va_D A (lxF [mlW G q M]) := hD
          refine lv_icmp_gt (tgt := 166) hx hb dL_isFair_130 (by decide) (fun c17 => False.elim (by have nc17 := (nI_ltI (a := (qr_ynm M.2.2.1)) (b := gn) (by omega) (by omega)).mp c17; omega)) (fun c17 => ?_)
          have nc17 := (not_congr (nI_ltI (a := (qr_ynm M.2.2.1)) (b := gn) (by omega) (by omega))).mp c17
          refine lv_aload_n hx hb dL_isFair_133 rfl (lv_at hl 0 rfl) ?_
          refine lv_bipush (v := 7) hx hb dL_isFair_134 (by decide) ?_
          refine ly_v (As := [.int 7]) (rest := []) hx hb hml hown hts (m_ofRun (l := l) (G := G) (k := k) (q := q) (M := M) (p1 := 7) (v1 := nI mn + nI (qr_ynm M.2.2.1) - nI dn - nI gn) (sx_x_ofRun _ (w := 7) (by omega)) (by rw [qo_7, em, ed, eg])) 1 (sxGV (bi14 (w := Cond.methodLink RL 95 yX9_ofRun) 16 rfl) (bi12 (w := Cond.instanceMethod yX9_ofRun) 41 rfl) (bi12 (w := Cond.selects RX9 yX9_ofRun yX9_ofRun) 42 rfl) (bi1 (w := Cond.initialized RX9) 58 rfl) (bi11 (w := Cond.code yX9_ofRun cX9_ofRun 2 (some .int)) 29 rfl)) rfl (by decide +kernel) ⟨Nat.le_of_ble_eq_true rfl, Nat.le_of_ble_eq_true rfl⟩ hK hP hD hS hA hE [0] [] rfl rfl (by show List.Perm _ (List.range 1); decide) 0 0 rfl rfl rfl rfl hl rfl (Nat.le_of_ble_eq_true rfl) ⟨by show _ ≤ 0; omega, by show _ ≤ 0; omega⟩ dL_isFair_136 (fun B1 v1 hp1 H locs hP hD hS => ?_)
          obtain ⟨rfl, rfl⟩ := hp1
          show W p l e _ s m args below meth c H locs _ _ _ (F0 m 139 ls [.int (nI mn + nI (qr_ynm M.2.2.1) - nI dn - nI gn)])
          have hP : va_P G.1 vwCl (lxF [mlW G q M]) H := hP
          have hD : va_D A (lxF [mlW G q M]) := hD
          refine lv_aload_n hx hb dL_isFair_139 rfl (lv_at hl 0 rfl) ?_
          refine lv_iconst (v := 3) hx hb dL_isFair_140 (by decide) ?_
          refine ly_v (As := [.int 3]) (rest := [.int (nI mn + nI (qr_ynm M.2.2.1) - nI dn - nI gn)]) hx hb hml hown hts (m_ofRun (l := l) (G := G) (k := k) (q := q) (M := M) (p1 := 3) (v1 := nI mn) (sx_x_ofRun _ (w := 3) (by omega)) ((qo_3 _ _ _ _ _ _ _ _ _).trans em)) 1 (sxGV (bi14 (w := Cond.methodLink RL 95 yX9_ofRun) 16 rfl) (bi12 (w := Cond.instanceMethod yX9_ofRun) 41 rfl) (bi12 (w := Cond.selects RX9 yX9_ofRun yX9_ofRun) 42 rfl) (bi1 (w := Cond.initialized RX9) 58 rfl) (bi11 (w := Cond.code yX9_ofRun cX9_ofRun 2 (some .int)) 29 rfl)) rfl (by decide +kernel) ⟨Nat.le_of_ble_eq_true rfl, Nat.le_of_ble_eq_true rfl⟩ hK hP hD hS hA hE [0] [] rfl rfl (by show List.Perm _ (List.range 1); decide) 0 0 rfl rfl rfl rfl hl rfl (Nat.le_of_ble_eq_true rfl) ⟨by show _ ≤ 0; omega, by show _ ≤ 0; omega⟩ dL_isFair_141 (fun B1 v1 hp1 H locs hP hD hS => ?_)
          obtain ⟨rfl, rfl⟩ := hp1
          show W p l e _ s m args below meth c H locs _ _ _ (F0 m 144 ls [.int (nI mn), .int (nI mn + nI (qr_ynm M.2.2.1) - nI dn - nI gn)])
          have hP : va_P G.1 vwCl (lxF [mlW G q M]) H := hP
          have hD : va_D A (lxF [mlW G q M]) := hD
          refine lv_aload_n hx hb dL_isFair_144 rfl (lv_at hl 0 rfl) ?_
          refine lv_iconst (v := 5) hx hb dL_isFair_145 (by decide) ?_
          refine ly_v (As := [.int 5]) (rest := [.int (nI mn), .int (nI mn + nI (qr_ynm M.2.2.1) - nI dn - nI gn)]) hx hb hml hown hts (m_ofRun (l := l) (G := G) (k := k) (q := q) (M := M) (p1 := 5) (v1 := nI dn) (sx_x_ofRun _ (w := 5) (by omega)) ((qo_5 _ _ _ _ _ _ _ _ _).trans ed)) 1 (sxGV (bi14 (w := Cond.methodLink RL 95 yX9_ofRun) 16 rfl) (bi12 (w := Cond.instanceMethod yX9_ofRun) 41 rfl) (bi12 (w := Cond.selects RX9 yX9_ofRun yX9_ofRun) 42 rfl) (bi1 (w := Cond.initialized RX9) 58 rfl) (bi11 (w := Cond.code yX9_ofRun cX9_ofRun 2 (some .int)) 29 rfl)) rfl (by decide +kernel) ⟨Nat.le_of_ble_eq_true rfl, Nat.le_of_ble_eq_true rfl⟩ hK hP hD hS hA hE [0] [] rfl rfl (by show List.Perm _ (List.range 1); decide) 0 0 rfl rfl rfl rfl hl rfl (Nat.le_of_ble_eq_true rfl) ⟨by show _ ≤ 0; omega, by show _ ≤ 0; omega⟩ dL_isFair_146 (fun B1 v1 hp1 H locs hP hD hS => ?_)
          obtain ⟨rfl, rfl⟩ := hp1
          show W p l e _ s m args below meth c H locs _ _ _ (F0 m 149 ls [.int (nI dn), .int (nI mn), .int (nI mn + nI (qr_ynm M.2.2.1) - nI dn - nI gn)])
          have hP : va_P G.1 vwCl (lxF [mlW G q M]) H := hP
          have hD : va_D A (lxF [mlW G q M]) := hD
          refine lv_isub hx hb dL_isFair_149 ?_
          refine lv_aload_n hx hb dL_isFair_150 rfl (lv_at hl 0 rfl) ?_
          refine lv_iconst (v := 4) hx hb dL_isFair_151 (by decide) ?_
          refine ly_v (As := [.int 4]) (rest := [.int ((nI mn) - (nI dn)), .int (nI mn + nI (qr_ynm M.2.2.1) - nI dn - nI gn)]) hx hb hml hown hts (m_ofRun (l := l) (G := G) (k := k) (q := q) (M := M) (p1 := 4) (v1 := nI (qr_ynm M.2.2.1)) (sx_x_ofRun _ (w := 4) (by omega)) (qo_4 _ _ _ _ _ _ _ _ _)) 1 (sxGV (bi14 (w := Cond.methodLink RL 95 yX9_ofRun) 16 rfl) (bi12 (w := Cond.instanceMethod yX9_ofRun) 41 rfl) (bi12 (w := Cond.selects RX9 yX9_ofRun yX9_ofRun) 42 rfl) (bi1 (w := Cond.initialized RX9) 58 rfl) (bi11 (w := Cond.code yX9_ofRun cX9_ofRun 2 (some .int)) 29 rfl)) rfl (by decide +kernel) ⟨Nat.le_of_ble_eq_true rfl, Nat.le_of_ble_eq_true rfl⟩ hK hP hD hS hA hE [0] [] rfl rfl (by show List.Perm _ (List.range 1); decide) 0 0 rfl rfl rfl rfl hl rfl (Nat.le_of_ble_eq_true rfl) ⟨by show _ ≤ 0; omega, by show _ ≤ 0; omega⟩ dL_isFair_152 (fun B1 v1 hp1 H locs hP hD hS => ?_)
          obtain ⟨rfl, rfl⟩ := hp1
          show W p l e _ s m args below meth c H locs _ _ _ (F0 m 155 ls [.int (nI (qr_ynm M.2.2.1)), .int ((nI mn) - (nI dn)), .int (nI mn + nI (qr_ynm M.2.2.1) - nI dn - nI gn)])
          have hP : va_P G.1 vwCl (lxF [mlW G q M]) H := hP
          have hD : va_D A (lxF [mlW G q M]) := hD
          refine lv_iadd hx hb dL_isFair_155 ?_
          refine lv_aload_n hx hb dL_isFair_156 rfl (lv_at hl 0 rfl) ?_
          refine lv_bipush (v := 6) hx hb dL_isFair_157 (by decide) ?_
          refine ly_v (As := [.int 6]) (rest := [.int (((nI mn) - (nI dn)) + (nI (qr_ynm M.2.2.1))), .int (nI mn + nI (qr_ynm M.2.2.1) - nI dn - nI gn)]) hx hb hml hown hts (m_ofRun (l := l) (G := G) (k := k) (q := q) (M := M) (p1 := 6) (v1 := nI gn) (sx_x_ofRun _ (w := 6) (by omega)) ((qo_6 _ _ _ _ _ _ _ _ _).trans eg)) 1 (sxGV (bi14 (w := Cond.methodLink RL 95 yX9_ofRun) 16 rfl) (bi12 (w := Cond.instanceMethod yX9_ofRun) 41 rfl) (bi12 (w := Cond.selects RX9 yX9_ofRun yX9_ofRun) 42 rfl) (bi1 (w := Cond.initialized RX9) 58 rfl) (bi11 (w := Cond.code yX9_ofRun cX9_ofRun 2 (some .int)) 29 rfl)) rfl (by decide +kernel) ⟨Nat.le_of_ble_eq_true rfl, Nat.le_of_ble_eq_true rfl⟩ hK hP hD hS hA hE [0] [] rfl rfl (by show List.Perm _ (List.range 1); decide) 0 0 rfl rfl rfl rfl hl rfl (Nat.le_of_ble_eq_true rfl) ⟨by show _ ≤ 0; omega, by show _ ≤ 0; omega⟩ dL_isFair_159 (fun B1 v1 hp1 H locs hP hD hS => ?_)
          obtain ⟨rfl, rfl⟩ := hp1
          show W p l e _ s m args below meth c H locs _ _ _ (F0 m 162 ls [.int (nI gn), .int (((nI mn) - (nI dn)) + (nI (qr_ynm M.2.2.1))), .int (nI mn + nI (qr_ynm M.2.2.1) - nI dn - nI gn)])
          have hP : va_P G.1 vwCl (lxF [mlW G q M]) H := hP
          have hD : va_D A (lxF [mlW G q M]) := hD
          refine lv_isub hx hb dL_isFair_162 ?_
          refine lv_icmp_eq (tgt := 168) hx hb dL_isFair_163 (by decide) (fun c18 => ?_) (fun c18 => False.elim (by exact c18 (li_swap _ _ _ _)))
          refine lv_aload_n hx hb dL_isFair_168 rfl (lv_at hl 0 rfl) ?_
          refine lv_bipush (v := 8) hx hb dL_isFair_169 (by decide) ?_
          refine ly_v (As := [.int 8]) (rest := []) hx hb hml hown hts (m_ofRun (l := l) (G := G) (k := k) (q := q) (M := M) (p1 := 8) (v1 := (-1)) (sx_x_ofRun _ (w := 8) (by omega)) ((qo_8 _ _ _ _ _ _ _ _ _ hrn).trans hp4)) 1 (sxGV (bi14 (w := Cond.methodLink RL 95 yX9_ofRun) 16 rfl) (bi12 (w := Cond.instanceMethod yX9_ofRun) 41 rfl) (bi12 (w := Cond.selects RX9 yX9_ofRun yX9_ofRun) 42 rfl) (bi1 (w := Cond.initialized RX9) 58 rfl) (bi11 (w := Cond.code yX9_ofRun cX9_ofRun 2 (some .int)) 29 rfl)) rfl (by decide +kernel) ⟨Nat.le_of_ble_eq_true rfl, Nat.le_of_ble_eq_true rfl⟩ hK hP hD hS hA hE [0] [] rfl rfl (by show List.Perm _ (List.range 1); decide) 0 0 rfl rfl rfl rfl hl rfl (Nat.le_of_ble_eq_true rfl) ⟨by show _ ≤ 0; omega, by show _ ≤ 0; omega⟩ dL_isFair_171 (fun B1 v1 hp1 H locs hP hD hS => ?_)
          obtain ⟨rfl, rfl⟩ := hp1
          show W p l e _ s m args below meth c H locs _ _ _ (F0 m 174 ls [.int (-1)])
          have hP : va_P G.1 vwCl (lxF [mlW G q M]) H := hP
          have hD : va_D A (lxF [mlW G q M]) := hD
          refine lv_if_ge (tgt := 181) hx hb dL_isFair_174 (by decide) (fun c19 => absurd c19 (by decide)) (fun c19 => ?_)
          refine lv_iconst (v := 1) hx hb dL_isFair_177 (by decide) ?_
          refine lv_goto (tgt := 182) hx hb dL_isFair_178 (by decide) ?_
          refine lv_iload_n hx hb dL_isFair_182 rfl (lv_at hl 1 rfl) ?_
          refine lv_if_eq (tgt := 191) hx hb dL_isFair_183 (by decide) (fun c20 => ?_) (fun c20 => absurd c20 (by decide))
          refine lv_iconst (v := 1) hx hb dL_isFair_191 (by decide) ?_
          refine lv_goto (tgt := 196) hx hb dL_isFair_192 (by decide) ?_
          refine lv_icmp_ne (tgt := 230) hx hb dL_isFair_196 (by decide) (fun c21 => absurd c21 (by decide)) (fun c21 => ?_)
          refine lv_aload_n hx hb dL_isFair_199 rfl (lv_at hl 0 rfl) ?_
          refine lv_iconst (v := 1) hx hb dL_isFair_200 (by decide) ?_
          refine ly_v (As := [.int 1]) (rest := []) hx hb hml hown hts (m_ofRun (l := l) (G := G) (k := k) (q := q) (M := M) (p1 := 1) (v1 := nI (qr_ystp M.2.2.1)) (sx_x_ofRun _ (w := 1) (by omega)) (qo_1 _ _ _ _ _ _ _ _ _)) 1 (sxGV (bi14 (w := Cond.methodLink RL 95 yX9_ofRun) 16 rfl) (bi12 (w := Cond.instanceMethod yX9_ofRun) 41 rfl) (bi12 (w := Cond.selects RX9 yX9_ofRun yX9_ofRun) 42 rfl) (bi1 (w := Cond.initialized RX9) 58 rfl) (bi11 (w := Cond.code yX9_ofRun cX9_ofRun 2 (some .int)) 29 rfl)) rfl (by decide +kernel) ⟨Nat.le_of_ble_eq_true rfl, Nat.le_of_ble_eq_true rfl⟩ hK hP hD hS hA hE [0] [] rfl rfl (by show List.Perm _ (List.range 1); decide) 0 0 rfl rfl rfl rfl hl rfl (Nat.le_of_ble_eq_true rfl) ⟨by show _ ≤ 0; omega, by show _ ≤ 0; omega⟩ dL_isFair_201 (fun B1 v1 hp1 H locs hP hD hS => ?_)
          obtain ⟨rfl, rfl⟩ := hp1
          show W p l e _ s m args below meth c H locs _ _ _ (F0 m 204 ls [.int (nI (qr_ystp M.2.2.1))])
          have hP : va_P G.1 vwCl (lxF [mlW G q M]) H := hP
          have hD : va_D A (lxF [mlW G q M]) := hD
          refine lv_sipush (v := 500) hx hb dL_isFair_204 (by decide) ?_
          refine lv_icmp_gt (tgt := 230) hx hb dL_isFair_207 (by decide) (fun c22 => False.elim (by have nc22 := (nI_ltI (a := 500) (b := (qr_ystp M.2.2.1)) (by omega) (by omega)).mp c22; omega)) (fun c22 => ?_)
          have nc22 := (not_congr (nI_ltI (a := 500) (b := (qr_ystp M.2.2.1)) (by omega) (by omega))).mp c22
          refine lv_iload_n hx hb dL_isFair_210 rfl (lv_at hl 1 rfl) ?_
          refine lv_iconst (v := 3) hx hb dL_isFair_211 (by decide) ?_
          refine lv_icmp_lt (tgt := 226) hx hb dL_isFair_212 (by decide) (fun c23 => ?_) (fun c23 => absurd c23 (by decide))
          refine lv_iconst (v := 1) hx hb dL_isFair_226 (by decide) ?_
          refine lv_goto (tgt := 231) hx hb dL_isFair_227 (by decide) ?_
          exact ly_ri hx hb hr hlk hP hD hS rfl (⟨rfl, rfl⟩) (by omega) (by omega) dL_isFair_231
      · have nc2 := (not_congr (nI_leI (a := (min 60 sn)) (b := i) (by omega) (by omega))).mp c2
        refine lv_iload_n hx hb dL_isFair_26 rfl (lv_at hl 2 rfl) ?_
        refine lv_aload_n hx hb dL_isFair_27 rfl (lv_at hl 0 rfl) ?_
        refine lv_iload hx hb dL_isFair_28 (lv_at hl 5 rfl) ?_
        refine lv_iconst (v := 0) hx hb dL_isFair_30 (by decide) ?_
        refine ly_v (As := [.int (nI i), .int 0]) (rest := [.int (nI (qr_ct (qr_yzs M.2.2.1) 1 i))]) hx hb hml hown hts (m_told0 (l := l) (G := G) (k := k) (q := q) (M := M) (j := i) es (by omega) (by omega) (by omega)) 2 (sxGV (bi14 (w := Cond.methodLink RL 126 yX9_told) 17 rfl) (bi12 (w := Cond.instanceMethod yX9_told) 45 rfl) (bi12 (w := Cond.selects RX9 yX9_told yX9_told) 46 rfl) (bi1 (w := Cond.initialized RX9) 58 rfl) (bi11 (w := Cond.code yX9_told cX9_told 3 (some .int)) 46 rfl)) rfl (by decide +kernel) ⟨Nat.le_of_ble_eq_true rfl, Nat.le_of_ble_eq_true rfl⟩ hK hP hD hS hA hE [0] [] rfl rfl (by show List.Perm _ (List.range 1); decide) 0 0 rfl rfl rfl rfl hl rfl (Nat.le_of_ble_eq_true rfl) ⟨by show _ ≤ 0; omega, by show _ ≤ 0; omega⟩ dL_isFair_31 (fun B1 v1 hp1 H locs hP hD hS => ?_)
        obtain ⟨rfl, rfl⟩ := hp1
        show W p l e _ s m args below meth c H locs _ _ _ (F0 m 34 ls [.int (qr_yzs M.2.2.1 i), .int (nI (qr_ct (qr_yzs M.2.2.1) 1 i))])
        have hP : va_P G.1 vwCl (lxF [mlW G q M]) H := hP
        have hD : va_D A (lxF [mlW G q M]) := hD
        refine lv_iconst (v := 1) hx hb dL_isFair_34 (by decide) ?_
        refine lv_icmp_ne (tgt := 42) hx hb dL_isFair_35 (by decide) (fun c24 => ?_) (fun c24 => ?_)
        · refine lv_iconst (v := 0) hx hb dL_isFair_42 (by decide) ?_
          refine lv_iadd hx hb dL_isFair_43 ?_
          rw [show ((nI (qr_ct (qr_yzs M.2.2.1) 1 i)) + 0 : Int32) = nI (qr_ct (qr_yzs M.2.2.1) 1 (i + 1)) from (by rw [li_ct0 c24]; exact Int32.add_zero _)]
          refine lv_istore_n (lv' := [(2, .int (nI (qr_ct (qr_yzs M.2.2.1) 1 (i + 1)))), (0, .ref (q 0)), (1, .int 0), (3, .int (nI (qr_ct (qr_yzs M.2.2.1) 2 i))), (4, .int (nI (min 60 sn))), (5, .int (nI i))]) hx hb dL_isFair_44 rfl hl (by decide) rfl (fun ls hl => ?_)
          refine lv_iload_n hx hb dL_isFair_45 rfl (lv_at hl 3 rfl) ?_
          refine lv_aload_n hx hb dL_isFair_46 rfl (lv_at hl 1 rfl) ?_
          refine lv_iload hx hb dL_isFair_47 (lv_at hl 5 rfl) ?_
          refine lv_iconst (v := 0) hx hb dL_isFair_49 (by decide) ?_
          refine ly_v (As := [.int (nI i), .int 0]) (rest := [.int (nI (qr_ct (qr_yzs M.2.2.1) 2 i))]) hx hb hml hown hts (m_told0 (l := l) (G := G) (k := k) (q := q) (M := M) (j := i) es (by omega) (by omega) (by omega)) 2 (sxGV (bi14 (w := Cond.methodLink RL 126 yX9_told) 17 rfl) (bi12 (w := Cond.instanceMethod yX9_told) 45 rfl) (bi12 (w := Cond.selects RX9 yX9_told yX9_told) 46 rfl) (bi1 (w := Cond.initialized RX9) 58 rfl) (bi11 (w := Cond.code yX9_told cX9_told 3 (some .int)) 46 rfl)) rfl (by decide +kernel) ⟨Nat.le_of_ble_eq_true rfl, Nat.le_of_ble_eq_true rfl⟩ hK hP hD hS hA hE [0] [] rfl rfl (by show List.Perm _ (List.range 1); decide) 0 0 rfl rfl rfl rfl hl rfl (Nat.le_of_ble_eq_true rfl) ⟨by show _ ≤ 0; omega, by show _ ≤ 0; omega⟩ dL_isFair_50 (fun B1 v1 hp1 H locs hP hD hS => ?_)
          obtain ⟨rfl, rfl⟩ := hp1
          show W p l e _ s m args below meth c H locs _ _ _ (F0 m 53 ls [.int (qr_yzs M.2.2.1 i), .int (nI (qr_ct (qr_yzs M.2.2.1) 2 i))])
          have hP : va_P G.1 vwCl (lxF [mlW G q M]) H := hP
          have hD : va_D A (lxF [mlW G q M]) := hD
          refine lv_iconst (v := 2) hx hb dL_isFair_53 (by decide) ?_
          refine lv_icmp_ne (tgt := 61) hx hb dL_isFair_54 (by decide) (fun c25 => ?_) (fun c25 => ?_)
          · refine lv_iconst (v := 0) hx hb dL_isFair_61 (by decide) ?_
            refine lv_iadd hx hb dL_isFair_62 ?_
            rw [show ((nI (qr_ct (qr_yzs M.2.2.1) 2 i)) + 0 : Int32) = nI (qr_ct (qr_yzs M.2.2.1) 2 (i + 1)) from (by rw [li_ct0 c25]; exact Int32.add_zero _)]
            refine lv_istore_n (lv' := [(3, .int (nI (qr_ct (qr_yzs M.2.2.1) 2 (i + 1)))), (2, .int (nI (qr_ct (qr_yzs M.2.2.1) 1 (i + 1)))), (0, .ref (q 0)), (1, .int 0), (4, .int (nI (min 60 sn))), (5, .int (nI i))]) hx hb dL_isFair_63 rfl hl (by decide) rfl (fun ls hl => ?_)
            refine lv_iinc (v := nI (i + 1)) (lv' := [(5, .int (nI (i + 1))), (3, .int (nI (qr_ct (qr_yzs M.2.2.1) 2 (i + 1)))), (2, .int (nI (qr_ct (qr_yzs M.2.2.1) 1 (i + 1)))), (0, .ref (q 0)), (1, .int 0), (4, .int (nI (min 60 sn)))]) hx hb dL_isFair_64 hl (k := 5) rfl (nI_1 i) (by decide) rfl (fun ls hl => ?_)
            refine lv_goto (tgt := 19) hx hb dL_isFair_67 (by decide) ?_
            exact ih1 (i + 1) (by omega) (by omega) _ _ (by omega) (by omega) _ _ hP hD hS ls (lv_sub hl [3, 4, 2, 1, 5, 0] rfl)
          · refine lv_iconst (v := 1) hx hb dL_isFair_57 (by decide) ?_
            refine lv_goto (tgt := 62) hx hb dL_isFair_58 (by decide) ?_
            refine lv_iadd hx hb dL_isFair_62 ?_
            rw [show ((nI (qr_ct (qr_yzs M.2.2.1) 2 i)) + 1 : Int32) = nI (qr_ct (qr_yzs M.2.2.1) 2 (i + 1)) from (by rw [li_ct1 c25]; exact nI_1 _)]
            refine lv_istore_n (lv' := [(3, .int (nI (qr_ct (qr_yzs M.2.2.1) 2 (i + 1)))), (2, .int (nI (qr_ct (qr_yzs M.2.2.1) 1 (i + 1)))), (0, .ref (q 0)), (1, .int 0), (4, .int (nI (min 60 sn))), (5, .int (nI i))]) hx hb dL_isFair_63 rfl hl (by decide) rfl (fun ls hl => ?_)
            refine lv_iinc (v := nI (i + 1)) (lv' := [(5, .int (nI (i + 1))), (3, .int (nI (qr_ct (qr_yzs M.2.2.1) 2 (i + 1)))), (2, .int (nI (qr_ct (qr_yzs M.2.2.1) 1 (i + 1)))), (0, .ref (q 0)), (1, .int 0), (4, .int (nI (min 60 sn)))]) hx hb dL_isFair_64 hl (k := 5) rfl (nI_1 i) (by decide) rfl (fun ls hl => ?_)
            refine lv_goto (tgt := 19) hx hb dL_isFair_67 (by decide) ?_
            exact ih1 (i + 1) (by omega) (by omega) _ _ (by omega) (by omega) _ _ hP hD hS ls (lv_sub hl [3, 4, 2, 1, 5, 0] rfl)
        · refine lv_iconst (v := 1) hx hb dL_isFair_38 (by decide) ?_
          refine lv_goto (tgt := 43) hx hb dL_isFair_39 (by decide) ?_
          refine lv_iadd hx hb dL_isFair_43 ?_
          rw [show ((nI (qr_ct (qr_yzs M.2.2.1) 1 i)) + 1 : Int32) = nI (qr_ct (qr_yzs M.2.2.1) 1 (i + 1)) from (by rw [li_ct1 c24]; exact nI_1 _)]
          refine lv_istore_n (lv' := [(2, .int (nI (qr_ct (qr_yzs M.2.2.1) 1 (i + 1)))), (0, .ref (q 0)), (1, .int 0), (3, .int (nI (qr_ct (qr_yzs M.2.2.1) 2 i))), (4, .int (nI (min 60 sn))), (5, .int (nI i))]) hx hb dL_isFair_44 rfl hl (by decide) rfl (fun ls hl => ?_)
          refine lv_iload_n hx hb dL_isFair_45 rfl (lv_at hl 3 rfl) ?_
          refine lv_aload_n hx hb dL_isFair_46 rfl (lv_at hl 1 rfl) ?_
          refine lv_iload hx hb dL_isFair_47 (lv_at hl 5 rfl) ?_
          refine lv_iconst (v := 0) hx hb dL_isFair_49 (by decide) ?_
          refine ly_v (As := [.int (nI i), .int 0]) (rest := [.int (nI (qr_ct (qr_yzs M.2.2.1) 2 i))]) hx hb hml hown hts (m_told0 (l := l) (G := G) (k := k) (q := q) (M := M) (j := i) es (by omega) (by omega) (by omega)) 2 (sxGV (bi14 (w := Cond.methodLink RL 126 yX9_told) 17 rfl) (bi12 (w := Cond.instanceMethod yX9_told) 45 rfl) (bi12 (w := Cond.selects RX9 yX9_told yX9_told) 46 rfl) (bi1 (w := Cond.initialized RX9) 58 rfl) (bi11 (w := Cond.code yX9_told cX9_told 3 (some .int)) 46 rfl)) rfl (by decide +kernel) ⟨Nat.le_of_ble_eq_true rfl, Nat.le_of_ble_eq_true rfl⟩ hK hP hD hS hA hE [0] [] rfl rfl (by show List.Perm _ (List.range 1); decide) 0 0 rfl rfl rfl rfl hl rfl (Nat.le_of_ble_eq_true rfl) ⟨by show _ ≤ 0; omega, by show _ ≤ 0; omega⟩ dL_isFair_50 (fun B1 v1 hp1 H locs hP hD hS => ?_)
          obtain ⟨rfl, rfl⟩ := hp1
          show W p l e _ s m args below meth c H locs _ _ _ (F0 m 53 ls [.int (qr_yzs M.2.2.1 i), .int (nI (qr_ct (qr_yzs M.2.2.1) 2 i))])
          have hP : va_P G.1 vwCl (lxF [mlW G q M]) H := hP
          have hD : va_D A (lxF [mlW G q M]) := hD
          refine lv_iconst (v := 2) hx hb dL_isFair_53 (by decide) ?_
          refine lv_icmp_ne (tgt := 61) hx hb dL_isFair_54 (by decide) (fun c26 => ?_) (fun c26 => ?_)
          · refine lv_iconst (v := 0) hx hb dL_isFair_61 (by decide) ?_
            refine lv_iadd hx hb dL_isFair_62 ?_
            rw [show ((nI (qr_ct (qr_yzs M.2.2.1) 2 i)) + 0 : Int32) = nI (qr_ct (qr_yzs M.2.2.1) 2 (i + 1)) from (by rw [li_ct0 c26]; exact Int32.add_zero _)]
            refine lv_istore_n (lv' := [(3, .int (nI (qr_ct (qr_yzs M.2.2.1) 2 (i + 1)))), (2, .int (nI (qr_ct (qr_yzs M.2.2.1) 1 (i + 1)))), (0, .ref (q 0)), (1, .int 0), (4, .int (nI (min 60 sn))), (5, .int (nI i))]) hx hb dL_isFair_63 rfl hl (by decide) rfl (fun ls hl => ?_)
            refine lv_iinc (v := nI (i + 1)) (lv' := [(5, .int (nI (i + 1))), (3, .int (nI (qr_ct (qr_yzs M.2.2.1) 2 (i + 1)))), (2, .int (nI (qr_ct (qr_yzs M.2.2.1) 1 (i + 1)))), (0, .ref (q 0)), (1, .int 0), (4, .int (nI (min 60 sn)))]) hx hb dL_isFair_64 hl (k := 5) rfl (nI_1 i) (by decide) rfl (fun ls hl => ?_)
            refine lv_goto (tgt := 19) hx hb dL_isFair_67 (by decide) ?_
            exact ih1 (i + 1) (by omega) (by omega) _ _ (by omega) (by omega) _ _ hP hD hS ls (lv_sub hl [3, 4, 2, 1, 5, 0] rfl)
          · refine lv_iconst (v := 1) hx hb dL_isFair_57 (by decide) ?_
            refine lv_goto (tgt := 62) hx hb dL_isFair_58 (by decide) ?_
            refine lv_iadd hx hb dL_isFair_62 ?_
            rw [show ((nI (qr_ct (qr_yzs M.2.2.1) 2 i)) + 1 : Int32) = nI (qr_ct (qr_yzs M.2.2.1) 2 (i + 1)) from (by rw [li_ct1 c26]; exact nI_1 _)]
            refine lv_istore_n (lv' := [(3, .int (nI (qr_ct (qr_yzs M.2.2.1) 2 (i + 1)))), (2, .int (nI (qr_ct (qr_yzs M.2.2.1) 1 (i + 1)))), (0, .ref (q 0)), (1, .int 0), (4, .int (nI (min 60 sn))), (5, .int (nI i))]) hx hb dL_isFair_63 rfl hl (by decide) rfl (fun ls hl => ?_)
            refine lv_iinc (v := nI (i + 1)) (lv' := [(5, .int (nI (i + 1))), (3, .int (nI (qr_ct (qr_yzs M.2.2.1) 2 (i + 1)))), (2, .int (nI (qr_ct (qr_yzs M.2.2.1) 1 (i + 1)))), (0, .ref (q 0)), (1, .int 0), (4, .int (nI (min 60 sn)))]) hx hb dL_isFair_64 hl (k := 5) rfl (nI_1 i) (by decide) rfl (fun ls hl => ?_)
            refine lv_goto (tgt := 19) hx hb dL_isFair_67 (by decide) ?_
            exact ih1 (i + 1) (by omega) (by omega) _ _ (by omega) (by omega) _ _ hP hD hS ls (lv_sub hl [3, 4, 2, 1, 5, 0] rfl)
  exact LP19_1 61 0 (by omega) (Nat.zero_le _) _ _ (by omega) (by omega) _ _ hP hD hS ls (lv_sub hl [4, 5, 3, 2, 1, 0] rfl)

set_option maxHeartbeats 4000000 in
set_option maxRecDepth 100000 in
theorem t_L_isFair1 (l : Launch) (G : sxG) (k : lxC) (q : Nat → Nat) (M : mlS) (sn mn dn gn t4 : Nat) (hrn : ¬ M.2.2.2.1 = 0) (es : qr_ysc M.2.2.1 = nI sn) (em : qr_ybxm M.2.2.1 = nI mn) (ed : qr_ybxd M.2.2.1 = nI dn) (eg : qr_yng M.2.2.1 = nI gn) (ls1 : sn < 2 ^ 20) (ls2 : mn < 2 ^ 20) (ls3 : dn < 2 ^ 20) (lg : gn ≤ qr_ynm M.2.2.1) (lnm : qr_ynm M.2.2.1 ≤ 500) (lst : qr_ystp M.2.2.1 ≤ 500) (hct : sn ≤ 60 → qr_ct (qr_yzs M.2.2.1) 1 sn = dn ∧ qr_ct (qr_yzs M.2.2.1) 2 sn = gn) (ht4 : t4 ≤ 40) (hp4 : qr_ypnl M.2.2.1 = nI t4) (hmd : mn = dn) : lyM l yL_isFair wdL_isFair 5 106 0 0 G k [mlW G q M] [.ref (q 0), .int 1] (fun B v => B = [mlW G q M] ∧ v = some (.int 1)) := by
  refine lyM.of (cc := cL_isFair) (maxL := 6) (rt := (some .boolean)) (by decide) rfl (Nat.le_of_ble_eq_true rfl) ?_
  intro p e s m args below meth c ⟨hx, hb, hr, hml, hown, hlk, hts, hK⟩ hnm A hA hP hD hS hE ls hl
  have hl : lv_has ls 6 [(0, .ref (q 0)), (1, .int 1)] := hl
  refine lv_iconst (v := 0) hx hb dL_isFair_0 (by decide) ?_
  refine lv_istore_n (lv' := [(2, .int 0), (0, .ref (q 0)), (1, .int 1)]) hx hb dL_isFair_1 rfl hl (by decide) rfl (fun ls hl => ?_)
  refine lv_iconst (v := 0) hx hb dL_isFair_2 (by decide) ?_
  refine lv_istore_n (lv' := [(3, .int 0), (2, .int 0), (0, .ref (q 0)), (1, .int 1)]) hx hb dL_isFair_3 rfl hl (by decide) rfl (fun ls hl => ?_)
  refine lv_bipush (v := 60) hx hb dL_isFair_4 (by decide) ?_
  refine lv_aload_n hx hb dL_isFair_6 rfl (lv_at hl 2 rfl) ?_
  refine lv_iconst (v := 2) hx hb dL_isFair_7 (by decide) ?_
  refine ly_v (As := [.int 2]) (rest := [.int 60]) hx hb hml hown hts (m_ofRun (l := l) (G := G) (k := k) (q := q) (M := M) (p1 := 2) (v1 := nI sn) (sx_x_ofRun _ (w := 2) (by omega)) ((qo_2 _ _ _ _ _ _ _ _ _).trans es)) 1 (sxGV (bi14 (w := Cond.methodLink RL 95 yX9_ofRun) 16 rfl) (bi12 (w := Cond.instanceMethod yX9_ofRun) 41 rfl) (bi12 (w := Cond.selects RX9 yX9_ofRun yX9_ofRun) 42 rfl) (bi1 (w := Cond.initialized RX9) 58 rfl) (bi11 (w := Cond.code yX9_ofRun cX9_ofRun 2 (some .int)) 29 rfl)) rfl (by decide +kernel) ⟨Nat.le_of_ble_eq_true rfl, Nat.le_of_ble_eq_true rfl⟩ hK hP hD hS hA hE [0] [] rfl rfl (by show List.Perm _ (List.range 1); decide) 0 0 rfl rfl rfl rfl hl rfl (Nat.le_of_ble_eq_true rfl) ⟨by show _ ≤ 0; omega, by show _ ≤ 0; omega⟩ dL_isFair_8 (fun B1 v1 hp1 H locs hP hD hS => ?_)
  obtain ⟨rfl, rfl⟩ := hp1
  show W p l e _ s m args below meth c H locs _ _ _ (F0 m 11 ls [.int (nI sn), .int 60])
  have hP : va_P G.1 vwCl (lxF [mlW G q M]) H := hP
  have hD : va_D A (lxF [mlW G q M]) := hD
  refine sx_mmin hx hb (hml.trans hl.1.symm) hown (bw14 (w := Cond.methodLink RL 121 Lib.Math.min.name) hts 15 rfl) (bw9 (w := Cond.static Lib.Math.min.name) hts 31 rfl) (bw5 (w := Cond.initialized "java/lang/Math") hts 20 rfl) (bw9 (w := Cond.code Lib.Math.min.name Lib.Math.min.code 2 (some .int)) hts 32 rfl) (Nat.le_of_ble_eq_true rfl) (Nat.le_of_ble_eq_true rfl) (by show _ ≤ 0; omega) (by show _ ≤ 0; omega) (x := 60) (y := nI sn) dL_isFair_11 ?_
  rw [show s_mmin 60 (nI sn) = nI (min 60 sn) from li_min (by omega)]
  refine lv_istore (lv' := [(4, .int (nI (min 60 sn))), (3, .int 0), (2, .int 0), (0, .ref (q 0)), (1, .int 1)]) hx hb dL_isFair_14 hl (by decide) rfl (fun ls hl => ?_)
  refine lv_iconst (v := 0) hx hb dL_isFair_16 (by decide) ?_
  refine lv_istore (lv' := [(5, .int 0), (4, .int (nI (min 60 sn))), (3, .int 0), (2, .int 0), (0, .ref (q 0)), (1, .int 1)]) hx hb dL_isFair_17 hl (by decide) rfl (fun ls hl => ?_)
  have LP19_1 : ∀ (kk1 : Nat) (i : Nat), min 60 sn - i < kk1 → (i ≤ min 60 sn) → ∀ cells slots : Nat, cells ≤ 0 → slots ≤ 0 → ∀ (H : Heap) (locs : List Loc), va_P G.1 vwCl (lxF [mlW G q M]) H → va_D A (lxF [mlW G q M]) → va_S A s.heap H locs → ∀ ls : Array Slot, lv_has ls 6 [(0, .ref (q 0)), (1, .int 1), (2, .int (nI (qr_ct (qr_yzs M.2.2.1) 1 i))), (3, .int (nI (qr_ct (qr_yzs M.2.2.1) 2 i))), (4, .int (nI (min 60 sn))), (5, .int (nI i))] → W p l e ({ frames := 5, cells := 0, slots := 0, locals := 106 } : Room) s m args below meth c H locs cells slots (lyZ 0 0 G args s below A (fun B v => B = [mlW G q M] ∧ v = some (.int 1))) (F0 m 19 ls []) := by
    intro kk1
    induction kk1 with
    | zero =>
      intro i hm
      exact absurd hm (Nat.not_lt_zero _)
    | succ kk1 ih1 =>
      intro i hm1 hi cells slots hcc1 hss1 H locs hP hD hS ls hl
      refine lv_iload hx hb dL_isFair_19 (lv_at hl 5 rfl) ?_
      refine lv_iload hx hb dL_isFair_21 (lv_at hl 4 rfl) ?_
      refine lv_icmp_ge (tgt := 70) hx hb dL_isFair_23 (by decide) (fun c2 => ?_) (fun c2 => ?_)
      · have nc2 := (nI_leI (a := (min 60 sn)) (b := i) (by omega) (by omega)).mp c2
        refine lv_aload_n hx hb dL_isFair_70 rfl (lv_at hl 0 rfl) ?_
        refine lv_iconst (v := 2) hx hb dL_isFair_71 (by decide) ?_
        refine ly_v (As := [.int 2]) (rest := []) hx hb hml hown hts (m_ofRun (l := l) (G := G) (k := k) (q := q) (M := M) (p1 := 2) (v1 := nI sn) (sx_x_ofRun _ (w := 2) (by omega)) ((qo_2 _ _ _ _ _ _ _ _ _).trans es)) 1 (sxGV (bi14 (w := Cond.methodLink RL 95 yX9_ofRun) 16 rfl) (bi12 (w := Cond.instanceMethod yX9_ofRun) 41 rfl) (bi12 (w := Cond.selects RX9 yX9_ofRun yX9_ofRun) 42 rfl) (bi1 (w := Cond.initialized RX9) 58 rfl) (bi11 (w := Cond.code yX9_ofRun cX9_ofRun 2 (some .int)) 29 rfl)) rfl (by decide +kernel) ⟨Nat.le_of_ble_eq_true rfl, Nat.le_of_ble_eq_true rfl⟩ hK hP hD hS hA hE [0] [] rfl rfl (by show List.Perm _ (List.range 1); decide) 0 0 rfl rfl rfl rfl hl rfl (Nat.le_of_ble_eq_true rfl) ⟨by show _ ≤ 0; omega, by show _ ≤ 0; omega⟩ dL_isFair_72 (fun B1 v1 hp1 H locs hP hD hS => ?_)
        obtain ⟨rfl, rfl⟩ := hp1
        show W p l e _ s m args below meth c H locs _ _ _ (F0 m 75 ls [.int (nI sn)])
        have hP : va_P G.1 vwCl (lxF [mlW G q M]) H := hP
        have hD : va_D A (lxF [mlW G q M]) := hD
        refine lv_bipush (v := 60) hx hb dL_isFair_75 (by decide) ?_
        refine lv_icmp_gt (tgt := 101) hx hb dL_isFair_77 (by decide) (fun c3 => ?_) (fun c3 => ?_)
        · have nc3 := (nI_ltI (a := 60) (b := sn) (by omega) (by omega)).mp c3
          refine lv_iload_n hx hb dL_isFair_101 rfl (lv_at hl 1 rfl) ?_
          refine lv_iconst (v := 2) hx hb dL_isFair_102 (by decide) ?_
          refine lv_icmp_ge (tgt := 119) hx hb dL_isFair_103 (by decide) (fun c4 => absurd c4 (by decide)) (fun c4 => ?_)
          refine lv_aload_n hx hb dL_isFair_106 rfl (lv_at hl 0 rfl) ?_
          refine lv_iconst (v := 3) hx hb dL_isFair_107 (by decide) ?_
          refine ly_v (As := [.int 3]) (rest := []) hx hb hml hown hts (m_ofRun (l := l) (G := G) (k := k) (q := q) (M := M) (p1 := 3) (v1 := nI mn) (sx_x_ofRun _ (w := 3) (by omega)) ((qo_3 _ _ _ _ _ _ _ _ _).trans em)) 1 (sxGV (bi14 (w := Cond.methodLink RL 95 yX9_ofRun) 16 rfl) (bi12 (w := Cond.instanceMethod yX9_ofRun) 41 rfl) (bi12 (w := Cond.selects RX9 yX9_ofRun yX9_ofRun) 42 rfl) (bi1 (w := Cond.initialized RX9) 58 rfl) (bi11 (w := Cond.code yX9_ofRun cX9_ofRun 2 (some .int)) 29 rfl)) rfl (by decide +kernel) ⟨Nat.le_of_ble_eq_true rfl, Nat.le_of_ble_eq_true rfl⟩ hK hP hD hS hA hE [0] [] rfl rfl (by show List.Perm _ (List.range 1); decide) 0 0 rfl rfl rfl rfl hl rfl (Nat.le_of_ble_eq_true rfl) ⟨by show _ ≤ 0; omega, by show _ ≤ 0; omega⟩ dL_isFair_108 (fun B1 v1 hp1 H locs hP hD hS => ?_)
          obtain ⟨rfl, rfl⟩ := hp1
          show W p l e _ s m args below meth c H locs _ _ _ (F0 m 111 ls [.int (nI mn)])
          have hP : va_P G.1 vwCl (lxF [mlW G q M]) H := hP
          have hD : va_D A (lxF [mlW G q M]) := hD
          refine lv_aload_n hx hb dL_isFair_111 rfl (lv_at hl 0 rfl) ?_
          refine lv_iconst (v := 5) hx hb dL_isFair_112 (by decide) ?_
          refine ly_v (As := [.int 5]) (rest := [.int (nI mn)]) hx hb hml hown hts (m_ofRun (l := l) (G := G) (k := k) (q := q) (M := M) (p1 := 5) (v1 := nI dn) (sx_x_ofRun _ (w := 5) (by omega)) ((qo_5 _ _ _ _ _ _ _ _ _).trans ed)) 1 (sxGV (bi14 (w := Cond.methodLink RL 95 yX9_ofRun) 16 rfl) (bi12 (w := Cond.instanceMethod yX9_ofRun) 41 rfl) (bi12 (w := Cond.selects RX9 yX9_ofRun yX9_ofRun) 42 rfl) (bi1 (w := Cond.initialized RX9) 58 rfl) (bi11 (w := Cond.code yX9_ofRun cX9_ofRun 2 (some .int)) 29 rfl)) rfl (by decide +kernel) ⟨Nat.le_of_ble_eq_true rfl, Nat.le_of_ble_eq_true rfl⟩ hK hP hD hS hA hE [0] [] rfl rfl (by show List.Perm _ (List.range 1); decide) 0 0 rfl rfl rfl rfl hl rfl (Nat.le_of_ble_eq_true rfl) ⟨by show _ ≤ 0; omega, by show _ ≤ 0; omega⟩ dL_isFair_113 (fun B1 v1 hp1 H locs hP hD hS => ?_)
          obtain ⟨rfl, rfl⟩ := hp1
          show W p l e _ s m args below meth c H locs _ _ _ (F0 m 116 ls [.int (nI dn), .int (nI mn)])
          have hP : va_P G.1 vwCl (lxF [mlW G q M]) H := hP
          have hD : va_D A (lxF [mlW G q M]) := hD
          refine lv_icmp_ne (tgt := 166) hx hb dL_isFair_116 (by decide) (fun c5 => False.elim (by have nc5 := (not_congr (nI_eq (a := mn) (b := dn) (by omega) (by omega))).mp c5; omega)) (fun c5 => ?_)
          have nc5 := (nI_eq (a := mn) (b := dn) (by omega) (by omega)).mp c5
          refine lv_aload_n hx hb dL_isFair_119 rfl (lv_at hl 0 rfl) ?_
          refine lv_bipush (v := 6) hx hb dL_isFair_120 (by decide) ?_
          refine ly_v (As := [.int 6]) (rest := []) hx hb hml hown hts (m_ofRun (l := l) (G := G) (k := k) (q := q) (M := M) (p1 := 6) (v1 := nI gn) (sx_x_ofRun _ (w := 6) (by omega)) ((qo_6 _ _ _ _ _ _ _ _ _).trans eg)) 1 (sxGV (bi14 (w := Cond.methodLink RL 95 yX9_ofRun) 16 rfl) (bi12 (w := Cond.instanceMethod yX9_ofRun) 41 rfl) (bi12 (w := Cond.selects RX9 yX9_ofRun yX9_ofRun) 42 rfl) (bi1 (w := Cond.initialized RX9) 58 rfl) (bi11 (w := Cond.code yX9_ofRun cX9_ofRun 2 (some .int)) 29 rfl)) rfl (by decide +kernel) ⟨Nat.le_of_ble_eq_true rfl, Nat.le_of_ble_eq_true rfl⟩ hK hP hD hS hA hE [0] [] rfl rfl (by show List.Perm _ (List.range 1); decide) 0 0 rfl rfl rfl rfl hl rfl (Nat.le_of_ble_eq_true rfl) ⟨by show _ ≤ 0; omega, by show _ ≤ 0; omega⟩ dL_isFair_122 (fun B1 v1 hp1 H locs hP hD hS => ?_)
          obtain ⟨rfl, rfl⟩ := hp1
          show W p l e _ s m args below meth c H locs _ _ _ (F0 m 125 ls [.int (nI gn)])
          have hP : va_P G.1 vwCl (lxF [mlW G q M]) H := hP
          have hD : va_D A (lxF [mlW G q M]) := hD
          refine lv_aload_n hx hb dL_isFair_125 rfl (lv_at hl 0 rfl) ?_
          refine lv_iconst (v := 4) hx hb dL_isFair_126 (by decide) ?_
          refine ly_v (As := [.int 4]) (rest := [.int (nI gn)]) hx hb hml hown hts (m_ofRun (l := l) (G := G) (k := k) (q := q) (M := M) (p1 := 4) (v1 := nI (qr_ynm M.2.2.1)) (sx_x_ofRun _ (w := 4) (by omega)) (qo_4 _ _ _ _ _ _ _ _ _)) 1 (sxGV (bi14 (w := Cond.methodLink RL 95 yX9_ofRun) 16 rfl) (bi12 (w := Cond.instanceMethod yX9_ofRun) 41 rfl) (bi12 (w := Cond.selects RX9 yX9_ofRun yX9_ofRun) 42 rfl) (bi1 (w := Cond.initialized RX9) 58 rfl) (bi11 (w := Cond.code yX9_ofRun cX9_ofRun 2 (some .int)) 29 rfl)) rfl (by decide +kernel) ⟨Nat.le_of_ble_eq_true rfl, Nat.le_of_ble_eq_true rfl⟩ hK hP hD hS hA hE [0] [] rfl rfl (by show List.Perm _ (List.range 1); decide) 0 0 rfl rfl rfl rfl hl rfl (Nat.le_of_ble_eq_true rfl) ⟨by show _ ≤ 0; omega, by show _ ≤ 0; omega⟩ dL_isFair_127 (fun B1 v1 hp1 H locs hP hD hS => ?_)
          obtain ⟨rfl, rfl⟩ := hp1
          show W p l e _ s m args below meth c H locs _ _ _ (F0 m 130 ls [.int (nI (qr_ynm M.2.2.1)), .int (nI gn)])
          have hP : va_P G.1 vwCl (lxF [mlW G q M]) H := hP
          have hD : va_D A (lxF [mlW G q M]) := hD
          refine lv_icmp_gt (tgt := 166) hx hb dL_isFair_130 (by decide) (fun c6 => False.elim (by have nc6 := (nI_ltI (a := (qr_ynm M.2.2.1)) (b := gn) (by omega) (by omega)).mp c6; omega)) (fun c6 => ?_)
          have nc6 := (not_congr (nI_ltI (a := (qr_ynm M.2.2.1)) (b := gn) (by omega) (by omega))).mp c6
          refine lv_aload_n hx hb dL_isFair_133 rfl (lv_at hl 0 rfl) ?_
          refine lv_bipush (v := 7) hx hb dL_isFair_134 (by decide) ?_
          refine ly_v (As := [.int 7]) (rest := []) hx hb hml hown hts (m_ofRun (l := l) (G := G) (k := k) (q := q) (M := M) (p1 := 7) (v1 := nI mn + nI (qr_ynm M.2.2.1) - nI dn - nI gn) (sx_x_ofRun _ (w := 7) (by omega)) (by rw [qo_7, em, ed, eg])) 1 (sxGV (bi14 (w := Cond.methodLink RL 95 yX9_ofRun) 16 rfl) (bi12 (w := Cond.instanceMethod yX9_ofRun) 41 rfl) (bi12 (w := Cond.selects RX9 yX9_ofRun yX9_ofRun) 42 rfl) (bi1 (w := Cond.initialized RX9) 58 rfl) (bi11 (w := Cond.code yX9_ofRun cX9_ofRun 2 (some .int)) 29 rfl)) rfl (by decide +kernel) ⟨Nat.le_of_ble_eq_true rfl, Nat.le_of_ble_eq_true rfl⟩ hK hP hD hS hA hE [0] [] rfl rfl (by show List.Perm _ (List.range 1); decide) 0 0 rfl rfl rfl rfl hl rfl (Nat.le_of_ble_eq_true rfl) ⟨by show _ ≤ 0; omega, by show _ ≤ 0; omega⟩ dL_isFair_136 (fun B1 v1 hp1 H locs hP hD hS => ?_)
          obtain ⟨rfl, rfl⟩ := hp1
          show W p l e _ s m args below meth c H locs _ _ _ (F0 m 139 ls [.int (nI mn + nI (qr_ynm M.2.2.1) - nI dn - nI gn)])
          have hP : va_P G.1 vwCl (lxF [mlW G q M]) H := hP
          have hD : va_D A (lxF [mlW G q M]) := hD
          refine lv_aload_n hx hb dL_isFair_139 rfl (lv_at hl 0 rfl) ?_
          refine lv_iconst (v := 3) hx hb dL_isFair_140 (by decide) ?_
          refine ly_v (As := [.int 3]) (rest := [.int (nI mn + nI (qr_ynm M.2.2.1) - nI dn - nI gn)]) hx hb hml hown hts (m_ofRun (l := l) (G := G) (k := k) (q := q) (M := M) (p1 := 3) (v1 := nI mn) (sx_x_ofRun _ (w := 3) (by omega)) ((qo_3 _ _ _ _ _ _ _ _ _).trans em)) 1 (sxGV (bi14 (w := Cond.methodLink RL 95 yX9_ofRun) 16 rfl) (bi12 (w := Cond.instanceMethod yX9_ofRun) 41 rfl) (bi12 (w := Cond.selects RX9 yX9_ofRun yX9_ofRun) 42 rfl) (bi1 (w := Cond.initialized RX9) 58 rfl) (bi11 (w := Cond.code yX9_ofRun cX9_ofRun 2 (some .int)) 29 rfl)) rfl (by decide +kernel) ⟨Nat.le_of_ble_eq_true rfl, Nat.le_of_ble_eq_true rfl⟩ hK hP hD hS hA hE [0] [] rfl rfl (by show List.Perm _ (List.range 1); decide) 0 0 rfl rfl rfl rfl hl rfl (Nat.le_of_ble_eq_true rfl) ⟨by show _ ≤ 0; omega, by show _ ≤ 0; omega⟩ dL_isFair_141 (fun B1 v1 hp1 H locs hP hD hS => ?_)
          obtain ⟨rfl, rfl⟩ := hp1
          show W p l e _ s m args below meth c H locs _ _ _ (F0 m 144 ls [.int (nI mn), .int (nI mn + nI (qr_ynm M.2.2.1) - nI dn - nI gn)])
          have hP : va_P G.1 vwCl (lxF [mlW G q M]) H := hP
          have hD : va_D A (lxF [mlW G q M]) := hD
          refine lv_aload_n hx hb dL_isFair_144 rfl (lv_at hl 0 rfl) ?_
          refine lv_iconst (v := 5) hx hb dL_isFair_145 (by decide) ?_
          refine ly_v (As := [.int 5]) (rest := [.int (nI mn), .int (nI mn + nI (qr_ynm M.2.2.1) - nI dn - nI gn)]) hx hb hml hown hts (m_ofRun (l := l) (G := G) (k := k) (q := q) (M := M) (p1 := 5) (v1 := nI dn) (sx_x_ofRun _ (w := 5) (by omega)) ((qo_5 _ _ _ _ _ _ _ _ _).trans ed)) 1 (sxGV (bi14 (w := Cond.methodLink RL 95 yX9_ofRun) 16 rfl) (bi12 (w := Cond.instanceMethod yX9_ofRun) 41 rfl) (bi12 (w := Cond.selects RX9 yX9_ofRun yX9_ofRun) 42 rfl) (bi1 (w := Cond.initialized RX9) 58 rfl) (bi11 (w := Cond.code yX9_ofRun cX9_ofRun 2 (some .int)) 29 rfl)) rfl (by decide +kernel) ⟨Nat.le_of_ble_eq_true rfl, Nat.le_of_ble_eq_true rfl⟩ hK hP hD hS hA hE [0] [] rfl rfl (by show List.Perm _ (List.range 1); decide) 0 0 rfl rfl rfl rfl hl rfl (Nat.le_of_ble_eq_true rfl) ⟨by show _ ≤ 0; omega, by show _ ≤ 0; omega⟩ dL_isFair_146 (fun B1 v1 hp1 H locs hP hD hS => ?_)
          obtain ⟨rfl, rfl⟩ := hp1
          show W p l e _ s m args below meth c H locs _ _ _ (F0 m 149 ls [.int (nI dn), .int (nI mn), .int (nI mn + nI (qr_ynm M.2.2.1) - nI dn - nI gn)])
          have hP : va_P G.1 vwCl (lxF [mlW G q M]) H := hP
          have hD : va_D A (lxF [mlW G q M]) := hD
          refine lv_isub hx hb dL_isFair_149 ?_
          refine lv_aload_n hx hb dL_isFair_150 rfl (lv_at hl 0 rfl) ?_
          refine lv_iconst (v := 4) hx hb dL_isFair_151 (by decide) ?_
          refine ly_v (As := [.int 4]) (rest := [.int ((nI mn) - (nI dn)), .int (nI mn + nI (qr_ynm M.2.2.1) - nI dn - nI gn)]) hx hb hml hown hts (m_ofRun (l := l) (G := G) (k := k) (q := q) (M := M) (p1 := 4) (v1 := nI (qr_ynm M.2.2.1)) (sx_x_ofRun _ (w := 4) (by omega)) (qo_4 _ _ _ _ _ _ _ _ _)) 1 (sxGV (bi14 (w := Cond.methodLink RL 95 yX9_ofRun) 16 rfl) (bi12 (w := Cond.instanceMethod yX9_ofRun) 41 rfl) (bi12 (w := Cond.selects RX9 yX9_ofRun yX9_ofRun) 42 rfl) (bi1 (w := Cond.initialized RX9) 58 rfl) (bi11 (w := Cond.code yX9_ofRun cX9_ofRun 2 (some .int)) 29 rfl)) rfl (by decide +kernel) ⟨Nat.le_of_ble_eq_true rfl, Nat.le_of_ble_eq_true rfl⟩ hK hP hD hS hA hE [0] [] rfl rfl (by show List.Perm _ (List.range 1); decide) 0 0 rfl rfl rfl rfl hl rfl (Nat.le_of_ble_eq_true rfl) ⟨by show _ ≤ 0; omega, by show _ ≤ 0; omega⟩ dL_isFair_152 (fun B1 v1 hp1 H locs hP hD hS => ?_)
          obtain ⟨rfl, rfl⟩ := hp1
          show W p l e _ s m args below meth c H locs _ _ _ (F0 m 155 ls [.int (nI (qr_ynm M.2.2.1)), .int ((nI mn) - (nI dn)), .int (nI mn + nI (qr_ynm M.2.2.1) - nI dn - nI gn)])
          have hP : va_P G.1 vwCl (lxF [mlW G q M]) H := hP
          have hD : va_D A (lxF [mlW G q M]) := hD
          refine lv_iadd hx hb dL_isFair_155 ?_
          refine lv_aload_n hx hb dL_isFair_156 rfl (lv_at hl 0 rfl) ?_
          refine lv_bipush (v := 6) hx hb dL_isFair_157 (by decide) ?_
          refine ly_v (As := [.int 6]) (rest := [.int (((nI mn) - (nI dn)) + (nI (qr_ynm M.2.2.1))), .int (nI mn + nI (qr_ynm M.2.2.1) - nI dn - nI gn)]) hx hb hml hown hts (m_ofRun (l := l) (G := G) (k := k) (q := q) (M := M) (p1 := 6) (v1 := nI gn) (sx_x_ofRun _ (w := 6) (by omega)) ((qo_6 _ _ _ _ _ _ _ _ _).trans eg)) 1 (sxGV (bi14 (w := Cond.methodLink RL 95 yX9_ofRun) 16 rfl) (bi12 (w := Cond.instanceMethod yX9_ofRun) 41 rfl) (bi12 (w := Cond.selects RX9 yX9_ofRun yX9_ofRun) 42 rfl) (bi1 (w := Cond.initialized RX9) 58 rfl) (bi11 (w := Cond.code yX9_ofRun cX9_ofRun 2 (some .int)) 29 rfl)) rfl (by decide +kernel) ⟨Nat.le_of_ble_eq_true rfl, Nat.le_of_ble_eq_true rfl⟩ hK hP hD hS hA hE [0] [] rfl rfl (by show List.Perm _ (List.range 1); decide) 0 0 rfl rfl rfl rfl hl rfl (Nat.le_of_ble_eq_true rfl) ⟨by show _ ≤ 0; omega, by show _ ≤ 0; omega⟩ dL_isFair_159 (fun B1 v1 hp1 H locs hP hD hS => ?_)
          obtain ⟨rfl, rfl⟩ := hp1
          show W p l e _ s m args below meth c H locs _ _ _ (F0 m 162 ls [.int (nI gn), .int (((nI mn) - (nI dn)) + (nI (qr_ynm M.2.2.1))), .int (nI mn + nI (qr_ynm M.2.2.1) - nI dn - nI gn)])
          have hP : va_P G.1 vwCl (lxF [mlW G q M]) H := hP
          have hD : va_D A (lxF [mlW G q M]) := hD
          refine lv_isub hx hb dL_isFair_162 ?_
          refine lv_icmp_eq (tgt := 168) hx hb dL_isFair_163 (by decide) (fun c7 => ?_) (fun c7 => False.elim (by exact c7 (li_swap _ _ _ _)))
          refine lv_aload_n hx hb dL_isFair_168 rfl (lv_at hl 0 rfl) ?_
          refine lv_bipush (v := 8) hx hb dL_isFair_169 (by decide) ?_
          refine ly_v (As := [.int 8]) (rest := []) hx hb hml hown hts (m_ofRun (l := l) (G := G) (k := k) (q := q) (M := M) (p1 := 8) (v1 := nI t4) (sx_x_ofRun _ (w := 8) (by omega)) ((qo_8 _ _ _ _ _ _ _ _ _ hrn).trans hp4)) 1 (sxGV (bi14 (w := Cond.methodLink RL 95 yX9_ofRun) 16 rfl) (bi12 (w := Cond.instanceMethod yX9_ofRun) 41 rfl) (bi12 (w := Cond.selects RX9 yX9_ofRun yX9_ofRun) 42 rfl) (bi1 (w := Cond.initialized RX9) 58 rfl) (bi11 (w := Cond.code yX9_ofRun cX9_ofRun 2 (some .int)) 29 rfl)) rfl (by decide +kernel) ⟨Nat.le_of_ble_eq_true rfl, Nat.le_of_ble_eq_true rfl⟩ hK hP hD hS hA hE [0] [] rfl rfl (by show List.Perm _ (List.range 1); decide) 0 0 rfl rfl rfl rfl hl rfl (Nat.le_of_ble_eq_true rfl) ⟨by show _ ≤ 0; omega, by show _ ≤ 0; omega⟩ dL_isFair_171 (fun B1 v1 hp1 H locs hP hD hS => ?_)
          obtain ⟨rfl, rfl⟩ := hp1
          show W p l e _ s m args below meth c H locs _ _ _ (F0 m 174 ls [.int (nI t4)])
          have hP : va_P G.1 vwCl (lxF [mlW G q M]) H := hP
          have hD : va_D A (lxF [mlW G q M]) := hD
          refine lv_if_ge (tgt := 181) hx hb dL_isFair_174 (by decide) (fun c8 => ?_) (fun c8 => False.elim (by have nc8 := (not_congr (nI_leI (a := 0) (b := t4) (by omega) (by omega))).mp c8; exact c8 (nI_pos' (by omega))))
          have nc8 := (nI_leI (a := 0) (b := t4) (by omega) (by omega)).mp c8
          refine lv_iconst (v := 0) hx hb dL_isFair_181 (by decide) ?_
          refine lv_iload_n hx hb dL_isFair_182 rfl (lv_at hl 1 rfl) ?_
          refine lv_if_eq (tgt := 191) hx hb dL_isFair_183 (by decide) (fun c9 => absurd c9 (by decide)) (fun c9 => ?_)
          refine lv_iload_n hx hb dL_isFair_186 rfl (lv_at hl 1 rfl) ?_
          refine lv_iconst (v := 3) hx hb dL_isFair_187 (by decide) ?_
          refine lv_icmp_ne (tgt := 195) hx hb dL_isFair_188 (by decide) (fun c10 => ?_) (fun c10 => absurd c10 (by decide))
          refine lv_iconst (v := 0) hx hb dL_isFair_195 (by decide) ?_
          refine lv_icmp_ne (tgt := 230) hx hb dL_isFair_196 (by decide) (fun c11 => absurd c11 (by decide)) (fun c11 => ?_)
          refine lv_aload_n hx hb dL_isFair_199 rfl (lv_at hl 0 rfl) ?_
          refine lv_iconst (v := 1) hx hb dL_isFair_200 (by decide) ?_
          refine ly_v (As := [.int 1]) (rest := []) hx hb hml hown hts (m_ofRun (l := l) (G := G) (k := k) (q := q) (M := M) (p1 := 1) (v1 := nI (qr_ystp M.2.2.1)) (sx_x_ofRun _ (w := 1) (by omega)) (qo_1 _ _ _ _ _ _ _ _ _)) 1 (sxGV (bi14 (w := Cond.methodLink RL 95 yX9_ofRun) 16 rfl) (bi12 (w := Cond.instanceMethod yX9_ofRun) 41 rfl) (bi12 (w := Cond.selects RX9 yX9_ofRun yX9_ofRun) 42 rfl) (bi1 (w := Cond.initialized RX9) 58 rfl) (bi11 (w := Cond.code yX9_ofRun cX9_ofRun 2 (some .int)) 29 rfl)) rfl (by decide +kernel) ⟨Nat.le_of_ble_eq_true rfl, Nat.le_of_ble_eq_true rfl⟩ hK hP hD hS hA hE [0] [] rfl rfl (by show List.Perm _ (List.range 1); decide) 0 0 rfl rfl rfl rfl hl rfl (Nat.le_of_ble_eq_true rfl) ⟨by show _ ≤ 0; omega, by show _ ≤ 0; omega⟩ dL_isFair_201 (fun B1 v1 hp1 H locs hP hD hS => ?_)
          obtain ⟨rfl, rfl⟩ := hp1
          show W p l e _ s m args below meth c H locs _ _ _ (F0 m 204 ls [.int (nI (qr_ystp M.2.2.1))])
          have hP : va_P G.1 vwCl (lxF [mlW G q M]) H := hP
          have hD : va_D A (lxF [mlW G q M]) := hD
          refine lv_sipush (v := 500) hx hb dL_isFair_204 (by decide) ?_
          refine lv_icmp_gt (tgt := 230) hx hb dL_isFair_207 (by decide) (fun c12 => False.elim (by have nc12 := (nI_ltI (a := 500) (b := (qr_ystp M.2.2.1)) (by omega) (by omega)).mp c12; omega)) (fun c12 => ?_)
          have nc12 := (not_congr (nI_ltI (a := 500) (b := (qr_ystp M.2.2.1)) (by omega) (by omega))).mp c12
          refine lv_iload_n hx hb dL_isFair_210 rfl (lv_at hl 1 rfl) ?_
          refine lv_iconst (v := 3) hx hb dL_isFair_211 (by decide) ?_
          refine lv_icmp_lt (tgt := 226) hx hb dL_isFair_212 (by decide) (fun c13 => ?_) (fun c13 => absurd c13 (by decide))
          refine lv_iconst (v := 1) hx hb dL_isFair_226 (by decide) ?_
          refine lv_goto (tgt := 231) hx hb dL_isFair_227 (by decide) ?_
          exact ly_ri hx hb hr hlk hP hD hS rfl (⟨rfl, rfl⟩) (by omega) (by omega) dL_isFair_231
        · have nc3 := (not_congr (nI_ltI (a := 60) (b := sn) (by omega) (by omega))).mp c3
          obtain ⟨hc1, hc2⟩ := hct (by omega)
          have ei : i = sn := by omega
          rw [← ei] at hc1 hc2
          refine lv_iload_n hx hb dL_isFair_80 rfl (lv_at hl 2 rfl) ?_
          refine lv_aload_n hx hb dL_isFair_81 rfl (lv_at hl 0 rfl) ?_
          refine lv_iconst (v := 5) hx hb dL_isFair_82 (by decide) ?_
          refine ly_v (As := [.int 5]) (rest := [.int (nI (qr_ct (qr_yzs M.2.2.1) 1 i))]) hx hb hml hown hts (m_ofRun (l := l) (G := G) (k := k) (q := q) (M := M) (p1 := 5) (v1 := nI dn) (sx_x_ofRun _ (w := 5) (by omega)) ((qo_5 _ _ _ _ _ _ _ _ _).trans ed)) 1 (sxGV (bi14 (w := Cond.methodLink RL 95 yX9_ofRun) 16 rfl) (bi12 (w := Cond.instanceMethod yX9_ofRun) 41 rfl) (bi12 (w := Cond.selects RX9 yX9_ofRun yX9_ofRun) 42 rfl) (bi1 (w := Cond.initialized RX9) 58 rfl) (bi11 (w := Cond.code yX9_ofRun cX9_ofRun 2 (some .int)) 29 rfl)) rfl (by decide +kernel) ⟨Nat.le_of_ble_eq_true rfl, Nat.le_of_ble_eq_true rfl⟩ hK hP hD hS hA hE [0] [] rfl rfl (by show List.Perm _ (List.range 1); decide) 0 0 rfl rfl rfl rfl hl rfl (Nat.le_of_ble_eq_true rfl) ⟨by show _ ≤ 0; omega, by show _ ≤ 0; omega⟩ dL_isFair_83 (fun B1 v1 hp1 H locs hP hD hS => ?_)
          obtain ⟨rfl, rfl⟩ := hp1
          show W p l e _ s m args below meth c H locs _ _ _ (F0 m 86 ls [.int (nI dn), .int (nI (qr_ct (qr_yzs M.2.2.1) 1 i))])
          have hP : va_P G.1 vwCl (lxF [mlW G q M]) H := hP
          have hD : va_D A (lxF [mlW G q M]) := hD
          refine lv_icmp_ne (tgt := 99) hx hb dL_isFair_86 (by decide) (fun c14 => False.elim (by have nc14 := (not_congr (nI_eq (a := (qr_ct (qr_yzs M.2.2.1) 1 i)) (b := dn) (by omega) (by omega))).mp c14; omega)) (fun c14 => ?_)
          have nc14 := (nI_eq (a := (qr_ct (qr_yzs M.2.2.1) 1 i)) (b := dn) (by omega) (by omega)).mp c14
          refine lv_iload_n hx hb dL_isFair_89 rfl (lv_at hl 3 rfl) ?_
          refine lv_aload_n hx hb dL_isFair_90 rfl (lv_at hl 0 rfl) ?_
          refine lv_bipush (v := 6) hx hb dL_isFair_91 (by decide) ?_
          refine ly_v (As := [.int 6]) (rest := [.int (nI (qr_ct (qr_yzs M.2.2.1) 2 i))]) hx hb hml hown hts (m_ofRun (l := l) (G := G) (k := k) (q := q) (M := M) (p1 := 6) (v1 := nI gn) (sx_x_ofRun _ (w := 6) (by omega)) ((qo_6 _ _ _ _ _ _ _ _ _).trans eg)) 1 (sxGV (bi14 (w := Cond.methodLink RL 95 yX9_ofRun) 16 rfl) (bi12 (w := Cond.instanceMethod yX9_ofRun) 41 rfl) (bi12 (w := Cond.selects RX9 yX9_ofRun yX9_ofRun) 42 rfl) (bi1 (w := Cond.initialized RX9) 58 rfl) (bi11 (w := Cond.code yX9_ofRun cX9_ofRun 2 (some .int)) 29 rfl)) rfl (by decide +kernel) ⟨Nat.le_of_ble_eq_true rfl, Nat.le_of_ble_eq_true rfl⟩ hK hP hD hS hA hE [0] [] rfl rfl (by show List.Perm _ (List.range 1); decide) 0 0 rfl rfl rfl rfl hl rfl (Nat.le_of_ble_eq_true rfl) ⟨by show _ ≤ 0; omega, by show _ ≤ 0; omega⟩ dL_isFair_93 (fun B1 v1 hp1 H locs hP hD hS => ?_)
          obtain ⟨rfl, rfl⟩ := hp1
          show W p l e _ s m args below meth c H locs _ _ _ (F0 m 96 ls [.int (nI gn), .int (nI (qr_ct (qr_yzs M.2.2.1) 2 i))])
          have hP : va_P G.1 vwCl (lxF [mlW G q M]) H := hP
          have hD : va_D A (lxF [mlW G q M]) := hD
          refine lv_icmp_eq (tgt := 101) hx hb dL_isFair_96 (by decide) (fun c15 => ?_) (fun c15 => False.elim (by have nc15 := (not_congr (nI_eq (a := (qr_ct (qr_yzs M.2.2.1) 2 i)) (b := gn) (by omega) (by omega))).mp c15; omega))
          have nc15 := (nI_eq (a := (qr_ct (qr_yzs M.2.2.1) 2 i)) (b := gn) (by omega) (by omega)).mp c15
          refine lv_iload_n hx hb dL_isFair_101 rfl (lv_at hl 1 rfl) ?_
          refine lv_iconst (v := 2) hx hb dL_isFair_102 (by decide) ?_
          refine lv_icmp_ge (tgt := 119) hx hb dL_isFair_103 (by decide) (fun c16 => absurd c16 (by decide)) (fun c16 => ?_)
          refine lv_aload_n hx hb dL_isFair_106 rfl (lv_at hl 0 rfl) ?_
          refine lv_iconst (v := 3) hx hb dL_isFair_107 (by decide) ?_
          refine ly_v (As := [.int 3]) (rest := []) hx hb hml hown hts (m_ofRun (l := l) (G := G) (k := k) (q := q) (M := M) (p1 := 3) (v1 := nI mn) (sx_x_ofRun _ (w := 3) (by omega)) ((qo_3 _ _ _ _ _ _ _ _ _).trans em)) 1 (sxGV (bi14 (w := Cond.methodLink RL 95 yX9_ofRun) 16 rfl) (bi12 (w := Cond.instanceMethod yX9_ofRun) 41 rfl) (bi12 (w := Cond.selects RX9 yX9_ofRun yX9_ofRun) 42 rfl) (bi1 (w := Cond.initialized RX9) 58 rfl) (bi11 (w := Cond.code yX9_ofRun cX9_ofRun 2 (some .int)) 29 rfl)) rfl (by decide +kernel) ⟨Nat.le_of_ble_eq_true rfl, Nat.le_of_ble_eq_true rfl⟩ hK hP hD hS hA hE [0] [] rfl rfl (by show List.Perm _ (List.range 1); decide) 0 0 rfl rfl rfl rfl hl rfl (Nat.le_of_ble_eq_true rfl) ⟨by show _ ≤ 0; omega, by show _ ≤ 0; omega⟩ dL_isFair_108 (fun B1 v1 hp1 H locs hP hD hS => ?_)
          obtain ⟨rfl, rfl⟩ := hp1
          show W p l e _ s m args below meth c H locs _ _ _ (F0 m 111 ls [.int (nI mn)])
          have hP : va_P G.1 vwCl (lxF [mlW G q M]) H := hP
          have hD : va_D A (lxF [mlW G q M]) := hD
          refine lv_aload_n hx hb dL_isFair_111 rfl (lv_at hl 0 rfl) ?_
          refine lv_iconst (v := 5) hx hb dL_isFair_112 (by decide) ?_
          refine ly_v (As := [.int 5]) (rest := [.int (nI mn)]) hx hb hml hown hts (m_ofRun (l := l) (G := G) (k := k) (q := q) (M := M) (p1 := 5) (v1 := nI dn) (sx_x_ofRun _ (w := 5) (by omega)) ((qo_5 _ _ _ _ _ _ _ _ _).trans ed)) 1 (sxGV (bi14 (w := Cond.methodLink RL 95 yX9_ofRun) 16 rfl) (bi12 (w := Cond.instanceMethod yX9_ofRun) 41 rfl) (bi12 (w := Cond.selects RX9 yX9_ofRun yX9_ofRun) 42 rfl) (bi1 (w := Cond.initialized RX9) 58 rfl) (bi11 (w := Cond.code yX9_ofRun cX9_ofRun 2 (some .int)) 29 rfl)) rfl (by decide +kernel) ⟨Nat.le_of_ble_eq_true rfl, Nat.le_of_ble_eq_true rfl⟩ hK hP hD hS hA hE [0] [] rfl rfl (by show List.Perm _ (List.range 1); decide) 0 0 rfl rfl rfl rfl hl rfl (Nat.le_of_ble_eq_true rfl) ⟨by show _ ≤ 0; omega, by show _ ≤ 0; omega⟩ dL_isFair_113 (fun B1 v1 hp1 H locs hP hD hS => ?_)
          obtain ⟨rfl, rfl⟩ := hp1
          show W p l e _ s m args below meth c H locs _ _ _ (F0 m 116 ls [.int (nI dn), .int (nI mn)])
          have hP : va_P G.1 vwCl (lxF [mlW G q M]) H := hP
          have hD : va_D A (lxF [mlW G q M]) := hD
          refine lv_icmp_ne (tgt := 166) hx hb dL_isFair_116 (by decide) (fun c17 => False.elim (by have nc17 := (not_congr (nI_eq (a := mn) (b := dn) (by omega) (by omega))).mp c17; omega)) (fun c17 => ?_)
          have nc17 := (nI_eq (a := mn) (b := dn) (by omega) (by omega)).mp c17
          refine lv_aload_n hx hb dL_isFair_119 rfl (lv_at hl 0 rfl) ?_
          refine lv_bipush (v := 6) hx hb dL_isFair_120 (by decide) ?_
          refine ly_v (As := [.int 6]) (rest := []) hx hb hml hown hts (m_ofRun (l := l) (G := G) (k := k) (q := q) (M := M) (p1 := 6) (v1 := nI gn) (sx_x_ofRun _ (w := 6) (by omega)) ((qo_6 _ _ _ _ _ _ _ _ _).trans eg)) 1 (sxGV (bi14 (w := Cond.methodLink RL 95 yX9_ofRun) 16 rfl) (bi12 (w := Cond.instanceMethod yX9_ofRun) 41 rfl) (bi12 (w := Cond.selects RX9 yX9_ofRun yX9_ofRun) 42 rfl) (bi1 (w := Cond.initialized RX9) 58 rfl) (bi11 (w := Cond.code yX9_ofRun cX9_ofRun 2 (some .int)) 29 rfl)) rfl (by decide +kernel) ⟨Nat.le_of_ble_eq_true rfl, Nat.le_of_ble_eq_true rfl⟩ hK hP hD hS hA hE [0] [] rfl rfl (by show List.Perm _ (List.range 1); decide) 0 0 rfl rfl rfl rfl hl rfl (Nat.le_of_ble_eq_true rfl) ⟨by show _ ≤ 0; omega, by show _ ≤ 0; omega⟩ dL_isFair_122 (fun B1 v1 hp1 H locs hP hD hS => ?_)
          obtain ⟨rfl, rfl⟩ := hp1
          show W p l e _ s m args below meth c H locs _ _ _ (F0 m 125 ls [.int (nI gn)])
          have hP : va_P G.1 vwCl (lxF [mlW G q M]) H := hP
          have hD : va_D A (lxF [mlW G q M]) := hD
          refine lv_aload_n hx hb dL_isFair_125 rfl (lv_at hl 0 rfl) ?_
          refine lv_iconst (v := 4) hx hb dL_isFair_126 (by decide) ?_
          refine ly_v (As := [.int 4]) (rest := [.int (nI gn)]) hx hb hml hown hts (m_ofRun (l := l) (G := G) (k := k) (q := q) (M := M) (p1 := 4) (v1 := nI (qr_ynm M.2.2.1)) (sx_x_ofRun _ (w := 4) (by omega)) (qo_4 _ _ _ _ _ _ _ _ _)) 1 (sxGV (bi14 (w := Cond.methodLink RL 95 yX9_ofRun) 16 rfl) (bi12 (w := Cond.instanceMethod yX9_ofRun) 41 rfl) (bi12 (w := Cond.selects RX9 yX9_ofRun yX9_ofRun) 42 rfl) (bi1 (w := Cond.initialized RX9) 58 rfl) (bi11 (w := Cond.code yX9_ofRun cX9_ofRun 2 (some .int)) 29 rfl)) rfl (by decide +kernel) ⟨Nat.le_of_ble_eq_true rfl, Nat.le_of_ble_eq_true rfl⟩ hK hP hD hS hA hE [0] [] rfl rfl (by show List.Perm _ (List.range 1); decide) 0 0 rfl rfl rfl rfl hl rfl (Nat.le_of_ble_eq_true rfl) ⟨by show _ ≤ 0; omega, by show _ ≤ 0; omega⟩ dL_isFair_127 (fun B1 v1 hp1 H locs hP hD hS => ?_)
          obtain ⟨rfl, rfl⟩ := hp1
          show W p l e _ s m args below meth c H locs _ _ _ (F0 m 130 ls [.int (nI (qr_ynm M.2.2.1)), .int (nI gn)])
          have hP : va_P G.1 vwCl (lxF [mlW G q M]) H := hP
          have hD : va_D A (lxF [mlW G q M]) := hD
          refine lv_icmp_gt (tgt := 166) hx hb dL_isFair_130 (by decide) (fun c18 => False.elim (by have nc18 := (nI_ltI (a := (qr_ynm M.2.2.1)) (b := gn) (by omega) (by omega)).mp c18; omega)) (fun c18 => ?_)
          have nc18 := (not_congr (nI_ltI (a := (qr_ynm M.2.2.1)) (b := gn) (by omega) (by omega))).mp c18
          refine lv_aload_n hx hb dL_isFair_133 rfl (lv_at hl 0 rfl) ?_
          refine lv_bipush (v := 7) hx hb dL_isFair_134 (by decide) ?_
          refine ly_v (As := [.int 7]) (rest := []) hx hb hml hown hts (m_ofRun (l := l) (G := G) (k := k) (q := q) (M := M) (p1 := 7) (v1 := nI mn + nI (qr_ynm M.2.2.1) - nI dn - nI gn) (sx_x_ofRun _ (w := 7) (by omega)) (by rw [qo_7, em, ed, eg])) 1 (sxGV (bi14 (w := Cond.methodLink RL 95 yX9_ofRun) 16 rfl) (bi12 (w := Cond.instanceMethod yX9_ofRun) 41 rfl) (bi12 (w := Cond.selects RX9 yX9_ofRun yX9_ofRun) 42 rfl) (bi1 (w := Cond.initialized RX9) 58 rfl) (bi11 (w := Cond.code yX9_ofRun cX9_ofRun 2 (some .int)) 29 rfl)) rfl (by decide +kernel) ⟨Nat.le_of_ble_eq_true rfl, Nat.le_of_ble_eq_true rfl⟩ hK hP hD hS hA hE [0] [] rfl rfl (by show List.Perm _ (List.range 1); decide) 0 0 rfl rfl rfl rfl hl rfl (Nat.le_of_ble_eq_true rfl) ⟨by show _ ≤ 0; omega, by show _ ≤ 0; omega⟩ dL_isFair_136 (fun B1 v1 hp1 H locs hP hD hS => ?_)
          obtain ⟨rfl, rfl⟩ := hp1
          show W p l e _ s m args below meth c H locs _ _ _ (F0 m 139 ls [.int (nI mn + nI (qr_ynm M.2.2.1) - nI dn - nI gn)])
          have hP : va_P G.1 vwCl (lxF [mlW G q M]) H := hP
          have hD : va_D A (lxF [mlW G q M]) := hD
          refine lv_aload_n hx hb dL_isFair_139 rfl (lv_at hl 0 rfl) ?_
          refine lv_iconst (v := 3) hx hb dL_isFair_140 (by decide) ?_
          refine ly_v (As := [.int 3]) (rest := [.int (nI mn + nI (qr_ynm M.2.2.1) - nI dn - nI gn)]) hx hb hml hown hts (m_ofRun (l := l) (G := G) (k := k) (q := q) (M := M) (p1 := 3) (v1 := nI mn) (sx_x_ofRun _ (w := 3) (by omega)) ((qo_3 _ _ _ _ _ _ _ _ _).trans em)) 1 (sxGV (bi14 (w := Cond.methodLink RL 95 yX9_ofRun) 16 rfl) (bi12 (w := Cond.instanceMethod yX9_ofRun) 41 rfl) (bi12 (w := Cond.selects RX9 yX9_ofRun yX9_ofRun) 42 rfl) (bi1 (w := Cond.initialized RX9) 58 rfl) (bi11 (w := Cond.code yX9_ofRun cX9_ofRun 2 (some .int)) 29 rfl)) rfl (by decide +kernel) ⟨Nat.le_of_ble_eq_true rfl, Nat.le_of_ble_eq_true rfl⟩ hK hP hD hS hA hE [0] [] rfl rfl (by show List.Perm _ (List.range 1); decide) 0 0 rfl rfl rfl rfl hl rfl (Nat.le_of_ble_eq_true rfl) ⟨by show _ ≤ 0; omega, by show _ ≤ 0; omega⟩ dL_isFair_141 (fun B1 v1 hp1 H locs hP hD hS => ?_)
          obtain ⟨rfl, rfl⟩ := hp1
          show W p l e _ s m args below meth c H locs _ _ _ (F0 m 144 ls [.int (nI mn), .int (nI mn + nI (qr_ynm M.2.2.1) - nI dn - nI gn)])
          have hP : va_P G.1 vwCl (lxF [mlW G q M]) H := hP
          have hD : va_D A (lxF [mlW G q M]) := hD
          refine lv_aload_n hx hb dL_isFair_144 rfl (lv_at hl 0 rfl) ?_
          refine lv_iconst (v := 5) hx hb dL_isFair_145 (by decide) ?_
          refine ly_v (As := [.int 5]) (rest := [.int (nI mn), .int (nI mn + nI (qr_ynm M.2.2.1) - nI dn - nI gn)]) hx hb hml hown hts (m_ofRun (l := l) (G := G) (k := k) (q := q) (M := M) (p1 := 5) (v1 := nI dn) (sx_x_ofRun _ (w := 5) (by omega)) ((qo_5 _ _ _ _ _ _ _ _ _).trans ed)) 1 (sxGV (bi14 (w := Cond.methodLink RL 95 yX9_ofRun) 16 rfl) (bi12 (w := Cond.instanceMethod yX9_ofRun) 41 rfl) (bi12 (w := Cond.selects RX9 yX9_ofRun yX9_ofRun) 42 rfl) (bi1 (w := Cond.initialized RX9) 58 rfl) (bi11 (w := Cond.code yX9_ofRun cX9_ofRun 2 (some .int)) 29 rfl)) rfl (by decide +kernel) ⟨Nat.le_of_ble_eq_true rfl, Nat.le_of_ble_eq_true rfl⟩ hK hP hD hS hA hE [0] [] rfl rfl (by show List.Perm _ (List.range 1); decide) 0 0 rfl rfl rfl rfl hl rfl (Nat.le_of_ble_eq_true rfl) ⟨by show _ ≤ 0; omega, by show _ ≤ 0; omega⟩ dL_isFair_146 (fun B1 v1 hp1 H locs hP hD hS => ?_)
          obtain ⟨rfl, rfl⟩ := hp1
          show W p l e _ s m args below meth c H locs _ _ _ (F0 m 149 ls [.int (nI dn), .int (nI mn), .int (nI mn + nI (qr_ynm M.2.2.1) - nI dn - nI gn)])
          have hP : va_P G.1 vwCl (lxF [mlW G q M]) H := hP
          have hD : va_D A (lxF [mlW G q M]) := hD
          refine lv_isub hx hb dL_isFair_149 ?_
          refine lv_aload_n hx hb dL_isFair_150 rfl (lv_at hl 0 rfl) ?_
          refine lv_iconst (v := 4) hx hb dL_isFair_151 (by decide) ?_
          refine ly_v (As := [.int 4]) (rest := [.int ((nI mn) - (nI dn)), .int (nI mn + nI (qr_ynm M.2.2.1) - nI dn - nI gn)]) hx hb hml hown hts (m_ofRun (l := l) (G := G) (k := k) (q := q) (M := M) (p1 := 4) (v1 := nI (qr_ynm M.2.2.1)) (sx_x_ofRun _ (w := 4) (by omega)) (qo_4 _ _ _ _ _ _ _ _ _)) 1 (sxGV (bi14 (w := Cond.methodLink RL 95 yX9_ofRun) 16 rfl) (bi12 (w := Cond.instanceMethod yX9_ofRun) 41 rfl) (bi12 (w := Cond.selects RX9 yX9_ofRun yX9_ofRun) 42 rfl) (bi1 (w := Cond.initialized RX9) 58 rfl) (bi11 (w := Cond.code yX9_ofRun cX9_ofRun 2 (some .int)) 29 rfl)) rfl (by decide +kernel) ⟨Nat.le_of_ble_eq_true rfl, Nat.le_of_ble_eq_true rfl⟩ hK hP hD hS hA hE [0] [] rfl rfl (by show List.Perm _ (List.range 1); decide) 0 0 rfl rfl rfl rfl hl rfl (Nat.le_of_ble_eq_true rfl) ⟨by show _ ≤ 0; omega, by show _ ≤ 0; omega⟩ dL_isFair_152 (fun B1 v1 hp1 H locs hP hD hS => ?_)
          obtain ⟨rfl, rfl⟩ := hp1
          show W p l e _ s m args below meth c H locs _ _ _ (F0 m 155 ls [.int (nI (qr_ynm M.2.2.1)), .int ((nI mn) - (nI dn)), .int (nI mn + nI (qr_ynm M.2.2.1) - nI dn - nI gn)])
          have hP : va_P G.1 vwCl (lxF [mlW G q M]) H := hP
          have hD : va_D A (lxF [mlW G q M]) := hD
          refine lv_iadd hx hb dL_isFair_155 ?_
          refine lv_aload_n hx hb dL_isFair_156 rfl (lv_at hl 0 rfl) ?_
          refine lv_bipush (v := 6) hx hb dL_isFair_157 (by decide) ?_
          refine ly_v (As := [.int 6]) (rest := [.int (((nI mn) - (nI dn)) + (nI (qr_ynm M.2.2.1))), .int (nI mn + nI (qr_ynm M.2.2.1) - nI dn - nI gn)]) hx hb hml hown hts (m_ofRun (l := l) (G := G) (k := k) (q := q) (M := M) (p1 := 6) (v1 := nI gn) (sx_x_ofRun _ (w := 6) (by omega)) ((qo_6 _ _ _ _ _ _ _ _ _).trans eg)) 1 (sxGV (bi14 (w := Cond.methodLink RL 95 yX9_ofRun) 16 rfl) (bi12 (w := Cond.instanceMethod yX9_ofRun) 41 rfl) (bi12 (w := Cond.selects RX9 yX9_ofRun yX9_ofRun) 42 rfl) (bi1 (w := Cond.initialized RX9) 58 rfl) (bi11 (w := Cond.code yX9_ofRun cX9_ofRun 2 (some .int)) 29 rfl)) rfl (by decide +kernel) ⟨Nat.le_of_ble_eq_true rfl, Nat.le_of_ble_eq_true rfl⟩ hK hP hD hS hA hE [0] [] rfl rfl (by show List.Perm _ (List.range 1); decide) 0 0 rfl rfl rfl rfl hl rfl (Nat.le_of_ble_eq_true rfl) ⟨by show _ ≤ 0; omega, by show _ ≤ 0; omega⟩ dL_isFair_159 (fun B1 v1 hp1 H locs hP hD hS => ?_)
          obtain ⟨rfl, rfl⟩ := hp1
          show W p l e _ s m args below meth c H locs _ _ _ (F0 m 162 ls [.int (nI gn), .int (((nI mn) - (nI dn)) + (nI (qr_ynm M.2.2.1))), .int (nI mn + nI (qr_ynm M.2.2.1) - nI dn - nI gn)])
          have hP : va_P G.1 vwCl (lxF [mlW G q M]) H := hP
          have hD : va_D A (lxF [mlW G q M]) := hD
          refine lv_isub hx hb dL_isFair_162 ?_
          refine lv_icmp_eq (tgt := 168) hx hb dL_isFair_163 (by decide) (fun c19 => ?_) (fun c19 => False.elim (by exact c19 (li_swap _ _ _ _)))
          refine lv_aload_n hx hb dL_isFair_168 rfl (lv_at hl 0 rfl) ?_
          refine lv_bipush (v := 8) hx hb dL_isFair_169 (by decide) ?_
          refine ly_v (As := [.int 8]) (rest := []) hx hb hml hown hts (m_ofRun (l := l) (G := G) (k := k) (q := q) (M := M) (p1 := 8) (v1 := nI t4) (sx_x_ofRun _ (w := 8) (by omega)) ((qo_8 _ _ _ _ _ _ _ _ _ hrn).trans hp4)) 1 (sxGV (bi14 (w := Cond.methodLink RL 95 yX9_ofRun) 16 rfl) (bi12 (w := Cond.instanceMethod yX9_ofRun) 41 rfl) (bi12 (w := Cond.selects RX9 yX9_ofRun yX9_ofRun) 42 rfl) (bi1 (w := Cond.initialized RX9) 58 rfl) (bi11 (w := Cond.code yX9_ofRun cX9_ofRun 2 (some .int)) 29 rfl)) rfl (by decide +kernel) ⟨Nat.le_of_ble_eq_true rfl, Nat.le_of_ble_eq_true rfl⟩ hK hP hD hS hA hE [0] [] rfl rfl (by show List.Perm _ (List.range 1); decide) 0 0 rfl rfl rfl rfl hl rfl (Nat.le_of_ble_eq_true rfl) ⟨by show _ ≤ 0; omega, by show _ ≤ 0; omega⟩ dL_isFair_171 (fun B1 v1 hp1 H locs hP hD hS => ?_)
          obtain ⟨rfl, rfl⟩ := hp1
          show W p l e _ s m args below meth c H locs _ _ _ (F0 m 174 ls [.int (nI t4)])
          have hP : va_P G.1 vwCl (lxF [mlW G q M]) H := hP
          have hD : va_D A (lxF [mlW G q M]) := hD
          refine lv_if_ge (tgt := 181) hx hb dL_isFair_174 (by decide) (fun c20 => ?_) (fun c20 => False.elim (by have nc20 := (not_congr (nI_leI (a := 0) (b := t4) (by omega) (by omega))).mp c20; exact c20 (nI_pos' (by omega))))
          have nc20 := (nI_leI (a := 0) (b := t4) (by omega) (by omega)).mp c20
          refine lv_iconst (v := 0) hx hb dL_isFair_181 (by decide) ?_
          refine lv_iload_n hx hb dL_isFair_182 rfl (lv_at hl 1 rfl) ?_
          refine lv_if_eq (tgt := 191) hx hb dL_isFair_183 (by decide) (fun c21 => absurd c21 (by decide)) (fun c21 => ?_)
          refine lv_iload_n hx hb dL_isFair_186 rfl (lv_at hl 1 rfl) ?_
          refine lv_iconst (v := 3) hx hb dL_isFair_187 (by decide) ?_
          refine lv_icmp_ne (tgt := 195) hx hb dL_isFair_188 (by decide) (fun c22 => ?_) (fun c22 => absurd c22 (by decide))
          refine lv_iconst (v := 0) hx hb dL_isFair_195 (by decide) ?_
          refine lv_icmp_ne (tgt := 230) hx hb dL_isFair_196 (by decide) (fun c23 => absurd c23 (by decide)) (fun c23 => ?_)
          refine lv_aload_n hx hb dL_isFair_199 rfl (lv_at hl 0 rfl) ?_
          refine lv_iconst (v := 1) hx hb dL_isFair_200 (by decide) ?_
          refine ly_v (As := [.int 1]) (rest := []) hx hb hml hown hts (m_ofRun (l := l) (G := G) (k := k) (q := q) (M := M) (p1 := 1) (v1 := nI (qr_ystp M.2.2.1)) (sx_x_ofRun _ (w := 1) (by omega)) (qo_1 _ _ _ _ _ _ _ _ _)) 1 (sxGV (bi14 (w := Cond.methodLink RL 95 yX9_ofRun) 16 rfl) (bi12 (w := Cond.instanceMethod yX9_ofRun) 41 rfl) (bi12 (w := Cond.selects RX9 yX9_ofRun yX9_ofRun) 42 rfl) (bi1 (w := Cond.initialized RX9) 58 rfl) (bi11 (w := Cond.code yX9_ofRun cX9_ofRun 2 (some .int)) 29 rfl)) rfl (by decide +kernel) ⟨Nat.le_of_ble_eq_true rfl, Nat.le_of_ble_eq_true rfl⟩ hK hP hD hS hA hE [0] [] rfl rfl (by show List.Perm _ (List.range 1); decide) 0 0 rfl rfl rfl rfl hl rfl (Nat.le_of_ble_eq_true rfl) ⟨by show _ ≤ 0; omega, by show _ ≤ 0; omega⟩ dL_isFair_201 (fun B1 v1 hp1 H locs hP hD hS => ?_)
          obtain ⟨rfl, rfl⟩ := hp1
          show W p l e _ s m args below meth c H locs _ _ _ (F0 m 204 ls [.int (nI (qr_ystp M.2.2.1))])
          have hP : va_P G.1 vwCl (lxF [mlW G q M]) H := hP
          have hD : va_D A (lxF [mlW G q M]) := hD
          refine lv_sipush (v := 500) hx hb dL_isFair_204 (by decide) ?_
          refine lv_icmp_gt (tgt := 230) hx hb dL_isFair_207 (by decide) (fun c24 => False.elim (by have nc24 := (nI_ltI (a := 500) (b := (qr_ystp M.2.2.1)) (by omega) (by omega)).mp c24; omega)) (fun c24 => ?_)
          have nc24 := (not_congr (nI_ltI (a := 500) (b := (qr_ystp M.2.2.1)) (by omega) (by omega))).mp c24
          refine lv_iload_n hx hb dL_isFair_210 rfl (lv_at hl 1 rfl) ?_
          refine lv_iconst (v := 3) hx hb dL_isFair_211 (by decide) ?_
          refine lv_icmp_lt (tgt := 226) hx hb dL_isFair_212 (by decide) (fun c25 => ?_) (fun c25 => absurd c25 (by decide))
          refine lv_iconst (v := 1) hx hb dL_isFair_226 (by decide) ?_
          refine lv_goto (tgt := 231) hx hb dL_isFair_227 (by decide) ?_
          exact ly_ri hx hb hr hlk hP hD hS rfl (⟨rfl, rfl⟩) (by omega) (by omega) dL_isFair_231
      · have nc2 := (not_congr (nI_leI (a := (min 60 sn)) (b := i) (by omega) (by omega))).mp c2
        refine lv_iload_n hx hb dL_isFair_26 rfl (lv_at hl 2 rfl) ?_
        refine lv_aload_n hx hb dL_isFair_27 rfl (lv_at hl 0 rfl) ?_
        refine lv_iload hx hb dL_isFair_28 (lv_at hl 5 rfl) ?_
        refine lv_iconst (v := 0) hx hb dL_isFair_30 (by decide) ?_
        refine ly_v (As := [.int (nI i), .int 0]) (rest := [.int (nI (qr_ct (qr_yzs M.2.2.1) 1 i))]) hx hb hml hown hts (m_told0 (l := l) (G := G) (k := k) (q := q) (M := M) (j := i) es (by omega) (by omega) (by omega)) 2 (sxGV (bi14 (w := Cond.methodLink RL 126 yX9_told) 17 rfl) (bi12 (w := Cond.instanceMethod yX9_told) 45 rfl) (bi12 (w := Cond.selects RX9 yX9_told yX9_told) 46 rfl) (bi1 (w := Cond.initialized RX9) 58 rfl) (bi11 (w := Cond.code yX9_told cX9_told 3 (some .int)) 46 rfl)) rfl (by decide +kernel) ⟨Nat.le_of_ble_eq_true rfl, Nat.le_of_ble_eq_true rfl⟩ hK hP hD hS hA hE [0] [] rfl rfl (by show List.Perm _ (List.range 1); decide) 0 0 rfl rfl rfl rfl hl rfl (Nat.le_of_ble_eq_true rfl) ⟨by show _ ≤ 0; omega, by show _ ≤ 0; omega⟩ dL_isFair_31 (fun B1 v1 hp1 H locs hP hD hS => ?_)
        obtain ⟨rfl, rfl⟩ := hp1
        show W p l e _ s m args below meth c H locs _ _ _ (F0 m 34 ls [.int (qr_yzs M.2.2.1 i), .int (nI (qr_ct (qr_yzs M.2.2.1) 1 i))])
        have hP : va_P G.1 vwCl (lxF [mlW G q M]) H := hP
        have hD : va_D A (lxF [mlW G q M]) := hD
        refine lv_iconst (v := 1) hx hb dL_isFair_34 (by decide) ?_
        refine lv_icmp_ne (tgt := 42) hx hb dL_isFair_35 (by decide) (fun c26 => ?_) (fun c26 => ?_)
        · refine lv_iconst (v := 0) hx hb dL_isFair_42 (by decide) ?_
          refine lv_iadd hx hb dL_isFair_43 ?_
          rw [show ((nI (qr_ct (qr_yzs M.2.2.1) 1 i)) + 0 : Int32) = nI (qr_ct (qr_yzs M.2.2.1) 1 (i + 1)) from (by rw [li_ct0 c26]; exact Int32.add_zero _)]
          refine lv_istore_n (lv' := [(2, .int (nI (qr_ct (qr_yzs M.2.2.1) 1 (i + 1)))), (0, .ref (q 0)), (1, .int 1), (3, .int (nI (qr_ct (qr_yzs M.2.2.1) 2 i))), (4, .int (nI (min 60 sn))), (5, .int (nI i))]) hx hb dL_isFair_44 rfl hl (by decide) rfl (fun ls hl => ?_)
          refine lv_iload_n hx hb dL_isFair_45 rfl (lv_at hl 3 rfl) ?_
          refine lv_aload_n hx hb dL_isFair_46 rfl (lv_at hl 1 rfl) ?_
          refine lv_iload hx hb dL_isFair_47 (lv_at hl 5 rfl) ?_
          refine lv_iconst (v := 0) hx hb dL_isFair_49 (by decide) ?_
          refine ly_v (As := [.int (nI i), .int 0]) (rest := [.int (nI (qr_ct (qr_yzs M.2.2.1) 2 i))]) hx hb hml hown hts (m_told0 (l := l) (G := G) (k := k) (q := q) (M := M) (j := i) es (by omega) (by omega) (by omega)) 2 (sxGV (bi14 (w := Cond.methodLink RL 126 yX9_told) 17 rfl) (bi12 (w := Cond.instanceMethod yX9_told) 45 rfl) (bi12 (w := Cond.selects RX9 yX9_told yX9_told) 46 rfl) (bi1 (w := Cond.initialized RX9) 58 rfl) (bi11 (w := Cond.code yX9_told cX9_told 3 (some .int)) 46 rfl)) rfl (by decide +kernel) ⟨Nat.le_of_ble_eq_true rfl, Nat.le_of_ble_eq_true rfl⟩ hK hP hD hS hA hE [0] [] rfl rfl (by show List.Perm _ (List.range 1); decide) 0 0 rfl rfl rfl rfl hl rfl (Nat.le_of_ble_eq_true rfl) ⟨by show _ ≤ 0; omega, by show _ ≤ 0; omega⟩ dL_isFair_50 (fun B1 v1 hp1 H locs hP hD hS => ?_)
          obtain ⟨rfl, rfl⟩ := hp1
          show W p l e _ s m args below meth c H locs _ _ _ (F0 m 53 ls [.int (qr_yzs M.2.2.1 i), .int (nI (qr_ct (qr_yzs M.2.2.1) 2 i))])
          have hP : va_P G.1 vwCl (lxF [mlW G q M]) H := hP
          have hD : va_D A (lxF [mlW G q M]) := hD
          refine lv_iconst (v := 2) hx hb dL_isFair_53 (by decide) ?_
          refine lv_icmp_ne (tgt := 61) hx hb dL_isFair_54 (by decide) (fun c27 => ?_) (fun c27 => ?_)
          · refine lv_iconst (v := 0) hx hb dL_isFair_61 (by decide) ?_
            refine lv_iadd hx hb dL_isFair_62 ?_
            rw [show ((nI (qr_ct (qr_yzs M.2.2.1) 2 i)) + 0 : Int32) = nI (qr_ct (qr_yzs M.2.2.1) 2 (i + 1)) from (by rw [li_ct0 c27]; exact Int32.add_zero _)]
            refine lv_istore_n (lv' := [(3, .int (nI (qr_ct (qr_yzs M.2.2.1) 2 (i + 1)))), (2, .int (nI (qr_ct (qr_yzs M.2.2.1) 1 (i + 1)))), (0, .ref (q 0)), (1, .int 1), (4, .int (nI (min 60 sn))), (5, .int (nI i))]) hx hb dL_isFair_63 rfl hl (by decide) rfl (fun ls hl => ?_)
            refine lv_iinc (v := nI (i + 1)) (lv' := [(5, .int (nI (i + 1))), (3, .int (nI (qr_ct (qr_yzs M.2.2.1) 2 (i + 1)))), (2, .int (nI (qr_ct (qr_yzs M.2.2.1) 1 (i + 1)))), (0, .ref (q 0)), (1, .int 1), (4, .int (nI (min 60 sn)))]) hx hb dL_isFair_64 hl (k := 5) rfl (nI_1 i) (by decide) rfl (fun ls hl => ?_)
            refine lv_goto (tgt := 19) hx hb dL_isFair_67 (by decide) ?_
            exact ih1 (i + 1) (by omega) (by omega) _ _ (by omega) (by omega) _ _ hP hD hS ls (lv_sub hl [3, 4, 2, 1, 5, 0] rfl)
          · refine lv_iconst (v := 1) hx hb dL_isFair_57 (by decide) ?_
            refine lv_goto (tgt := 62) hx hb dL_isFair_58 (by decide) ?_
            refine lv_iadd hx hb dL_isFair_62 ?_
            rw [show ((nI (qr_ct (qr_yzs M.2.2.1) 2 i)) + 1 : Int32) = nI (qr_ct (qr_yzs M.2.2.1) 2 (i + 1)) from (by rw [li_ct1 c27]; exact nI_1 _)]
            refine lv_istore_n (lv' := [(3, .int (nI (qr_ct (qr_yzs M.2.2.1) 2 (i + 1)))), (2, .int (nI (qr_ct (qr_yzs M.2.2.1) 1 (i + 1)))), (0, .ref (q 0)), (1, .int 1), (4, .int (nI (min 60 sn))), (5, .int (nI i))]) hx hb dL_isFair_63 rfl hl (by decide) rfl (fun ls hl => ?_)
            refine lv_iinc (v := nI (i + 1)) (lv' := [(5, .int (nI (i + 1))), (3, .int (nI (qr_ct (qr_yzs M.2.2.1) 2 (i + 1)))), (2, .int (nI (qr_ct (qr_yzs M.2.2.1) 1 (i + 1)))), (0, .ref (q 0)), (1, .int 1), (4, .int (nI (min 60 sn)))]) hx hb dL_isFair_64 hl (k := 5) rfl (nI_1 i) (by decide) rfl (fun ls hl => ?_)
            refine lv_goto (tgt := 19) hx hb dL_isFair_67 (by decide) ?_
            exact ih1 (i + 1) (by omega) (by omega) _ _ (by omega) (by omega) _ _ hP hD hS ls (lv_sub hl [3, 4, 2, 1, 5, 0] rfl)
        · refine lv_iconst (v := 1) hx hb dL_isFair_38 (by decide) ?_
          refine lv_goto (tgt := 43) hx hb dL_isFair_39 (by decide) ?_
          refine lv_iadd hx hb dL_isFair_43 ?_
          rw [show ((nI (qr_ct (qr_yzs M.2.2.1) 1 i)) + 1 : Int32) = nI (qr_ct (qr_yzs M.2.2.1) 1 (i + 1)) from (by rw [li_ct1 c26]; exact nI_1 _)]
          refine lv_istore_n (lv' := [(2, .int (nI (qr_ct (qr_yzs M.2.2.1) 1 (i + 1)))), (0, .ref (q 0)), (1, .int 1), (3, .int (nI (qr_ct (qr_yzs M.2.2.1) 2 i))), (4, .int (nI (min 60 sn))), (5, .int (nI i))]) hx hb dL_isFair_44 rfl hl (by decide) rfl (fun ls hl => ?_)
          refine lv_iload_n hx hb dL_isFair_45 rfl (lv_at hl 3 rfl) ?_
          refine lv_aload_n hx hb dL_isFair_46 rfl (lv_at hl 1 rfl) ?_
          refine lv_iload hx hb dL_isFair_47 (lv_at hl 5 rfl) ?_
          refine lv_iconst (v := 0) hx hb dL_isFair_49 (by decide) ?_
          refine ly_v (As := [.int (nI i), .int 0]) (rest := [.int (nI (qr_ct (qr_yzs M.2.2.1) 2 i))]) hx hb hml hown hts (m_told0 (l := l) (G := G) (k := k) (q := q) (M := M) (j := i) es (by omega) (by omega) (by omega)) 2 (sxGV (bi14 (w := Cond.methodLink RL 126 yX9_told) 17 rfl) (bi12 (w := Cond.instanceMethod yX9_told) 45 rfl) (bi12 (w := Cond.selects RX9 yX9_told yX9_told) 46 rfl) (bi1 (w := Cond.initialized RX9) 58 rfl) (bi11 (w := Cond.code yX9_told cX9_told 3 (some .int)) 46 rfl)) rfl (by decide +kernel) ⟨Nat.le_of_ble_eq_true rfl, Nat.le_of_ble_eq_true rfl⟩ hK hP hD hS hA hE [0] [] rfl rfl (by show List.Perm _ (List.range 1); decide) 0 0 rfl rfl rfl rfl hl rfl (Nat.le_of_ble_eq_true rfl) ⟨by show _ ≤ 0; omega, by show _ ≤ 0; omega⟩ dL_isFair_50 (fun B1 v1 hp1 H locs hP hD hS => ?_)
          obtain ⟨rfl, rfl⟩ := hp1
          show W p l e _ s m args below meth c H locs _ _ _ (F0 m 53 ls [.int (qr_yzs M.2.2.1 i), .int (nI (qr_ct (qr_yzs M.2.2.1) 2 i))])
          have hP : va_P G.1 vwCl (lxF [mlW G q M]) H := hP
          have hD : va_D A (lxF [mlW G q M]) := hD
          refine lv_iconst (v := 2) hx hb dL_isFair_53 (by decide) ?_
          refine lv_icmp_ne (tgt := 61) hx hb dL_isFair_54 (by decide) (fun c28 => ?_) (fun c28 => ?_)
          · refine lv_iconst (v := 0) hx hb dL_isFair_61 (by decide) ?_
            refine lv_iadd hx hb dL_isFair_62 ?_
            rw [show ((nI (qr_ct (qr_yzs M.2.2.1) 2 i)) + 0 : Int32) = nI (qr_ct (qr_yzs M.2.2.1) 2 (i + 1)) from (by rw [li_ct0 c28]; exact Int32.add_zero _)]
            refine lv_istore_n (lv' := [(3, .int (nI (qr_ct (qr_yzs M.2.2.1) 2 (i + 1)))), (2, .int (nI (qr_ct (qr_yzs M.2.2.1) 1 (i + 1)))), (0, .ref (q 0)), (1, .int 1), (4, .int (nI (min 60 sn))), (5, .int (nI i))]) hx hb dL_isFair_63 rfl hl (by decide) rfl (fun ls hl => ?_)
            refine lv_iinc (v := nI (i + 1)) (lv' := [(5, .int (nI (i + 1))), (3, .int (nI (qr_ct (qr_yzs M.2.2.1) 2 (i + 1)))), (2, .int (nI (qr_ct (qr_yzs M.2.2.1) 1 (i + 1)))), (0, .ref (q 0)), (1, .int 1), (4, .int (nI (min 60 sn)))]) hx hb dL_isFair_64 hl (k := 5) rfl (nI_1 i) (by decide) rfl (fun ls hl => ?_)
            refine lv_goto (tgt := 19) hx hb dL_isFair_67 (by decide) ?_
            exact ih1 (i + 1) (by omega) (by omega) _ _ (by omega) (by omega) _ _ hP hD hS ls (lv_sub hl [3, 4, 2, 1, 5, 0] rfl)
          · refine lv_iconst (v := 1) hx hb dL_isFair_57 (by decide) ?_
            refine lv_goto (tgt := 62) hx hb dL_isFair_58 (by decide) ?_
            refine lv_iadd hx hb dL_isFair_62 ?_
            rw [show ((nI (qr_ct (qr_yzs M.2.2.1) 2 i)) + 1 : Int32) = nI (qr_ct (qr_yzs M.2.2.1) 2 (i + 1)) from (by rw [li_ct1 c28]; exact nI_1 _)]
            refine lv_istore_n (lv' := [(3, .int (nI (qr_ct (qr_yzs M.2.2.1) 2 (i + 1)))), (2, .int (nI (qr_ct (qr_yzs M.2.2.1) 1 (i + 1)))), (0, .ref (q 0)), (1, .int 1), (4, .int (nI (min 60 sn))), (5, .int (nI i))]) hx hb dL_isFair_63 rfl hl (by decide) rfl (fun ls hl => ?_)
            refine lv_iinc (v := nI (i + 1)) (lv' := [(5, .int (nI (i + 1))), (3, .int (nI (qr_ct (qr_yzs M.2.2.1) 2 (i + 1)))), (2, .int (nI (qr_ct (qr_yzs M.2.2.1) 1 (i + 1)))), (0, .ref (q 0)), (1, .int 1), (4, .int (nI (min 60 sn)))]) hx hb dL_isFair_64 hl (k := 5) rfl (nI_1 i) (by decide) rfl (fun ls hl => ?_)
            refine lv_goto (tgt := 19) hx hb dL_isFair_67 (by decide) ?_
            exact ih1 (i + 1) (by omega) (by omega) _ _ (by omega) (by omega) _ _ hP hD hS ls (lv_sub hl [3, 4, 2, 1, 5, 0] rfl)
  exact LP19_1 61 0 (by omega) (Nat.zero_le _) _ _ (by omega) (by omega) _ _ hP hD hS ls (lv_sub hl [4, 5, 3, 2, 1, 0] rfl)

set_option maxHeartbeats 4000000 in
set_option maxRecDepth 100000 in
theorem t_L_isFair2 (l : Launch) (G : sxG) (k : lxC) (q : Nat → Nat) (M : mlS) (sn mn dn gn t4 : Nat) (hrn : ¬ M.2.2.2.1 = 0) (es : qr_ysc M.2.2.1 = nI sn) (em : qr_ybxm M.2.2.1 = nI mn) (ed : qr_ybxd M.2.2.1 = nI dn) (eg : qr_yng M.2.2.1 = nI gn) (ls1 : sn < 2 ^ 20) (ls2 : mn < 2 ^ 20) (ls3 : dn < 2 ^ 20) (lg : gn ≤ qr_ynm M.2.2.1) (lnm : qr_ynm M.2.2.1 ≤ 500) (lst : qr_ystp M.2.2.1 ≤ 500) (hct : sn ≤ 60 → qr_ct (qr_yzs M.2.2.1) 1 sn = dn ∧ qr_ct (qr_yzs M.2.2.1) 2 sn = gn) (ht4 : t4 ≤ 40) (hp4 : qr_ypnl M.2.2.1 = nI t4) : lyM l yL_isFair wdL_isFair 5 106 0 0 G k [mlW G q M] [.ref (q 0), .int 2] (fun B v => B = [mlW G q M] ∧ v = some (.int 1)) := by
  refine lyM.of (cc := cL_isFair) (maxL := 6) (rt := (some .boolean)) (by decide) rfl (Nat.le_of_ble_eq_true rfl) ?_
  intro p e s m args below meth c ⟨hx, hb, hr, hml, hown, hlk, hts, hK⟩ hnm A hA hP hD hS hE ls hl
  have hl : lv_has ls 6 [(0, .ref (q 0)), (1, .int 2)] := hl
  refine lv_iconst (v := 0) hx hb dL_isFair_0 (by decide) ?_
  refine lv_istore_n (lv' := [(2, .int 0), (0, .ref (q 0)), (1, .int 2)]) hx hb dL_isFair_1 rfl hl (by decide) rfl (fun ls hl => ?_)
  refine lv_iconst (v := 0) hx hb dL_isFair_2 (by decide) ?_
  refine lv_istore_n (lv' := [(3, .int 0), (2, .int 0), (0, .ref (q 0)), (1, .int 2)]) hx hb dL_isFair_3 rfl hl (by decide) rfl (fun ls hl => ?_)
  refine lv_bipush (v := 60) hx hb dL_isFair_4 (by decide) ?_
  refine lv_aload_n hx hb dL_isFair_6 rfl (lv_at hl 2 rfl) ?_
  refine lv_iconst (v := 2) hx hb dL_isFair_7 (by decide) ?_
  refine ly_v (As := [.int 2]) (rest := [.int 60]) hx hb hml hown hts (m_ofRun (l := l) (G := G) (k := k) (q := q) (M := M) (p1 := 2) (v1 := nI sn) (sx_x_ofRun _ (w := 2) (by omega)) ((qo_2 _ _ _ _ _ _ _ _ _).trans es)) 1 (sxGV (bi14 (w := Cond.methodLink RL 95 yX9_ofRun) 16 rfl) (bi12 (w := Cond.instanceMethod yX9_ofRun) 41 rfl) (bi12 (w := Cond.selects RX9 yX9_ofRun yX9_ofRun) 42 rfl) (bi1 (w := Cond.initialized RX9) 58 rfl) (bi11 (w := Cond.code yX9_ofRun cX9_ofRun 2 (some .int)) 29 rfl)) rfl (by decide +kernel) ⟨Nat.le_of_ble_eq_true rfl, Nat.le_of_ble_eq_true rfl⟩ hK hP hD hS hA hE [0] [] rfl rfl (by show List.Perm _ (List.range 1); decide) 0 0 rfl rfl rfl rfl hl rfl (Nat.le_of_ble_eq_true rfl) ⟨by show _ ≤ 0; omega, by show _ ≤ 0; omega⟩ dL_isFair_8 (fun B1 v1 hp1 H locs hP hD hS => ?_)
  obtain ⟨rfl, rfl⟩ := hp1
  show W p l e _ s m args below meth c H locs _ _ _ (F0 m 11 ls [.int (nI sn), .int 60])
  have hP : va_P G.1 vwCl (lxF [mlW G q M]) H := hP
  have hD : va_D A (lxF [mlW G q M]) := hD
  refine sx_mmin hx hb (hml.trans hl.1.symm) hown (bw14 (w := Cond.methodLink RL 121 Lib.Math.min.name) hts 15 rfl) (bw9 (w := Cond.static Lib.Math.min.name) hts 31 rfl) (bw5 (w := Cond.initialized "java/lang/Math") hts 20 rfl) (bw9 (w := Cond.code Lib.Math.min.name Lib.Math.min.code 2 (some .int)) hts 32 rfl) (Nat.le_of_ble_eq_true rfl) (Nat.le_of_ble_eq_true rfl) (by show _ ≤ 0; omega) (by show _ ≤ 0; omega) (x := 60) (y := nI sn) dL_isFair_11 ?_
  rw [show s_mmin 60 (nI sn) = nI (min 60 sn) from li_min (by omega)]
  refine lv_istore (lv' := [(4, .int (nI (min 60 sn))), (3, .int 0), (2, .int 0), (0, .ref (q 0)), (1, .int 2)]) hx hb dL_isFair_14 hl (by decide) rfl (fun ls hl => ?_)
  refine lv_iconst (v := 0) hx hb dL_isFair_16 (by decide) ?_
  refine lv_istore (lv' := [(5, .int 0), (4, .int (nI (min 60 sn))), (3, .int 0), (2, .int 0), (0, .ref (q 0)), (1, .int 2)]) hx hb dL_isFair_17 hl (by decide) rfl (fun ls hl => ?_)
  have LP19_1 : ∀ (kk1 : Nat) (i : Nat), min 60 sn - i < kk1 → (i ≤ min 60 sn) → ∀ cells slots : Nat, cells ≤ 0 → slots ≤ 0 → ∀ (H : Heap) (locs : List Loc), va_P G.1 vwCl (lxF [mlW G q M]) H → va_D A (lxF [mlW G q M]) → va_S A s.heap H locs → ∀ ls : Array Slot, lv_has ls 6 [(0, .ref (q 0)), (1, .int 2), (2, .int (nI (qr_ct (qr_yzs M.2.2.1) 1 i))), (3, .int (nI (qr_ct (qr_yzs M.2.2.1) 2 i))), (4, .int (nI (min 60 sn))), (5, .int (nI i))] → W p l e ({ frames := 5, cells := 0, slots := 0, locals := 106 } : Room) s m args below meth c H locs cells slots (lyZ 0 0 G args s below A (fun B v => B = [mlW G q M] ∧ v = some (.int 1))) (F0 m 19 ls []) := by
    intro kk1
    induction kk1 with
    | zero =>
      intro i hm
      exact absurd hm (Nat.not_lt_zero _)
    | succ kk1 ih1 =>
      intro i hm1 hi cells slots hcc1 hss1 H locs hP hD hS ls hl
      refine lv_iload hx hb dL_isFair_19 (lv_at hl 5 rfl) ?_
      refine lv_iload hx hb dL_isFair_21 (lv_at hl 4 rfl) ?_
      refine lv_icmp_ge (tgt := 70) hx hb dL_isFair_23 (by decide) (fun c2 => ?_) (fun c2 => ?_)
      · have nc2 := (nI_leI (a := (min 60 sn)) (b := i) (by omega) (by omega)).mp c2
        refine lv_aload_n hx hb dL_isFair_70 rfl (lv_at hl 0 rfl) ?_
        refine lv_iconst (v := 2) hx hb dL_isFair_71 (by decide) ?_
        refine ly_v (As := [.int 2]) (rest := []) hx hb hml hown hts (m_ofRun (l := l) (G := G) (k := k) (q := q) (M := M) (p1 := 2) (v1 := nI sn) (sx_x_ofRun _ (w := 2) (by omega)) ((qo_2 _ _ _ _ _ _ _ _ _).trans es)) 1 (sxGV (bi14 (w := Cond.methodLink RL 95 yX9_ofRun) 16 rfl) (bi12 (w := Cond.instanceMethod yX9_ofRun) 41 rfl) (bi12 (w := Cond.selects RX9 yX9_ofRun yX9_ofRun) 42 rfl) (bi1 (w := Cond.initialized RX9) 58 rfl) (bi11 (w := Cond.code yX9_ofRun cX9_ofRun 2 (some .int)) 29 rfl)) rfl (by decide +kernel) ⟨Nat.le_of_ble_eq_true rfl, Nat.le_of_ble_eq_true rfl⟩ hK hP hD hS hA hE [0] [] rfl rfl (by show List.Perm _ (List.range 1); decide) 0 0 rfl rfl rfl rfl hl rfl (Nat.le_of_ble_eq_true rfl) ⟨by show _ ≤ 0; omega, by show _ ≤ 0; omega⟩ dL_isFair_72 (fun B1 v1 hp1 H locs hP hD hS => ?_)
        obtain ⟨rfl, rfl⟩ := hp1
        show W p l e _ s m args below meth c H locs _ _ _ (F0 m 75 ls [.int (nI sn)])
        have hP : va_P G.1 vwCl (lxF [mlW G q M]) H := hP
        have hD : va_D A (lxF [mlW G q M]) := hD
        refine lv_bipush (v := 60) hx hb dL_isFair_75 (by decide) ?_
        refine lv_icmp_gt (tgt := 101) hx hb dL_isFair_77 (by decide) (fun c3 => ?_) (fun c3 => ?_)
        · have nc3 := (nI_ltI (a := 60) (b := sn) (by omega) (by omega)).mp c3
          refine lv_iload_n hx hb dL_isFair_101 rfl (lv_at hl 1 rfl) ?_
          refine lv_iconst (v := 2) hx hb dL_isFair_102 (by decide) ?_
          refine lv_icmp_ge (tgt := 119) hx hb dL_isFair_103 (by decide) (fun c4 => ?_) (fun c4 => absurd c4 (by decide))
          refine lv_aload_n hx hb dL_isFair_119 rfl (lv_at hl 0 rfl) ?_
          refine lv_bipush (v := 6) hx hb dL_isFair_120 (by decide) ?_
          refine ly_v (As := [.int 6]) (rest := []) hx hb hml hown hts (m_ofRun (l := l) (G := G) (k := k) (q := q) (M := M) (p1 := 6) (v1 := nI gn) (sx_x_ofRun _ (w := 6) (by omega)) ((qo_6 _ _ _ _ _ _ _ _ _).trans eg)) 1 (sxGV (bi14 (w := Cond.methodLink RL 95 yX9_ofRun) 16 rfl) (bi12 (w := Cond.instanceMethod yX9_ofRun) 41 rfl) (bi12 (w := Cond.selects RX9 yX9_ofRun yX9_ofRun) 42 rfl) (bi1 (w := Cond.initialized RX9) 58 rfl) (bi11 (w := Cond.code yX9_ofRun cX9_ofRun 2 (some .int)) 29 rfl)) rfl (by decide +kernel) ⟨Nat.le_of_ble_eq_true rfl, Nat.le_of_ble_eq_true rfl⟩ hK hP hD hS hA hE [0] [] rfl rfl (by show List.Perm _ (List.range 1); decide) 0 0 rfl rfl rfl rfl hl rfl (Nat.le_of_ble_eq_true rfl) ⟨by show _ ≤ 0; omega, by show _ ≤ 0; omega⟩ dL_isFair_122 (fun B1 v1 hp1 H locs hP hD hS => ?_)
          obtain ⟨rfl, rfl⟩ := hp1
          show W p l e _ s m args below meth c H locs _ _ _ (F0 m 125 ls [.int (nI gn)])
          have hP : va_P G.1 vwCl (lxF [mlW G q M]) H := hP
          have hD : va_D A (lxF [mlW G q M]) := hD
          refine lv_aload_n hx hb dL_isFair_125 rfl (lv_at hl 0 rfl) ?_
          refine lv_iconst (v := 4) hx hb dL_isFair_126 (by decide) ?_
          refine ly_v (As := [.int 4]) (rest := [.int (nI gn)]) hx hb hml hown hts (m_ofRun (l := l) (G := G) (k := k) (q := q) (M := M) (p1 := 4) (v1 := nI (qr_ynm M.2.2.1)) (sx_x_ofRun _ (w := 4) (by omega)) (qo_4 _ _ _ _ _ _ _ _ _)) 1 (sxGV (bi14 (w := Cond.methodLink RL 95 yX9_ofRun) 16 rfl) (bi12 (w := Cond.instanceMethod yX9_ofRun) 41 rfl) (bi12 (w := Cond.selects RX9 yX9_ofRun yX9_ofRun) 42 rfl) (bi1 (w := Cond.initialized RX9) 58 rfl) (bi11 (w := Cond.code yX9_ofRun cX9_ofRun 2 (some .int)) 29 rfl)) rfl (by decide +kernel) ⟨Nat.le_of_ble_eq_true rfl, Nat.le_of_ble_eq_true rfl⟩ hK hP hD hS hA hE [0] [] rfl rfl (by show List.Perm _ (List.range 1); decide) 0 0 rfl rfl rfl rfl hl rfl (Nat.le_of_ble_eq_true rfl) ⟨by show _ ≤ 0; omega, by show _ ≤ 0; omega⟩ dL_isFair_127 (fun B1 v1 hp1 H locs hP hD hS => ?_)
          obtain ⟨rfl, rfl⟩ := hp1
          show W p l e _ s m args below meth c H locs _ _ _ (F0 m 130 ls [.int (nI (qr_ynm M.2.2.1)), .int (nI gn)])
          have hP : va_P G.1 vwCl (lxF [mlW G q M]) H := hP
          have hD : va_D A (lxF [mlW G q M]) := hD
          refine lv_icmp_gt (tgt := 166) hx hb dL_isFair_130 (by decide) (fun c5 => False.elim (by have nc5 := (nI_ltI (a := (qr_ynm M.2.2.1)) (b := gn) (by omega) (by omega)).mp c5; omega)) (fun c5 => ?_)
          have nc5 := (not_congr (nI_ltI (a := (qr_ynm M.2.2.1)) (b := gn) (by omega) (by omega))).mp c5
          refine lv_aload_n hx hb dL_isFair_133 rfl (lv_at hl 0 rfl) ?_
          refine lv_bipush (v := 7) hx hb dL_isFair_134 (by decide) ?_
          refine ly_v (As := [.int 7]) (rest := []) hx hb hml hown hts (m_ofRun (l := l) (G := G) (k := k) (q := q) (M := M) (p1 := 7) (v1 := nI mn + nI (qr_ynm M.2.2.1) - nI dn - nI gn) (sx_x_ofRun _ (w := 7) (by omega)) (by rw [qo_7, em, ed, eg])) 1 (sxGV (bi14 (w := Cond.methodLink RL 95 yX9_ofRun) 16 rfl) (bi12 (w := Cond.instanceMethod yX9_ofRun) 41 rfl) (bi12 (w := Cond.selects RX9 yX9_ofRun yX9_ofRun) 42 rfl) (bi1 (w := Cond.initialized RX9) 58 rfl) (bi11 (w := Cond.code yX9_ofRun cX9_ofRun 2 (some .int)) 29 rfl)) rfl (by decide +kernel) ⟨Nat.le_of_ble_eq_true rfl, Nat.le_of_ble_eq_true rfl⟩ hK hP hD hS hA hE [0] [] rfl rfl (by show List.Perm _ (List.range 1); decide) 0 0 rfl rfl rfl rfl hl rfl (Nat.le_of_ble_eq_true rfl) ⟨by show _ ≤ 0; omega, by show _ ≤ 0; omega⟩ dL_isFair_136 (fun B1 v1 hp1 H locs hP hD hS => ?_)
          obtain ⟨rfl, rfl⟩ := hp1
          show W p l e _ s m args below meth c H locs _ _ _ (F0 m 139 ls [.int (nI mn + nI (qr_ynm M.2.2.1) - nI dn - nI gn)])
          have hP : va_P G.1 vwCl (lxF [mlW G q M]) H := hP
          have hD : va_D A (lxF [mlW G q M]) := hD
          refine lv_aload_n hx hb dL_isFair_139 rfl (lv_at hl 0 rfl) ?_
          refine lv_iconst (v := 3) hx hb dL_isFair_140 (by decide) ?_
          refine ly_v (As := [.int 3]) (rest := [.int (nI mn + nI (qr_ynm M.2.2.1) - nI dn - nI gn)]) hx hb hml hown hts (m_ofRun (l := l) (G := G) (k := k) (q := q) (M := M) (p1 := 3) (v1 := nI mn) (sx_x_ofRun _ (w := 3) (by omega)) ((qo_3 _ _ _ _ _ _ _ _ _).trans em)) 1 (sxGV (bi14 (w := Cond.methodLink RL 95 yX9_ofRun) 16 rfl) (bi12 (w := Cond.instanceMethod yX9_ofRun) 41 rfl) (bi12 (w := Cond.selects RX9 yX9_ofRun yX9_ofRun) 42 rfl) (bi1 (w := Cond.initialized RX9) 58 rfl) (bi11 (w := Cond.code yX9_ofRun cX9_ofRun 2 (some .int)) 29 rfl)) rfl (by decide +kernel) ⟨Nat.le_of_ble_eq_true rfl, Nat.le_of_ble_eq_true rfl⟩ hK hP hD hS hA hE [0] [] rfl rfl (by show List.Perm _ (List.range 1); decide) 0 0 rfl rfl rfl rfl hl rfl (Nat.le_of_ble_eq_true rfl) ⟨by show _ ≤ 0; omega, by show _ ≤ 0; omega⟩ dL_isFair_141 (fun B1 v1 hp1 H locs hP hD hS => ?_)
          obtain ⟨rfl, rfl⟩ := hp1
          show W p l e _ s m args below meth c H locs _ _ _ (F0 m 144 ls [.int (nI mn), .int (nI mn + nI (qr_ynm M.2.2.1) - nI dn - nI gn)])
          have hP : va_P G.1 vwCl (lxF [mlW G q M]) H := hP
          have hD : va_D A (lxF [mlW G q M]) := hD
          refine lv_aload_n hx hb dL_isFair_144 rfl (lv_at hl 0 rfl) ?_
          refine lv_iconst (v := 5) hx hb dL_isFair_145 (by decide) ?_
          refine ly_v (As := [.int 5]) (rest := [.int (nI mn), .int (nI mn + nI (qr_ynm M.2.2.1) - nI dn - nI gn)]) hx hb hml hown hts (m_ofRun (l := l) (G := G) (k := k) (q := q) (M := M) (p1 := 5) (v1 := nI dn) (sx_x_ofRun _ (w := 5) (by omega)) ((qo_5 _ _ _ _ _ _ _ _ _).trans ed)) 1 (sxGV (bi14 (w := Cond.methodLink RL 95 yX9_ofRun) 16 rfl) (bi12 (w := Cond.instanceMethod yX9_ofRun) 41 rfl) (bi12 (w := Cond.selects RX9 yX9_ofRun yX9_ofRun) 42 rfl) (bi1 (w := Cond.initialized RX9) 58 rfl) (bi11 (w := Cond.code yX9_ofRun cX9_ofRun 2 (some .int)) 29 rfl)) rfl (by decide +kernel) ⟨Nat.le_of_ble_eq_true rfl, Nat.le_of_ble_eq_true rfl⟩ hK hP hD hS hA hE [0] [] rfl rfl (by show List.Perm _ (List.range 1); decide) 0 0 rfl rfl rfl rfl hl rfl (Nat.le_of_ble_eq_true rfl) ⟨by show _ ≤ 0; omega, by show _ ≤ 0; omega⟩ dL_isFair_146 (fun B1 v1 hp1 H locs hP hD hS => ?_)
          obtain ⟨rfl, rfl⟩ := hp1
          show W p l e _ s m args below meth c H locs _ _ _ (F0 m 149 ls [.int (nI dn), .int (nI mn), .int (nI mn + nI (qr_ynm M.2.2.1) - nI dn - nI gn)])
          have hP : va_P G.1 vwCl (lxF [mlW G q M]) H := hP
          have hD : va_D A (lxF [mlW G q M]) := hD
          refine lv_isub hx hb dL_isFair_149 ?_
          refine lv_aload_n hx hb dL_isFair_150 rfl (lv_at hl 0 rfl) ?_
          refine lv_iconst (v := 4) hx hb dL_isFair_151 (by decide) ?_
          refine ly_v (As := [.int 4]) (rest := [.int ((nI mn) - (nI dn)), .int (nI mn + nI (qr_ynm M.2.2.1) - nI dn - nI gn)]) hx hb hml hown hts (m_ofRun (l := l) (G := G) (k := k) (q := q) (M := M) (p1 := 4) (v1 := nI (qr_ynm M.2.2.1)) (sx_x_ofRun _ (w := 4) (by omega)) (qo_4 _ _ _ _ _ _ _ _ _)) 1 (sxGV (bi14 (w := Cond.methodLink RL 95 yX9_ofRun) 16 rfl) (bi12 (w := Cond.instanceMethod yX9_ofRun) 41 rfl) (bi12 (w := Cond.selects RX9 yX9_ofRun yX9_ofRun) 42 rfl) (bi1 (w := Cond.initialized RX9) 58 rfl) (bi11 (w := Cond.code yX9_ofRun cX9_ofRun 2 (some .int)) 29 rfl)) rfl (by decide +kernel) ⟨Nat.le_of_ble_eq_true rfl, Nat.le_of_ble_eq_true rfl⟩ hK hP hD hS hA hE [0] [] rfl rfl (by show List.Perm _ (List.range 1); decide) 0 0 rfl rfl rfl rfl hl rfl (Nat.le_of_ble_eq_true rfl) ⟨by show _ ≤ 0; omega, by show _ ≤ 0; omega⟩ dL_isFair_152 (fun B1 v1 hp1 H locs hP hD hS => ?_)
          obtain ⟨rfl, rfl⟩ := hp1
          show W p l e _ s m args below meth c H locs _ _ _ (F0 m 155 ls [.int (nI (qr_ynm M.2.2.1)), .int ((nI mn) - (nI dn)), .int (nI mn + nI (qr_ynm M.2.2.1) - nI dn - nI gn)])
          have hP : va_P G.1 vwCl (lxF [mlW G q M]) H := hP
          have hD : va_D A (lxF [mlW G q M]) := hD
          refine lv_iadd hx hb dL_isFair_155 ?_
          refine lv_aload_n hx hb dL_isFair_156 rfl (lv_at hl 0 rfl) ?_
          refine lv_bipush (v := 6) hx hb dL_isFair_157 (by decide) ?_
          refine ly_v (As := [.int 6]) (rest := [.int (((nI mn) - (nI dn)) + (nI (qr_ynm M.2.2.1))), .int (nI mn + nI (qr_ynm M.2.2.1) - nI dn - nI gn)]) hx hb hml hown hts (m_ofRun (l := l) (G := G) (k := k) (q := q) (M := M) (p1 := 6) (v1 := nI gn) (sx_x_ofRun _ (w := 6) (by omega)) ((qo_6 _ _ _ _ _ _ _ _ _).trans eg)) 1 (sxGV (bi14 (w := Cond.methodLink RL 95 yX9_ofRun) 16 rfl) (bi12 (w := Cond.instanceMethod yX9_ofRun) 41 rfl) (bi12 (w := Cond.selects RX9 yX9_ofRun yX9_ofRun) 42 rfl) (bi1 (w := Cond.initialized RX9) 58 rfl) (bi11 (w := Cond.code yX9_ofRun cX9_ofRun 2 (some .int)) 29 rfl)) rfl (by decide +kernel) ⟨Nat.le_of_ble_eq_true rfl, Nat.le_of_ble_eq_true rfl⟩ hK hP hD hS hA hE [0] [] rfl rfl (by show List.Perm _ (List.range 1); decide) 0 0 rfl rfl rfl rfl hl rfl (Nat.le_of_ble_eq_true rfl) ⟨by show _ ≤ 0; omega, by show _ ≤ 0; omega⟩ dL_isFair_159 (fun B1 v1 hp1 H locs hP hD hS => ?_)
          obtain ⟨rfl, rfl⟩ := hp1
          show W p l e _ s m args below meth c H locs _ _ _ (F0 m 162 ls [.int (nI gn), .int (((nI mn) - (nI dn)) + (nI (qr_ynm M.2.2.1))), .int (nI mn + nI (qr_ynm M.2.2.1) - nI dn - nI gn)])
          have hP : va_P G.1 vwCl (lxF [mlW G q M]) H := hP
          have hD : va_D A (lxF [mlW G q M]) := hD
          refine lv_isub hx hb dL_isFair_162 ?_
          refine lv_icmp_eq (tgt := 168) hx hb dL_isFair_163 (by decide) (fun c6 => ?_) (fun c6 => False.elim (by exact c6 (li_swap _ _ _ _)))
          refine lv_aload_n hx hb dL_isFair_168 rfl (lv_at hl 0 rfl) ?_
          refine lv_bipush (v := 8) hx hb dL_isFair_169 (by decide) ?_
          refine ly_v (As := [.int 8]) (rest := []) hx hb hml hown hts (m_ofRun (l := l) (G := G) (k := k) (q := q) (M := M) (p1 := 8) (v1 := nI t4) (sx_x_ofRun _ (w := 8) (by omega)) ((qo_8 _ _ _ _ _ _ _ _ _ hrn).trans hp4)) 1 (sxGV (bi14 (w := Cond.methodLink RL 95 yX9_ofRun) 16 rfl) (bi12 (w := Cond.instanceMethod yX9_ofRun) 41 rfl) (bi12 (w := Cond.selects RX9 yX9_ofRun yX9_ofRun) 42 rfl) (bi1 (w := Cond.initialized RX9) 58 rfl) (bi11 (w := Cond.code yX9_ofRun cX9_ofRun 2 (some .int)) 29 rfl)) rfl (by decide +kernel) ⟨Nat.le_of_ble_eq_true rfl, Nat.le_of_ble_eq_true rfl⟩ hK hP hD hS hA hE [0] [] rfl rfl (by show List.Perm _ (List.range 1); decide) 0 0 rfl rfl rfl rfl hl rfl (Nat.le_of_ble_eq_true rfl) ⟨by show _ ≤ 0; omega, by show _ ≤ 0; omega⟩ dL_isFair_171 (fun B1 v1 hp1 H locs hP hD hS => ?_)
          obtain ⟨rfl, rfl⟩ := hp1
          show W p l e _ s m args below meth c H locs _ _ _ (F0 m 174 ls [.int (nI t4)])
          have hP : va_P G.1 vwCl (lxF [mlW G q M]) H := hP
          have hD : va_D A (lxF [mlW G q M]) := hD
          refine lv_if_ge (tgt := 181) hx hb dL_isFair_174 (by decide) (fun c7 => ?_) (fun c7 => False.elim (by have nc7 := (not_congr (nI_leI (a := 0) (b := t4) (by omega) (by omega))).mp c7; exact c7 (nI_pos' (by omega))))
          have nc7 := (nI_leI (a := 0) (b := t4) (by omega) (by omega)).mp c7
          refine lv_iconst (v := 0) hx hb dL_isFair_181 (by decide) ?_
          refine lv_iload_n hx hb dL_isFair_182 rfl (lv_at hl 1 rfl) ?_
          refine lv_if_eq (tgt := 191) hx hb dL_isFair_183 (by decide) (fun c8 => absurd c8 (by decide)) (fun c8 => ?_)
          refine lv_iload_n hx hb dL_isFair_186 rfl (lv_at hl 1 rfl) ?_
          refine lv_iconst (v := 3) hx hb dL_isFair_187 (by decide) ?_
          refine lv_icmp_ne (tgt := 195) hx hb dL_isFair_188 (by decide) (fun c9 => ?_) (fun c9 => absurd c9 (by decide))
          refine lv_iconst (v := 0) hx hb dL_isFair_195 (by decide) ?_
          refine lv_icmp_ne (tgt := 230) hx hb dL_isFair_196 (by decide) (fun c10 => absurd c10 (by decide)) (fun c10 => ?_)
          refine lv_aload_n hx hb dL_isFair_199 rfl (lv_at hl 0 rfl) ?_
          refine lv_iconst (v := 1) hx hb dL_isFair_200 (by decide) ?_
          refine ly_v (As := [.int 1]) (rest := []) hx hb hml hown hts (m_ofRun (l := l) (G := G) (k := k) (q := q) (M := M) (p1 := 1) (v1 := nI (qr_ystp M.2.2.1)) (sx_x_ofRun _ (w := 1) (by omega)) (qo_1 _ _ _ _ _ _ _ _ _)) 1 (sxGV (bi14 (w := Cond.methodLink RL 95 yX9_ofRun) 16 rfl) (bi12 (w := Cond.instanceMethod yX9_ofRun) 41 rfl) (bi12 (w := Cond.selects RX9 yX9_ofRun yX9_ofRun) 42 rfl) (bi1 (w := Cond.initialized RX9) 58 rfl) (bi11 (w := Cond.code yX9_ofRun cX9_ofRun 2 (some .int)) 29 rfl)) rfl (by decide +kernel) ⟨Nat.le_of_ble_eq_true rfl, Nat.le_of_ble_eq_true rfl⟩ hK hP hD hS hA hE [0] [] rfl rfl (by show List.Perm _ (List.range 1); decide) 0 0 rfl rfl rfl rfl hl rfl (Nat.le_of_ble_eq_true rfl) ⟨by show _ ≤ 0; omega, by show _ ≤ 0; omega⟩ dL_isFair_201 (fun B1 v1 hp1 H locs hP hD hS => ?_)
          obtain ⟨rfl, rfl⟩ := hp1
          show W p l e _ s m args below meth c H locs _ _ _ (F0 m 204 ls [.int (nI (qr_ystp M.2.2.1))])
          have hP : va_P G.1 vwCl (lxF [mlW G q M]) H := hP
          have hD : va_D A (lxF [mlW G q M]) := hD
          refine lv_sipush (v := 500) hx hb dL_isFair_204 (by decide) ?_
          refine lv_icmp_gt (tgt := 230) hx hb dL_isFair_207 (by decide) (fun c11 => False.elim (by have nc11 := (nI_ltI (a := 500) (b := (qr_ystp M.2.2.1)) (by omega) (by omega)).mp c11; omega)) (fun c11 => ?_)
          have nc11 := (not_congr (nI_ltI (a := 500) (b := (qr_ystp M.2.2.1)) (by omega) (by omega))).mp c11
          refine lv_iload_n hx hb dL_isFair_210 rfl (lv_at hl 1 rfl) ?_
          refine lv_iconst (v := 3) hx hb dL_isFair_211 (by decide) ?_
          refine lv_icmp_lt (tgt := 226) hx hb dL_isFair_212 (by decide) (fun c12 => ?_) (fun c12 => absurd c12 (by decide))
          refine lv_iconst (v := 1) hx hb dL_isFair_226 (by decide) ?_
          refine lv_goto (tgt := 231) hx hb dL_isFair_227 (by decide) ?_
          exact ly_ri hx hb hr hlk hP hD hS rfl (⟨rfl, rfl⟩) (by omega) (by omega) dL_isFair_231
        · have nc3 := (not_congr (nI_ltI (a := 60) (b := sn) (by omega) (by omega))).mp c3
          obtain ⟨hc1, hc2⟩ := hct (by omega)
          have ei : i = sn := by omega
          rw [← ei] at hc1 hc2
          refine lv_iload_n hx hb dL_isFair_80 rfl (lv_at hl 2 rfl) ?_
          refine lv_aload_n hx hb dL_isFair_81 rfl (lv_at hl 0 rfl) ?_
          refine lv_iconst (v := 5) hx hb dL_isFair_82 (by decide) ?_
          refine ly_v (As := [.int 5]) (rest := [.int (nI (qr_ct (qr_yzs M.2.2.1) 1 i))]) hx hb hml hown hts (m_ofRun (l := l) (G := G) (k := k) (q := q) (M := M) (p1 := 5) (v1 := nI dn) (sx_x_ofRun _ (w := 5) (by omega)) ((qo_5 _ _ _ _ _ _ _ _ _).trans ed)) 1 (sxGV (bi14 (w := Cond.methodLink RL 95 yX9_ofRun) 16 rfl) (bi12 (w := Cond.instanceMethod yX9_ofRun) 41 rfl) (bi12 (w := Cond.selects RX9 yX9_ofRun yX9_ofRun) 42 rfl) (bi1 (w := Cond.initialized RX9) 58 rfl) (bi11 (w := Cond.code yX9_ofRun cX9_ofRun 2 (some .int)) 29 rfl)) rfl (by decide +kernel) ⟨Nat.le_of_ble_eq_true rfl, Nat.le_of_ble_eq_true rfl⟩ hK hP hD hS hA hE [0] [] rfl rfl (by show List.Perm _ (List.range 1); decide) 0 0 rfl rfl rfl rfl hl rfl (Nat.le_of_ble_eq_true rfl) ⟨by show _ ≤ 0; omega, by show _ ≤ 0; omega⟩ dL_isFair_83 (fun B1 v1 hp1 H locs hP hD hS => ?_)
          obtain ⟨rfl, rfl⟩ := hp1
          show W p l e _ s m args below meth c H locs _ _ _ (F0 m 86 ls [.int (nI dn), .int (nI (qr_ct (qr_yzs M.2.2.1) 1 i))])
          have hP : va_P G.1 vwCl (lxF [mlW G q M]) H := hP
          have hD : va_D A (lxF [mlW G q M]) := hD
          refine lv_icmp_ne (tgt := 99) hx hb dL_isFair_86 (by decide) (fun c13 => False.elim (by have nc13 := (not_congr (nI_eq (a := (qr_ct (qr_yzs M.2.2.1) 1 i)) (b := dn) (by omega) (by omega))).mp c13; omega)) (fun c13 => ?_)
          have nc13 := (nI_eq (a := (qr_ct (qr_yzs M.2.2.1) 1 i)) (b := dn) (by omega) (by omega)).mp c13
          refine lv_iload_n hx hb dL_isFair_89 rfl (lv_at hl 3 rfl) ?_
          refine lv_aload_n hx hb dL_isFair_90 rfl (lv_at hl 0 rfl) ?_
          refine lv_bipush (v := 6) hx hb dL_isFair_91 (by decide) ?_
          refine ly_v (As := [.int 6]) (rest := [.int (nI (qr_ct (qr_yzs M.2.2.1) 2 i))]) hx hb hml hown hts (m_ofRun (l := l) (G := G) (k := k) (q := q) (M := M) (p1 := 6) (v1 := nI gn) (sx_x_ofRun _ (w := 6) (by omega)) ((qo_6 _ _ _ _ _ _ _ _ _).trans eg)) 1 (sxGV (bi14 (w := Cond.methodLink RL 95 yX9_ofRun) 16 rfl) (bi12 (w := Cond.instanceMethod yX9_ofRun) 41 rfl) (bi12 (w := Cond.selects RX9 yX9_ofRun yX9_ofRun) 42 rfl) (bi1 (w := Cond.initialized RX9) 58 rfl) (bi11 (w := Cond.code yX9_ofRun cX9_ofRun 2 (some .int)) 29 rfl)) rfl (by decide +kernel) ⟨Nat.le_of_ble_eq_true rfl, Nat.le_of_ble_eq_true rfl⟩ hK hP hD hS hA hE [0] [] rfl rfl (by show List.Perm _ (List.range 1); decide) 0 0 rfl rfl rfl rfl hl rfl (Nat.le_of_ble_eq_true rfl) ⟨by show _ ≤ 0; omega, by show _ ≤ 0; omega⟩ dL_isFair_93 (fun B1 v1 hp1 H locs hP hD hS => ?_)
          obtain ⟨rfl, rfl⟩ := hp1
          show W p l e _ s m args below meth c H locs _ _ _ (F0 m 96 ls [.int (nI gn), .int (nI (qr_ct (qr_yzs M.2.2.1) 2 i))])
          have hP : va_P G.1 vwCl (lxF [mlW G q M]) H := hP
          have hD : va_D A (lxF [mlW G q M]) := hD
          refine lv_icmp_eq (tgt := 101) hx hb dL_isFair_96 (by decide) (fun c14 => ?_) (fun c14 => False.elim (by have nc14 := (not_congr (nI_eq (a := (qr_ct (qr_yzs M.2.2.1) 2 i)) (b := gn) (by omega) (by omega))).mp c14; omega))
          have nc14 := (nI_eq (a := (qr_ct (qr_yzs M.2.2.1) 2 i)) (b := gn) (by omega) (by omega)).mp c14
          refine lv_iload_n hx hb dL_isFair_101 rfl (lv_at hl 1 rfl) ?_
          refine lv_iconst (v := 2) hx hb dL_isFair_102 (by decide) ?_
          refine lv_icmp_ge (tgt := 119) hx hb dL_isFair_103 (by decide) (fun c15 => ?_) (fun c15 => absurd c15 (by decide))
          refine lv_aload_n hx hb dL_isFair_119 rfl (lv_at hl 0 rfl) ?_
          refine lv_bipush (v := 6) hx hb dL_isFair_120 (by decide) ?_
          refine ly_v (As := [.int 6]) (rest := []) hx hb hml hown hts (m_ofRun (l := l) (G := G) (k := k) (q := q) (M := M) (p1 := 6) (v1 := nI gn) (sx_x_ofRun _ (w := 6) (by omega)) ((qo_6 _ _ _ _ _ _ _ _ _).trans eg)) 1 (sxGV (bi14 (w := Cond.methodLink RL 95 yX9_ofRun) 16 rfl) (bi12 (w := Cond.instanceMethod yX9_ofRun) 41 rfl) (bi12 (w := Cond.selects RX9 yX9_ofRun yX9_ofRun) 42 rfl) (bi1 (w := Cond.initialized RX9) 58 rfl) (bi11 (w := Cond.code yX9_ofRun cX9_ofRun 2 (some .int)) 29 rfl)) rfl (by decide +kernel) ⟨Nat.le_of_ble_eq_true rfl, Nat.le_of_ble_eq_true rfl⟩ hK hP hD hS hA hE [0] [] rfl rfl (by show List.Perm _ (List.range 1); decide) 0 0 rfl rfl rfl rfl hl rfl (Nat.le_of_ble_eq_true rfl) ⟨by show _ ≤ 0; omega, by show _ ≤ 0; omega⟩ dL_isFair_122 (fun B1 v1 hp1 H locs hP hD hS => ?_)
          obtain ⟨rfl, rfl⟩ := hp1
          show W p l e _ s m args below meth c H locs _ _ _ (F0 m 125 ls [.int (nI gn)])
          have hP : va_P G.1 vwCl (lxF [mlW G q M]) H := hP
          have hD : va_D A (lxF [mlW G q M]) := hD
          refine lv_aload_n hx hb dL_isFair_125 rfl (lv_at hl 0 rfl) ?_
          refine lv_iconst (v := 4) hx hb dL_isFair_126 (by decide) ?_
          refine ly_v (As := [.int 4]) (rest := [.int (nI gn)]) hx hb hml hown hts (m_ofRun (l := l) (G := G) (k := k) (q := q) (M := M) (p1 := 4) (v1 := nI (qr_ynm M.2.2.1)) (sx_x_ofRun _ (w := 4) (by omega)) (qo_4 _ _ _ _ _ _ _ _ _)) 1 (sxGV (bi14 (w := Cond.methodLink RL 95 yX9_ofRun) 16 rfl) (bi12 (w := Cond.instanceMethod yX9_ofRun) 41 rfl) (bi12 (w := Cond.selects RX9 yX9_ofRun yX9_ofRun) 42 rfl) (bi1 (w := Cond.initialized RX9) 58 rfl) (bi11 (w := Cond.code yX9_ofRun cX9_ofRun 2 (some .int)) 29 rfl)) rfl (by decide +kernel) ⟨Nat.le_of_ble_eq_true rfl, Nat.le_of_ble_eq_true rfl⟩ hK hP hD hS hA hE [0] [] rfl rfl (by show List.Perm _ (List.range 1); decide) 0 0 rfl rfl rfl rfl hl rfl (Nat.le_of_ble_eq_true rfl) ⟨by show _ ≤ 0; omega, by show _ ≤ 0; omega⟩ dL_isFair_127 (fun B1 v1 hp1 H locs hP hD hS => ?_)
          obtain ⟨rfl, rfl⟩ := hp1
          show W p l e _ s m args below meth c H locs _ _ _ (F0 m 130 ls [.int (nI (qr_ynm M.2.2.1)), .int (nI gn)])
          have hP : va_P G.1 vwCl (lxF [mlW G q M]) H := hP
          have hD : va_D A (lxF [mlW G q M]) := hD
          refine lv_icmp_gt (tgt := 166) hx hb dL_isFair_130 (by decide) (fun c16 => False.elim (by have nc16 := (nI_ltI (a := (qr_ynm M.2.2.1)) (b := gn) (by omega) (by omega)).mp c16; omega)) (fun c16 => ?_)
          have nc16 := (not_congr (nI_ltI (a := (qr_ynm M.2.2.1)) (b := gn) (by omega) (by omega))).mp c16
          refine lv_aload_n hx hb dL_isFair_133 rfl (lv_at hl 0 rfl) ?_
          refine lv_bipush (v := 7) hx hb dL_isFair_134 (by decide) ?_
          refine ly_v (As := [.int 7]) (rest := []) hx hb hml hown hts (m_ofRun (l := l) (G := G) (k := k) (q := q) (M := M) (p1 := 7) (v1 := nI mn + nI (qr_ynm M.2.2.1) - nI dn - nI gn) (sx_x_ofRun _ (w := 7) (by omega)) (by rw [qo_7, em, ed, eg])) 1 (sxGV (bi14 (w := Cond.methodLink RL 95 yX9_ofRun) 16 rfl) (bi12 (w := Cond.instanceMethod yX9_ofRun) 41 rfl) (bi12 (w := Cond.selects RX9 yX9_ofRun yX9_ofRun) 42 rfl) (bi1 (w := Cond.initialized RX9) 58 rfl) (bi11 (w := Cond.code yX9_ofRun cX9_ofRun 2 (some .int)) 29 rfl)) rfl (by decide +kernel) ⟨Nat.le_of_ble_eq_true rfl, Nat.le_of_ble_eq_true rfl⟩ hK hP hD hS hA hE [0] [] rfl rfl (by show List.Perm _ (List.range 1); decide) 0 0 rfl rfl rfl rfl hl rfl (Nat.le_of_ble_eq_true rfl) ⟨by show _ ≤ 0; omega, by show _ ≤ 0; omega⟩ dL_isFair_136 (fun B1 v1 hp1 H locs hP hD hS => ?_)
          obtain ⟨rfl, rfl⟩ := hp1
          show W p l e _ s m args below meth c H locs _ _ _ (F0 m 139 ls [.int (nI mn + nI (qr_ynm M.2.2.1) - nI dn - nI gn)])
          have hP : va_P G.1 vwCl (lxF [mlW G q M]) H := hP
          have hD : va_D A (lxF [mlW G q M]) := hD
          refine lv_aload_n hx hb dL_isFair_139 rfl (lv_at hl 0 rfl) ?_
          refine lv_iconst (v := 3) hx hb dL_isFair_140 (by decide) ?_
          refine ly_v (As := [.int 3]) (rest := [.int (nI mn + nI (qr_ynm M.2.2.1) - nI dn - nI gn)]) hx hb hml hown hts (m_ofRun (l := l) (G := G) (k := k) (q := q) (M := M) (p1 := 3) (v1 := nI mn) (sx_x_ofRun _ (w := 3) (by omega)) ((qo_3 _ _ _ _ _ _ _ _ _).trans em)) 1 (sxGV (bi14 (w := Cond.methodLink RL 95 yX9_ofRun) 16 rfl) (bi12 (w := Cond.instanceMethod yX9_ofRun) 41 rfl) (bi12 (w := Cond.selects RX9 yX9_ofRun yX9_ofRun) 42 rfl) (bi1 (w := Cond.initialized RX9) 58 rfl) (bi11 (w := Cond.code yX9_ofRun cX9_ofRun 2 (some .int)) 29 rfl)) rfl (by decide +kernel) ⟨Nat.le_of_ble_eq_true rfl, Nat.le_of_ble_eq_true rfl⟩ hK hP hD hS hA hE [0] [] rfl rfl (by show List.Perm _ (List.range 1); decide) 0 0 rfl rfl rfl rfl hl rfl (Nat.le_of_ble_eq_true rfl) ⟨by show _ ≤ 0; omega, by show _ ≤ 0; omega⟩ dL_isFair_141 (fun B1 v1 hp1 H locs hP hD hS => ?_)
          obtain ⟨rfl, rfl⟩ := hp1
          show W p l e _ s m args below meth c H locs _ _ _ (F0 m 144 ls [.int (nI mn), .int (nI mn + nI (qr_ynm M.2.2.1) - nI dn - nI gn)])
          have hP : va_P G.1 vwCl (lxF [mlW G q M]) H := hP
          have hD : va_D A (lxF [mlW G q M]) := hD
          refine lv_aload_n hx hb dL_isFair_144 rfl (lv_at hl 0 rfl) ?_
          refine lv_iconst (v := 5) hx hb dL_isFair_145 (by decide) ?_
          refine ly_v (As := [.int 5]) (rest := [.int (nI mn), .int (nI mn + nI (qr_ynm M.2.2.1) - nI dn - nI gn)]) hx hb hml hown hts (m_ofRun (l := l) (G := G) (k := k) (q := q) (M := M) (p1 := 5) (v1 := nI dn) (sx_x_ofRun _ (w := 5) (by omega)) ((qo_5 _ _ _ _ _ _ _ _ _).trans ed)) 1 (sxGV (bi14 (w := Cond.methodLink RL 95 yX9_ofRun) 16 rfl) (bi12 (w := Cond.instanceMethod yX9_ofRun) 41 rfl) (bi12 (w := Cond.selects RX9 yX9_ofRun yX9_ofRun) 42 rfl) (bi1 (w := Cond.initialized RX9) 58 rfl) (bi11 (w := Cond.code yX9_ofRun cX9_ofRun 2 (some .int)) 29 rfl)) rfl (by decide +kernel) ⟨Nat.le_of_ble_eq_true rfl, Nat.le_of_ble_eq_true rfl⟩ hK hP hD hS hA hE [0] [] rfl rfl (by show List.Perm _ (List.range 1); decide) 0 0 rfl rfl rfl rfl hl rfl (Nat.le_of_ble_eq_true rfl) ⟨by show _ ≤ 0; omega, by show _ ≤ 0; omega⟩ dL_isFair_146 (fun B1 v1 hp1 H locs hP hD hS => ?_)
          obtain ⟨rfl, rfl⟩ := hp1
          show W p l e _ s m args below meth c H locs _ _ _ (F0 m 149 ls [.int (nI dn), .int (nI mn), .int (nI mn + nI (qr_ynm M.2.2.1) - nI dn - nI gn)])
          have hP : va_P G.1 vwCl (lxF [mlW G q M]) H := hP
          have hD : va_D A (lxF [mlW G q M]) := hD
          refine lv_isub hx hb dL_isFair_149 ?_
          refine lv_aload_n hx hb dL_isFair_150 rfl (lv_at hl 0 rfl) ?_
          refine lv_iconst (v := 4) hx hb dL_isFair_151 (by decide) ?_
          refine ly_v (As := [.int 4]) (rest := [.int ((nI mn) - (nI dn)), .int (nI mn + nI (qr_ynm M.2.2.1) - nI dn - nI gn)]) hx hb hml hown hts (m_ofRun (l := l) (G := G) (k := k) (q := q) (M := M) (p1 := 4) (v1 := nI (qr_ynm M.2.2.1)) (sx_x_ofRun _ (w := 4) (by omega)) (qo_4 _ _ _ _ _ _ _ _ _)) 1 (sxGV (bi14 (w := Cond.methodLink RL 95 yX9_ofRun) 16 rfl) (bi12 (w := Cond.instanceMethod yX9_ofRun) 41 rfl) (bi12 (w := Cond.selects RX9 yX9_ofRun yX9_ofRun) 42 rfl) (bi1 (w := Cond.initialized RX9) 58 rfl) (bi11 (w := Cond.code yX9_ofRun cX9_ofRun 2 (some .int)) 29 rfl)) rfl (by decide +kernel) ⟨Nat.le_of_ble_eq_true rfl, Nat.le_of_ble_eq_true rfl⟩ hK hP hD hS hA hE [0] [] rfl rfl (by show List.Perm _ (List.range 1); decide) 0 0 rfl rfl rfl rfl hl rfl (Nat.le_of_ble_eq_true rfl) ⟨by show _ ≤ 0; omega, by show _ ≤ 0; omega⟩ dL_isFair_152 (fun B1 v1 hp1 H locs hP hD hS => ?_)
          obtain ⟨rfl, rfl⟩ := hp1
          show W p l e _ s m args below meth c H locs _ _ _ (F0 m 155 ls [.int (nI (qr_ynm M.2.2.1)), .int ((nI mn) - (nI dn)), .int (nI mn + nI (qr_ynm M.2.2.1) - nI dn - nI gn)])
          have hP : va_P G.1 vwCl (lxF [mlW G q M]) H := hP
          have hD : va_D A (lxF [mlW G q M]) := hD
          refine lv_iadd hx hb dL_isFair_155 ?_
          refine lv_aload_n hx hb dL_isFair_156 rfl (lv_at hl 0 rfl) ?_
          refine lv_bipush (v := 6) hx hb dL_isFair_157 (by decide) ?_
          refine ly_v (As := [.int 6]) (rest := [.int (((nI mn) - (nI dn)) + (nI (qr_ynm M.2.2.1))), .int (nI mn + nI (qr_ynm M.2.2.1) - nI dn - nI gn)]) hx hb hml hown hts (m_ofRun (l := l) (G := G) (k := k) (q := q) (M := M) (p1 := 6) (v1 := nI gn) (sx_x_ofRun _ (w := 6) (by omega)) ((qo_6 _ _ _ _ _ _ _ _ _).trans eg)) 1 (sxGV (bi14 (w := Cond.methodLink RL 95 yX9_ofRun) 16 rfl) (bi12 (w := Cond.instanceMethod yX9_ofRun) 41 rfl) (bi12 (w := Cond.selects RX9 yX9_ofRun yX9_ofRun) 42 rfl) (bi1 (w := Cond.initialized RX9) 58 rfl) (bi11 (w := Cond.code yX9_ofRun cX9_ofRun 2 (some .int)) 29 rfl)) rfl (by decide +kernel) ⟨Nat.le_of_ble_eq_true rfl, Nat.le_of_ble_eq_true rfl⟩ hK hP hD hS hA hE [0] [] rfl rfl (by show List.Perm _ (List.range 1); decide) 0 0 rfl rfl rfl rfl hl rfl (Nat.le_of_ble_eq_true rfl) ⟨by show _ ≤ 0; omega, by show _ ≤ 0; omega⟩ dL_isFair_159 (fun B1 v1 hp1 H locs hP hD hS => ?_)
          obtain ⟨rfl, rfl⟩ := hp1
          show W p l e _ s m args below meth c H locs _ _ _ (F0 m 162 ls [.int (nI gn), .int (((nI mn) - (nI dn)) + (nI (qr_ynm M.2.2.1))), .int (nI mn + nI (qr_ynm M.2.2.1) - nI dn - nI gn)])
          have hP : va_P G.1 vwCl (lxF [mlW G q M]) H := hP
          have hD : va_D A (lxF [mlW G q M]) := hD
          refine lv_isub hx hb dL_isFair_162 ?_
          refine lv_icmp_eq (tgt := 168) hx hb dL_isFair_163 (by decide) (fun c17 => ?_) (fun c17 => False.elim (by exact c17 (li_swap _ _ _ _)))
          refine lv_aload_n hx hb dL_isFair_168 rfl (lv_at hl 0 rfl) ?_
          refine lv_bipush (v := 8) hx hb dL_isFair_169 (by decide) ?_
          refine ly_v (As := [.int 8]) (rest := []) hx hb hml hown hts (m_ofRun (l := l) (G := G) (k := k) (q := q) (M := M) (p1 := 8) (v1 := nI t4) (sx_x_ofRun _ (w := 8) (by omega)) ((qo_8 _ _ _ _ _ _ _ _ _ hrn).trans hp4)) 1 (sxGV (bi14 (w := Cond.methodLink RL 95 yX9_ofRun) 16 rfl) (bi12 (w := Cond.instanceMethod yX9_ofRun) 41 rfl) (bi12 (w := Cond.selects RX9 yX9_ofRun yX9_ofRun) 42 rfl) (bi1 (w := Cond.initialized RX9) 58 rfl) (bi11 (w := Cond.code yX9_ofRun cX9_ofRun 2 (some .int)) 29 rfl)) rfl (by decide +kernel) ⟨Nat.le_of_ble_eq_true rfl, Nat.le_of_ble_eq_true rfl⟩ hK hP hD hS hA hE [0] [] rfl rfl (by show List.Perm _ (List.range 1); decide) 0 0 rfl rfl rfl rfl hl rfl (Nat.le_of_ble_eq_true rfl) ⟨by show _ ≤ 0; omega, by show _ ≤ 0; omega⟩ dL_isFair_171 (fun B1 v1 hp1 H locs hP hD hS => ?_)
          obtain ⟨rfl, rfl⟩ := hp1
          show W p l e _ s m args below meth c H locs _ _ _ (F0 m 174 ls [.int (nI t4)])
          have hP : va_P G.1 vwCl (lxF [mlW G q M]) H := hP
          have hD : va_D A (lxF [mlW G q M]) := hD
          refine lv_if_ge (tgt := 181) hx hb dL_isFair_174 (by decide) (fun c18 => ?_) (fun c18 => False.elim (by have nc18 := (not_congr (nI_leI (a := 0) (b := t4) (by omega) (by omega))).mp c18; exact c18 (nI_pos' (by omega))))
          have nc18 := (nI_leI (a := 0) (b := t4) (by omega) (by omega)).mp c18
          refine lv_iconst (v := 0) hx hb dL_isFair_181 (by decide) ?_
          refine lv_iload_n hx hb dL_isFair_182 rfl (lv_at hl 1 rfl) ?_
          refine lv_if_eq (tgt := 191) hx hb dL_isFair_183 (by decide) (fun c19 => absurd c19 (by decide)) (fun c19 => ?_)
          refine lv_iload_n hx hb dL_isFair_186 rfl (lv_at hl 1 rfl) ?_
          refine lv_iconst (v := 3) hx hb dL_isFair_187 (by decide) ?_
          refine lv_icmp_ne (tgt := 195) hx hb dL_isFair_188 (by decide) (fun c20 => ?_) (fun c20 => absurd c20 (by decide))
          refine lv_iconst (v := 0) hx hb dL_isFair_195 (by decide) ?_
          refine lv_icmp_ne (tgt := 230) hx hb dL_isFair_196 (by decide) (fun c21 => absurd c21 (by decide)) (fun c21 => ?_)
          refine lv_aload_n hx hb dL_isFair_199 rfl (lv_at hl 0 rfl) ?_
          refine lv_iconst (v := 1) hx hb dL_isFair_200 (by decide) ?_
          refine ly_v (As := [.int 1]) (rest := []) hx hb hml hown hts (m_ofRun (l := l) (G := G) (k := k) (q := q) (M := M) (p1 := 1) (v1 := nI (qr_ystp M.2.2.1)) (sx_x_ofRun _ (w := 1) (by omega)) (qo_1 _ _ _ _ _ _ _ _ _)) 1 (sxGV (bi14 (w := Cond.methodLink RL 95 yX9_ofRun) 16 rfl) (bi12 (w := Cond.instanceMethod yX9_ofRun) 41 rfl) (bi12 (w := Cond.selects RX9 yX9_ofRun yX9_ofRun) 42 rfl) (bi1 (w := Cond.initialized RX9) 58 rfl) (bi11 (w := Cond.code yX9_ofRun cX9_ofRun 2 (some .int)) 29 rfl)) rfl (by decide +kernel) ⟨Nat.le_of_ble_eq_true rfl, Nat.le_of_ble_eq_true rfl⟩ hK hP hD hS hA hE [0] [] rfl rfl (by show List.Perm _ (List.range 1); decide) 0 0 rfl rfl rfl rfl hl rfl (Nat.le_of_ble_eq_true rfl) ⟨by show _ ≤ 0; omega, by show _ ≤ 0; omega⟩ dL_isFair_201 (fun B1 v1 hp1 H locs hP hD hS => ?_)
          obtain ⟨rfl, rfl⟩ := hp1
          show W p l e _ s m args below meth c H locs _ _ _ (F0 m 204 ls [.int (nI (qr_ystp M.2.2.1))])
          have hP : va_P G.1 vwCl (lxF [mlW G q M]) H := hP
          have hD : va_D A (lxF [mlW G q M]) := hD
          refine lv_sipush (v := 500) hx hb dL_isFair_204 (by decide) ?_
          refine lv_icmp_gt (tgt := 230) hx hb dL_isFair_207 (by decide) (fun c22 => False.elim (by have nc22 := (nI_ltI (a := 500) (b := (qr_ystp M.2.2.1)) (by omega) (by omega)).mp c22; omega)) (fun c22 => ?_)
          have nc22 := (not_congr (nI_ltI (a := 500) (b := (qr_ystp M.2.2.1)) (by omega) (by omega))).mp c22
          refine lv_iload_n hx hb dL_isFair_210 rfl (lv_at hl 1 rfl) ?_
          refine lv_iconst (v := 3) hx hb dL_isFair_211 (by decide) ?_
          refine lv_icmp_lt (tgt := 226) hx hb dL_isFair_212 (by decide) (fun c23 => ?_) (fun c23 => absurd c23 (by decide))
          refine lv_iconst (v := 1) hx hb dL_isFair_226 (by decide) ?_
          refine lv_goto (tgt := 231) hx hb dL_isFair_227 (by decide) ?_
          exact ly_ri hx hb hr hlk hP hD hS rfl (⟨rfl, rfl⟩) (by omega) (by omega) dL_isFair_231
      · have nc2 := (not_congr (nI_leI (a := (min 60 sn)) (b := i) (by omega) (by omega))).mp c2
        refine lv_iload_n hx hb dL_isFair_26 rfl (lv_at hl 2 rfl) ?_
        refine lv_aload_n hx hb dL_isFair_27 rfl (lv_at hl 0 rfl) ?_
        refine lv_iload hx hb dL_isFair_28 (lv_at hl 5 rfl) ?_
        refine lv_iconst (v := 0) hx hb dL_isFair_30 (by decide) ?_
        refine ly_v (As := [.int (nI i), .int 0]) (rest := [.int (nI (qr_ct (qr_yzs M.2.2.1) 1 i))]) hx hb hml hown hts (m_told0 (l := l) (G := G) (k := k) (q := q) (M := M) (j := i) es (by omega) (by omega) (by omega)) 2 (sxGV (bi14 (w := Cond.methodLink RL 126 yX9_told) 17 rfl) (bi12 (w := Cond.instanceMethod yX9_told) 45 rfl) (bi12 (w := Cond.selects RX9 yX9_told yX9_told) 46 rfl) (bi1 (w := Cond.initialized RX9) 58 rfl) (bi11 (w := Cond.code yX9_told cX9_told 3 (some .int)) 46 rfl)) rfl (by decide +kernel) ⟨Nat.le_of_ble_eq_true rfl, Nat.le_of_ble_eq_true rfl⟩ hK hP hD hS hA hE [0] [] rfl rfl (by show List.Perm _ (List.range 1); decide) 0 0 rfl rfl rfl rfl hl rfl (Nat.le_of_ble_eq_true rfl) ⟨by show _ ≤ 0; omega, by show _ ≤ 0; omega⟩ dL_isFair_31 (fun B1 v1 hp1 H locs hP hD hS => ?_)
        obtain ⟨rfl, rfl⟩ := hp1
        show W p l e _ s m args below meth c H locs _ _ _ (F0 m 34 ls [.int (qr_yzs M.2.2.1 i), .int (nI (qr_ct (qr_yzs M.2.2.1) 1 i))])
        have hP : va_P G.1 vwCl (lxF [mlW G q M]) H := hP
        have hD : va_D A (lxF [mlW G q M]) := hD
        refine lv_iconst (v := 1) hx hb dL_isFair_34 (by decide) ?_
        refine lv_icmp_ne (tgt := 42) hx hb dL_isFair_35 (by decide) (fun c24 => ?_) (fun c24 => ?_)
        · refine lv_iconst (v := 0) hx hb dL_isFair_42 (by decide) ?_
          refine lv_iadd hx hb dL_isFair_43 ?_
          rw [show ((nI (qr_ct (qr_yzs M.2.2.1) 1 i)) + 0 : Int32) = nI (qr_ct (qr_yzs M.2.2.1) 1 (i + 1)) from (by rw [li_ct0 c24]; exact Int32.add_zero _)]
          refine lv_istore_n (lv' := [(2, .int (nI (qr_ct (qr_yzs M.2.2.1) 1 (i + 1)))), (0, .ref (q 0)), (1, .int 2), (3, .int (nI (qr_ct (qr_yzs M.2.2.1) 2 i))), (4, .int (nI (min 60 sn))), (5, .int (nI i))]) hx hb dL_isFair_44 rfl hl (by decide) rfl (fun ls hl => ?_)
          refine lv_iload_n hx hb dL_isFair_45 rfl (lv_at hl 3 rfl) ?_
          refine lv_aload_n hx hb dL_isFair_46 rfl (lv_at hl 1 rfl) ?_
          refine lv_iload hx hb dL_isFair_47 (lv_at hl 5 rfl) ?_
          refine lv_iconst (v := 0) hx hb dL_isFair_49 (by decide) ?_
          refine ly_v (As := [.int (nI i), .int 0]) (rest := [.int (nI (qr_ct (qr_yzs M.2.2.1) 2 i))]) hx hb hml hown hts (m_told0 (l := l) (G := G) (k := k) (q := q) (M := M) (j := i) es (by omega) (by omega) (by omega)) 2 (sxGV (bi14 (w := Cond.methodLink RL 126 yX9_told) 17 rfl) (bi12 (w := Cond.instanceMethod yX9_told) 45 rfl) (bi12 (w := Cond.selects RX9 yX9_told yX9_told) 46 rfl) (bi1 (w := Cond.initialized RX9) 58 rfl) (bi11 (w := Cond.code yX9_told cX9_told 3 (some .int)) 46 rfl)) rfl (by decide +kernel) ⟨Nat.le_of_ble_eq_true rfl, Nat.le_of_ble_eq_true rfl⟩ hK hP hD hS hA hE [0] [] rfl rfl (by show List.Perm _ (List.range 1); decide) 0 0 rfl rfl rfl rfl hl rfl (Nat.le_of_ble_eq_true rfl) ⟨by show _ ≤ 0; omega, by show _ ≤ 0; omega⟩ dL_isFair_50 (fun B1 v1 hp1 H locs hP hD hS => ?_)
          obtain ⟨rfl, rfl⟩ := hp1
          show W p l e _ s m args below meth c H locs _ _ _ (F0 m 53 ls [.int (qr_yzs M.2.2.1 i), .int (nI (qr_ct (qr_yzs M.2.2.1) 2 i))])
          have hP : va_P G.1 vwCl (lxF [mlW G q M]) H := hP
          have hD : va_D A (lxF [mlW G q M]) := hD
          refine lv_iconst (v := 2) hx hb dL_isFair_53 (by decide) ?_
          refine lv_icmp_ne (tgt := 61) hx hb dL_isFair_54 (by decide) (fun c25 => ?_) (fun c25 => ?_)
          · refine lv_iconst (v := 0) hx hb dL_isFair_61 (by decide) ?_
            refine lv_iadd hx hb dL_isFair_62 ?_
            rw [show ((nI (qr_ct (qr_yzs M.2.2.1) 2 i)) + 0 : Int32) = nI (qr_ct (qr_yzs M.2.2.1) 2 (i + 1)) from (by rw [li_ct0 c25]; exact Int32.add_zero _)]
            refine lv_istore_n (lv' := [(3, .int (nI (qr_ct (qr_yzs M.2.2.1) 2 (i + 1)))), (2, .int (nI (qr_ct (qr_yzs M.2.2.1) 1 (i + 1)))), (0, .ref (q 0)), (1, .int 2), (4, .int (nI (min 60 sn))), (5, .int (nI i))]) hx hb dL_isFair_63 rfl hl (by decide) rfl (fun ls hl => ?_)
            refine lv_iinc (v := nI (i + 1)) (lv' := [(5, .int (nI (i + 1))), (3, .int (nI (qr_ct (qr_yzs M.2.2.1) 2 (i + 1)))), (2, .int (nI (qr_ct (qr_yzs M.2.2.1) 1 (i + 1)))), (0, .ref (q 0)), (1, .int 2), (4, .int (nI (min 60 sn)))]) hx hb dL_isFair_64 hl (k := 5) rfl (nI_1 i) (by decide) rfl (fun ls hl => ?_)
            refine lv_goto (tgt := 19) hx hb dL_isFair_67 (by decide) ?_
            exact ih1 (i + 1) (by omega) (by omega) _ _ (by omega) (by omega) _ _ hP hD hS ls (lv_sub hl [3, 4, 2, 1, 5, 0] rfl)
          · refine lv_iconst (v := 1) hx hb dL_isFair_57 (by decide) ?_
            refine lv_goto (tgt := 62) hx hb dL_isFair_58 (by decide) ?_
            refine lv_iadd hx hb dL_isFair_62 ?_
            rw [show ((nI (qr_ct (qr_yzs M.2.2.1) 2 i)) + 1 : Int32) = nI (qr_ct (qr_yzs M.2.2.1) 2 (i + 1)) from (by rw [li_ct1 c25]; exact nI_1 _)]
            refine lv_istore_n (lv' := [(3, .int (nI (qr_ct (qr_yzs M.2.2.1) 2 (i + 1)))), (2, .int (nI (qr_ct (qr_yzs M.2.2.1) 1 (i + 1)))), (0, .ref (q 0)), (1, .int 2), (4, .int (nI (min 60 sn))), (5, .int (nI i))]) hx hb dL_isFair_63 rfl hl (by decide) rfl (fun ls hl => ?_)
            refine lv_iinc (v := nI (i + 1)) (lv' := [(5, .int (nI (i + 1))), (3, .int (nI (qr_ct (qr_yzs M.2.2.1) 2 (i + 1)))), (2, .int (nI (qr_ct (qr_yzs M.2.2.1) 1 (i + 1)))), (0, .ref (q 0)), (1, .int 2), (4, .int (nI (min 60 sn)))]) hx hb dL_isFair_64 hl (k := 5) rfl (nI_1 i) (by decide) rfl (fun ls hl => ?_)
            refine lv_goto (tgt := 19) hx hb dL_isFair_67 (by decide) ?_
            exact ih1 (i + 1) (by omega) (by omega) _ _ (by omega) (by omega) _ _ hP hD hS ls (lv_sub hl [3, 4, 2, 1, 5, 0] rfl)
        · refine lv_iconst (v := 1) hx hb dL_isFair_38 (by decide) ?_
          refine lv_goto (tgt := 43) hx hb dL_isFair_39 (by decide) ?_
          refine lv_iadd hx hb dL_isFair_43 ?_
          rw [show ((nI (qr_ct (qr_yzs M.2.2.1) 1 i)) + 1 : Int32) = nI (qr_ct (qr_yzs M.2.2.1) 1 (i + 1)) from (by rw [li_ct1 c24]; exact nI_1 _)]
          refine lv_istore_n (lv' := [(2, .int (nI (qr_ct (qr_yzs M.2.2.1) 1 (i + 1)))), (0, .ref (q 0)), (1, .int 2), (3, .int (nI (qr_ct (qr_yzs M.2.2.1) 2 i))), (4, .int (nI (min 60 sn))), (5, .int (nI i))]) hx hb dL_isFair_44 rfl hl (by decide) rfl (fun ls hl => ?_)
          refine lv_iload_n hx hb dL_isFair_45 rfl (lv_at hl 3 rfl) ?_
          refine lv_aload_n hx hb dL_isFair_46 rfl (lv_at hl 1 rfl) ?_
          refine lv_iload hx hb dL_isFair_47 (lv_at hl 5 rfl) ?_
          refine lv_iconst (v := 0) hx hb dL_isFair_49 (by decide) ?_
          refine ly_v (As := [.int (nI i), .int 0]) (rest := [.int (nI (qr_ct (qr_yzs M.2.2.1) 2 i))]) hx hb hml hown hts (m_told0 (l := l) (G := G) (k := k) (q := q) (M := M) (j := i) es (by omega) (by omega) (by omega)) 2 (sxGV (bi14 (w := Cond.methodLink RL 126 yX9_told) 17 rfl) (bi12 (w := Cond.instanceMethod yX9_told) 45 rfl) (bi12 (w := Cond.selects RX9 yX9_told yX9_told) 46 rfl) (bi1 (w := Cond.initialized RX9) 58 rfl) (bi11 (w := Cond.code yX9_told cX9_told 3 (some .int)) 46 rfl)) rfl (by decide +kernel) ⟨Nat.le_of_ble_eq_true rfl, Nat.le_of_ble_eq_true rfl⟩ hK hP hD hS hA hE [0] [] rfl rfl (by show List.Perm _ (List.range 1); decide) 0 0 rfl rfl rfl rfl hl rfl (Nat.le_of_ble_eq_true rfl) ⟨by show _ ≤ 0; omega, by show _ ≤ 0; omega⟩ dL_isFair_50 (fun B1 v1 hp1 H locs hP hD hS => ?_)
          obtain ⟨rfl, rfl⟩ := hp1
          show W p l e _ s m args below meth c H locs _ _ _ (F0 m 53 ls [.int (qr_yzs M.2.2.1 i), .int (nI (qr_ct (qr_yzs M.2.2.1) 2 i))])
          have hP : va_P G.1 vwCl (lxF [mlW G q M]) H := hP
          have hD : va_D A (lxF [mlW G q M]) := hD
          refine lv_iconst (v := 2) hx hb dL_isFair_53 (by decide) ?_
          refine lv_icmp_ne (tgt := 61) hx hb dL_isFair_54 (by decide) (fun c26 => ?_) (fun c26 => ?_)
          · refine lv_iconst (v := 0) hx hb dL_isFair_61 (by decide) ?_
            refine lv_iadd hx hb dL_isFair_62 ?_
            rw [show ((nI (qr_ct (qr_yzs M.2.2.1) 2 i)) + 0 : Int32) = nI (qr_ct (qr_yzs M.2.2.1) 2 (i + 1)) from (by rw [li_ct0 c26]; exact Int32.add_zero _)]
            refine lv_istore_n (lv' := [(3, .int (nI (qr_ct (qr_yzs M.2.2.1) 2 (i + 1)))), (2, .int (nI (qr_ct (qr_yzs M.2.2.1) 1 (i + 1)))), (0, .ref (q 0)), (1, .int 2), (4, .int (nI (min 60 sn))), (5, .int (nI i))]) hx hb dL_isFair_63 rfl hl (by decide) rfl (fun ls hl => ?_)
            refine lv_iinc (v := nI (i + 1)) (lv' := [(5, .int (nI (i + 1))), (3, .int (nI (qr_ct (qr_yzs M.2.2.1) 2 (i + 1)))), (2, .int (nI (qr_ct (qr_yzs M.2.2.1) 1 (i + 1)))), (0, .ref (q 0)), (1, .int 2), (4, .int (nI (min 60 sn)))]) hx hb dL_isFair_64 hl (k := 5) rfl (nI_1 i) (by decide) rfl (fun ls hl => ?_)
            refine lv_goto (tgt := 19) hx hb dL_isFair_67 (by decide) ?_
            exact ih1 (i + 1) (by omega) (by omega) _ _ (by omega) (by omega) _ _ hP hD hS ls (lv_sub hl [3, 4, 2, 1, 5, 0] rfl)
          · refine lv_iconst (v := 1) hx hb dL_isFair_57 (by decide) ?_
            refine lv_goto (tgt := 62) hx hb dL_isFair_58 (by decide) ?_
            refine lv_iadd hx hb dL_isFair_62 ?_
            rw [show ((nI (qr_ct (qr_yzs M.2.2.1) 2 i)) + 1 : Int32) = nI (qr_ct (qr_yzs M.2.2.1) 2 (i + 1)) from (by rw [li_ct1 c26]; exact nI_1 _)]
            refine lv_istore_n (lv' := [(3, .int (nI (qr_ct (qr_yzs M.2.2.1) 2 (i + 1)))), (2, .int (nI (qr_ct (qr_yzs M.2.2.1) 1 (i + 1)))), (0, .ref (q 0)), (1, .int 2), (4, .int (nI (min 60 sn))), (5, .int (nI i))]) hx hb dL_isFair_63 rfl hl (by decide) rfl (fun ls hl => ?_)
            refine lv_iinc (v := nI (i + 1)) (lv' := [(5, .int (nI (i + 1))), (3, .int (nI (qr_ct (qr_yzs M.2.2.1) 2 (i + 1)))), (2, .int (nI (qr_ct (qr_yzs M.2.2.1) 1 (i + 1)))), (0, .ref (q 0)), (1, .int 2), (4, .int (nI (min 60 sn)))]) hx hb dL_isFair_64 hl (k := 5) rfl (nI_1 i) (by decide) rfl (fun ls hl => ?_)
            refine lv_goto (tgt := 19) hx hb dL_isFair_67 (by decide) ?_
            exact ih1 (i + 1) (by omega) (by omega) _ _ (by omega) (by omega) _ _ hP hD hS ls (lv_sub hl [3, 4, 2, 1, 5, 0] rfl)
  exact LP19_1 61 0 (by omega) (Nat.zero_le _) _ _ (by omega) (by omega) _ _ hP hD hS ls (lv_sub hl [4, 5, 3, 2, 1, 0] rfl)

set_option maxHeartbeats 4000000 in
set_option maxRecDepth 100000 in
theorem t_L_isFair3 (l : Launch) (G : sxG) (k : lxC) (q : Nat → Nat) (M : mlS) (sn mn dn gn t4 : Nat) (hrn : ¬ M.2.2.2.1 = 0) (es : qr_ysc M.2.2.1 = nI sn) (em : qr_ybxm M.2.2.1 = nI mn) (ed : qr_ybxd M.2.2.1 = nI dn) (eg : qr_yng M.2.2.1 = nI gn) (ls1 : sn < 2 ^ 20) (ls2 : mn < 2 ^ 20) (ls3 : dn < 2 ^ 20) (lg : gn ≤ qr_ynm M.2.2.1) (lnm : qr_ynm M.2.2.1 ≤ 500) (lst : qr_ystp M.2.2.1 ≤ 500) (hct : sn ≤ 60 → qr_ct (qr_yzs M.2.2.1) 1 sn = dn ∧ qr_ct (qr_yzs M.2.2.1) 2 sn = gn) (hp4 : qr_ypnl M.2.2.1 = -1) (h500 : qr_ystp M.2.2.1 = 500) : lyM l yL_isFair wdL_isFair 5 106 0 0 G k [mlW G q M] [.ref (q 0), .int 3] (fun B v => B = [mlW G q M] ∧ v = some (.int 1)) := by
  refine lyM.of (cc := cL_isFair) (maxL := 6) (rt := (some .boolean)) (by decide) rfl (Nat.le_of_ble_eq_true rfl) ?_
  intro p e s m args below meth c ⟨hx, hb, hr, hml, hown, hlk, hts, hK⟩ hnm A hA hP hD hS hE ls hl
  have hl : lv_has ls 6 [(0, .ref (q 0)), (1, .int 3)] := hl
  refine lv_iconst (v := 0) hx hb dL_isFair_0 (by decide) ?_
  refine lv_istore_n (lv' := [(2, .int 0), (0, .ref (q 0)), (1, .int 3)]) hx hb dL_isFair_1 rfl hl (by decide) rfl (fun ls hl => ?_)
  refine lv_iconst (v := 0) hx hb dL_isFair_2 (by decide) ?_
  refine lv_istore_n (lv' := [(3, .int 0), (2, .int 0), (0, .ref (q 0)), (1, .int 3)]) hx hb dL_isFair_3 rfl hl (by decide) rfl (fun ls hl => ?_)
  refine lv_bipush (v := 60) hx hb dL_isFair_4 (by decide) ?_
  refine lv_aload_n hx hb dL_isFair_6 rfl (lv_at hl 2 rfl) ?_
  refine lv_iconst (v := 2) hx hb dL_isFair_7 (by decide) ?_
  refine ly_v (As := [.int 2]) (rest := [.int 60]) hx hb hml hown hts (m_ofRun (l := l) (G := G) (k := k) (q := q) (M := M) (p1 := 2) (v1 := nI sn) (sx_x_ofRun _ (w := 2) (by omega)) ((qo_2 _ _ _ _ _ _ _ _ _).trans es)) 1 (sxGV (bi14 (w := Cond.methodLink RL 95 yX9_ofRun) 16 rfl) (bi12 (w := Cond.instanceMethod yX9_ofRun) 41 rfl) (bi12 (w := Cond.selects RX9 yX9_ofRun yX9_ofRun) 42 rfl) (bi1 (w := Cond.initialized RX9) 58 rfl) (bi11 (w := Cond.code yX9_ofRun cX9_ofRun 2 (some .int)) 29 rfl)) rfl (by decide +kernel) ⟨Nat.le_of_ble_eq_true rfl, Nat.le_of_ble_eq_true rfl⟩ hK hP hD hS hA hE [0] [] rfl rfl (by show List.Perm _ (List.range 1); decide) 0 0 rfl rfl rfl rfl hl rfl (Nat.le_of_ble_eq_true rfl) ⟨by show _ ≤ 0; omega, by show _ ≤ 0; omega⟩ dL_isFair_8 (fun B1 v1 hp1 H locs hP hD hS => ?_)
  obtain ⟨rfl, rfl⟩ := hp1
  show W p l e _ s m args below meth c H locs _ _ _ (F0 m 11 ls [.int (nI sn), .int 60])
  have hP : va_P G.1 vwCl (lxF [mlW G q M]) H := hP
  have hD : va_D A (lxF [mlW G q M]) := hD
  refine sx_mmin hx hb (hml.trans hl.1.symm) hown (bw14 (w := Cond.methodLink RL 121 Lib.Math.min.name) hts 15 rfl) (bw9 (w := Cond.static Lib.Math.min.name) hts 31 rfl) (bw5 (w := Cond.initialized "java/lang/Math") hts 20 rfl) (bw9 (w := Cond.code Lib.Math.min.name Lib.Math.min.code 2 (some .int)) hts 32 rfl) (Nat.le_of_ble_eq_true rfl) (Nat.le_of_ble_eq_true rfl) (by show _ ≤ 0; omega) (by show _ ≤ 0; omega) (x := 60) (y := nI sn) dL_isFair_11 ?_
  rw [show s_mmin 60 (nI sn) = nI (min 60 sn) from li_min (by omega)]
  refine lv_istore (lv' := [(4, .int (nI (min 60 sn))), (3, .int 0), (2, .int 0), (0, .ref (q 0)), (1, .int 3)]) hx hb dL_isFair_14 hl (by decide) rfl (fun ls hl => ?_)
  refine lv_iconst (v := 0) hx hb dL_isFair_16 (by decide) ?_
  refine lv_istore (lv' := [(5, .int 0), (4, .int (nI (min 60 sn))), (3, .int 0), (2, .int 0), (0, .ref (q 0)), (1, .int 3)]) hx hb dL_isFair_17 hl (by decide) rfl (fun ls hl => ?_)
  have LP19_1 : ∀ (kk1 : Nat) (i : Nat), min 60 sn - i < kk1 → (i ≤ min 60 sn) → ∀ cells slots : Nat, cells ≤ 0 → slots ≤ 0 → ∀ (H : Heap) (locs : List Loc), va_P G.1 vwCl (lxF [mlW G q M]) H → va_D A (lxF [mlW G q M]) → va_S A s.heap H locs → ∀ ls : Array Slot, lv_has ls 6 [(0, .ref (q 0)), (1, .int 3), (2, .int (nI (qr_ct (qr_yzs M.2.2.1) 1 i))), (3, .int (nI (qr_ct (qr_yzs M.2.2.1) 2 i))), (4, .int (nI (min 60 sn))), (5, .int (nI i))] → W p l e ({ frames := 5, cells := 0, slots := 0, locals := 106 } : Room) s m args below meth c H locs cells slots (lyZ 0 0 G args s below A (fun B v => B = [mlW G q M] ∧ v = some (.int 1))) (F0 m 19 ls []) := by
    intro kk1
    induction kk1 with
    | zero =>
      intro i hm
      exact absurd hm (Nat.not_lt_zero _)
    | succ kk1 ih1 =>
      intro i hm1 hi cells slots hcc1 hss1 H locs hP hD hS ls hl
      refine lv_iload hx hb dL_isFair_19 (lv_at hl 5 rfl) ?_
      refine lv_iload hx hb dL_isFair_21 (lv_at hl 4 rfl) ?_
      refine lv_icmp_ge (tgt := 70) hx hb dL_isFair_23 (by decide) (fun c2 => ?_) (fun c2 => ?_)
      · have nc2 := (nI_leI (a := (min 60 sn)) (b := i) (by omega) (by omega)).mp c2
        refine lv_aload_n hx hb dL_isFair_70 rfl (lv_at hl 0 rfl) ?_
        refine lv_iconst (v := 2) hx hb dL_isFair_71 (by decide) ?_
        refine ly_v (As := [.int 2]) (rest := []) hx hb hml hown hts (m_ofRun (l := l) (G := G) (k := k) (q := q) (M := M) (p1 := 2) (v1 := nI sn) (sx_x_ofRun _ (w := 2) (by omega)) ((qo_2 _ _ _ _ _ _ _ _ _).trans es)) 1 (sxGV (bi14 (w := Cond.methodLink RL 95 yX9_ofRun) 16 rfl) (bi12 (w := Cond.instanceMethod yX9_ofRun) 41 rfl) (bi12 (w := Cond.selects RX9 yX9_ofRun yX9_ofRun) 42 rfl) (bi1 (w := Cond.initialized RX9) 58 rfl) (bi11 (w := Cond.code yX9_ofRun cX9_ofRun 2 (some .int)) 29 rfl)) rfl (by decide +kernel) ⟨Nat.le_of_ble_eq_true rfl, Nat.le_of_ble_eq_true rfl⟩ hK hP hD hS hA hE [0] [] rfl rfl (by show List.Perm _ (List.range 1); decide) 0 0 rfl rfl rfl rfl hl rfl (Nat.le_of_ble_eq_true rfl) ⟨by show _ ≤ 0; omega, by show _ ≤ 0; omega⟩ dL_isFair_72 (fun B1 v1 hp1 H locs hP hD hS => ?_)
        obtain ⟨rfl, rfl⟩ := hp1
        show W p l e _ s m args below meth c H locs _ _ _ (F0 m 75 ls [.int (nI sn)])
        have hP : va_P G.1 vwCl (lxF [mlW G q M]) H := hP
        have hD : va_D A (lxF [mlW G q M]) := hD
        refine lv_bipush (v := 60) hx hb dL_isFair_75 (by decide) ?_
        refine lv_icmp_gt (tgt := 101) hx hb dL_isFair_77 (by decide) (fun c3 => ?_) (fun c3 => ?_)
        · have nc3 := (nI_ltI (a := 60) (b := sn) (by omega) (by omega)).mp c3
          refine lv_iload_n hx hb dL_isFair_101 rfl (lv_at hl 1 rfl) ?_
          refine lv_iconst (v := 2) hx hb dL_isFair_102 (by decide) ?_
          refine lv_icmp_ge (tgt := 119) hx hb dL_isFair_103 (by decide) (fun c4 => ?_) (fun c4 => absurd c4 (by decide))
          refine lv_aload_n hx hb dL_isFair_119 rfl (lv_at hl 0 rfl) ?_
          refine lv_bipush (v := 6) hx hb dL_isFair_120 (by decide) ?_
          refine ly_v (As := [.int 6]) (rest := []) hx hb hml hown hts (m_ofRun (l := l) (G := G) (k := k) (q := q) (M := M) (p1 := 6) (v1 := nI gn) (sx_x_ofRun _ (w := 6) (by omega)) ((qo_6 _ _ _ _ _ _ _ _ _).trans eg)) 1 (sxGV (bi14 (w := Cond.methodLink RL 95 yX9_ofRun) 16 rfl) (bi12 (w := Cond.instanceMethod yX9_ofRun) 41 rfl) (bi12 (w := Cond.selects RX9 yX9_ofRun yX9_ofRun) 42 rfl) (bi1 (w := Cond.initialized RX9) 58 rfl) (bi11 (w := Cond.code yX9_ofRun cX9_ofRun 2 (some .int)) 29 rfl)) rfl (by decide +kernel) ⟨Nat.le_of_ble_eq_true rfl, Nat.le_of_ble_eq_true rfl⟩ hK hP hD hS hA hE [0] [] rfl rfl (by show List.Perm _ (List.range 1); decide) 0 0 rfl rfl rfl rfl hl rfl (Nat.le_of_ble_eq_true rfl) ⟨by show _ ≤ 0; omega, by show _ ≤ 0; omega⟩ dL_isFair_122 (fun B1 v1 hp1 H locs hP hD hS => ?_)
          obtain ⟨rfl, rfl⟩ := hp1
          show W p l e _ s m args below meth c H locs _ _ _ (F0 m 125 ls [.int (nI gn)])
          have hP : va_P G.1 vwCl (lxF [mlW G q M]) H := hP
          have hD : va_D A (lxF [mlW G q M]) := hD
          refine lv_aload_n hx hb dL_isFair_125 rfl (lv_at hl 0 rfl) ?_
          refine lv_iconst (v := 4) hx hb dL_isFair_126 (by decide) ?_
          refine ly_v (As := [.int 4]) (rest := [.int (nI gn)]) hx hb hml hown hts (m_ofRun (l := l) (G := G) (k := k) (q := q) (M := M) (p1 := 4) (v1 := nI (qr_ynm M.2.2.1)) (sx_x_ofRun _ (w := 4) (by omega)) (qo_4 _ _ _ _ _ _ _ _ _)) 1 (sxGV (bi14 (w := Cond.methodLink RL 95 yX9_ofRun) 16 rfl) (bi12 (w := Cond.instanceMethod yX9_ofRun) 41 rfl) (bi12 (w := Cond.selects RX9 yX9_ofRun yX9_ofRun) 42 rfl) (bi1 (w := Cond.initialized RX9) 58 rfl) (bi11 (w := Cond.code yX9_ofRun cX9_ofRun 2 (some .int)) 29 rfl)) rfl (by decide +kernel) ⟨Nat.le_of_ble_eq_true rfl, Nat.le_of_ble_eq_true rfl⟩ hK hP hD hS hA hE [0] [] rfl rfl (by show List.Perm _ (List.range 1); decide) 0 0 rfl rfl rfl rfl hl rfl (Nat.le_of_ble_eq_true rfl) ⟨by show _ ≤ 0; omega, by show _ ≤ 0; omega⟩ dL_isFair_127 (fun B1 v1 hp1 H locs hP hD hS => ?_)
          obtain ⟨rfl, rfl⟩ := hp1
          show W p l e _ s m args below meth c H locs _ _ _ (F0 m 130 ls [.int (nI (qr_ynm M.2.2.1)), .int (nI gn)])
          have hP : va_P G.1 vwCl (lxF [mlW G q M]) H := hP
          have hD : va_D A (lxF [mlW G q M]) := hD
          refine lv_icmp_gt (tgt := 166) hx hb dL_isFair_130 (by decide) (fun c5 => False.elim (by have nc5 := (nI_ltI (a := (qr_ynm M.2.2.1)) (b := gn) (by omega) (by omega)).mp c5; omega)) (fun c5 => ?_)
          have nc5 := (not_congr (nI_ltI (a := (qr_ynm M.2.2.1)) (b := gn) (by omega) (by omega))).mp c5
          refine lv_aload_n hx hb dL_isFair_133 rfl (lv_at hl 0 rfl) ?_
          refine lv_bipush (v := 7) hx hb dL_isFair_134 (by decide) ?_
          refine ly_v (As := [.int 7]) (rest := []) hx hb hml hown hts (m_ofRun (l := l) (G := G) (k := k) (q := q) (M := M) (p1 := 7) (v1 := nI mn + nI (qr_ynm M.2.2.1) - nI dn - nI gn) (sx_x_ofRun _ (w := 7) (by omega)) (by rw [qo_7, em, ed, eg])) 1 (sxGV (bi14 (w := Cond.methodLink RL 95 yX9_ofRun) 16 rfl) (bi12 (w := Cond.instanceMethod yX9_ofRun) 41 rfl) (bi12 (w := Cond.selects RX9 yX9_ofRun yX9_ofRun) 42 rfl) (bi1 (w := Cond.initialized RX9) 58 rfl) (bi11 (w := Cond.code yX9_ofRun cX9_ofRun 2 (some .int)) 29 rfl)) rfl (by decide +kernel) ⟨Nat.le_of_ble_eq_true rfl, Nat.le_of_ble_eq_true rfl⟩ hK hP hD hS hA hE [0] [] rfl rfl (by show List.Perm _ (List.range 1); decide) 0 0 rfl rfl rfl rfl hl rfl (Nat.le_of_ble_eq_true rfl) ⟨by show _ ≤ 0; omega, by show _ ≤ 0; omega⟩ dL_isFair_136 (fun B1 v1 hp1 H locs hP hD hS => ?_)
          obtain ⟨rfl, rfl⟩ := hp1
          show W p l e _ s m args below meth c H locs _ _ _ (F0 m 139 ls [.int (nI mn + nI (qr_ynm M.2.2.1) - nI dn - nI gn)])
          have hP : va_P G.1 vwCl (lxF [mlW G q M]) H := hP
          have hD : va_D A (lxF [mlW G q M]) := hD
          refine lv_aload_n hx hb dL_isFair_139 rfl (lv_at hl 0 rfl) ?_
          refine lv_iconst (v := 3) hx hb dL_isFair_140 (by decide) ?_
          refine ly_v (As := [.int 3]) (rest := [.int (nI mn + nI (qr_ynm M.2.2.1) - nI dn - nI gn)]) hx hb hml hown hts (m_ofRun (l := l) (G := G) (k := k) (q := q) (M := M) (p1 := 3) (v1 := nI mn) (sx_x_ofRun _ (w := 3) (by omega)) ((qo_3 _ _ _ _ _ _ _ _ _).trans em)) 1 (sxGV (bi14 (w := Cond.methodLink RL 95 yX9_ofRun) 16 rfl) (bi12 (w := Cond.instanceMethod yX9_ofRun) 41 rfl) (bi12 (w := Cond.selects RX9 yX9_ofRun yX9_ofRun) 42 rfl) (bi1 (w := Cond.initialized RX9) 58 rfl) (bi11 (w := Cond.code yX9_ofRun cX9_ofRun 2 (some .int)) 29 rfl)) rfl (by decide +kernel) ⟨Nat.le_of_ble_eq_true rfl, Nat.le_of_ble_eq_true rfl⟩ hK hP hD hS hA hE [0] [] rfl rfl (by show List.Perm _ (List.range 1); decide) 0 0 rfl rfl rfl rfl hl rfl (Nat.le_of_ble_eq_true rfl) ⟨by show _ ≤ 0; omega, by show _ ≤ 0; omega⟩ dL_isFair_141 (fun B1 v1 hp1 H locs hP hD hS => ?_)
          obtain ⟨rfl, rfl⟩ := hp1
          show W p l e _ s m args below meth c H locs _ _ _ (F0 m 144 ls [.int (nI mn), .int (nI mn + nI (qr_ynm M.2.2.1) - nI dn - nI gn)])
          have hP : va_P G.1 vwCl (lxF [mlW G q M]) H := hP
          have hD : va_D A (lxF [mlW G q M]) := hD
          refine lv_aload_n hx hb dL_isFair_144 rfl (lv_at hl 0 rfl) ?_
          refine lv_iconst (v := 5) hx hb dL_isFair_145 (by decide) ?_
          refine ly_v (As := [.int 5]) (rest := [.int (nI mn), .int (nI mn + nI (qr_ynm M.2.2.1) - nI dn - nI gn)]) hx hb hml hown hts (m_ofRun (l := l) (G := G) (k := k) (q := q) (M := M) (p1 := 5) (v1 := nI dn) (sx_x_ofRun _ (w := 5) (by omega)) ((qo_5 _ _ _ _ _ _ _ _ _).trans ed)) 1 (sxGV (bi14 (w := Cond.methodLink RL 95 yX9_ofRun) 16 rfl) (bi12 (w := Cond.instanceMethod yX9_ofRun) 41 rfl) (bi12 (w := Cond.selects RX9 yX9_ofRun yX9_ofRun) 42 rfl) (bi1 (w := Cond.initialized RX9) 58 rfl) (bi11 (w := Cond.code yX9_ofRun cX9_ofRun 2 (some .int)) 29 rfl)) rfl (by decide +kernel) ⟨Nat.le_of_ble_eq_true rfl, Nat.le_of_ble_eq_true rfl⟩ hK hP hD hS hA hE [0] [] rfl rfl (by show List.Perm _ (List.range 1); decide) 0 0 rfl rfl rfl rfl hl rfl (Nat.le_of_ble_eq_true rfl) ⟨by show _ ≤ 0; omega, by show _ ≤ 0; omega⟩ dL_isFair_146 (fun B1 v1 hp1 H locs hP hD hS => ?_)
          obtain ⟨rfl, rfl⟩ := hp1
          show W p l e _ s m args below meth c H locs _ _ _ (F0 m 149 ls [.int (nI dn), .int (nI mn), .int (nI mn + nI (qr_ynm M.2.2.1) - nI dn - nI gn)])
          have hP : va_P G.1 vwCl (lxF [mlW G q M]) H := hP
          have hD : va_D A (lxF [mlW G q M]) := hD
          refine lv_isub hx hb dL_isFair_149 ?_
          refine lv_aload_n hx hb dL_isFair_150 rfl (lv_at hl 0 rfl) ?_
          refine lv_iconst (v := 4) hx hb dL_isFair_151 (by decide) ?_
          refine ly_v (As := [.int 4]) (rest := [.int ((nI mn) - (nI dn)), .int (nI mn + nI (qr_ynm M.2.2.1) - nI dn - nI gn)]) hx hb hml hown hts (m_ofRun (l := l) (G := G) (k := k) (q := q) (M := M) (p1 := 4) (v1 := nI (qr_ynm M.2.2.1)) (sx_x_ofRun _ (w := 4) (by omega)) (qo_4 _ _ _ _ _ _ _ _ _)) 1 (sxGV (bi14 (w := Cond.methodLink RL 95 yX9_ofRun) 16 rfl) (bi12 (w := Cond.instanceMethod yX9_ofRun) 41 rfl) (bi12 (w := Cond.selects RX9 yX9_ofRun yX9_ofRun) 42 rfl) (bi1 (w := Cond.initialized RX9) 58 rfl) (bi11 (w := Cond.code yX9_ofRun cX9_ofRun 2 (some .int)) 29 rfl)) rfl (by decide +kernel) ⟨Nat.le_of_ble_eq_true rfl, Nat.le_of_ble_eq_true rfl⟩ hK hP hD hS hA hE [0] [] rfl rfl (by show List.Perm _ (List.range 1); decide) 0 0 rfl rfl rfl rfl hl rfl (Nat.le_of_ble_eq_true rfl) ⟨by show _ ≤ 0; omega, by show _ ≤ 0; omega⟩ dL_isFair_152 (fun B1 v1 hp1 H locs hP hD hS => ?_)
          obtain ⟨rfl, rfl⟩ := hp1
          show W p l e _ s m args below meth c H locs _ _ _ (F0 m 155 ls [.int (nI (qr_ynm M.2.2.1)), .int ((nI mn) - (nI dn)), .int (nI mn + nI (qr_ynm M.2.2.1) - nI dn - nI gn)])
          have hP : va_P G.1 vwCl (lxF [mlW G q M]) H := hP
          have hD : va_D A (lxF [mlW G q M]) := hD
          refine lv_iadd hx hb dL_isFair_155 ?_
          refine lv_aload_n hx hb dL_isFair_156 rfl (lv_at hl 0 rfl) ?_
          refine lv_bipush (v := 6) hx hb dL_isFair_157 (by decide) ?_
          refine ly_v (As := [.int 6]) (rest := [.int (((nI mn) - (nI dn)) + (nI (qr_ynm M.2.2.1))), .int (nI mn + nI (qr_ynm M.2.2.1) - nI dn - nI gn)]) hx hb hml hown hts (m_ofRun (l := l) (G := G) (k := k) (q := q) (M := M) (p1 := 6) (v1 := nI gn) (sx_x_ofRun _ (w := 6) (by omega)) ((qo_6 _ _ _ _ _ _ _ _ _).trans eg)) 1 (sxGV (bi14 (w := Cond.methodLink RL 95 yX9_ofRun) 16 rfl) (bi12 (w := Cond.instanceMethod yX9_ofRun) 41 rfl) (bi12 (w := Cond.selects RX9 yX9_ofRun yX9_ofRun) 42 rfl) (bi1 (w := Cond.initialized RX9) 58 rfl) (bi11 (w := Cond.code yX9_ofRun cX9_ofRun 2 (some .int)) 29 rfl)) rfl (by decide +kernel) ⟨Nat.le_of_ble_eq_true rfl, Nat.le_of_ble_eq_true rfl⟩ hK hP hD hS hA hE [0] [] rfl rfl (by show List.Perm _ (List.range 1); decide) 0 0 rfl rfl rfl rfl hl rfl (Nat.le_of_ble_eq_true rfl) ⟨by show _ ≤ 0; omega, by show _ ≤ 0; omega⟩ dL_isFair_159 (fun B1 v1 hp1 H locs hP hD hS => ?_)
          obtain ⟨rfl, rfl⟩ := hp1
          show W p l e _ s m args below meth c H locs _ _ _ (F0 m 162 ls [.int (nI gn), .int (((nI mn) - (nI dn)) + (nI (qr_ynm M.2.2.1))), .int (nI mn + nI (qr_ynm M.2.2.1) - nI dn - nI gn)])
          have hP : va_P G.1 vwCl (lxF [mlW G q M]) H := hP
          have hD : va_D A (lxF [mlW G q M]) := hD
          refine lv_isub hx hb dL_isFair_162 ?_
          refine lv_icmp_eq (tgt := 168) hx hb dL_isFair_163 (by decide) (fun c6 => ?_) (fun c6 => False.elim (by exact c6 (li_swap _ _ _ _)))
          refine lv_aload_n hx hb dL_isFair_168 rfl (lv_at hl 0 rfl) ?_
          refine lv_bipush (v := 8) hx hb dL_isFair_169 (by decide) ?_
          refine ly_v (As := [.int 8]) (rest := []) hx hb hml hown hts (m_ofRun (l := l) (G := G) (k := k) (q := q) (M := M) (p1 := 8) (v1 := (-1)) (sx_x_ofRun _ (w := 8) (by omega)) ((qo_8 _ _ _ _ _ _ _ _ _ hrn).trans hp4)) 1 (sxGV (bi14 (w := Cond.methodLink RL 95 yX9_ofRun) 16 rfl) (bi12 (w := Cond.instanceMethod yX9_ofRun) 41 rfl) (bi12 (w := Cond.selects RX9 yX9_ofRun yX9_ofRun) 42 rfl) (bi1 (w := Cond.initialized RX9) 58 rfl) (bi11 (w := Cond.code yX9_ofRun cX9_ofRun 2 (some .int)) 29 rfl)) rfl (by decide +kernel) ⟨Nat.le_of_ble_eq_true rfl, Nat.le_of_ble_eq_true rfl⟩ hK hP hD hS hA hE [0] [] rfl rfl (by show List.Perm _ (List.range 1); decide) 0 0 rfl rfl rfl rfl hl rfl (Nat.le_of_ble_eq_true rfl) ⟨by show _ ≤ 0; omega, by show _ ≤ 0; omega⟩ dL_isFair_171 (fun B1 v1 hp1 H locs hP hD hS => ?_)
          obtain ⟨rfl, rfl⟩ := hp1
          show W p l e _ s m args below meth c H locs _ _ _ (F0 m 174 ls [.int (-1)])
          have hP : va_P G.1 vwCl (lxF [mlW G q M]) H := hP
          have hD : va_D A (lxF [mlW G q M]) := hD
          refine lv_if_ge (tgt := 181) hx hb dL_isFair_174 (by decide) (fun c7 => absurd c7 (by decide)) (fun c7 => ?_)
          refine lv_iconst (v := 1) hx hb dL_isFair_177 (by decide) ?_
          refine lv_goto (tgt := 182) hx hb dL_isFair_178 (by decide) ?_
          refine lv_iload_n hx hb dL_isFair_182 rfl (lv_at hl 1 rfl) ?_
          refine lv_if_eq (tgt := 191) hx hb dL_isFair_183 (by decide) (fun c8 => absurd c8 (by decide)) (fun c8 => ?_)
          refine lv_iload_n hx hb dL_isFair_186 rfl (lv_at hl 1 rfl) ?_
          refine lv_iconst (v := 3) hx hb dL_isFair_187 (by decide) ?_
          refine lv_icmp_ne (tgt := 195) hx hb dL_isFair_188 (by decide) (fun c9 => absurd c9 (by decide)) (fun c9 => ?_)
          refine lv_iconst (v := 1) hx hb dL_isFair_191 (by decide) ?_
          refine lv_goto (tgt := 196) hx hb dL_isFair_192 (by decide) ?_
          refine lv_icmp_ne (tgt := 230) hx hb dL_isFair_196 (by decide) (fun c10 => absurd c10 (by decide)) (fun c10 => ?_)
          refine lv_aload_n hx hb dL_isFair_199 rfl (lv_at hl 0 rfl) ?_
          refine lv_iconst (v := 1) hx hb dL_isFair_200 (by decide) ?_
          refine ly_v (As := [.int 1]) (rest := []) hx hb hml hown hts (m_ofRun (l := l) (G := G) (k := k) (q := q) (M := M) (p1 := 1) (v1 := nI (qr_ystp M.2.2.1)) (sx_x_ofRun _ (w := 1) (by omega)) (qo_1 _ _ _ _ _ _ _ _ _)) 1 (sxGV (bi14 (w := Cond.methodLink RL 95 yX9_ofRun) 16 rfl) (bi12 (w := Cond.instanceMethod yX9_ofRun) 41 rfl) (bi12 (w := Cond.selects RX9 yX9_ofRun yX9_ofRun) 42 rfl) (bi1 (w := Cond.initialized RX9) 58 rfl) (bi11 (w := Cond.code yX9_ofRun cX9_ofRun 2 (some .int)) 29 rfl)) rfl (by decide +kernel) ⟨Nat.le_of_ble_eq_true rfl, Nat.le_of_ble_eq_true rfl⟩ hK hP hD hS hA hE [0] [] rfl rfl (by show List.Perm _ (List.range 1); decide) 0 0 rfl rfl rfl rfl hl rfl (Nat.le_of_ble_eq_true rfl) ⟨by show _ ≤ 0; omega, by show _ ≤ 0; omega⟩ dL_isFair_201 (fun B1 v1 hp1 H locs hP hD hS => ?_)
          obtain ⟨rfl, rfl⟩ := hp1
          show W p l e _ s m args below meth c H locs _ _ _ (F0 m 204 ls [.int (nI (qr_ystp M.2.2.1))])
          have hP : va_P G.1 vwCl (lxF [mlW G q M]) H := hP
          have hD : va_D A (lxF [mlW G q M]) := hD
          refine lv_sipush (v := 500) hx hb dL_isFair_204 (by decide) ?_
          refine lv_icmp_gt (tgt := 230) hx hb dL_isFair_207 (by decide) (fun c11 => False.elim (by have nc11 := (nI_ltI (a := 500) (b := (qr_ystp M.2.2.1)) (by omega) (by omega)).mp c11; omega)) (fun c11 => ?_)
          have nc11 := (not_congr (nI_ltI (a := 500) (b := (qr_ystp M.2.2.1)) (by omega) (by omega))).mp c11
          refine lv_iload_n hx hb dL_isFair_210 rfl (lv_at hl 1 rfl) ?_
          refine lv_iconst (v := 3) hx hb dL_isFair_211 (by decide) ?_
          refine lv_icmp_lt (tgt := 226) hx hb dL_isFair_212 (by decide) (fun c12 => absurd c12 (by decide)) (fun c12 => ?_)
          refine lv_aload_n hx hb dL_isFair_215 rfl (lv_at hl 0 rfl) ?_
          refine lv_iconst (v := 1) hx hb dL_isFair_216 (by decide) ?_
          refine ly_v (As := [.int 1]) (rest := []) hx hb hml hown hts (m_ofRun (l := l) (G := G) (k := k) (q := q) (M := M) (p1 := 1) (v1 := nI (qr_ystp M.2.2.1)) (sx_x_ofRun _ (w := 1) (by omega)) (qo_1 _ _ _ _ _ _ _ _ _)) 1 (sxGV (bi14 (w := Cond.methodLink RL 95 yX9_ofRun) 16 rfl) (bi12 (w := Cond.instanceMethod yX9_ofRun) 41 rfl) (bi12 (w := Cond.selects RX9 yX9_ofRun yX9_ofRun) 42 rfl) (bi1 (w := Cond.initialized RX9) 58 rfl) (bi11 (w := Cond.code yX9_ofRun cX9_ofRun 2 (some .int)) 29 rfl)) rfl (by decide +kernel) ⟨Nat.le_of_ble_eq_true rfl, Nat.le_of_ble_eq_true rfl⟩ hK hP hD hS hA hE [0] [] rfl rfl (by show List.Perm _ (List.range 1); decide) 0 0 rfl rfl rfl rfl hl rfl (Nat.le_of_ble_eq_true rfl) ⟨by show _ ≤ 0; omega, by show _ ≤ 0; omega⟩ dL_isFair_217 (fun B1 v1 hp1 H locs hP hD hS => ?_)
          obtain ⟨rfl, rfl⟩ := hp1
          show W p l e _ s m args below meth c H locs _ _ _ (F0 m 220 ls [.int (nI (qr_ystp M.2.2.1))])
          have hP : va_P G.1 vwCl (lxF [mlW G q M]) H := hP
          have hD : va_D A (lxF [mlW G q M]) := hD
          refine lv_sipush (v := 500) hx hb dL_isFair_220 (by decide) ?_
          refine lv_icmp_ne (tgt := 230) hx hb dL_isFair_223 (by decide) (fun c13 => False.elim (by have nc13 := (not_congr (nI_eq (a := (qr_ystp M.2.2.1)) (b := 500) (by omega) (by omega))).mp c13; omega)) (fun c13 => ?_)
          have nc13 := (nI_eq (a := (qr_ystp M.2.2.1)) (b := 500) (by omega) (by omega)).mp c13
          refine lv_iconst (v := 1) hx hb dL_isFair_226 (by decide) ?_
          refine lv_goto (tgt := 231) hx hb dL_isFair_227 (by decide) ?_
          exact ly_ri hx hb hr hlk hP hD hS rfl (⟨rfl, rfl⟩) (by omega) (by omega) dL_isFair_231
        · have nc3 := (not_congr (nI_ltI (a := 60) (b := sn) (by omega) (by omega))).mp c3
          obtain ⟨hc1, hc2⟩ := hct (by omega)
          have ei : i = sn := by omega
          rw [← ei] at hc1 hc2
          refine lv_iload_n hx hb dL_isFair_80 rfl (lv_at hl 2 rfl) ?_
          refine lv_aload_n hx hb dL_isFair_81 rfl (lv_at hl 0 rfl) ?_
          refine lv_iconst (v := 5) hx hb dL_isFair_82 (by decide) ?_
          refine ly_v (As := [.int 5]) (rest := [.int (nI (qr_ct (qr_yzs M.2.2.1) 1 i))]) hx hb hml hown hts (m_ofRun (l := l) (G := G) (k := k) (q := q) (M := M) (p1 := 5) (v1 := nI dn) (sx_x_ofRun _ (w := 5) (by omega)) ((qo_5 _ _ _ _ _ _ _ _ _).trans ed)) 1 (sxGV (bi14 (w := Cond.methodLink RL 95 yX9_ofRun) 16 rfl) (bi12 (w := Cond.instanceMethod yX9_ofRun) 41 rfl) (bi12 (w := Cond.selects RX9 yX9_ofRun yX9_ofRun) 42 rfl) (bi1 (w := Cond.initialized RX9) 58 rfl) (bi11 (w := Cond.code yX9_ofRun cX9_ofRun 2 (some .int)) 29 rfl)) rfl (by decide +kernel) ⟨Nat.le_of_ble_eq_true rfl, Nat.le_of_ble_eq_true rfl⟩ hK hP hD hS hA hE [0] [] rfl rfl (by show List.Perm _ (List.range 1); decide) 0 0 rfl rfl rfl rfl hl rfl (Nat.le_of_ble_eq_true rfl) ⟨by show _ ≤ 0; omega, by show _ ≤ 0; omega⟩ dL_isFair_83 (fun B1 v1 hp1 H locs hP hD hS => ?_)
          obtain ⟨rfl, rfl⟩ := hp1
          show W p l e _ s m args below meth c H locs _ _ _ (F0 m 86 ls [.int (nI dn), .int (nI (qr_ct (qr_yzs M.2.2.1) 1 i))])
          have hP : va_P G.1 vwCl (lxF [mlW G q M]) H := hP
          have hD : va_D A (lxF [mlW G q M]) := hD
          refine lv_icmp_ne (tgt := 99) hx hb dL_isFair_86 (by decide) (fun c14 => False.elim (by have nc14 := (not_congr (nI_eq (a := (qr_ct (qr_yzs M.2.2.1) 1 i)) (b := dn) (by omega) (by omega))).mp c14; omega)) (fun c14 => ?_)
          have nc14 := (nI_eq (a := (qr_ct (qr_yzs M.2.2.1) 1 i)) (b := dn) (by omega) (by omega)).mp c14
          refine lv_iload_n hx hb dL_isFair_89 rfl (lv_at hl 3 rfl) ?_
          refine lv_aload_n hx hb dL_isFair_90 rfl (lv_at hl 0 rfl) ?_
          refine lv_bipush (v := 6) hx hb dL_isFair_91 (by decide) ?_
          refine ly_v (As := [.int 6]) (rest := [.int (nI (qr_ct (qr_yzs M.2.2.1) 2 i))]) hx hb hml hown hts (m_ofRun (l := l) (G := G) (k := k) (q := q) (M := M) (p1 := 6) (v1 := nI gn) (sx_x_ofRun _ (w := 6) (by omega)) ((qo_6 _ _ _ _ _ _ _ _ _).trans eg)) 1 (sxGV (bi14 (w := Cond.methodLink RL 95 yX9_ofRun) 16 rfl) (bi12 (w := Cond.instanceMethod yX9_ofRun) 41 rfl) (bi12 (w := Cond.selects RX9 yX9_ofRun yX9_ofRun) 42 rfl) (bi1 (w := Cond.initialized RX9) 58 rfl) (bi11 (w := Cond.code yX9_ofRun cX9_ofRun 2 (some .int)) 29 rfl)) rfl (by decide +kernel) ⟨Nat.le_of_ble_eq_true rfl, Nat.le_of_ble_eq_true rfl⟩ hK hP hD hS hA hE [0] [] rfl rfl (by show List.Perm _ (List.range 1); decide) 0 0 rfl rfl rfl rfl hl rfl (Nat.le_of_ble_eq_true rfl) ⟨by show _ ≤ 0; omega, by show _ ≤ 0; omega⟩ dL_isFair_93 (fun B1 v1 hp1 H locs hP hD hS => ?_)
          obtain ⟨rfl, rfl⟩ := hp1
          show W p l e _ s m args below meth c H locs _ _ _ (F0 m 96 ls [.int (nI gn), .int (nI (qr_ct (qr_yzs M.2.2.1) 2 i))])
          have hP : va_P G.1 vwCl (lxF [mlW G q M]) H := hP
          have hD : va_D A (lxF [mlW G q M]) := hD
          refine lv_icmp_eq (tgt := 101) hx hb dL_isFair_96 (by decide) (fun c15 => ?_) (fun c15 => False.elim (by have nc15 := (not_congr (nI_eq (a := (qr_ct (qr_yzs M.2.2.1) 2 i)) (b := gn) (by omega) (by omega))).mp c15; omega))
          have nc15 := (nI_eq (a := (qr_ct (qr_yzs M.2.2.1) 2 i)) (b := gn) (by omega) (by omega)).mp c15
          refine lv_iload_n hx hb dL_isFair_101 rfl (lv_at hl 1 rfl) ?_
          refine lv_iconst (v := 2) hx hb dL_isFair_102 (by decide) ?_
          refine lv_icmp_ge (tgt := 119) hx hb dL_isFair_103 (by decide) (fun c16 => ?_) (fun c16 => absurd c16 (by decide))
          refine lv_aload_n hx hb dL_isFair_119 rfl (lv_at hl 0 rfl) ?_
          refine lv_bipush (v := 6) hx hb dL_isFair_120 (by decide) ?_
          refine ly_v (As := [.int 6]) (rest := []) hx hb hml hown hts (m_ofRun (l := l) (G := G) (k := k) (q := q) (M := M) (p1 := 6) (v1 := nI gn) (sx_x_ofRun _ (w := 6) (by omega)) ((qo_6 _ _ _ _ _ _ _ _ _).trans eg)) 1 (sxGV (bi14 (w := Cond.methodLink RL 95 yX9_ofRun) 16 rfl) (bi12 (w := Cond.instanceMethod yX9_ofRun) 41 rfl) (bi12 (w := Cond.selects RX9 yX9_ofRun yX9_ofRun) 42 rfl) (bi1 (w := Cond.initialized RX9) 58 rfl) (bi11 (w := Cond.code yX9_ofRun cX9_ofRun 2 (some .int)) 29 rfl)) rfl (by decide +kernel) ⟨Nat.le_of_ble_eq_true rfl, Nat.le_of_ble_eq_true rfl⟩ hK hP hD hS hA hE [0] [] rfl rfl (by show List.Perm _ (List.range 1); decide) 0 0 rfl rfl rfl rfl hl rfl (Nat.le_of_ble_eq_true rfl) ⟨by show _ ≤ 0; omega, by show _ ≤ 0; omega⟩ dL_isFair_122 (fun B1 v1 hp1 H locs hP hD hS => ?_)
          obtain ⟨rfl, rfl⟩ := hp1
          show W p l e _ s m args below meth c H locs _ _ _ (F0 m 125 ls [.int (nI gn)])
          have hP : va_P G.1 vwCl (lxF [mlW G q M]) H := hP
          have hD : va_D A (lxF [mlW G q M]) := hD
          refine lv_aload_n hx hb dL_isFair_125 rfl (lv_at hl 0 rfl) ?_
          refine lv_iconst (v := 4) hx hb dL_isFair_126 (by decide) ?_
          refine ly_v (As := [.int 4]) (rest := [.int (nI gn)]) hx hb hml hown hts (m_ofRun (l := l) (G := G) (k := k) (q := q) (M := M) (p1 := 4) (v1 := nI (qr_ynm M.2.2.1)) (sx_x_ofRun _ (w := 4) (by omega)) (qo_4 _ _ _ _ _ _ _ _ _)) 1 (sxGV (bi14 (w := Cond.methodLink RL 95 yX9_ofRun) 16 rfl) (bi12 (w := Cond.instanceMethod yX9_ofRun) 41 rfl) (bi12 (w := Cond.selects RX9 yX9_ofRun yX9_ofRun) 42 rfl) (bi1 (w := Cond.initialized RX9) 58 rfl) (bi11 (w := Cond.code yX9_ofRun cX9_ofRun 2 (some .int)) 29 rfl)) rfl (by decide +kernel) ⟨Nat.le_of_ble_eq_true rfl, Nat.le_of_ble_eq_true rfl⟩ hK hP hD hS hA hE [0] [] rfl rfl (by show List.Perm _ (List.range 1); decide) 0 0 rfl rfl rfl rfl hl rfl (Nat.le_of_ble_eq_true rfl) ⟨by show _ ≤ 0; omega, by show _ ≤ 0; omega⟩ dL_isFair_127 (fun B1 v1 hp1 H locs hP hD hS => ?_)
          obtain ⟨rfl, rfl⟩ := hp1
          show W p l e _ s m args below meth c H locs _ _ _ (F0 m 130 ls [.int (nI (qr_ynm M.2.2.1)), .int (nI gn)])
          have hP : va_P G.1 vwCl (lxF [mlW G q M]) H := hP
          have hD : va_D A (lxF [mlW G q M]) := hD
          refine lv_icmp_gt (tgt := 166) hx hb dL_isFair_130 (by decide) (fun c17 => False.elim (by have nc17 := (nI_ltI (a := (qr_ynm M.2.2.1)) (b := gn) (by omega) (by omega)).mp c17; omega)) (fun c17 => ?_)
          have nc17 := (not_congr (nI_ltI (a := (qr_ynm M.2.2.1)) (b := gn) (by omega) (by omega))).mp c17
          refine lv_aload_n hx hb dL_isFair_133 rfl (lv_at hl 0 rfl) ?_
          refine lv_bipush (v := 7) hx hb dL_isFair_134 (by decide) ?_
          refine ly_v (As := [.int 7]) (rest := []) hx hb hml hown hts (m_ofRun (l := l) (G := G) (k := k) (q := q) (M := M) (p1 := 7) (v1 := nI mn + nI (qr_ynm M.2.2.1) - nI dn - nI gn) (sx_x_ofRun _ (w := 7) (by omega)) (by rw [qo_7, em, ed, eg])) 1 (sxGV (bi14 (w := Cond.methodLink RL 95 yX9_ofRun) 16 rfl) (bi12 (w := Cond.instanceMethod yX9_ofRun) 41 rfl) (bi12 (w := Cond.selects RX9 yX9_ofRun yX9_ofRun) 42 rfl) (bi1 (w := Cond.initialized RX9) 58 rfl) (bi11 (w := Cond.code yX9_ofRun cX9_ofRun 2 (some .int)) 29 rfl)) rfl (by decide +kernel) ⟨Nat.le_of_ble_eq_true rfl, Nat.le_of_ble_eq_true rfl⟩ hK hP hD hS hA hE [0] [] rfl rfl (by show List.Perm _ (List.range 1); decide) 0 0 rfl rfl rfl rfl hl rfl (Nat.le_of_ble_eq_true rfl) ⟨by show _ ≤ 0; omega, by show _ ≤ 0; omega⟩ dL_isFair_136 (fun B1 v1 hp1 H locs hP hD hS => ?_)
          obtain ⟨rfl, rfl⟩ := hp1
          show W p l e _ s m args below meth c H locs _ _ _ (F0 m 139 ls [.int (nI mn + nI (qr_ynm M.2.2.1) - nI dn - nI gn)])
          have hP : va_P G.1 vwCl (lxF [mlW G q M]) H := hP
          have hD : va_D A (lxF [mlW G q M]) := hD
          refine lv_aload_n hx hb dL_isFair_139 rfl (lv_at hl 0 rfl) ?_
          refine lv_iconst (v := 3) hx hb dL_isFair_140 (by decide) ?_
          refine ly_v (As := [.int 3]) (rest := [.int (nI mn + nI (qr_ynm M.2.2.1) - nI dn - nI gn)]) hx hb hml hown hts (m_ofRun (l := l) (G := G) (k := k) (q := q) (M := M) (p1 := 3) (v1 := nI mn) (sx_x_ofRun _ (w := 3) (by omega)) ((qo_3 _ _ _ _ _ _ _ _ _).trans em)) 1 (sxGV (bi14 (w := Cond.methodLink RL 95 yX9_ofRun) 16 rfl) (bi12 (w := Cond.instanceMethod yX9_ofRun) 41 rfl) (bi12 (w := Cond.selects RX9 yX9_ofRun yX9_ofRun) 42 rfl) (bi1 (w := Cond.initialized RX9) 58 rfl) (bi11 (w := Cond.code yX9_ofRun cX9_ofRun 2 (some .int)) 29 rfl)) rfl (by decide +kernel) ⟨Nat.le_of_ble_eq_true rfl, Nat.le_of_ble_eq_true rfl⟩ hK hP hD hS hA hE [0] [] rfl rfl (by show List.Perm _ (List.range 1); decide) 0 0 rfl rfl rfl rfl hl rfl (Nat.le_of_ble_eq_true rfl) ⟨by show _ ≤ 0; omega, by show _ ≤ 0; omega⟩ dL_isFair_141 (fun B1 v1 hp1 H locs hP hD hS => ?_)
          obtain ⟨rfl, rfl⟩ := hp1
          show W p l e _ s m args below meth c H locs _ _ _ (F0 m 144 ls [.int (nI mn), .int (nI mn + nI (qr_ynm M.2.2.1) - nI dn - nI gn)])
          have hP : va_P G.1 vwCl (lxF [mlW G q M]) H := hP
          have hD : va_D A (lxF [mlW G q M]) := hD
          refine lv_aload_n hx hb dL_isFair_144 rfl (lv_at hl 0 rfl) ?_
          refine lv_iconst (v := 5) hx hb dL_isFair_145 (by decide) ?_
          refine ly_v (As := [.int 5]) (rest := [.int (nI mn), .int (nI mn + nI (qr_ynm M.2.2.1) - nI dn - nI gn)]) hx hb hml hown hts (m_ofRun (l := l) (G := G) (k := k) (q := q) (M := M) (p1 := 5) (v1 := nI dn) (sx_x_ofRun _ (w := 5) (by omega)) ((qo_5 _ _ _ _ _ _ _ _ _).trans ed)) 1 (sxGV (bi14 (w := Cond.methodLink RL 95 yX9_ofRun) 16 rfl) (bi12 (w := Cond.instanceMethod yX9_ofRun) 41 rfl) (bi12 (w := Cond.selects RX9 yX9_ofRun yX9_ofRun) 42 rfl) (bi1 (w := Cond.initialized RX9) 58 rfl) (bi11 (w := Cond.code yX9_ofRun cX9_ofRun 2 (some .int)) 29 rfl)) rfl (by decide +kernel) ⟨Nat.le_of_ble_eq_true rfl, Nat.le_of_ble_eq_true rfl⟩ hK hP hD hS hA hE [0] [] rfl rfl (by show List.Perm _ (List.range 1); decide) 0 0 rfl rfl rfl rfl hl rfl (Nat.le_of_ble_eq_true rfl) ⟨by show _ ≤ 0; omega, by show _ ≤ 0; omega⟩ dL_isFair_146 (fun B1 v1 hp1 H locs hP hD hS => ?_)
          obtain ⟨rfl, rfl⟩ := hp1
          show W p l e _ s m args below meth c H locs _ _ _ (F0 m 149 ls [.int (nI dn), .int (nI mn), .int (nI mn + nI (qr_ynm M.2.2.1) - nI dn - nI gn)])
          have hP : va_P G.1 vwCl (lxF [mlW G q M]) H := hP
          have hD : va_D A (lxF [mlW G q M]) := hD
          refine lv_isub hx hb dL_isFair_149 ?_
          refine lv_aload_n hx hb dL_isFair_150 rfl (lv_at hl 0 rfl) ?_
          refine lv_iconst (v := 4) hx hb dL_isFair_151 (by decide) ?_
          refine ly_v (As := [.int 4]) (rest := [.int ((nI mn) - (nI dn)), .int (nI mn + nI (qr_ynm M.2.2.1) - nI dn - nI gn)]) hx hb hml hown hts (m_ofRun (l := l) (G := G) (k := k) (q := q) (M := M) (p1 := 4) (v1 := nI (qr_ynm M.2.2.1)) (sx_x_ofRun _ (w := 4) (by omega)) (qo_4 _ _ _ _ _ _ _ _ _)) 1 (sxGV (bi14 (w := Cond.methodLink RL 95 yX9_ofRun) 16 rfl) (bi12 (w := Cond.instanceMethod yX9_ofRun) 41 rfl) (bi12 (w := Cond.selects RX9 yX9_ofRun yX9_ofRun) 42 rfl) (bi1 (w := Cond.initialized RX9) 58 rfl) (bi11 (w := Cond.code yX9_ofRun cX9_ofRun 2 (some .int)) 29 rfl)) rfl (by decide +kernel) ⟨Nat.le_of_ble_eq_true rfl, Nat.le_of_ble_eq_true rfl⟩ hK hP hD hS hA hE [0] [] rfl rfl (by show List.Perm _ (List.range 1); decide) 0 0 rfl rfl rfl rfl hl rfl (Nat.le_of_ble_eq_true rfl) ⟨by show _ ≤ 0; omega, by show _ ≤ 0; omega⟩ dL_isFair_152 (fun B1 v1 hp1 H locs hP hD hS => ?_)
          obtain ⟨rfl, rfl⟩ := hp1
          show W p l e _ s m args below meth c H locs _ _ _ (F0 m 155 ls [.int (nI (qr_ynm M.2.2.1)), .int ((nI mn) - (nI dn)), .int (nI mn + nI (qr_ynm M.2.2.1) - nI dn - nI gn)])
          have hP : va_P G.1 vwCl (lxF [mlW G q M]) H := hP
          have hD : va_D A (lxF [mlW G q M]) := hD
          refine lv_iadd hx hb dL_isFair_155 ?_
          refine lv_aload_n hx hb dL_isFair_156 rfl (lv_at hl 0 rfl) ?_
          refine lv_bipush (v := 6) hx hb dL_isFair_157 (by decide) ?_
          refine ly_v (As := [.int 6]) (rest := [.int (((nI mn) - (nI dn)) + (nI (qr_ynm M.2.2.1))), .int (nI mn + nI (qr_ynm M.2.2.1) - nI dn - nI gn)]) hx hb hml hown hts (m_ofRun (l := l) (G := G) (k := k) (q := q) (M := M) (p1 := 6) (v1 := nI gn) (sx_x_ofRun _ (w := 6) (by omega)) ((qo_6 _ _ _ _ _ _ _ _ _).trans eg)) 1 (sxGV (bi14 (w := Cond.methodLink RL 95 yX9_ofRun) 16 rfl) (bi12 (w := Cond.instanceMethod yX9_ofRun) 41 rfl) (bi12 (w := Cond.selects RX9 yX9_ofRun yX9_ofRun) 42 rfl) (bi1 (w := Cond.initialized RX9) 58 rfl) (bi11 (w := Cond.code yX9_ofRun cX9_ofRun 2 (some .int)) 29 rfl)) rfl (by decide +kernel) ⟨Nat.le_of_ble_eq_true rfl, Nat.le_of_ble_eq_true rfl⟩ hK hP hD hS hA hE [0] [] rfl rfl (by show List.Perm _ (List.range 1); decide) 0 0 rfl rfl rfl rfl hl rfl (Nat.le_of_ble_eq_true rfl) ⟨by show _ ≤ 0; omega, by show _ ≤ 0; omega⟩ dL_isFair_159 (fun B1 v1 hp1 H locs hP hD hS => ?_)
          obtain ⟨rfl, rfl⟩ := hp1
          show W p l e _ s m args below meth c H locs _ _ _ (F0 m 162 ls [.int (nI gn), .int (((nI mn) - (nI dn)) + (nI (qr_ynm M.2.2.1))), .int (nI mn + nI (qr_ynm M.2.2.1) - nI dn - nI gn)])
          have hP : va_P G.1 vwCl (lxF [mlW G q M]) H := hP
          have hD : va_D A (lxF [mlW G q M]) := hD
          refine lv_isub hx hb dL_isFair_162 ?_
          refine lv_icmp_eq (tgt := 168) hx hb dL_isFair_163 (by decide) (fun c18 => ?_) (fun c18 => False.elim (by exact c18 (li_swap _ _ _ _)))
          refine lv_aload_n hx hb dL_isFair_168 rfl (lv_at hl 0 rfl) ?_
          refine lv_bipush (v := 8) hx hb dL_isFair_169 (by decide) ?_
          refine ly_v (As := [.int 8]) (rest := []) hx hb hml hown hts (m_ofRun (l := l) (G := G) (k := k) (q := q) (M := M) (p1 := 8) (v1 := (-1)) (sx_x_ofRun _ (w := 8) (by omega)) ((qo_8 _ _ _ _ _ _ _ _ _ hrn).trans hp4)) 1 (sxGV (bi14 (w := Cond.methodLink RL 95 yX9_ofRun) 16 rfl) (bi12 (w := Cond.instanceMethod yX9_ofRun) 41 rfl) (bi12 (w := Cond.selects RX9 yX9_ofRun yX9_ofRun) 42 rfl) (bi1 (w := Cond.initialized RX9) 58 rfl) (bi11 (w := Cond.code yX9_ofRun cX9_ofRun 2 (some .int)) 29 rfl)) rfl (by decide +kernel) ⟨Nat.le_of_ble_eq_true rfl, Nat.le_of_ble_eq_true rfl⟩ hK hP hD hS hA hE [0] [] rfl rfl (by show List.Perm _ (List.range 1); decide) 0 0 rfl rfl rfl rfl hl rfl (Nat.le_of_ble_eq_true rfl) ⟨by show _ ≤ 0; omega, by show _ ≤ 0; omega⟩ dL_isFair_171 (fun B1 v1 hp1 H locs hP hD hS => ?_)
          obtain ⟨rfl, rfl⟩ := hp1
          show W p l e _ s m args below meth c H locs _ _ _ (F0 m 174 ls [.int (-1)])
          have hP : va_P G.1 vwCl (lxF [mlW G q M]) H := hP
          have hD : va_D A (lxF [mlW G q M]) := hD
          refine lv_if_ge (tgt := 181) hx hb dL_isFair_174 (by decide) (fun c19 => absurd c19 (by decide)) (fun c19 => ?_)
          refine lv_iconst (v := 1) hx hb dL_isFair_177 (by decide) ?_
          refine lv_goto (tgt := 182) hx hb dL_isFair_178 (by decide) ?_
          refine lv_iload_n hx hb dL_isFair_182 rfl (lv_at hl 1 rfl) ?_
          refine lv_if_eq (tgt := 191) hx hb dL_isFair_183 (by decide) (fun c20 => absurd c20 (by decide)) (fun c20 => ?_)
          refine lv_iload_n hx hb dL_isFair_186 rfl (lv_at hl 1 rfl) ?_
          refine lv_iconst (v := 3) hx hb dL_isFair_187 (by decide) ?_
          refine lv_icmp_ne (tgt := 195) hx hb dL_isFair_188 (by decide) (fun c21 => absurd c21 (by decide)) (fun c21 => ?_)
          refine lv_iconst (v := 1) hx hb dL_isFair_191 (by decide) ?_
          refine lv_goto (tgt := 196) hx hb dL_isFair_192 (by decide) ?_
          refine lv_icmp_ne (tgt := 230) hx hb dL_isFair_196 (by decide) (fun c22 => absurd c22 (by decide)) (fun c22 => ?_)
          refine lv_aload_n hx hb dL_isFair_199 rfl (lv_at hl 0 rfl) ?_
          refine lv_iconst (v := 1) hx hb dL_isFair_200 (by decide) ?_
          refine ly_v (As := [.int 1]) (rest := []) hx hb hml hown hts (m_ofRun (l := l) (G := G) (k := k) (q := q) (M := M) (p1 := 1) (v1 := nI (qr_ystp M.2.2.1)) (sx_x_ofRun _ (w := 1) (by omega)) (qo_1 _ _ _ _ _ _ _ _ _)) 1 (sxGV (bi14 (w := Cond.methodLink RL 95 yX9_ofRun) 16 rfl) (bi12 (w := Cond.instanceMethod yX9_ofRun) 41 rfl) (bi12 (w := Cond.selects RX9 yX9_ofRun yX9_ofRun) 42 rfl) (bi1 (w := Cond.initialized RX9) 58 rfl) (bi11 (w := Cond.code yX9_ofRun cX9_ofRun 2 (some .int)) 29 rfl)) rfl (by decide +kernel) ⟨Nat.le_of_ble_eq_true rfl, Nat.le_of_ble_eq_true rfl⟩ hK hP hD hS hA hE [0] [] rfl rfl (by show List.Perm _ (List.range 1); decide) 0 0 rfl rfl rfl rfl hl rfl (Nat.le_of_ble_eq_true rfl) ⟨by show _ ≤ 0; omega, by show _ ≤ 0; omega⟩ dL_isFair_201 (fun B1 v1 hp1 H locs hP hD hS => ?_)
          obtain ⟨rfl, rfl⟩ := hp1
          show W p l e _ s m args below meth c H locs _ _ _ (F0 m 204 ls [.int (nI (qr_ystp M.2.2.1))])
          have hP : va_P G.1 vwCl (lxF [mlW G q M]) H := hP
          have hD : va_D A (lxF [mlW G q M]) := hD
          refine lv_sipush (v := 500) hx hb dL_isFair_204 (by decide) ?_
          refine lv_icmp_gt (tgt := 230) hx hb dL_isFair_207 (by decide) (fun c23 => False.elim (by have nc23 := (nI_ltI (a := 500) (b := (qr_ystp M.2.2.1)) (by omega) (by omega)).mp c23; omega)) (fun c23 => ?_)
          have nc23 := (not_congr (nI_ltI (a := 500) (b := (qr_ystp M.2.2.1)) (by omega) (by omega))).mp c23
          refine lv_iload_n hx hb dL_isFair_210 rfl (lv_at hl 1 rfl) ?_
          refine lv_iconst (v := 3) hx hb dL_isFair_211 (by decide) ?_
          refine lv_icmp_lt (tgt := 226) hx hb dL_isFair_212 (by decide) (fun c24 => absurd c24 (by decide)) (fun c24 => ?_)
          refine lv_aload_n hx hb dL_isFair_215 rfl (lv_at hl 0 rfl) ?_
          refine lv_iconst (v := 1) hx hb dL_isFair_216 (by decide) ?_
          refine ly_v (As := [.int 1]) (rest := []) hx hb hml hown hts (m_ofRun (l := l) (G := G) (k := k) (q := q) (M := M) (p1 := 1) (v1 := nI (qr_ystp M.2.2.1)) (sx_x_ofRun _ (w := 1) (by omega)) (qo_1 _ _ _ _ _ _ _ _ _)) 1 (sxGV (bi14 (w := Cond.methodLink RL 95 yX9_ofRun) 16 rfl) (bi12 (w := Cond.instanceMethod yX9_ofRun) 41 rfl) (bi12 (w := Cond.selects RX9 yX9_ofRun yX9_ofRun) 42 rfl) (bi1 (w := Cond.initialized RX9) 58 rfl) (bi11 (w := Cond.code yX9_ofRun cX9_ofRun 2 (some .int)) 29 rfl)) rfl (by decide +kernel) ⟨Nat.le_of_ble_eq_true rfl, Nat.le_of_ble_eq_true rfl⟩ hK hP hD hS hA hE [0] [] rfl rfl (by show List.Perm _ (List.range 1); decide) 0 0 rfl rfl rfl rfl hl rfl (Nat.le_of_ble_eq_true rfl) ⟨by show _ ≤ 0; omega, by show _ ≤ 0; omega⟩ dL_isFair_217 (fun B1 v1 hp1 H locs hP hD hS => ?_)
          obtain ⟨rfl, rfl⟩ := hp1
          show W p l e _ s m args below meth c H locs _ _ _ (F0 m 220 ls [.int (nI (qr_ystp M.2.2.1))])
          have hP : va_P G.1 vwCl (lxF [mlW G q M]) H := hP
          have hD : va_D A (lxF [mlW G q M]) := hD
          refine lv_sipush (v := 500) hx hb dL_isFair_220 (by decide) ?_
          refine lv_icmp_ne (tgt := 230) hx hb dL_isFair_223 (by decide) (fun c25 => False.elim (by have nc25 := (not_congr (nI_eq (a := (qr_ystp M.2.2.1)) (b := 500) (by omega) (by omega))).mp c25; omega)) (fun c25 => ?_)
          have nc25 := (nI_eq (a := (qr_ystp M.2.2.1)) (b := 500) (by omega) (by omega)).mp c25
          refine lv_iconst (v := 1) hx hb dL_isFair_226 (by decide) ?_
          refine lv_goto (tgt := 231) hx hb dL_isFair_227 (by decide) ?_
          exact ly_ri hx hb hr hlk hP hD hS rfl (⟨rfl, rfl⟩) (by omega) (by omega) dL_isFair_231
      · have nc2 := (not_congr (nI_leI (a := (min 60 sn)) (b := i) (by omega) (by omega))).mp c2
        refine lv_iload_n hx hb dL_isFair_26 rfl (lv_at hl 2 rfl) ?_
        refine lv_aload_n hx hb dL_isFair_27 rfl (lv_at hl 0 rfl) ?_
        refine lv_iload hx hb dL_isFair_28 (lv_at hl 5 rfl) ?_
        refine lv_iconst (v := 0) hx hb dL_isFair_30 (by decide) ?_
        refine ly_v (As := [.int (nI i), .int 0]) (rest := [.int (nI (qr_ct (qr_yzs M.2.2.1) 1 i))]) hx hb hml hown hts (m_told0 (l := l) (G := G) (k := k) (q := q) (M := M) (j := i) es (by omega) (by omega) (by omega)) 2 (sxGV (bi14 (w := Cond.methodLink RL 126 yX9_told) 17 rfl) (bi12 (w := Cond.instanceMethod yX9_told) 45 rfl) (bi12 (w := Cond.selects RX9 yX9_told yX9_told) 46 rfl) (bi1 (w := Cond.initialized RX9) 58 rfl) (bi11 (w := Cond.code yX9_told cX9_told 3 (some .int)) 46 rfl)) rfl (by decide +kernel) ⟨Nat.le_of_ble_eq_true rfl, Nat.le_of_ble_eq_true rfl⟩ hK hP hD hS hA hE [0] [] rfl rfl (by show List.Perm _ (List.range 1); decide) 0 0 rfl rfl rfl rfl hl rfl (Nat.le_of_ble_eq_true rfl) ⟨by show _ ≤ 0; omega, by show _ ≤ 0; omega⟩ dL_isFair_31 (fun B1 v1 hp1 H locs hP hD hS => ?_)
        obtain ⟨rfl, rfl⟩ := hp1
        show W p l e _ s m args below meth c H locs _ _ _ (F0 m 34 ls [.int (qr_yzs M.2.2.1 i), .int (nI (qr_ct (qr_yzs M.2.2.1) 1 i))])
        have hP : va_P G.1 vwCl (lxF [mlW G q M]) H := hP
        have hD : va_D A (lxF [mlW G q M]) := hD
        refine lv_iconst (v := 1) hx hb dL_isFair_34 (by decide) ?_
        refine lv_icmp_ne (tgt := 42) hx hb dL_isFair_35 (by decide) (fun c26 => ?_) (fun c26 => ?_)
        · refine lv_iconst (v := 0) hx hb dL_isFair_42 (by decide) ?_
          refine lv_iadd hx hb dL_isFair_43 ?_
          rw [show ((nI (qr_ct (qr_yzs M.2.2.1) 1 i)) + 0 : Int32) = nI (qr_ct (qr_yzs M.2.2.1) 1 (i + 1)) from (by rw [li_ct0 c26]; exact Int32.add_zero _)]
          refine lv_istore_n (lv' := [(2, .int (nI (qr_ct (qr_yzs M.2.2.1) 1 (i + 1)))), (0, .ref (q 0)), (1, .int 3), (3, .int (nI (qr_ct (qr_yzs M.2.2.1) 2 i))), (4, .int (nI (min 60 sn))), (5, .int (nI i))]) hx hb dL_isFair_44 rfl hl (by decide) rfl (fun ls hl => ?_)
          refine lv_iload_n hx hb dL_isFair_45 rfl (lv_at hl 3 rfl) ?_
          refine lv_aload_n hx hb dL_isFair_46 rfl (lv_at hl 1 rfl) ?_
          refine lv_iload hx hb dL_isFair_47 (lv_at hl 5 rfl) ?_
          refine lv_iconst (v := 0) hx hb dL_isFair_49 (by decide) ?_
          refine ly_v (As := [.int (nI i), .int 0]) (rest := [.int (nI (qr_ct (qr_yzs M.2.2.1) 2 i))]) hx hb hml hown hts (m_told0 (l := l) (G := G) (k := k) (q := q) (M := M) (j := i) es (by omega) (by omega) (by omega)) 2 (sxGV (bi14 (w := Cond.methodLink RL 126 yX9_told) 17 rfl) (bi12 (w := Cond.instanceMethod yX9_told) 45 rfl) (bi12 (w := Cond.selects RX9 yX9_told yX9_told) 46 rfl) (bi1 (w := Cond.initialized RX9) 58 rfl) (bi11 (w := Cond.code yX9_told cX9_told 3 (some .int)) 46 rfl)) rfl (by decide +kernel) ⟨Nat.le_of_ble_eq_true rfl, Nat.le_of_ble_eq_true rfl⟩ hK hP hD hS hA hE [0] [] rfl rfl (by show List.Perm _ (List.range 1); decide) 0 0 rfl rfl rfl rfl hl rfl (Nat.le_of_ble_eq_true rfl) ⟨by show _ ≤ 0; omega, by show _ ≤ 0; omega⟩ dL_isFair_50 (fun B1 v1 hp1 H locs hP hD hS => ?_)
          obtain ⟨rfl, rfl⟩ := hp1
          show W p l e _ s m args below meth c H locs _ _ _ (F0 m 53 ls [.int (qr_yzs M.2.2.1 i), .int (nI (qr_ct (qr_yzs M.2.2.1) 2 i))])
          have hP : va_P G.1 vwCl (lxF [mlW G q M]) H := hP
          have hD : va_D A (lxF [mlW G q M]) := hD
          refine lv_iconst (v := 2) hx hb dL_isFair_53 (by decide) ?_
          refine lv_icmp_ne (tgt := 61) hx hb dL_isFair_54 (by decide) (fun c27 => ?_) (fun c27 => ?_)
          · refine lv_iconst (v := 0) hx hb dL_isFair_61 (by decide) ?_
            refine lv_iadd hx hb dL_isFair_62 ?_
            rw [show ((nI (qr_ct (qr_yzs M.2.2.1) 2 i)) + 0 : Int32) = nI (qr_ct (qr_yzs M.2.2.1) 2 (i + 1)) from (by rw [li_ct0 c27]; exact Int32.add_zero _)]
            refine lv_istore_n (lv' := [(3, .int (nI (qr_ct (qr_yzs M.2.2.1) 2 (i + 1)))), (2, .int (nI (qr_ct (qr_yzs M.2.2.1) 1 (i + 1)))), (0, .ref (q 0)), (1, .int 3), (4, .int (nI (min 60 sn))), (5, .int (nI i))]) hx hb dL_isFair_63 rfl hl (by decide) rfl (fun ls hl => ?_)
            refine lv_iinc (v := nI (i + 1)) (lv' := [(5, .int (nI (i + 1))), (3, .int (nI (qr_ct (qr_yzs M.2.2.1) 2 (i + 1)))), (2, .int (nI (qr_ct (qr_yzs M.2.2.1) 1 (i + 1)))), (0, .ref (q 0)), (1, .int 3), (4, .int (nI (min 60 sn)))]) hx hb dL_isFair_64 hl (k := 5) rfl (nI_1 i) (by decide) rfl (fun ls hl => ?_)
            refine lv_goto (tgt := 19) hx hb dL_isFair_67 (by decide) ?_
            exact ih1 (i + 1) (by omega) (by omega) _ _ (by omega) (by omega) _ _ hP hD hS ls (lv_sub hl [3, 4, 2, 1, 5, 0] rfl)
          · refine lv_iconst (v := 1) hx hb dL_isFair_57 (by decide) ?_
            refine lv_goto (tgt := 62) hx hb dL_isFair_58 (by decide) ?_
            refine lv_iadd hx hb dL_isFair_62 ?_
            rw [show ((nI (qr_ct (qr_yzs M.2.2.1) 2 i)) + 1 : Int32) = nI (qr_ct (qr_yzs M.2.2.1) 2 (i + 1)) from (by rw [li_ct1 c27]; exact nI_1 _)]
            refine lv_istore_n (lv' := [(3, .int (nI (qr_ct (qr_yzs M.2.2.1) 2 (i + 1)))), (2, .int (nI (qr_ct (qr_yzs M.2.2.1) 1 (i + 1)))), (0, .ref (q 0)), (1, .int 3), (4, .int (nI (min 60 sn))), (5, .int (nI i))]) hx hb dL_isFair_63 rfl hl (by decide) rfl (fun ls hl => ?_)
            refine lv_iinc (v := nI (i + 1)) (lv' := [(5, .int (nI (i + 1))), (3, .int (nI (qr_ct (qr_yzs M.2.2.1) 2 (i + 1)))), (2, .int (nI (qr_ct (qr_yzs M.2.2.1) 1 (i + 1)))), (0, .ref (q 0)), (1, .int 3), (4, .int (nI (min 60 sn)))]) hx hb dL_isFair_64 hl (k := 5) rfl (nI_1 i) (by decide) rfl (fun ls hl => ?_)
            refine lv_goto (tgt := 19) hx hb dL_isFair_67 (by decide) ?_
            exact ih1 (i + 1) (by omega) (by omega) _ _ (by omega) (by omega) _ _ hP hD hS ls (lv_sub hl [3, 4, 2, 1, 5, 0] rfl)
        · refine lv_iconst (v := 1) hx hb dL_isFair_38 (by decide) ?_
          refine lv_goto (tgt := 43) hx hb dL_isFair_39 (by decide) ?_
          refine lv_iadd hx hb dL_isFair_43 ?_
          rw [show ((nI (qr_ct (qr_yzs M.2.2.1) 1 i)) + 1 : Int32) = nI (qr_ct (qr_yzs M.2.2.1) 1 (i + 1)) from (by rw [li_ct1 c26]; exact nI_1 _)]
          refine lv_istore_n (lv' := [(2, .int (nI (qr_ct (qr_yzs M.2.2.1) 1 (i + 1)))), (0, .ref (q 0)), (1, .int 3), (3, .int (nI (qr_ct (qr_yzs M.2.2.1) 2 i))), (4, .int (nI (min 60 sn))), (5, .int (nI i))]) hx hb dL_isFair_44 rfl hl (by decide) rfl (fun ls hl => ?_)
          refine lv_iload_n hx hb dL_isFair_45 rfl (lv_at hl 3 rfl) ?_
          refine lv_aload_n hx hb dL_isFair_46 rfl (lv_at hl 1 rfl) ?_
          refine lv_iload hx hb dL_isFair_47 (lv_at hl 5 rfl) ?_
          refine lv_iconst (v := 0) hx hb dL_isFair_49 (by decide) ?_
          refine ly_v (As := [.int (nI i), .int 0]) (rest := [.int (nI (qr_ct (qr_yzs M.2.2.1) 2 i))]) hx hb hml hown hts (m_told0 (l := l) (G := G) (k := k) (q := q) (M := M) (j := i) es (by omega) (by omega) (by omega)) 2 (sxGV (bi14 (w := Cond.methodLink RL 126 yX9_told) 17 rfl) (bi12 (w := Cond.instanceMethod yX9_told) 45 rfl) (bi12 (w := Cond.selects RX9 yX9_told yX9_told) 46 rfl) (bi1 (w := Cond.initialized RX9) 58 rfl) (bi11 (w := Cond.code yX9_told cX9_told 3 (some .int)) 46 rfl)) rfl (by decide +kernel) ⟨Nat.le_of_ble_eq_true rfl, Nat.le_of_ble_eq_true rfl⟩ hK hP hD hS hA hE [0] [] rfl rfl (by show List.Perm _ (List.range 1); decide) 0 0 rfl rfl rfl rfl hl rfl (Nat.le_of_ble_eq_true rfl) ⟨by show _ ≤ 0; omega, by show _ ≤ 0; omega⟩ dL_isFair_50 (fun B1 v1 hp1 H locs hP hD hS => ?_)
          obtain ⟨rfl, rfl⟩ := hp1
          show W p l e _ s m args below meth c H locs _ _ _ (F0 m 53 ls [.int (qr_yzs M.2.2.1 i), .int (nI (qr_ct (qr_yzs M.2.2.1) 2 i))])
          have hP : va_P G.1 vwCl (lxF [mlW G q M]) H := hP
          have hD : va_D A (lxF [mlW G q M]) := hD
          refine lv_iconst (v := 2) hx hb dL_isFair_53 (by decide) ?_
          refine lv_icmp_ne (tgt := 61) hx hb dL_isFair_54 (by decide) (fun c28 => ?_) (fun c28 => ?_)
          · refine lv_iconst (v := 0) hx hb dL_isFair_61 (by decide) ?_
            refine lv_iadd hx hb dL_isFair_62 ?_
            rw [show ((nI (qr_ct (qr_yzs M.2.2.1) 2 i)) + 0 : Int32) = nI (qr_ct (qr_yzs M.2.2.1) 2 (i + 1)) from (by rw [li_ct0 c28]; exact Int32.add_zero _)]
            refine lv_istore_n (lv' := [(3, .int (nI (qr_ct (qr_yzs M.2.2.1) 2 (i + 1)))), (2, .int (nI (qr_ct (qr_yzs M.2.2.1) 1 (i + 1)))), (0, .ref (q 0)), (1, .int 3), (4, .int (nI (min 60 sn))), (5, .int (nI i))]) hx hb dL_isFair_63 rfl hl (by decide) rfl (fun ls hl => ?_)
            refine lv_iinc (v := nI (i + 1)) (lv' := [(5, .int (nI (i + 1))), (3, .int (nI (qr_ct (qr_yzs M.2.2.1) 2 (i + 1)))), (2, .int (nI (qr_ct (qr_yzs M.2.2.1) 1 (i + 1)))), (0, .ref (q 0)), (1, .int 3), (4, .int (nI (min 60 sn)))]) hx hb dL_isFair_64 hl (k := 5) rfl (nI_1 i) (by decide) rfl (fun ls hl => ?_)
            refine lv_goto (tgt := 19) hx hb dL_isFair_67 (by decide) ?_
            exact ih1 (i + 1) (by omega) (by omega) _ _ (by omega) (by omega) _ _ hP hD hS ls (lv_sub hl [3, 4, 2, 1, 5, 0] rfl)
          · refine lv_iconst (v := 1) hx hb dL_isFair_57 (by decide) ?_
            refine lv_goto (tgt := 62) hx hb dL_isFair_58 (by decide) ?_
            refine lv_iadd hx hb dL_isFair_62 ?_
            rw [show ((nI (qr_ct (qr_yzs M.2.2.1) 2 i)) + 1 : Int32) = nI (qr_ct (qr_yzs M.2.2.1) 2 (i + 1)) from (by rw [li_ct1 c28]; exact nI_1 _)]
            refine lv_istore_n (lv' := [(3, .int (nI (qr_ct (qr_yzs M.2.2.1) 2 (i + 1)))), (2, .int (nI (qr_ct (qr_yzs M.2.2.1) 1 (i + 1)))), (0, .ref (q 0)), (1, .int 3), (4, .int (nI (min 60 sn))), (5, .int (nI i))]) hx hb dL_isFair_63 rfl hl (by decide) rfl (fun ls hl => ?_)
            refine lv_iinc (v := nI (i + 1)) (lv' := [(5, .int (nI (i + 1))), (3, .int (nI (qr_ct (qr_yzs M.2.2.1) 2 (i + 1)))), (2, .int (nI (qr_ct (qr_yzs M.2.2.1) 1 (i + 1)))), (0, .ref (q 0)), (1, .int 3), (4, .int (nI (min 60 sn)))]) hx hb dL_isFair_64 hl (k := 5) rfl (nI_1 i) (by decide) rfl (fun ls hl => ?_)
            refine lv_goto (tgt := 19) hx hb dL_isFair_67 (by decide) ?_
            exact ih1 (i + 1) (by omega) (by omega) _ _ (by omega) (by omega) _ _ hP hD hS ls (lv_sub hl [3, 4, 2, 1, 5, 0] rfl)
  exact LP19_1 61 0 (by omega) (Nat.zero_le _) _ _ (by omega) (by omega) _ _ hP hD hS ls (lv_sub hl [4, 5, 3, 2, 1, 0] rfl)

theorem t_L_isFair (l : Launch) (G : sxG) (k : lxC) (q : Nat → Nat) (M : mlS) (n : Nat) (hn : n ≤ 40) (hZ : qr_Z n M.2.2.1) (hrn : ¬ M.2.2.2.1 = 0) : lyM l yL_isFair wdL_isFair 5 106 0 0 G k [mlW G q M] [.ref (q 0), .int (qr_yoco M.2.2.1)] (fun B v => B = [mlW G q M] ∧ v = some (.int 1)) := by
  obtain ⟨sn, mn, dn, gn, es, em, ed, eg, ls1, ls2, ls3, lg, lnm, lst, hct, hoc⟩ := hZ
  rcases hoc with ⟨h0, h1, h2⟩ | ⟨h0, h1, h2⟩ | ⟨h0, ⟨t4, ht4, h1⟩, h2⟩ | ⟨h0, t4, ht4, h1⟩
  · rw [h0]
    exact t_L_isFair3 l G k q M sn mn dn gn 0 hrn es em ed eg ls1 ls2 ls3 lg lnm lst hct h1 h2
  · rw [h0]
    exact t_L_isFair0 l G k q M sn mn dn gn 0 hrn es em ed eg ls1 ls2 ls3 lg lnm lst hct h1 h2
  · rw [h0]
    exact t_L_isFair1 l G k q M sn mn dn gn t4 hrn es em ed eg ls1 ls2 ls3 lg lnm lst hct (by omega) h1 h2
  · rw [h0]
    exact t_L_isFair2 l G k q M sn mn dn gn t4 hrn es em ed eg ls1 ls2 ls3 lg lnm lst hct (by omega) h1
