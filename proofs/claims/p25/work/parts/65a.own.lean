/-- what below gives -/
def lbl (x : Int32) (n : Nat) : Nat := x.toBitVec.toNat % 2 ^ 31 % n
theorem lbl_lt (x : Int32) {n : Nat} (h : 0 < n) : lbl x n < n := Nat.mod_lt _ h

abbrev wdL_below : List Cond := Cond.code yL_below cL_below 2 (some .int) :: bwC
set_option maxHeartbeats 4000000 in
set_option maxRecDepth 100000 in
theorem t_L_below (l : Launch) (G : sxG) (k : lxC) (x : Int32) (n : Nat) (hn : 0 < n) (hn2 : n < 2 ^ 31) : lyM l yL_below wdL_below 0 0 0 0 G k [] [.int x, .int (nI n)] (fun B v => B = [] ∧ v = some (.int (nI (lbl x n)))) := by
  refine lyM.of (cc := cL_below) (maxL := 2) (rt := (some .int)) (by decide) rfl (Nat.le_of_ble_eq_true rfl) ?_
  intro p e s m args below meth c ⟨hx, hb, hr, hml, hown, hlk, hts, hK⟩ hnm A hA hP hD hS hE ls hl
  have hl : lv_has ls 2 [(0, .int x), (1, .int (nI n))] := hl
  refine lv_iload_n hx hb dL_below_0 rfl (lv_at hl 0 rfl) ?_
  refine lv_ldc (v := 2147483647) hx hb hown (bw13 (w := Cond.constant RL 7 (2147483647)) hts 28 rfl) dL_below_1 ?_
  refine lv_iand hx hb dL_below_3 ?_
  rw [pk_and x (m := 2147483647) 31 (by decide +kernel)]
  have hj : x.toBitVec.toNat % 2 ^ 31 < 2 ^ 31 := Nat.mod_lt _ (by decide)
  refine lv_iload_n hx hb dL_below_4 rfl (lv_at hl 1 rfl) ?_
  refine lv_irem hx hb dL_below_5 (nI_ne0 (by omega) (by omega)) ?_
  rw [show (nI (x.toBitVec.toNat % 2 ^ 31)) - (nI (x.toBitVec.toNat % 2 ^ 31)) / (nI n) * (nI n) = nI ((x.toBitVec.toNat % 2 ^ 31) % n) from pk_rem (d := n) (by omega) (by omega) (by omega)]
  exact ly_ri hx hb hr hlk hP hD hS rfl (⟨rfl, rfl⟩) (by omega) (by omega) dL_below_6

abbrev wdL_cell : List Cond := Cond.code yL_cell cL_cell 2 (some .int) :: bwC
set_option maxHeartbeats 4000000 in
set_option maxRecDepth 100000 in
theorem t_L_cell (l : Launch) (G : sxG) (k : lxC) (i : Nat) (hi : i < 1000) (hk : k.2.2.1 ≤ 260) : lyM l yL_cell wdL_cell 0 0 0 0 G k [] [.ref k.2.1, .int (nI i)] (fun B v => B = [] ∧ ∃ x : Int32, v = some (.int x)) := by
  refine lyM.of (cc := cL_cell) (maxL := 2) (rt := (some .int)) (by decide) rfl (Nat.le_of_ble_eq_true rfl) ?_
  intro p e s m args below meth c ⟨hx, hb, hr, hml, hown, hlk, hts, hK⟩ hnm A hA hP hD hS hE ls hl
  have hl : lv_has ls 2 [(0, .ref k.2.1), (1, .int (nI i))] := hl
  refine lv_iload_n hx hb dL_cell_0 rfl (lv_at hl 1 rfl) ?_
  refine lv_aload_n hx hb dL_cell_1 rfl (lv_at hl 0 rfl) ?_
  refine lb_slen hx hb hE hS dL_cell_2 ?_
  refine lv_icmp_ge (tgt := 12) hx hb dL_cell_3 (by decide) (fun c1 => ?_) (fun c1 => ?_)
  · have nc1 := (nI_leI (a := k.2.2.1) (b := i) (by omega) (by omega)).mp c1
    refine lv_ldc (v := 790386105) hx hb hown (bw13 (w := Cond.constant RL 8 (790386105)) hts 30 rfl) dL_cell_12 ?_
    refine lv_iload_n hx hb dL_cell_14 rfl (lv_at hl 1 rfl) ?_
    refine lv_iconst (v := 3) hx hb dL_cell_15 (by decide) ?_
    refine lv_iadd hx hb dL_cell_16 ?_
    rw [show (nI i) + 3 = nI (i + 3) from nI_add i 3]
    refine lv_imul hx hb dL_cell_17 ?_
    rw [show 790386105 * (nI (i + 3)) = nI (790386105 * (i + 3)) from pk_mul 790386105 (i + 3)]
    exact ly_ri hx hb hr hlk hP hD hS rfl (⟨rfl, _, rfl⟩) (by omega) (by omega) dL_cell_18
  · have nc1 := (not_congr (nI_leI (a := k.2.2.1) (b := i) (by omega) (by omega))).mp c1
    refine lv_aload_n hx hb dL_cell_6 rfl (lv_at hl 0 rfl) ?_
    refine lv_iload_n hx hb dL_cell_7 rfl (lv_at hl 1 rfl) ?_
    refine lb_sld (v := k.2.2.2 i) hx hb hE hS (i := nI i) (vp_in_nI (n := i) (by omega) (by omega)) (congrArg _ (nI_clamp (by omega))) dL_cell_8 ?_
    refine lv_goto (tgt := 18) hx hb dL_cell_9 (by decide) ?_
    exact ly_ri hx hb hr hlk hP hD hS rfl (⟨rfl, _, rfl⟩) (by omega) (by omega) dL_cell_18

abbrev wdX10_kind : List Cond := Cond.code yX10_kind cX10_kind 2 (some .int) :: bwC
set_option maxHeartbeats 4000000 in
set_option maxRecDepth 100000 in
theorem t_X10_kind (l : Launch) (G : sxG) (k : lxC) (o ok ol on : Nat) (fk : Nat → Int32) (pl : Nat) (hp : pl < 24) : lyM l yX10_kind wdX10_kind 0 0 0 0 G k [[(o, .inr (10, [.ref ok, .ref ol, .ref on]))], [(ok, .inl (G.2.1, 8, .inl fk))]] [.ref o, .int (nI pl)] (fun B v => B = [[(o, .inr (10, [.ref ok, .ref ol, .ref on]))], [(ok, .inl (G.2.1, 8, .inl fk))]] ∧ v = some (.int (qp_kd 8 fk pl))) := by
  refine lyM.of (cc := cX10_kind) (maxL := 2) (rt := (some .int)) (by decide) rfl (Nat.le_of_ble_eq_true rfl) ?_
  intro p e s m args below meth c ⟨hx, hb, hr, hml, hown, hlk, hts, hK⟩ hnm A hA hP hD hS hE ls hl
  have hl : lv_has ls 2 [(0, .ref o), (1, .int (nI pl))] := hl
  refine lv_iload_n hx hb dX10_kind_0 rfl (lv_at hl 1 rfl) ?_
  refine lv_if_lt (tgt := 15) hx hb dX10_kind_1 (by decide) (fun c1 => False.elim (by have nc1 := (nI_ltI (a := pl) (b := 0) (by omega) (by omega)).mp c1; exact nI_pos (by omega) c1)) (fun c1 => ?_)
  have nc1 := (not_congr (nI_ltI (a := pl) (b := 0) (by omega) (by omega))).mp c1
  refine lv_iload_n hx hb dX10_kind_4 rfl (lv_at hl 1 rfl) ?_
  refine lv_iconst (v := 3) hx hb dX10_kind_5 (by decide) ?_
  refine lv_aload_n hx hb dX10_kind_6 rfl (lv_at hl 0 rfl) ?_
  refine lb_get (ci := 10) (v := .ref ok) (C := RX10) (T := TX10) (N := 3) hx hb hts owX10 hown hK hP 0 0 rfl rfl rfl 0 (by decide) (bw13 (w := Cond.fieldLink RX10 7 "DropflagMillLaw$Own" "kinds" "[I") hts 10 rfl) (fun _ h9 => h9) rfl dX10_kind_7 ?_
  refine lb_alen (v := 8) hx hb hK hP 1 0 rfl rfl rfl dX10_kind_10 ?_
  refine lv_imul hx hb dX10_kind_11 ?_
  rw [show (3 * 8 : Int32) = 24 from by decide]
  refine lv_icmp_lt (tgt := 17) hx hb dX10_kind_12 (by decide) (fun c2 => ?_) (fun c2 => False.elim (by have nc2 := (not_congr (nI_ltI (a := pl) (b := 24) (by omega) (by omega))).mp c2; omega))
  have nc2 := (nI_ltI (a := pl) (b := 24) (by omega) (by omega)).mp c2
  refine lv_iload_n hx hb dX10_kind_17 rfl (lv_at hl 1 rfl) ?_
  refine lv_iconst (v := 3) hx hb dX10_kind_18 (by decide) ?_
  refine lv_irem hx hb dX10_kind_19 (by decide) ?_
  rw [show (nI pl) - (nI pl) / 3 * 3 = nI (pl % 3) from pk_rem (d := 3) (by omega) (by omega) (by omega)]
  refine lv_if_ne (tgt := 32) hx hb dX10_kind_20 (by decide) (fun c3 => ?_) (fun c3 => ?_)
  · have nc3 := (not_congr (nI_eq (a := (pl % 3)) (b := 0) (by omega) (by omega))).mp c3
    refine lv_aload_n hx hb dX10_kind_32 rfl (lv_at hl 0 rfl) ?_
    refine lb_get (ci := 10) (v := .ref ok) (C := RX10) (T := TX10) (N := 3) hx hb hts owX10 hown hK hP 0 0 rfl rfl rfl 0 (by decide) (bw13 (w := Cond.fieldLink RX10 7 "DropflagMillLaw$Own" "kinds" "[I") hts 10 rfl) (fun _ h9 => h9) rfl dX10_kind_33 ?_
    refine lv_iload_n hx hb dX10_kind_36 rfl (lv_at hl 1 rfl) ?_
    refine lv_iconst (v := 3) hx hb dX10_kind_37 (by decide) ?_
    refine lv_idiv hx hb dX10_kind_38 (by decide) ?_
    rw [show (nI pl) / 3 = nI (pl / 3) from pk_div (d := 3) (by omega) (by omega) (by omega)]
    refine lb_iald (v := fk (pl / 3)) hx hb hK hP 1 0 rfl rfl (i := nI (pl / 3)) (vp_in_nI (n := (pl / 3)) (by omega) (by omega)) (congrArg _ (nI_clamp (by omega))) dX10_kind_39 ?_
    refine lv_iconst (v := 2) hx hb dX10_kind_40 (by decide) ?_
    refine lv_icmp_ne (tgt := 48) hx hb dX10_kind_41 (by decide) (fun c4 => ?_) (fun c4 => ?_)
    · refine lv_iconst (v := (-1)) hx hb dX10_kind_48 (by decide) ?_
      exact ly_ri hx hb hr hlk hP hD hS rfl (⟨rfl, congrArg (fun x => some (Value.int x)) (by unfold qp_kd; rw [if_pos (by omega), if_neg (by omega), if_neg c4])⟩) (by omega) (by omega) dX10_kind_49
    · refine lv_iconst (v := 1) hx hb dX10_kind_44 (by decide) ?_
      refine lv_goto (tgt := 49) hx hb dX10_kind_45 (by decide) ?_
      exact ly_ri hx hb hr hlk hP hD hS rfl (⟨rfl, congrArg (fun x => some (Value.int x)) (by unfold qp_kd; rw [if_pos (by omega), if_neg (by omega), if_pos c4])⟩) (by omega) (by omega) dX10_kind_49
  · have nc3 := (nI_eq (a := (pl % 3)) (b := 0) (by omega) (by omega)).mp c3
    refine lv_aload_n hx hb dX10_kind_23 rfl (lv_at hl 0 rfl) ?_
    refine lb_get (ci := 10) (v := .ref ok) (C := RX10) (T := TX10) (N := 3) hx hb hts owX10 hown hK hP 0 0 rfl rfl rfl 0 (by decide) (bw13 (w := Cond.fieldLink RX10 7 "DropflagMillLaw$Own" "kinds" "[I") hts 10 rfl) (fun _ h9 => h9) rfl dX10_kind_24 ?_
    refine lv_iload_n hx hb dX10_kind_27 rfl (lv_at hl 1 rfl) ?_
    refine lv_iconst (v := 3) hx hb dX10_kind_28 (by decide) ?_
    refine lv_idiv hx hb dX10_kind_29 (by decide) ?_
    rw [show (nI pl) / 3 = nI (pl / 3) from pk_div (d := 3) (by omega) (by omega) (by omega)]
    refine lb_iald (v := fk (pl / 3)) hx hb hK hP 1 0 rfl rfl (i := nI (pl / 3)) (vp_in_nI (n := (pl / 3)) (by omega) (by omega)) (congrArg _ (nI_clamp (by omega))) dX10_kind_30 ?_
    exact ly_ri hx hb hr hlk hP hD hS rfl (⟨rfl, congrArg (fun x => some (Value.int x)) (by unfold qp_kd; rw [if_pos (by omega), if_pos (by omega)])⟩) (by omega) (by omega) dX10_kind_31

abbrev wdX10_isOwned : List Cond := Cond.code yX10_isOwned cX10_isOwned 2 (some .boolean) :: bwC
set_option maxHeartbeats 4000000 in
set_option maxRecDepth 100000 in
theorem t_X10_isOwned (l : Launch) (G : sxG) (k : lxC) (o ok ol on : Nat) (fk : Nat → Int32) (pl : Nat) (hp : pl < 24) : lyM l yX10_isOwned wdX10_isOwned 1 21 0 0 G k [[(o, .inr (10, [.ref ok, .ref ol, .ref on]))], [(ok, .inl (G.2.1, 8, .inl fk))]] [.ref o, .int (nI pl)] (fun B v => B = [[(o, .inr (10, [.ref ok, .ref ol, .ref on]))], [(ok, .inl (G.2.1, 8, .inl fk))]] ∧ ∃ x : Int32, v = some (.int x) ∧ ((qp_kd 8 fk pl = 1 ∨ qp_kd 8 fk pl = 2 ∨ qp_kd 8 fk pl = 5) ∧ x = 1 ∨ ¬ (qp_kd 8 fk pl = 1 ∨ qp_kd 8 fk pl = 2 ∨ qp_kd 8 fk pl = 5) ∧ x = 0)) := by
  refine lyM.of (cc := cX10_isOwned) (maxL := 2) (rt := (some .boolean)) (by decide) rfl (Nat.le_of_ble_eq_true rfl) ?_
  intro p e s m args below meth c ⟨hx, hb, hr, hml, hown, hlk, hts, hK⟩ hnm A hA hP hD hS hE ls hl
  have hl : lv_has ls 2 [(0, .ref o), (1, .int (nI pl))] := hl
  refine lv_aload_n hx hb dX10_isOwned_0 rfl (lv_at hl 0 rfl) ?_
  refine lv_iload_n hx hb dX10_isOwned_1 rfl (lv_at hl 1 rfl) ?_
  refine ly_v (As := [.int (nI pl)]) (rest := []) hx hb hml hown hts (t_X10_kind l G k o ok ol on fk pl (by omega)) 1 (sxGV (bi13 (w := Cond.methodLink RX10 27 yX10_kind) 18 rfl) (bi13 (w := Cond.instanceMethod yX10_kind) 19 rfl) (bi13 (w := Cond.selects RX10 yX10_kind yX10_kind) 20 rfl) (bi13 (w := Cond.initialized RX10) 21 rfl) (bi13 (w := Cond.code yX10_kind cX10_kind 2 (some .int)) 16 rfl)) rfl (by decide +kernel) ⟨Nat.le_of_ble_eq_true rfl, Nat.le_of_ble_eq_true rfl⟩ hK hP hD hS hA hE [0, 1] [] rfl rfl (by show List.Perm _ (List.range 2); decide) 0 0 rfl rfl rfl rfl hl rfl (Nat.le_of_ble_eq_true rfl) ⟨by show _ ≤ 0; omega, by show _ ≤ 0; omega⟩ dX10_isOwned_2 (fun B1 v1 hp1 H locs hP hD hS => ?_)
  obtain ⟨rfl, rfl⟩ := hp1
  show W p l e _ s m args below meth c H locs _ _ _ (F0 m 5 ls [.int (qp_kd 8 fk pl)])
  have hP : va_P G.1 vwCl (lxF [[(o, .inr (10, [.ref ok, .ref ol, .ref on]))], [(ok, .inl (G.2.1, 8, .inl fk))]]) H := hP
  have hD : va_D A (lxF [[(o, .inr (10, [.ref ok, .ref ol, .ref on]))], [(ok, .inl (G.2.1, 8, .inl fk))]]) := hD
  refine lv_iconst (v := 1) hx hb dX10_isOwned_5 (by decide) ?_
  refine lv_icmp_eq (tgt := 27) hx hb dX10_isOwned_6 (by decide) (fun c1 => ?_) (fun c1 => ?_)
  · refine lv_iconst (v := 1) hx hb dX10_isOwned_27 (by decide) ?_
    refine lv_goto (tgt := 32) hx hb dX10_isOwned_28 (by decide) ?_
    exact ly_ri hx hb hr hlk hP hD hS rfl (⟨rfl, _, rfl, Or.inl ⟨by first | exact Or.inl c1 | exact Or.inr (Or.inl c1) | exact Or.inr (Or.inr c1), rfl⟩⟩) (by omega) (by omega) dX10_isOwned_32
  · refine lv_aload_n hx hb dX10_isOwned_9 rfl (lv_at hl 0 rfl) ?_
    refine lv_iload_n hx hb dX10_isOwned_10 rfl (lv_at hl 1 rfl) ?_
    refine ly_v (As := [.int (nI pl)]) (rest := []) hx hb hml hown hts (t_X10_kind l G k o ok ol on fk pl (by omega)) 1 (sxGV (bi13 (w := Cond.methodLink RX10 27 yX10_kind) 18 rfl) (bi13 (w := Cond.instanceMethod yX10_kind) 19 rfl) (bi13 (w := Cond.selects RX10 yX10_kind yX10_kind) 20 rfl) (bi13 (w := Cond.initialized RX10) 21 rfl) (bi13 (w := Cond.code yX10_kind cX10_kind 2 (some .int)) 16 rfl)) rfl (by decide +kernel) ⟨Nat.le_of_ble_eq_true rfl, Nat.le_of_ble_eq_true rfl⟩ hK hP hD hS hA hE [0, 1] [] rfl rfl (by show List.Perm _ (List.range 2); decide) 0 0 rfl rfl rfl rfl hl rfl (Nat.le_of_ble_eq_true rfl) ⟨by show _ ≤ 0; omega, by show _ ≤ 0; omega⟩ dX10_isOwned_11 (fun B1 v1 hp1 H locs hP hD hS => ?_)
    obtain ⟨rfl, rfl⟩ := hp1
    show W p l e _ s m args below meth c H locs _ _ _ (F0 m 14 ls [.int (qp_kd 8 fk pl)])
    have hP : va_P G.1 vwCl (lxF [[(o, .inr (10, [.ref ok, .ref ol, .ref on]))], [(ok, .inl (G.2.1, 8, .inl fk))]]) H := hP
    have hD : va_D A (lxF [[(o, .inr (10, [.ref ok, .ref ol, .ref on]))], [(ok, .inl (G.2.1, 8, .inl fk))]]) := hD
    refine lv_iconst (v := 2) hx hb dX10_isOwned_14 (by decide) ?_
    refine lv_icmp_eq (tgt := 27) hx hb dX10_isOwned_15 (by decide) (fun c2 => ?_) (fun c2 => ?_)
    · refine lv_iconst (v := 1) hx hb dX10_isOwned_27 (by decide) ?_
      refine lv_goto (tgt := 32) hx hb dX10_isOwned_28 (by decide) ?_
      exact ly_ri hx hb hr hlk hP hD hS rfl (⟨rfl, _, rfl, Or.inl ⟨by first | exact Or.inl c2 | exact Or.inr (Or.inl c2) | exact Or.inr (Or.inr c2), rfl⟩⟩) (by omega) (by omega) dX10_isOwned_32
    · refine lv_aload_n hx hb dX10_isOwned_18 rfl (lv_at hl 0 rfl) ?_
      refine lv_iload_n hx hb dX10_isOwned_19 rfl (lv_at hl 1 rfl) ?_
      refine ly_v (As := [.int (nI pl)]) (rest := []) hx hb hml hown hts (t_X10_kind l G k o ok ol on fk pl (by omega)) 1 (sxGV (bi13 (w := Cond.methodLink RX10 27 yX10_kind) 18 rfl) (bi13 (w := Cond.instanceMethod yX10_kind) 19 rfl) (bi13 (w := Cond.selects RX10 yX10_kind yX10_kind) 20 rfl) (bi13 (w := Cond.initialized RX10) 21 rfl) (bi13 (w := Cond.code yX10_kind cX10_kind 2 (some .int)) 16 rfl)) rfl (by decide +kernel) ⟨Nat.le_of_ble_eq_true rfl, Nat.le_of_ble_eq_true rfl⟩ hK hP hD hS hA hE [0, 1] [] rfl rfl (by show List.Perm _ (List.range 2); decide) 0 0 rfl rfl rfl rfl hl rfl (Nat.le_of_ble_eq_true rfl) ⟨by show _ ≤ 0; omega, by show _ ≤ 0; omega⟩ dX10_isOwned_20 (fun B1 v1 hp1 H locs hP hD hS => ?_)
      obtain ⟨rfl, rfl⟩ := hp1
      show W p l e _ s m args below meth c H locs _ _ _ (F0 m 23 ls [.int (qp_kd 8 fk pl)])
      have hP : va_P G.1 vwCl (lxF [[(o, .inr (10, [.ref ok, .ref ol, .ref on]))], [(ok, .inl (G.2.1, 8, .inl fk))]]) H := hP
      have hD : va_D A (lxF [[(o, .inr (10, [.ref ok, .ref ol, .ref on]))], [(ok, .inl (G.2.1, 8, .inl fk))]]) := hD
      refine lv_iconst (v := 5) hx hb dX10_isOwned_23 (by decide) ?_
      refine lv_icmp_ne (tgt := 31) hx hb dX10_isOwned_24 (by decide) (fun c3 => ?_) (fun c3 => ?_)
      · refine lv_iconst (v := 0) hx hb dX10_isOwned_31 (by decide) ?_
        exact ly_ri hx hb hr hlk hP hD hS rfl (⟨rfl, _, rfl, Or.inr ⟨fun z => by rcases z with z | z | z; exact c1 z; exact c2 z; exact c3 z, rfl⟩⟩) (by omega) (by omega) dX10_isOwned_32
      · refine lv_iconst (v := 1) hx hb dX10_isOwned_27 (by decide) ?_
        refine lv_goto (tgt := 32) hx hb dX10_isOwned_28 (by decide) ?_
        exact ly_ri hx hb hr hlk hP hD hS rfl (⟨rfl, _, rfl, Or.inl ⟨by first | exact Or.inl c3 | exact Or.inr (Or.inl c3) | exact Or.inr (Or.inr c3), rfl⟩⟩) (by omega) (by omega) dX10_isOwned_32

abbrev wdX10_loans : List Cond := Cond.code yX10_loans cX10_loans 6 (some .int) :: bwC
set_option maxHeartbeats 4000000 in
set_option maxRecDepth 100000 in
theorem t_X10_loans (l : Launch) (G : sxG) (k : lxC) (o ok ol on : Nat) (n : Nat) (rr : Nat → Option Nat) (r : Nat → Nat) (fs fa fb : Nat → Int32) (hn : n ≤ 32) (hrr : ∀ i, i < n → rr i = some (r i)) : lyM l yX10_loans wdX10_loans 0 0 0 0 G k [[(o, .inr (10, [.ref ok, .ref ol, .ref on]))], [(ol, lxq k n rr)], lrB G r fs fa fb n] [.ref o] (fun B v => B = [[(o, .inr (10, [.ref ok, .ref ol, .ref on]))], [(ol, lxq k n rr)], lrB G r fs fa fb n] ∧ v = some (.int (nI (ql_n fs n)))) := by
  refine lyM.of (cc := cX10_loans) (maxL := 6) (rt := (some .int)) (by decide) rfl (Nat.le_of_ble_eq_true rfl) ?_
  intro p e s m args below meth c ⟨hx, hb, hr, hml, hown, hlk, hts, hK⟩ hnm A hA hP hD hS hE ls hl
  have hl : lv_has ls 6 [(0, .ref o)] := hl
  refine lv_iconst (v := 0) hx hb dX10_loans_0 (by decide) ?_
  refine lv_istore_n (lv' := [(1, .int 0), (0, .ref o)]) hx hb dX10_loans_1 rfl hl (by decide) rfl (fun ls hl => ?_)
  refine lv_aload_n hx hb dX10_loans_2 rfl (lv_at hl 1 rfl) ?_
  refine lb_get (ci := 10) (v := .ref ol) (C := RX10) (T := TX10) (N := 3) hx hb hts owX10 hown hK hP 0 0 rfl rfl rfl 1 (by decide) (bw13 (w := Cond.fieldLink RX10 14 "DropflagMillLaw$Own" "lines" "[[I") hts 12 rfl) (fun _ h9 => h9) rfl dX10_loans_3 ?_
  refine lv_astore_n (lv' := [(2, .ref ol), (1, .int 0), (0, .ref o)]) hx hb dX10_loans_6 rfl hl (by decide) rfl (fun ls hl => ?_)
  refine lv_aload_n hx hb dX10_loans_7 rfl (lv_at hl 0 rfl) ?_
  refine lb_alenq (v := nI n) hx hb hK hE hP 1 0 rfl rfl rfl dX10_loans_8 ?_
  refine lv_istore_n (lv' := [(3, .int (nI n)), (2, .ref ol), (1, .int 0), (0, .ref o)]) hx hb dX10_loans_9 rfl hl (by decide) rfl (fun ls hl => ?_)
  refine lv_iconst (v := 0) hx hb dX10_loans_10 (by decide) ?_
  refine lv_istore (lv' := [(4, .int 0), (3, .int (nI n)), (2, .ref ol), (1, .int 0), (0, .ref o)]) hx hb dX10_loans_11 hl (by decide) rfl (fun ls hl => ?_)
  have LP13_1 : ∀ (kk1 : Nat) (i : Nat), n - i < kk1 → (i ≤ n) → ∀ cells slots : Nat, cells ≤ 0 → slots ≤ 0 → ∀ (H : Heap) (locs : List Loc), va_P G.1 vwCl (lxF [[(o, .inr (10, [.ref ok, .ref ol, .ref on]))], [(ol, lxq k n rr)], lrB G r fs fa fb n]) H → va_D A (lxF [[(o, .inr (10, [.ref ok, .ref ol, .ref on]))], [(ol, lxq k n rr)], lrB G r fs fa fb n]) → va_S A s.heap H locs → ∀ ls : Array Slot, lv_has ls 6 [(0, .ref o), (1, .int (nI (ql_n fs i))), (2, .ref ol), (3, .int (nI n)), (4, .int (nI i))] → W p l e ({ frames := 0, cells := 0, slots := 0, locals := 0 } : Room) s m args below meth c H locs cells slots (lyZ 0 0 G args s below A (fun B v => B = [[(o, .inr (10, [.ref ok, .ref ol, .ref on]))], [(ol, lxq k n rr)], lrB G r fs fa fb n] ∧ v = some (.int (nI (ql_n fs n))))) (F0 m 13 ls []) := by
    intro kk1
    induction kk1 with
    | zero =>
      intro i hm
      exact absurd hm (Nat.not_lt_zero _)
    | succ kk1 ih1 =>
      intro i hm1 hi cells slots hcc1 hss1 H locs hP hD hS ls hl
      refine lv_iload hx hb dX10_loans_13 (lv_at hl 4 rfl) ?_
      refine lv_iload_n hx hb dX10_loans_15 rfl (lv_at hl 3 rfl) ?_
      refine lv_icmp_ge (tgt := 55) hx hb dX10_loans_16 (by decide) (fun c2 => ?_) (fun c2 => ?_)
      · have nc2 := (nI_leI (a := n) (b := i) (by omega) (by omega)).mp c2
        refine lv_iload_n hx hb dX10_loans_55 rfl (lv_at hl 1 rfl) ?_
        exact ly_ri hx hb hr hlk hP hD hS rfl (⟨rfl, by rw [show i = n by omega]⟩) (by omega) (by omega) dX10_loans_56
      · have nc2 := (not_congr (nI_leI (a := n) (b := i) (by omega) (by omega))).mp c2
        refine lv_aload_n hx hb dX10_loans_19 rfl (lv_at hl 2 rfl) ?_
        refine lv_iload hx hb dX10_loans_20 (lv_at hl 4 rfl) ?_
        refine lb_aald (v := .ref (r i)) hx hb hK hE hP 1 0 rfl rfl (i := nI i) (vp_in_nI (n := i) (by omega) (by omega)) (by rw [nI_clamp (by omega), hrr _ (by omega)]; rfl) dX10_loans_22 ?_
        refine lv_astore (lv' := [(5, .ref (r i)), (0, .ref o), (1, .int (nI (ql_n fs i))), (2, .ref ol), (3, .int (nI n)), (4, .int (nI i))]) hx hb dX10_loans_23 hl (by decide) rfl (fun ls hl => ?_)
        refine lv_iload_n hx hb dX10_loans_25 rfl (lv_at hl 2 rfl) ?_
        refine lv_aload hx hb dX10_loans_26 (lv_at hl 0 rfl) ?_
        refine lv_iconst (v := 0) hx hb dX10_loans_28 (by decide) ?_
        refine lb_iald (v := fs i) hx hb hK hP 2 i rfl (lrB_at (by omega)) (i := 0) (vp_in_nI (n := 0) (by omega) (by omega)) rfl dX10_loans_29 ?_
        refine lv_iconst (v := 3) hx hb dX10_loans_30 (by decide) ?_
        refine lv_icmp_eq (tgt := 42) hx hb dX10_loans_31 (by decide) (fun c3 => ?_) (fun c3 => ?_)
        · refine lv_iconst (v := 1) hx hb dX10_loans_42 (by decide) ?_
          refine lv_goto (tgt := 47) hx hb dX10_loans_43 (by decide) ?_
          refine lv_iadd hx hb dX10_loans_47 ?_
          rw [show ((nI (ql_n fs i)) + 1 : Int32) = nI (ql_n fs (i + 1)) from (by rw [show ql_n fs (i + 1) = ql_n fs i + 1 from by show ql_n fs i + _ = _; rw [if_pos (by first | exact Or.inl c3 | exact Or.inr c3)]]; rw [nI_1])]
          refine lv_istore_n (lv' := [(1, .int (nI (ql_n fs (i + 1)))), (5, .ref (r i)), (0, .ref o), (2, .ref ol), (3, .int (nI n)), (4, .int (nI i))]) hx hb dX10_loans_48 rfl hl (by decide) rfl (fun ls hl => ?_)
          refine lv_iinc (v := nI (i + 1)) (lv' := [(4, .int (nI (i + 1))), (1, .int (nI (ql_n fs (i + 1)))), (5, .ref (r i)), (0, .ref o), (2, .ref ol), (3, .int (nI n))]) hx hb dX10_loans_49 hl (k := 5) rfl (nI_1 i) (by decide) rfl (fun ls hl => ?_)
          refine lv_goto (tgt := 13) hx hb dX10_loans_52 (by decide) ?_
          exact ih1 (i + 1) (by omega) (by omega) _ _ (by omega) (by omega) _ _ hP hD hS ls (lv_sub hl [3, 1, 4, 5, 0] rfl)
        · refine lv_aload hx hb dX10_loans_34 (lv_at hl 0 rfl) ?_
          refine lv_iconst (v := 0) hx hb dX10_loans_36 (by decide) ?_
          refine lb_iald (v := fs i) hx hb hK hP 2 i rfl (lrB_at (by omega)) (i := 0) (vp_in_nI (n := 0) (by omega) (by omega)) rfl dX10_loans_37 ?_
          refine lv_iconst (v := 4) hx hb dX10_loans_38 (by decide) ?_
          refine lv_icmp_ne (tgt := 46) hx hb dX10_loans_39 (by decide) (fun c4 => ?_) (fun c4 => ?_)
          · refine lv_iconst (v := 0) hx hb dX10_loans_46 (by decide) ?_
            refine lv_iadd hx hb dX10_loans_47 ?_
            rw [show ((nI (ql_n fs i)) + 0 : Int32) = nI (ql_n fs (i + 1)) from (by rw [show ql_n fs (i + 1) = ql_n fs i from by show ql_n fs i + _ = _; rw [if_neg (fun z => z.elim c3 c4)]; rfl]; exact Int32.add_zero _)]
            refine lv_istore_n (lv' := [(1, .int (nI (ql_n fs (i + 1)))), (5, .ref (r i)), (0, .ref o), (2, .ref ol), (3, .int (nI n)), (4, .int (nI i))]) hx hb dX10_loans_48 rfl hl (by decide) rfl (fun ls hl => ?_)
            refine lv_iinc (v := nI (i + 1)) (lv' := [(4, .int (nI (i + 1))), (1, .int (nI (ql_n fs (i + 1)))), (5, .ref (r i)), (0, .ref o), (2, .ref ol), (3, .int (nI n))]) hx hb dX10_loans_49 hl (k := 5) rfl (nI_1 i) (by decide) rfl (fun ls hl => ?_)
            refine lv_goto (tgt := 13) hx hb dX10_loans_52 (by decide) ?_
            exact ih1 (i + 1) (by omega) (by omega) _ _ (by omega) (by omega) _ _ hP hD hS ls (lv_sub hl [3, 1, 4, 5, 0] rfl)
          · refine lv_iconst (v := 1) hx hb dX10_loans_42 (by decide) ?_
            refine lv_goto (tgt := 47) hx hb dX10_loans_43 (by decide) ?_
            refine lv_iadd hx hb dX10_loans_47 ?_
            rw [show ((nI (ql_n fs i)) + 1 : Int32) = nI (ql_n fs (i + 1)) from (by rw [show ql_n fs (i + 1) = ql_n fs i + 1 from by show ql_n fs i + _ = _; rw [if_pos (by first | exact Or.inl c4 | exact Or.inr c4)]]; rw [nI_1])]
            refine lv_istore_n (lv' := [(1, .int (nI (ql_n fs (i + 1)))), (5, .ref (r i)), (0, .ref o), (2, .ref ol), (3, .int (nI n)), (4, .int (nI i))]) hx hb dX10_loans_48 rfl hl (by decide) rfl (fun ls hl => ?_)
            refine lv_iinc (v := nI (i + 1)) (lv' := [(4, .int (nI (i + 1))), (1, .int (nI (ql_n fs (i + 1)))), (5, .ref (r i)), (0, .ref o), (2, .ref ol), (3, .int (nI n))]) hx hb dX10_loans_49 hl (k := 5) rfl (nI_1 i) (by decide) rfl (fun ls hl => ?_)
            refine lv_goto (tgt := 13) hx hb dX10_loans_52 (by decide) ?_
            exact ih1 (i + 1) (by omega) (by omega) _ _ (by omega) (by omega) _ _ hP hD hS ls (lv_sub hl [3, 1, 4, 5, 0] rfl)
  exact LP13_1 (n + 1) 0 (by omega) (Nat.zero_le _) _ _ (by omega) (by omega) _ _ hP hD hS ls (lv_sub hl [4, 3, 2, 1, 0] rfl)
