abbrev wdL_line : List Cond := Cond.code yL_line cL_line 10 (some .boolean) :: bwC
set_option maxHeartbeats 4000000 in
set_option maxRecDepth 100000 in
theorem t_L_line (l : Launch) (G : sxG) (k : lxC) (q : Nat → Nat) (o ok ol on n : Nat) (rr : Nat → Option Nat) (r : Nat → Nat) (fk fs fa fb : Nat → Int32) (M : mlS) (rn : Int32) (x y : Int32) (dp d : Nat) (dD : Nat → Int32) (hI : lsI fk n rr r fs fa fb M rn) (hKz : qz_K fk) (hW : lwI n d fs fa fb dD) (hg : n + d < 30) : lyM l yL_line wdL_line 8 191 2 36 G k [mlW G q M, [(o, .inr (10, [.ref ok, .ref ol, .ref on]))], [(ok, .inl (G.2.1, 8, .inl fk))], [(ol, lxq k n rr)], lrB G r fs fa fb n, [(dp, .inl (G.2.1, 40, .inl dD))]] [.ref (q 0), .ref o, .int x, .int y, .ref dp] (fun B v => v = some (.int 1) ∧ ∃ (M1 : mlS) (ol1 n1 : Nat) (rr1 : Nat → Option Nat) (r1 : Nat → Nat) (fs1 fa1 fb1 : Nat → Int32) (d1 : Nat) (dD1 : Nat → Int32), B = [mlW G q M1, [(o, .inr (10, [.ref ok, .ref ol1, .ref on]))], [(ok, .inl (G.2.1, 8, .inl fk))], [(ol1, lxq k n1 rr1)], lrB G r1 fs1 fa1 fb1 n1, [(dp, .inl (G.2.1, 40, .inl dD1))]] ∧ lsI fk n1 rr1 r1 fs1 fa1 fb1 M1 rn ∧ lwI n1 d1 fs1 fa1 fb1 dD1 ∧ n1 + d1 ≤ 30) := by
  refine lyM.of (cc := cL_line) (maxL := 10) (rt := (some .boolean)) (by decide) rfl (Nat.le_of_ble_eq_true rfl) ?_
  intro p e s m args below meth c ⟨hx, hb, hr, hml, hown, hlk, hts, hK⟩ hnm A hA hP hD hS hE ls hl
  have hl : lv_has ls 10 [(0, .ref (q 0)), (1, .ref o), (2, .int x), (3, .int y), (4, .ref dp)] := hl
  have hd0 : dD 0 = nI d := by obtain ⟨-, -, -, -, st, -, -, s3, -⟩ := hW; exact s3
  refine lv_iload_n hx hb dL_line_0 rfl (lv_at hl 3 rfl) ?_
  refine lv_iconst (v := 4) hx hb dL_line_1 (by decide) ?_
  refine lv_ishr hx hb dL_line_2 ?_
  refine lv_bipush (v := 31) hx hb dL_line_3 (by decide) ?_
  refine ly_s (As := [.int (y >>> (4 &&& 31)), .int 31]) (rest := []) hx hb hml hown hts (t_L_below l G k (y >>> (4 &&& 31)) 31 (by decide) (by decide)) 2 (sxGS (bi13 (w := Cond.methodLink RL 29 yL_below) 42 rfl) (bi13 (w := Cond.static yL_below) 43 rfl) (bi13 (w := Cond.initialized RL) 44 rfl) (bi13 (w := Cond.code yL_below cL_below 2 (some .int)) 27 rfl)) rfl (by decide +kernel) ⟨Nat.le_of_ble_eq_true rfl, Nat.le_of_ble_eq_true rfl⟩ hK hP hD hS hA hE [] [0, 1, 2, 3, 4, 5] rfl rfl (by show List.Perm _ (List.range 6); decide) rfl hl rfl (Nat.le_of_ble_eq_true rfl) ⟨by show _ ≤ 2; omega, by show _ ≤ 36; omega⟩ dL_line_5 (fun B1 v1 hp1 H locs hP hD hS => ?_)
  obtain ⟨rfl, rfl⟩ := hp1
  have hbl0 := lbl_lt (y >>> (4 &&& 31)) (n := 31) (by decide)
  show W p l e _ s m args below meth c H locs _ _ _ (F0 m 8 ls [.int (nI (lbl (y >>> (4 &&& 31)) 31))])
  have hP : va_P G.1 vwCl (lxF [mlW G q M, [(o, .inr (10, [.ref ok, .ref ol, .ref on]))], [(ok, .inl (G.2.1, 8, .inl fk))], [(ol, lxq k n rr)], lrB G r fs fa fb n, [(dp, .inl (G.2.1, 40, .inl dD))]]) H := hP
  have hD : va_D A (lxF [mlW G q M, [(o, .inr (10, [.ref ok, .ref ol, .ref on]))], [(ok, .inl (G.2.1, 8, .inl fk))], [(ol, lxq k n rr)], lrB G r fs fa fb n, [(dp, .inl (G.2.1, 40, .inl dD))]]) := hD
  refine lv_bipush (v := 9) hx hb dL_line_8 (by decide) ?_
  refine lv_isub hx hb dL_line_10 ?_
  refine lv_istore (lv' := [(5, .int ((nI (lbl (y >>> (4 &&& 31)) 31)) - 9)), (0, .ref (q 0)), (1, .ref o), (2, .int x), (3, .int y), (4, .ref dp)]) hx hb dL_line_11 hl (by decide) rfl (fun ls hl => ?_)
  have LP34_1 : ∀ (kk1 : Nat) (kd : Int32), 0 < kk1 → (kd = 1 ∨ kd = 2 ∨ kd = 5) → ∀ cells slots : Nat, cells ≤ 0 → slots ≤ 0 → ∀ (H : Heap) (locs : List Loc), va_P G.1 vwCl (lxF [mlW G q M, [(o, .inr (10, [.ref ok, .ref ol, .ref on]))], [(ok, .inl (G.2.1, 8, .inl fk))], [(ol, lxq k n rr)], lrB G r fs fa fb n, [(dp, .inl (G.2.1, 40, .inl dD))]]) H → va_D A (lxF [mlW G q M, [(o, .inr (10, [.ref ok, .ref ol, .ref on]))], [(ok, .inl (G.2.1, 8, .inl fk))], [(ol, lxq k n rr)], lrB G r fs fa fb n, [(dp, .inl (G.2.1, 40, .inl dD))]]) → va_S A s.heap H locs → ∀ ls : Array Slot, lv_has ls 10 [(0, .ref (q 0)), (1, .ref o), (2, .int x), (3, .int y), (4, .ref dp), (5, .int (nI (lbl (y >>> (4 &&& 31)) 31) - 9)), (6, .int kd)] → W p l e ({ frames := 8, cells := 2, slots := 36, locals := 191 } : Room) s m args below meth c H locs cells slots (lyZ 2 36 G args s below A (fun B v => v = some (.int 1) ∧ ∃ (M1 : mlS) (ol1 n1 : Nat) (rr1 : Nat → Option Nat) (r1 : Nat → Nat) (fs1 fa1 fb1 : Nat → Int32) (d1 : Nat) (dD1 : Nat → Int32), B = [mlW G q M1, [(o, .inr (10, [.ref ok, .ref ol1, .ref on]))], [(ok, .inl (G.2.1, 8, .inl fk))], [(ol1, lxq k n1 rr1)], lrB G r1 fs1 fa1 fb1 n1, [(dp, .inl (G.2.1, 40, .inl dD1))]] ∧ lsI fk n1 rr1 r1 fs1 fa1 fb1 M1 rn ∧ lwI n1 d1 fs1 fa1 fb1 dD1 ∧ n1 + d1 ≤ 30)) (F0 m 34 ls []) := by
    intro kk1
    induction kk1 with
    | zero =>
      intro kd hm
      exact absurd hm (Nat.not_lt_zero _)
    | succ kk1 ih1 =>
      intro kd hm1 hkd cells slots hcc1 hss1 H locs hP hD hS ls hl
      refine lv_iload_n hx hb dL_line_34 rfl (lv_at hl 3 rfl) ?_
      refine lv_iconst (v := 3) hx hb dL_line_35 (by decide) ?_
      refine ly_s (As := [.int y, .int 3]) (rest := []) hx hb hml hown hts (t_L_below l G k y 3 (by decide) (by decide)) 2 (sxGS (bi13 (w := Cond.methodLink RL 29 yL_below) 42 rfl) (bi13 (w := Cond.static yL_below) 43 rfl) (bi13 (w := Cond.initialized RL) 44 rfl) (bi13 (w := Cond.code yL_below cL_below 2 (some .int)) 27 rfl)) rfl (by decide +kernel) ⟨Nat.le_of_ble_eq_true rfl, Nat.le_of_ble_eq_true rfl⟩ hK hP hD hS hA hE [] [0, 1, 2, 3, 4, 5] rfl rfl (by show List.Perm _ (List.range 6); decide) rfl hl rfl (Nat.le_of_ble_eq_true rfl) ⟨by show _ ≤ 2; omega, by show _ ≤ 36; omega⟩ dL_line_36 (fun B1 v1 hp1 H locs hP hD hS => ?_)
      obtain ⟨rfl, rfl⟩ := hp1
      have hbl1 := lbl_lt y (n := 3) (by decide)
      show W p l e _ s m args below meth c H locs _ _ _ (F0 m 39 ls [.int (nI (lbl y 3))])
      have hP : va_P G.1 vwCl (lxF [mlW G q M, [(o, .inr (10, [.ref ok, .ref ol, .ref on]))], [(ok, .inl (G.2.1, 8, .inl fk))], [(ol, lxq k n rr)], lrB G r fs fa fb n, [(dp, .inl (G.2.1, 40, .inl dD))]]) H := hP
      have hD : va_D A (lxF [mlW G q M, [(o, .inr (10, [.ref ok, .ref ol, .ref on]))], [(ok, .inl (G.2.1, 8, .inl fk))], [(ol, lxq k n rr)], lrB G r fs fa fb n, [(dp, .inl (G.2.1, 40, .inl dD))]]) := hD
      refine lv_istore (lv' := [(7, .int (nI (lbl y 3))), (0, .ref (q 0)), (1, .ref o), (2, .int x), (3, .int y), (4, .ref dp), (5, .int (nI (lbl (y >>> (4 &&& 31)) 31) - 9)), (6, .int kd)]) hx hb dL_line_39 hl (by decide) rfl (fun ls hl => ?_)
      refine lv_iload_n hx hb dL_line_41 rfl (lv_at hl 3 rfl) ?_
      refine lv_bipush (v := 22) hx hb dL_line_42 (by decide) ?_
      refine ly_s (As := [.int x, .int 22]) (rest := []) hx hb hml hown hts (t_L_below l G k x 22 (by decide) (by decide)) 2 (sxGS (bi13 (w := Cond.methodLink RL 29 yL_below) 42 rfl) (bi13 (w := Cond.static yL_below) 43 rfl) (bi13 (w := Cond.initialized RL) 44 rfl) (bi13 (w := Cond.code yL_below cL_below 2 (some .int)) 27 rfl)) rfl (by decide +kernel) ⟨Nat.le_of_ble_eq_true rfl, Nat.le_of_ble_eq_true rfl⟩ hK hP hD hS hA hE [] [0, 1, 2, 3, 4, 5] rfl rfl (by show List.Perm _ (List.range 6); decide) rfl hl rfl (Nat.le_of_ble_eq_true rfl) ⟨by show _ ≤ 2; omega, by show _ ≤ 36; omega⟩ dL_line_44 (fun B1 v1 hp1 H locs hP hD hS => ?_)
      obtain ⟨rfl, rfl⟩ := hp1
      have hbl1 := lbl_lt x (n := 22) (by decide)
      show W p l e _ s m args below meth c H locs _ _ _ (F0 m 47 ls [.int (nI (lbl x 22))])
      have hP : va_P G.1 vwCl (lxF [mlW G q M, [(o, .inr (10, [.ref ok, .ref ol, .ref on]))], [(ok, .inl (G.2.1, 8, .inl fk))], [(ol, lxq k n rr)], lrB G r fs fa fb n, [(dp, .inl (G.2.1, 40, .inl dD))]]) H := hP
      have hD : va_D A (lxF [mlW G q M, [(o, .inr (10, [.ref ok, .ref ol, .ref on]))], [(ok, .inl (G.2.1, 8, .inl fk))], [(ol, lxq k n rr)], lrB G r fs fa fb n, [(dp, .inl (G.2.1, 40, .inl dD))]]) := hD
      have sw : (lbl x 22 = 0 ∨ lbl x 22 = 1 ∨ lbl x 22 = 2) ∨ (lbl x 22 = 3) ∨ (lbl x 22 = 4 ∨ lbl x 22 = 5) ∨ (lbl x 22 = 6) ∨ (lbl x 22 = 7) ∨ (lbl x 22 = 8) ∨ (lbl x 22 = 9 ∨ lbl x 22 = 10) ∨ (lbl x 22 = 11) ∨ (lbl x 22 = 12 ∨ lbl x 22 = 13) ∨ (lbl x 22 = 14) ∨ (lbl x 22 = 15) ∨ (lbl x 22 = 16) ∨ (lbl x 22 = 17) ∨ (lbl x 22 = 18) ∨ (lbl x 22 = 19) ∨ (lbl x 22 = 20) ∨ (lbl x 22 = 21) := by omega
      rcases sw with sw | sw | sw | sw | sw | sw | sw | sw | sw | sw | sw | sw | sw | sw | sw | sw | sw
      · refine lv_tableIn (off := 97) (tgt := 144) hx hb dL_line_47 (by rcases sw with sw | sw | sw <;> (rw [sw]; decide)) (by rcases sw with sw | sw | sw <;> (rw [sw]; decide)) (by rcases sw with sw | sw | sw <;> (rw [sw]; rfl)) (by decide) ?_
        refine lv_aload_n hx hb dL_line_144 rfl (lv_at hl 1 rfl) ?_
        refine lv_aload_n hx hb dL_line_145 rfl (lv_at hl 2 rfl) ?_
        refine lv_iconst (v := 0) hx hb dL_line_146 (by decide) ?_
        refine lv_aload_n hx hb dL_line_147 rfl (lv_at hl 2 rfl) ?_
        refine lv_iload hx hb dL_line_148 (lv_at hl 7 rfl) ?_
        refine lv_iload_n hx hb dL_line_150 rfl (lv_at hl 3 rfl) ?_
        refine lv_iconst (v := 4) hx hb dL_line_151 (by decide) ?_
        refine lv_ishr hx hb dL_line_152 ?_
        refine ly_s (As := [.ref o, .int kd, .int (x >>> (4 &&& 31))]) (rest := [.int 0, .ref o, .ref (q 0)]) hx hb hml hown hts (t_L_place l G k o ok ol on fk kd (x >>> (4 &&& 31))) 3 (sxGS (bi13 (w := Cond.methodLink RL 46 yL_place) 54 rfl) (bi13 (w := Cond.static yL_place) 55 rfl) (bi13 (w := Cond.initialized RL) 44 rfl) (bi13 (w := Cond.code yL_place cL_place 5 (some .int)) 49 rfl)) rfl (by decide +kernel) ⟨Nat.le_of_ble_eq_true rfl, Nat.le_of_ble_eq_true rfl⟩ hK hP hD hS hA hE [1, 2] [0, 3, 4, 5] rfl rfl (by show List.Perm _ (List.range 6); decide) rfl hl rfl (Nat.le_of_ble_eq_true rfl) ⟨by show _ ≤ 2; omega, by show _ ≤ 36; omega⟩ dL_line_153 (fun B1 v1 hp1 H locs hP hD hS => ?_)
        obtain ⟨rfl, p1, hp1_, rfl, hkk1⟩ := hp1
        have hk1 := lk_place hKz (by rcases hkd with e | e | e <;> (rw [e]; decide)) hkk1
        show W p l e _ s m args below meth c H locs _ _ _ (F0 m 156 ls [.int (nI p1), .int 0, .ref o, .ref (q 0)])
        have hP : va_P G.1 vwCl (lxF [[(o, .inr (10, [.ref ok, .ref ol, .ref on]))], [(ok, .inl (G.2.1, 8, .inl fk))], mlW G q M, [(ol, lxq k n rr)], lrB G r fs fa fb n, [(dp, .inl (G.2.1, 40, .inl dD))]]) H := hP
        have hD : va_D A (lxF [[(o, .inr (10, [.ref ok, .ref ol, .ref on]))], [(ok, .inl (G.2.1, 8, .inl fk))], mlW G q M, [(ol, lxq k n rr)], lrB G r fs fa fb n, [(dp, .inl (G.2.1, 40, .inl dD))]]) := hD
        obtain ⟨hP, hD⟩ := lb_sub (Cs := [mlW G q M, [(o, .inr (10, [.ref ok, .ref ol, .ref on]))], [(ok, .inl (G.2.1, 8, .inl fk))], [(ol, lxq k n rr)], lrB G r fs fa fb n, [(dp, .inl (G.2.1, 40, .inl dD))]]) [2, 0, 1, 3, 4, 5] [] hP hD rfl (by show List.Perm _ (List.range 6); decide)
        refine lv_iload hx hb dL_line_156 (lv_at hl 6 rfl) ?_
        refine ly_s (As := [.ref (q 0), .ref o, .int 0, .int (nI p1), .int (nI (lbl (y >>> (4 &&& 31)) 31) - 9)]) (rest := []) hx hb hml hown hts (t_L_add l G k q o ok ol on n rr r fk fs fa fb M rn 0 (nI p1) (nI (lbl (y >>> (4 &&& 31)) 31) - 9) hI (lf0 ((lf_kd hp1_).trans hk1) (by rcases hkd with e | e | e <;> (rw [e]; decide)) (lf_small (c := (lbl (y >>> (4 &&& 31)) 31)) (d := 9) (by omega) (by omega)))) 5 (sxGS (bi13 (w := Cond.methodLink RL 50 yL_add) 51 rfl) (bi13 (w := Cond.static yL_add) 52 rfl) (bi13 (w := Cond.initialized RL) 44 rfl) (bi13 (w := Cond.code yL_add cL_add 5 (some .boolean)) 40 rfl)) rfl (by decide +kernel) ⟨Nat.le_of_ble_eq_true rfl, Nat.le_of_ble_eq_true rfl⟩ hK hP hD hS hA hE [0, 1, 3, 4] [2, 5] rfl rfl (by show List.Perm _ (List.range 6); decide) rfl hl rfl (Nat.le_of_ble_eq_true rfl) ⟨by show _ ≤ 2; omega, by show _ ≤ 36; omega⟩ dL_line_158 (fun B1 v1 hp1 H locs hP hD hS => ?_)
        obtain ⟨rfl, M1, ol1, n1, rr1, r1, fs1, fa1, fb1, rfl, hI1, hA1⟩ := hp1
        obtain ⟨hW1, hn1⟩ := lw_lgA hW hA1 (fun e => absurd e (by decide)) (by decide) (by decide) (by decide) (by decide)
        show W p l e _ s m args below meth c H locs _ _ _ (F0 m 161 ls [.int 1])
        have hP : va_P G.1 vwCl (lxF [mlW G q M1, [(o, .inr (10, [.ref ok, .ref ol1, .ref on]))], [(ol1, lxq k n1 rr1)], lrB G r1 fs1 fa1 fb1 n1, [(ok, .inl (G.2.1, 8, .inl fk))], [(dp, .inl (G.2.1, 40, .inl dD))]]) H := hP
        have hD : va_D A (lxF [mlW G q M1, [(o, .inr (10, [.ref ok, .ref ol1, .ref on]))], [(ol1, lxq k n1 rr1)], lrB G r1 fs1 fa1 fb1 n1, [(ok, .inl (G.2.1, 8, .inl fk))], [(dp, .inl (G.2.1, 40, .inl dD))]]) := hD
        obtain ⟨hP, hD⟩ := lb_sub (Cs := [mlW G q M1, [(o, .inr (10, [.ref ok, .ref ol1, .ref on]))], [(ok, .inl (G.2.1, 8, .inl fk))], [(ol1, lxq k n1 rr1)], lrB G r1 fs1 fa1 fb1 n1, [(dp, .inl (G.2.1, 40, .inl dD))]]) [0, 1, 4, 2, 3, 5] [] hP hD rfl (by show List.Perm _ (List.range 6); decide)
        exact ly_ri hx hb hr hlk hP hD hS rfl (⟨rfl, M1, ol1, n1, rr1, r1, fs1, fa1, fb1, d, dD, rfl, hI1, hW1, by omega⟩) (by omega) (by omega) dL_line_161
      · refine lv_tableIn (off := 115) (tgt := 162) hx hb dL_line_47 (by rw [sw]; decide) (by rw [sw]; decide) (by rw [sw]; rfl) (by decide) ?_
        refine lv_aload_n hx hb dL_line_162 rfl (lv_at hl 1 rfl) ?_
        refine lv_aload_n hx hb dL_line_163 rfl (lv_at hl 2 rfl) ?_
        refine lv_iconst (v := 0) hx hb dL_line_164 (by decide) ?_
        refine lv_aload_n hx hb dL_line_165 rfl (lv_at hl 2 rfl) ?_
        refine lv_iconst (v := 0) hx hb dL_line_166 (by decide) ?_
        refine lv_iload_n hx hb dL_line_167 rfl (lv_at hl 3 rfl) ?_
        refine lv_iconst (v := 4) hx hb dL_line_168 (by decide) ?_
        refine lv_ishr hx hb dL_line_169 ?_
        refine ly_s (As := [.ref o, .int 0, .int (x >>> (4 &&& 31))]) (rest := [.int 0, .ref o, .ref (q 0)]) hx hb hml hown hts (t_L_place l G k o ok ol on fk 0 (x >>> (4 &&& 31))) 3 (sxGS (bi13 (w := Cond.methodLink RL 46 yL_place) 54 rfl) (bi13 (w := Cond.static yL_place) 55 rfl) (bi13 (w := Cond.initialized RL) 44 rfl) (bi13 (w := Cond.code yL_place cL_place 5 (some .int)) 49 rfl)) rfl (by decide +kernel) ⟨Nat.le_of_ble_eq_true rfl, Nat.le_of_ble_eq_true rfl⟩ hK hP hD hS hA hE [1, 2] [0, 3, 4, 5] rfl rfl (by show List.Perm _ (List.range 6); decide) rfl hl rfl (Nat.le_of_ble_eq_true rfl) ⟨by show _ ≤ 2; omega, by show _ ≤ 36; omega⟩ dL_line_170 (fun B1 v1 hp1 H locs hP hD hS => ?_)
        obtain ⟨rfl, p2, hp2_, rfl, hkk2⟩ := hp1
        have hk2 := lk_place hKz (by decide) hkk2
        show W p l e _ s m args below meth c H locs _ _ _ (F0 m 173 ls [.int (nI p2), .int 0, .ref o, .ref (q 0)])
        have hP : va_P G.1 vwCl (lxF [[(o, .inr (10, [.ref ok, .ref ol, .ref on]))], [(ok, .inl (G.2.1, 8, .inl fk))], mlW G q M, [(ol, lxq k n rr)], lrB G r fs fa fb n, [(dp, .inl (G.2.1, 40, .inl dD))]]) H := hP
        have hD : va_D A (lxF [[(o, .inr (10, [.ref ok, .ref ol, .ref on]))], [(ok, .inl (G.2.1, 8, .inl fk))], mlW G q M, [(ol, lxq k n rr)], lrB G r fs fa fb n, [(dp, .inl (G.2.1, 40, .inl dD))]]) := hD
        obtain ⟨hP, hD⟩ := lb_sub (Cs := [mlW G q M, [(o, .inr (10, [.ref ok, .ref ol, .ref on]))], [(ok, .inl (G.2.1, 8, .inl fk))], [(ol, lxq k n rr)], lrB G r fs fa fb n, [(dp, .inl (G.2.1, 40, .inl dD))]]) [2, 0, 1, 3, 4, 5] [] hP hD rfl (by show List.Perm _ (List.range 6); decide)
        refine lv_iload hx hb dL_line_173 (lv_at hl 6 rfl) ?_
        refine ly_s (As := [.ref (q 0), .ref o, .int 0, .int (nI p2), .int (nI (lbl (y >>> (4 &&& 31)) 31) - 9)]) (rest := []) hx hb hml hown hts (t_L_add l G k q o ok ol on n rr r fk fs fa fb M rn 0 (nI p2) (nI (lbl (y >>> (4 &&& 31)) 31) - 9) hI (lf0 ((lf_kd hp2_).trans hk2) (by decide) (lf_small (c := (lbl (y >>> (4 &&& 31)) 31)) (d := 9) (by omega) (by omega)))) 5 (sxGS (bi13 (w := Cond.methodLink RL 50 yL_add) 51 rfl) (bi13 (w := Cond.static yL_add) 52 rfl) (bi13 (w := Cond.initialized RL) 44 rfl) (bi13 (w := Cond.code yL_add cL_add 5 (some .boolean)) 40 rfl)) rfl (by decide +kernel) ⟨Nat.le_of_ble_eq_true rfl, Nat.le_of_ble_eq_true rfl⟩ hK hP hD hS hA hE [0, 1, 3, 4] [2, 5] rfl rfl (by show List.Perm _ (List.range 6); decide) rfl hl rfl (Nat.le_of_ble_eq_true rfl) ⟨by show _ ≤ 2; omega, by show _ ≤ 36; omega⟩ dL_line_175 (fun B1 v1 hp1 H locs hP hD hS => ?_)
        obtain ⟨rfl, M1, ol1, n1, rr1, r1, fs1, fa1, fb1, rfl, hI1, hA1⟩ := hp1
        obtain ⟨hW1, hn1⟩ := lw_lgA hW hA1 (fun e => absurd e (by decide)) (by decide) (by decide) (by decide) (by decide)
        show W p l e _ s m args below meth c H locs _ _ _ (F0 m 178 ls [.int 1])
        have hP : va_P G.1 vwCl (lxF [mlW G q M1, [(o, .inr (10, [.ref ok, .ref ol1, .ref on]))], [(ol1, lxq k n1 rr1)], lrB G r1 fs1 fa1 fb1 n1, [(ok, .inl (G.2.1, 8, .inl fk))], [(dp, .inl (G.2.1, 40, .inl dD))]]) H := hP
        have hD : va_D A (lxF [mlW G q M1, [(o, .inr (10, [.ref ok, .ref ol1, .ref on]))], [(ol1, lxq k n1 rr1)], lrB G r1 fs1 fa1 fb1 n1, [(ok, .inl (G.2.1, 8, .inl fk))], [(dp, .inl (G.2.1, 40, .inl dD))]]) := hD
        obtain ⟨hP, hD⟩ := lb_sub (Cs := [mlW G q M1, [(o, .inr (10, [.ref ok, .ref ol1, .ref on]))], [(ok, .inl (G.2.1, 8, .inl fk))], [(ol1, lxq k n1 rr1)], lrB G r1 fs1 fa1 fb1 n1, [(dp, .inl (G.2.1, 40, .inl dD))]]) [0, 1, 4, 2, 3, 5] [] hP hD rfl (by show List.Perm _ (List.range 6); decide)
        exact ly_ri hx hb hr hlk hP hD hS rfl (⟨rfl, M1, ol1, n1, rr1, r1, fs1, fa1, fb1, d, dD, rfl, hI1, hW1, by omega⟩) (by omega) (by omega) dL_line_178
      · refine lv_tableIn (off := 132) (tgt := 179) hx hb dL_line_47 (by rcases sw with sw | sw <;> (rw [sw]; decide)) (by rcases sw with sw | sw <;> (rw [sw]; decide)) (by rcases sw with sw | sw <;> (rw [sw]; rfl)) (by decide) ?_
        refine lv_aload_n hx hb dL_line_179 rfl (lv_at hl 1 rfl) ?_
        refine lv_aload_n hx hb dL_line_180 rfl (lv_at hl 2 rfl) ?_
        refine lv_iconst (v := 1) hx hb dL_line_181 (by decide) ?_
        refine lv_aload_n hx hb dL_line_182 rfl (lv_at hl 2 rfl) ?_
        refine lv_iload hx hb dL_line_183 (lv_at hl 7 rfl) ?_
        refine lv_iload_n hx hb dL_line_185 rfl (lv_at hl 3 rfl) ?_
        refine lv_iconst (v := 4) hx hb dL_line_186 (by decide) ?_
        refine lv_ishr hx hb dL_line_187 ?_
        refine ly_s (As := [.ref o, .int kd, .int (x >>> (4 &&& 31))]) (rest := [.int 1, .ref o, .ref (q 0)]) hx hb hml hown hts (t_L_place l G k o ok ol on fk kd (x >>> (4 &&& 31))) 3 (sxGS (bi13 (w := Cond.methodLink RL 46 yL_place) 54 rfl) (bi13 (w := Cond.static yL_place) 55 rfl) (bi13 (w := Cond.initialized RL) 44 rfl) (bi13 (w := Cond.code yL_place cL_place 5 (some .int)) 49 rfl)) rfl (by decide +kernel) ⟨Nat.le_of_ble_eq_true rfl, Nat.le_of_ble_eq_true rfl⟩ hK hP hD hS hA hE [1, 2] [0, 3, 4, 5] rfl rfl (by show List.Perm _ (List.range 6); decide) rfl hl rfl (Nat.le_of_ble_eq_true rfl) ⟨by show _ ≤ 2; omega, by show _ ≤ 36; omega⟩ dL_line_188 (fun B1 v1 hp1 H locs hP hD hS => ?_)
        obtain ⟨rfl, p3, hp3_, rfl, hkk3⟩ := hp1
        have hk3 := lk_place hKz (by rcases hkd with e | e | e <;> (rw [e]; decide)) hkk3
        show W p l e _ s m args below meth c H locs _ _ _ (F0 m 191 ls [.int (nI p3), .int 1, .ref o, .ref (q 0)])
        have hP : va_P G.1 vwCl (lxF [[(o, .inr (10, [.ref ok, .ref ol, .ref on]))], [(ok, .inl (G.2.1, 8, .inl fk))], mlW G q M, [(ol, lxq k n rr)], lrB G r fs fa fb n, [(dp, .inl (G.2.1, 40, .inl dD))]]) H := hP
        have hD : va_D A (lxF [[(o, .inr (10, [.ref ok, .ref ol, .ref on]))], [(ok, .inl (G.2.1, 8, .inl fk))], mlW G q M, [(ol, lxq k n rr)], lrB G r fs fa fb n, [(dp, .inl (G.2.1, 40, .inl dD))]]) := hD
        obtain ⟨hP, hD⟩ := lb_sub (Cs := [mlW G q M, [(o, .inr (10, [.ref ok, .ref ol, .ref on]))], [(ok, .inl (G.2.1, 8, .inl fk))], [(ol, lxq k n rr)], lrB G r fs fa fb n, [(dp, .inl (G.2.1, 40, .inl dD))]]) [2, 0, 1, 3, 4, 5] [] hP hD rfl (by show List.Perm _ (List.range 6); decide)
        refine lv_aload_n hx hb dL_line_191 rfl (lv_at hl 2 rfl) ?_
        refine lv_iload hx hb dL_line_192 (lv_at hl 7 rfl) ?_
        refine lv_iload_n hx hb dL_line_194 rfl (lv_at hl 4 rfl) ?_
        refine lv_iconst (v := 3) hx hb dL_line_195 (by decide) ?_
        refine lv_ishr hx hb dL_line_196 ?_
        refine ly_s (As := [.ref o, .int kd, .int (y >>> (3 &&& 31))]) (rest := [.int (nI p3), .int 1, .ref o, .ref (q 0)]) hx hb hml hown hts (t_L_place l G k o ok ol on fk kd (y >>> (3 &&& 31))) 3 (sxGS (bi13 (w := Cond.methodLink RL 46 yL_place) 54 rfl) (bi13 (w := Cond.static yL_place) 55 rfl) (bi13 (w := Cond.initialized RL) 44 rfl) (bi13 (w := Cond.code yL_place cL_place 5 (some .int)) 49 rfl)) rfl (by decide +kernel) ⟨Nat.le_of_ble_eq_true rfl, Nat.le_of_ble_eq_true rfl⟩ hK hP hD hS hA hE [1, 2] [0, 3, 4, 5] rfl rfl (by show List.Perm _ (List.range 6); decide) rfl hl rfl (Nat.le_of_ble_eq_true rfl) ⟨by show _ ≤ 2; omega, by show _ ≤ 36; omega⟩ dL_line_197 (fun B1 v1 hp1 H locs hP hD hS => ?_)
        obtain ⟨rfl, p4, hp4_, rfl, hkk4⟩ := hp1
        have hk4 := lk_place hKz (by rcases hkd with e | e | e <;> (rw [e]; decide)) hkk4
        show W p l e _ s m args below meth c H locs _ _ _ (F0 m 200 ls [.int (nI p4), .int (nI p3), .int 1, .ref o, .ref (q 0)])
        have hP : va_P G.1 vwCl (lxF [[(o, .inr (10, [.ref ok, .ref ol, .ref on]))], [(ok, .inl (G.2.1, 8, .inl fk))], mlW G q M, [(ol, lxq k n rr)], lrB G r fs fa fb n, [(dp, .inl (G.2.1, 40, .inl dD))]]) H := hP
        have hD : va_D A (lxF [[(o, .inr (10, [.ref ok, .ref ol, .ref on]))], [(ok, .inl (G.2.1, 8, .inl fk))], mlW G q M, [(ol, lxq k n rr)], lrB G r fs fa fb n, [(dp, .inl (G.2.1, 40, .inl dD))]]) := hD
        obtain ⟨hP, hD⟩ := lb_sub (Cs := [mlW G q M, [(o, .inr (10, [.ref ok, .ref ol, .ref on]))], [(ok, .inl (G.2.1, 8, .inl fk))], [(ol, lxq k n rr)], lrB G r fs fa fb n, [(dp, .inl (G.2.1, 40, .inl dD))]]) [2, 0, 1, 3, 4, 5] [] hP hD rfl (by show List.Perm _ (List.range 6); decide)
        refine ly_s (As := [.ref (q 0), .ref o, .int 1, .int (nI p3), .int (nI p4)]) (rest := []) hx hb hml hown hts (t_L_add l G k q o ok ol on n rr r fk fs fa fb M rn 1 (nI p3) (nI p4) hI (lf1 ((lf_kd hp3_).trans hk3) ((lf_kd hp4_).trans hk4) (by rcases hkd with e | e | e <;> (rw [e]; decide)))) 5 (sxGS (bi13 (w := Cond.methodLink RL 50 yL_add) 51 rfl) (bi13 (w := Cond.static yL_add) 52 rfl) (bi13 (w := Cond.initialized RL) 44 rfl) (bi13 (w := Cond.code yL_add cL_add 5 (some .boolean)) 40 rfl)) rfl (by decide +kernel) ⟨Nat.le_of_ble_eq_true rfl, Nat.le_of_ble_eq_true rfl⟩ hK hP hD hS hA hE [0, 1, 3, 4] [2, 5] rfl rfl (by show List.Perm _ (List.range 6); decide) rfl hl rfl (Nat.le_of_ble_eq_true rfl) ⟨by show _ ≤ 2; omega, by show _ ≤ 36; omega⟩ dL_line_200 (fun B1 v1 hp1 H locs hP hD hS => ?_)
        obtain ⟨rfl, M1, ol1, n1, rr1, r1, fs1, fa1, fb1, rfl, hI1, hA1⟩ := hp1
        obtain ⟨hW1, hn1⟩ := lw_lgA hW hA1 (fun e => absurd e (by decide)) (by decide) (by decide) (by decide) (by decide)
        show W p l e _ s m args below meth c H locs _ _ _ (F0 m 203 ls [.int 1])
        have hP : va_P G.1 vwCl (lxF [mlW G q M1, [(o, .inr (10, [.ref ok, .ref ol1, .ref on]))], [(ol1, lxq k n1 rr1)], lrB G r1 fs1 fa1 fb1 n1, [(ok, .inl (G.2.1, 8, .inl fk))], [(dp, .inl (G.2.1, 40, .inl dD))]]) H := hP
        have hD : va_D A (lxF [mlW G q M1, [(o, .inr (10, [.ref ok, .ref ol1, .ref on]))], [(ol1, lxq k n1 rr1)], lrB G r1 fs1 fa1 fb1 n1, [(ok, .inl (G.2.1, 8, .inl fk))], [(dp, .inl (G.2.1, 40, .inl dD))]]) := hD
        obtain ⟨hP, hD⟩ := lb_sub (Cs := [mlW G q M1, [(o, .inr (10, [.ref ok, .ref ol1, .ref on]))], [(ok, .inl (G.2.1, 8, .inl fk))], [(ol1, lxq k n1 rr1)], lrB G r1 fs1 fa1 fb1 n1, [(dp, .inl (G.2.1, 40, .inl dD))]]) [0, 1, 4, 2, 3, 5] [] hP hD rfl (by show List.Perm _ (List.range 6); decide)
        exact ly_ri hx hb hr hlk hP hD hS rfl (⟨rfl, M1, ol1, n1, rr1, r1, fs1, fa1, fb1, d, dD, rfl, hI1, hW1, by omega⟩) (by omega) (by omega) dL_line_203
      · refine lv_tableIn (off := 157) (tgt := 204) hx hb dL_line_47 (by rw [sw]; decide) (by rw [sw]; decide) (by rw [sw]; rfl) (by decide) ?_
        refine lv_aload_n hx hb dL_line_204 rfl (lv_at hl 1 rfl) ?_
        refine lv_aload_n hx hb dL_line_205 rfl (lv_at hl 2 rfl) ?_
        refine lv_iconst (v := 1) hx hb dL_line_206 (by decide) ?_
        refine lv_aload_n hx hb dL_line_207 rfl (lv_at hl 2 rfl) ?_
        refine lv_iconst (v := 4) hx hb dL_line_208 (by decide) ?_
        refine lv_iload_n hx hb dL_line_209 rfl (lv_at hl 3 rfl) ?_
        refine lv_iconst (v := 4) hx hb dL_line_210 (by decide) ?_
        refine lv_ishr hx hb dL_line_211 ?_
        refine ly_s (As := [.ref o, .int 4, .int (x >>> (4 &&& 31))]) (rest := [.int 1, .ref o, .ref (q 0)]) hx hb hml hown hts (t_L_place l G k o ok ol on fk 4 (x >>> (4 &&& 31))) 3 (sxGS (bi13 (w := Cond.methodLink RL 46 yL_place) 54 rfl) (bi13 (w := Cond.static yL_place) 55 rfl) (bi13 (w := Cond.initialized RL) 44 rfl) (bi13 (w := Cond.code yL_place cL_place 5 (some .int)) 49 rfl)) rfl (by decide +kernel) ⟨Nat.le_of_ble_eq_true rfl, Nat.le_of_ble_eq_true rfl⟩ hK hP hD hS hA hE [1, 2] [0, 3, 4, 5] rfl rfl (by show List.Perm _ (List.range 6); decide) rfl hl rfl (Nat.le_of_ble_eq_true rfl) ⟨by show _ ≤ 2; omega, by show _ ≤ 36; omega⟩ dL_line_212 (fun B1 v1 hp1 H locs hP hD hS => ?_)
        obtain ⟨rfl, p5, hp5_, rfl, hkk5⟩ := hp1
        have hk5 := lk_place hKz (by decide) hkk5
        show W p l e _ s m args below meth c H locs _ _ _ (F0 m 215 ls [.int (nI p5), .int 1, .ref o, .ref (q 0)])
        have hP : va_P G.1 vwCl (lxF [[(o, .inr (10, [.ref ok, .ref ol, .ref on]))], [(ok, .inl (G.2.1, 8, .inl fk))], mlW G q M, [(ol, lxq k n rr)], lrB G r fs fa fb n, [(dp, .inl (G.2.1, 40, .inl dD))]]) H := hP
        have hD : va_D A (lxF [[(o, .inr (10, [.ref ok, .ref ol, .ref on]))], [(ok, .inl (G.2.1, 8, .inl fk))], mlW G q M, [(ol, lxq k n rr)], lrB G r fs fa fb n, [(dp, .inl (G.2.1, 40, .inl dD))]]) := hD
        obtain ⟨hP, hD⟩ := lb_sub (Cs := [mlW G q M, [(o, .inr (10, [.ref ok, .ref ol, .ref on]))], [(ok, .inl (G.2.1, 8, .inl fk))], [(ol, lxq k n rr)], lrB G r fs fa fb n, [(dp, .inl (G.2.1, 40, .inl dD))]]) [2, 0, 1, 3, 4, 5] [] hP hD rfl (by show List.Perm _ (List.range 6); decide)
        refine lv_aload_n hx hb dL_line_215 rfl (lv_at hl 2 rfl) ?_
        refine lv_iconst (v := 4) hx hb dL_line_216 (by decide) ?_
        refine lv_iload_n hx hb dL_line_217 rfl (lv_at hl 4 rfl) ?_
        refine lv_iconst (v := 3) hx hb dL_line_218 (by decide) ?_
        refine lv_ishr hx hb dL_line_219 ?_
        refine ly_s (As := [.ref o, .int 4, .int (y >>> (3 &&& 31))]) (rest := [.int (nI p5), .int 1, .ref o, .ref (q 0)]) hx hb hml hown hts (t_L_place l G k o ok ol on fk 4 (y >>> (3 &&& 31))) 3 (sxGS (bi13 (w := Cond.methodLink RL 46 yL_place) 54 rfl) (bi13 (w := Cond.static yL_place) 55 rfl) (bi13 (w := Cond.initialized RL) 44 rfl) (bi13 (w := Cond.code yL_place cL_place 5 (some .int)) 49 rfl)) rfl (by decide +kernel) ⟨Nat.le_of_ble_eq_true rfl, Nat.le_of_ble_eq_true rfl⟩ hK hP hD hS hA hE [1, 2] [0, 3, 4, 5] rfl rfl (by show List.Perm _ (List.range 6); decide) rfl hl rfl (Nat.le_of_ble_eq_true rfl) ⟨by show _ ≤ 2; omega, by show _ ≤ 36; omega⟩ dL_line_220 (fun B1 v1 hp1 H locs hP hD hS => ?_)
        obtain ⟨rfl, p6, hp6_, rfl, hkk6⟩ := hp1
        have hk6 := lk_place hKz (by decide) hkk6
        show W p l e _ s m args below meth c H locs _ _ _ (F0 m 223 ls [.int (nI p6), .int (nI p5), .int 1, .ref o, .ref (q 0)])
        have hP : va_P G.1 vwCl (lxF [[(o, .inr (10, [.ref ok, .ref ol, .ref on]))], [(ok, .inl (G.2.1, 8, .inl fk))], mlW G q M, [(ol, lxq k n rr)], lrB G r fs fa fb n, [(dp, .inl (G.2.1, 40, .inl dD))]]) H := hP
        have hD : va_D A (lxF [[(o, .inr (10, [.ref ok, .ref ol, .ref on]))], [(ok, .inl (G.2.1, 8, .inl fk))], mlW G q M, [(ol, lxq k n rr)], lrB G r fs fa fb n, [(dp, .inl (G.2.1, 40, .inl dD))]]) := hD
        obtain ⟨hP, hD⟩ := lb_sub (Cs := [mlW G q M, [(o, .inr (10, [.ref ok, .ref ol, .ref on]))], [(ok, .inl (G.2.1, 8, .inl fk))], [(ol, lxq k n rr)], lrB G r fs fa fb n, [(dp, .inl (G.2.1, 40, .inl dD))]]) [2, 0, 1, 3, 4, 5] [] hP hD rfl (by show List.Perm _ (List.range 6); decide)
        refine ly_s (As := [.ref (q 0), .ref o, .int 1, .int (nI p5), .int (nI p6)]) (rest := []) hx hb hml hown hts (t_L_add l G k q o ok ol on n rr r fk fs fa fb M rn 1 (nI p5) (nI p6) hI (lf1 ((lf_kd hp5_).trans hk5) ((lf_kd hp6_).trans hk6) (by decide))) 5 (sxGS (bi13 (w := Cond.methodLink RL 50 yL_add) 51 rfl) (bi13 (w := Cond.static yL_add) 52 rfl) (bi13 (w := Cond.initialized RL) 44 rfl) (bi13 (w := Cond.code yL_add cL_add 5 (some .boolean)) 40 rfl)) rfl (by decide +kernel) ⟨Nat.le_of_ble_eq_true rfl, Nat.le_of_ble_eq_true rfl⟩ hK hP hD hS hA hE [0, 1, 3, 4] [2, 5] rfl rfl (by show List.Perm _ (List.range 6); decide) rfl hl rfl (Nat.le_of_ble_eq_true rfl) ⟨by show _ ≤ 2; omega, by show _ ≤ 36; omega⟩ dL_line_223 (fun B1 v1 hp1 H locs hP hD hS => ?_)
        obtain ⟨rfl, M1, ol1, n1, rr1, r1, fs1, fa1, fb1, rfl, hI1, hA1⟩ := hp1
        obtain ⟨hW1, hn1⟩ := lw_lgA hW hA1 (fun e => absurd e (by decide)) (by decide) (by decide) (by decide) (by decide)
        show W p l e _ s m args below meth c H locs _ _ _ (F0 m 226 ls [.int 1])
        have hP : va_P G.1 vwCl (lxF [mlW G q M1, [(o, .inr (10, [.ref ok, .ref ol1, .ref on]))], [(ol1, lxq k n1 rr1)], lrB G r1 fs1 fa1 fb1 n1, [(ok, .inl (G.2.1, 8, .inl fk))], [(dp, .inl (G.2.1, 40, .inl dD))]]) H := hP
        have hD : va_D A (lxF [mlW G q M1, [(o, .inr (10, [.ref ok, .ref ol1, .ref on]))], [(ol1, lxq k n1 rr1)], lrB G r1 fs1 fa1 fb1 n1, [(ok, .inl (G.2.1, 8, .inl fk))], [(dp, .inl (G.2.1, 40, .inl dD))]]) := hD
        obtain ⟨hP, hD⟩ := lb_sub (Cs := [mlW G q M1, [(o, .inr (10, [.ref ok, .ref ol1, .ref on]))], [(ok, .inl (G.2.1, 8, .inl fk))], [(ol1, lxq k n1 rr1)], lrB G r1 fs1 fa1 fb1 n1, [(dp, .inl (G.2.1, 40, .inl dD))]]) [0, 1, 4, 2, 3, 5] [] hP hD rfl (by show List.Perm _ (List.range 6); decide)
        exact ly_ri hx hb hr hlk hP hD hS rfl (⟨rfl, M1, ol1, n1, rr1, r1, fs1, fa1, fb1, d, dD, rfl, hI1, hW1, by omega⟩) (by omega) (by omega) dL_line_226
      · refine lv_tableIn (off := 180) (tgt := 227) hx hb dL_line_47 (by rw [sw]; decide) (by rw [sw]; decide) (by rw [sw]; rfl) (by decide) ?_
        refine lv_aload_n hx hb dL_line_227 rfl (lv_at hl 1 rfl) ?_
        refine lv_aload_n hx hb dL_line_228 rfl (lv_at hl 2 rfl) ?_
        refine lv_iconst (v := 2) hx hb dL_line_229 (by decide) ?_
        refine lv_aload_n hx hb dL_line_230 rfl (lv_at hl 2 rfl) ?_
        refine lv_iconst (v := 5) hx hb dL_line_231 (by decide) ?_
        refine lv_iload_n hx hb dL_line_232 rfl (lv_at hl 3 rfl) ?_
        refine lv_iconst (v := 4) hx hb dL_line_233 (by decide) ?_
        refine lv_ishr hx hb dL_line_234 ?_
        refine ly_s (As := [.ref o, .int 5, .int (x >>> (4 &&& 31))]) (rest := [.int 2, .ref o, .ref (q 0)]) hx hb hml hown hts (t_L_place l G k o ok ol on fk 5 (x >>> (4 &&& 31))) 3 (sxGS (bi13 (w := Cond.methodLink RL 46 yL_place) 54 rfl) (bi13 (w := Cond.static yL_place) 55 rfl) (bi13 (w := Cond.initialized RL) 44 rfl) (bi13 (w := Cond.code yL_place cL_place 5 (some .int)) 49 rfl)) rfl (by decide +kernel) ⟨Nat.le_of_ble_eq_true rfl, Nat.le_of_ble_eq_true rfl⟩ hK hP hD hS hA hE [1, 2] [0, 3, 4, 5] rfl rfl (by show List.Perm _ (List.range 6); decide) rfl hl rfl (Nat.le_of_ble_eq_true rfl) ⟨by show _ ≤ 2; omega, by show _ ≤ 36; omega⟩ dL_line_235 (fun B1 v1 hp1 H locs hP hD hS => ?_)
        obtain ⟨rfl, p7, hp7_, rfl, hkk7⟩ := hp1
        have hk7 := lk_place hKz (by decide) hkk7
        show W p l e _ s m args below meth c H locs _ _ _ (F0 m 238 ls [.int (nI p7), .int 2, .ref o, .ref (q 0)])
        have hP : va_P G.1 vwCl (lxF [[(o, .inr (10, [.ref ok, .ref ol, .ref on]))], [(ok, .inl (G.2.1, 8, .inl fk))], mlW G q M, [(ol, lxq k n rr)], lrB G r fs fa fb n, [(dp, .inl (G.2.1, 40, .inl dD))]]) H := hP
        have hD : va_D A (lxF [[(o, .inr (10, [.ref ok, .ref ol, .ref on]))], [(ok, .inl (G.2.1, 8, .inl fk))], mlW G q M, [(ol, lxq k n rr)], lrB G r fs fa fb n, [(dp, .inl (G.2.1, 40, .inl dD))]]) := hD
        obtain ⟨hP, hD⟩ := lb_sub (Cs := [mlW G q M, [(o, .inr (10, [.ref ok, .ref ol, .ref on]))], [(ok, .inl (G.2.1, 8, .inl fk))], [(ol, lxq k n rr)], lrB G r fs fa fb n, [(dp, .inl (G.2.1, 40, .inl dD))]]) [2, 0, 1, 3, 4, 5] [] hP hD rfl (by show List.Perm _ (List.range 6); decide)
        refine lv_aload_n hx hb dL_line_238 rfl (lv_at hl 2 rfl) ?_
        refine lv_iconst (v := 5) hx hb dL_line_239 (by decide) ?_
        refine lv_iload_n hx hb dL_line_240 rfl (lv_at hl 4 rfl) ?_
        refine lv_iconst (v := 3) hx hb dL_line_241 (by decide) ?_
        refine lv_ishr hx hb dL_line_242 ?_
        refine ly_s (As := [.ref o, .int 5, .int (y >>> (3 &&& 31))]) (rest := [.int (nI p7), .int 2, .ref o, .ref (q 0)]) hx hb hml hown hts (t_L_place l G k o ok ol on fk 5 (y >>> (3 &&& 31))) 3 (sxGS (bi13 (w := Cond.methodLink RL 46 yL_place) 54 rfl) (bi13 (w := Cond.static yL_place) 55 rfl) (bi13 (w := Cond.initialized RL) 44 rfl) (bi13 (w := Cond.code yL_place cL_place 5 (some .int)) 49 rfl)) rfl (by decide +kernel) ⟨Nat.le_of_ble_eq_true rfl, Nat.le_of_ble_eq_true rfl⟩ hK hP hD hS hA hE [1, 2] [0, 3, 4, 5] rfl rfl (by show List.Perm _ (List.range 6); decide) rfl hl rfl (Nat.le_of_ble_eq_true rfl) ⟨by show _ ≤ 2; omega, by show _ ≤ 36; omega⟩ dL_line_243 (fun B1 v1 hp1 H locs hP hD hS => ?_)
        obtain ⟨rfl, p8, hp8_, rfl, hkk8⟩ := hp1
        have hk8 := lk_place hKz (by decide) hkk8
        show W p l e _ s m args below meth c H locs _ _ _ (F0 m 246 ls [.int (nI p8), .int (nI p7), .int 2, .ref o, .ref (q 0)])
        have hP : va_P G.1 vwCl (lxF [[(o, .inr (10, [.ref ok, .ref ol, .ref on]))], [(ok, .inl (G.2.1, 8, .inl fk))], mlW G q M, [(ol, lxq k n rr)], lrB G r fs fa fb n, [(dp, .inl (G.2.1, 40, .inl dD))]]) H := hP
        have hD : va_D A (lxF [[(o, .inr (10, [.ref ok, .ref ol, .ref on]))], [(ok, .inl (G.2.1, 8, .inl fk))], mlW G q M, [(ol, lxq k n rr)], lrB G r fs fa fb n, [(dp, .inl (G.2.1, 40, .inl dD))]]) := hD
        obtain ⟨hP, hD⟩ := lb_sub (Cs := [mlW G q M, [(o, .inr (10, [.ref ok, .ref ol, .ref on]))], [(ok, .inl (G.2.1, 8, .inl fk))], [(ol, lxq k n rr)], lrB G r fs fa fb n, [(dp, .inl (G.2.1, 40, .inl dD))]]) [2, 0, 1, 3, 4, 5] [] hP hD rfl (by show List.Perm _ (List.range 6); decide)
        refine ly_s (As := [.ref (q 0), .ref o, .int 2, .int (nI p7), .int (nI p8)]) (rest := []) hx hb hml hown hts (t_L_add l G k q o ok ol on n rr r fk fs fa fb M rn 2 (nI p7) (nI p8) hI (lf2 ((lf_kd hp7_).trans hk7) ((lf_kd hp8_).trans hk8) (by decide))) 5 (sxGS (bi13 (w := Cond.methodLink RL 50 yL_add) 51 rfl) (bi13 (w := Cond.static yL_add) 52 rfl) (bi13 (w := Cond.initialized RL) 44 rfl) (bi13 (w := Cond.code yL_add cL_add 5 (some .boolean)) 40 rfl)) rfl (by decide +kernel) ⟨Nat.le_of_ble_eq_true rfl, Nat.le_of_ble_eq_true rfl⟩ hK hP hD hS hA hE [0, 1, 3, 4] [2, 5] rfl rfl (by show List.Perm _ (List.range 6); decide) rfl hl rfl (Nat.le_of_ble_eq_true rfl) ⟨by show _ ≤ 2; omega, by show _ ≤ 36; omega⟩ dL_line_246 (fun B1 v1 hp1 H locs hP hD hS => ?_)
        obtain ⟨rfl, M1, ol1, n1, rr1, r1, fs1, fa1, fb1, rfl, hI1, hA1⟩ := hp1
        obtain ⟨hW1, hn1⟩ := lw_lgA hW hA1 (fun e => absurd e (by decide)) (by decide) (by decide) (by decide) (by decide)
        show W p l e _ s m args below meth c H locs _ _ _ (F0 m 249 ls [.int 1])
        have hP : va_P G.1 vwCl (lxF [mlW G q M1, [(o, .inr (10, [.ref ok, .ref ol1, .ref on]))], [(ol1, lxq k n1 rr1)], lrB G r1 fs1 fa1 fb1 n1, [(ok, .inl (G.2.1, 8, .inl fk))], [(dp, .inl (G.2.1, 40, .inl dD))]]) H := hP
        have hD : va_D A (lxF [mlW G q M1, [(o, .inr (10, [.ref ok, .ref ol1, .ref on]))], [(ol1, lxq k n1 rr1)], lrB G r1 fs1 fa1 fb1 n1, [(ok, .inl (G.2.1, 8, .inl fk))], [(dp, .inl (G.2.1, 40, .inl dD))]]) := hD
        obtain ⟨hP, hD⟩ := lb_sub (Cs := [mlW G q M1, [(o, .inr (10, [.ref ok, .ref ol1, .ref on]))], [(ok, .inl (G.2.1, 8, .inl fk))], [(ol1, lxq k n1 rr1)], lrB G r1 fs1 fa1 fb1 n1, [(dp, .inl (G.2.1, 40, .inl dD))]]) [0, 1, 4, 2, 3, 5] [] hP hD rfl (by show List.Perm _ (List.range 6); decide)
        exact ly_ri hx hb hr hlk hP hD hS rfl (⟨rfl, M1, ol1, n1, rr1, r1, fs1, fa1, fb1, d, dD, rfl, hI1, hW1, by omega⟩) (by omega) (by omega) dL_line_249
      · refine lv_tableIn (off := 203) (tgt := 250) hx hb dL_line_47 (by rw [sw]; decide) (by rw [sw]; decide) (by rw [sw]; rfl) (by decide) ?_
        refine lv_aload_n hx hb dL_line_250 rfl (lv_at hl 1 rfl) ?_
        refine lv_aload_n hx hb dL_line_251 rfl (lv_at hl 2 rfl) ?_
        refine lv_iconst (v := 2) hx hb dL_line_252 (by decide) ?_
        refine lv_aload_n hx hb dL_line_253 rfl (lv_at hl 2 rfl) ?_
        refine lv_iload_n hx hb dL_line_254 rfl (lv_at hl 4 rfl) ?_
        refine lv_iconst (v := 2) hx hb dL_line_255 (by decide) ?_
        refine ly_s (As := [.int y, .int 2]) (rest := [.ref o, .int 2, .ref o, .ref (q 0)]) hx hb hml hown hts (t_L_below l G k y 2 (by decide) (by decide)) 2 (sxGS (bi13 (w := Cond.methodLink RL 29 yL_below) 42 rfl) (bi13 (w := Cond.static yL_below) 43 rfl) (bi13 (w := Cond.initialized RL) 44 rfl) (bi13 (w := Cond.code yL_below cL_below 2 (some .int)) 27 rfl)) rfl (by decide +kernel) ⟨Nat.le_of_ble_eq_true rfl, Nat.le_of_ble_eq_true rfl⟩ hK hP hD hS hA hE [] [0, 1, 2, 3, 4, 5] rfl rfl (by show List.Perm _ (List.range 6); decide) rfl hl rfl (Nat.le_of_ble_eq_true rfl) ⟨by show _ ≤ 2; omega, by show _ ≤ 36; omega⟩ dL_line_256 (fun B1 v1 hp1 H locs hP hD hS => ?_)
        obtain ⟨rfl, rfl⟩ := hp1
        have hbl1 := lbl_lt y (n := 2) (by decide)
        show W p l e _ s m args below meth c H locs _ _ _ (F0 m 259 ls [.int (nI (lbl y 2)), .ref o, .int 2, .ref o, .ref (q 0)])
        have hP : va_P G.1 vwCl (lxF [mlW G q M, [(o, .inr (10, [.ref ok, .ref ol, .ref on]))], [(ok, .inl (G.2.1, 8, .inl fk))], [(ol, lxq k n rr)], lrB G r fs fa fb n, [(dp, .inl (G.2.1, 40, .inl dD))]]) H := hP
        have hD : va_D A (lxF [mlW G q M, [(o, .inr (10, [.ref ok, .ref ol, .ref on]))], [(ok, .inl (G.2.1, 8, .inl fk))], [(ol, lxq k n rr)], lrB G r fs fa fb n, [(dp, .inl (G.2.1, 40, .inl dD))]]) := hD
        refine lv_iconst (v := 3) hx hb dL_line_259 (by decide) ?_
        refine lv_imul hx hb dL_line_260 ?_
        rw [show ((nI (lbl y 2)) * 3 : Int32) = nI ((lbl y 2) * 3) from pk_mul (lbl y 2) 3]
        refine lv_iload_n hx hb dL_line_261 rfl (lv_at hl 3 rfl) ?_
        refine lv_iconst (v := 4) hx hb dL_line_262 (by decide) ?_
        refine lv_ishr hx hb dL_line_263 ?_
        refine ly_s (As := [.ref o, .int (nI ((lbl y 2) * 3)), .int (x >>> (4 &&& 31))]) (rest := [.int 2, .ref o, .ref (q 0)]) hx hb hml hown hts (t_L_place l G k o ok ol on fk (nI ((lbl y 2) * 3)) (x >>> (4 &&& 31))) 3 (sxGS (bi13 (w := Cond.methodLink RL 46 yL_place) 54 rfl) (bi13 (w := Cond.static yL_place) 55 rfl) (bi13 (w := Cond.initialized RL) 44 rfl) (bi13 (w := Cond.code yL_place cL_place 5 (some .int)) 49 rfl)) rfl (by decide +kernel) ⟨Nat.le_of_ble_eq_true rfl, Nat.le_of_ble_eq_true rfl⟩ hK hP hD hS hA hE [1, 2] [0, 3, 4, 5] rfl rfl (by show List.Perm _ (List.range 6); decide) rfl hl rfl (Nat.le_of_ble_eq_true rfl) ⟨by show _ ≤ 2; omega, by show _ ≤ 36; omega⟩ dL_line_264 (fun B1 v1 hp1 H locs hP hD hS => ?_)
        obtain ⟨rfl, p9, hp9_, rfl, hkk9⟩ := hp1
        have hk9 := lk_place hKz (by rcases (show lbl y 2 = 0 ∨ lbl y 2 = 1 by omega) with e | e <;> (rw [e]; decide)) hkk9
        show W p l e _ s m args below meth c H locs _ _ _ (F0 m 267 ls [.int (nI p9), .int 2, .ref o, .ref (q 0)])
        have hP : va_P G.1 vwCl (lxF [[(o, .inr (10, [.ref ok, .ref ol, .ref on]))], [(ok, .inl (G.2.1, 8, .inl fk))], mlW G q M, [(ol, lxq k n rr)], lrB G r fs fa fb n, [(dp, .inl (G.2.1, 40, .inl dD))]]) H := hP
        have hD : va_D A (lxF [[(o, .inr (10, [.ref ok, .ref ol, .ref on]))], [(ok, .inl (G.2.1, 8, .inl fk))], mlW G q M, [(ol, lxq k n rr)], lrB G r fs fa fb n, [(dp, .inl (G.2.1, 40, .inl dD))]]) := hD
        obtain ⟨hP, hD⟩ := lb_sub (Cs := [mlW G q M, [(o, .inr (10, [.ref ok, .ref ol, .ref on]))], [(ok, .inl (G.2.1, 8, .inl fk))], [(ol, lxq k n rr)], lrB G r fs fa fb n, [(dp, .inl (G.2.1, 40, .inl dD))]]) [2, 0, 1, 3, 4, 5] [] hP hD rfl (by show List.Perm _ (List.range 6); decide)
        refine lv_aload_n hx hb dL_line_267 rfl (lv_at hl 2 rfl) ?_
        refine lv_iload_n hx hb dL_line_268 rfl (lv_at hl 4 rfl) ?_
        refine lv_iconst (v := 2) hx hb dL_line_269 (by decide) ?_
        refine ly_s (As := [.int y, .int 2]) (rest := [.ref o, .int (nI p9), .int 2, .ref o, .ref (q 0)]) hx hb hml hown hts (t_L_below l G k y 2 (by decide) (by decide)) 2 (sxGS (bi13 (w := Cond.methodLink RL 29 yL_below) 42 rfl) (bi13 (w := Cond.static yL_below) 43 rfl) (bi13 (w := Cond.initialized RL) 44 rfl) (bi13 (w := Cond.code yL_below cL_below 2 (some .int)) 27 rfl)) rfl (by decide +kernel) ⟨Nat.le_of_ble_eq_true rfl, Nat.le_of_ble_eq_true rfl⟩ hK hP hD hS hA hE [] [0, 1, 2, 3, 4, 5] rfl rfl (by show List.Perm _ (List.range 6); decide) rfl hl rfl (Nat.le_of_ble_eq_true rfl) ⟨by show _ ≤ 2; omega, by show _ ≤ 36; omega⟩ dL_line_270 (fun B1 v1 hp1 H locs hP hD hS => ?_)
        obtain ⟨rfl, rfl⟩ := hp1
        have hbl1 := lbl_lt y (n := 2) (by decide)
        show W p l e _ s m args below meth c H locs _ _ _ (F0 m 273 ls [.int (nI (lbl y 2)), .ref o, .int (nI p9), .int 2, .ref o, .ref (q 0)])
        have hP : va_P G.1 vwCl (lxF [mlW G q M, [(o, .inr (10, [.ref ok, .ref ol, .ref on]))], [(ok, .inl (G.2.1, 8, .inl fk))], [(ol, lxq k n rr)], lrB G r fs fa fb n, [(dp, .inl (G.2.1, 40, .inl dD))]]) H := hP
        have hD : va_D A (lxF [mlW G q M, [(o, .inr (10, [.ref ok, .ref ol, .ref on]))], [(ok, .inl (G.2.1, 8, .inl fk))], [(ol, lxq k n rr)], lrB G r fs fa fb n, [(dp, .inl (G.2.1, 40, .inl dD))]]) := hD
        refine lv_iconst (v := 3) hx hb dL_line_273 (by decide) ?_
        refine lv_imul hx hb dL_line_274 ?_
        rw [show ((nI (lbl y 2)) * 3 : Int32) = nI ((lbl y 2) * 3) from pk_mul (lbl y 2) 3]
        refine lv_iload_n hx hb dL_line_275 rfl (lv_at hl 4 rfl) ?_
        refine lv_iconst (v := 3) hx hb dL_line_276 (by decide) ?_
        refine lv_ishr hx hb dL_line_277 ?_
        refine ly_s (As := [.ref o, .int (nI ((lbl y 2) * 3)), .int (y >>> (3 &&& 31))]) (rest := [.int (nI p9), .int 2, .ref o, .ref (q 0)]) hx hb hml hown hts (t_L_place l G k o ok ol on fk (nI ((lbl y 2) * 3)) (y >>> (3 &&& 31))) 3 (sxGS (bi13 (w := Cond.methodLink RL 46 yL_place) 54 rfl) (bi13 (w := Cond.static yL_place) 55 rfl) (bi13 (w := Cond.initialized RL) 44 rfl) (bi13 (w := Cond.code yL_place cL_place 5 (some .int)) 49 rfl)) rfl (by decide +kernel) ⟨Nat.le_of_ble_eq_true rfl, Nat.le_of_ble_eq_true rfl⟩ hK hP hD hS hA hE [1, 2] [0, 3, 4, 5] rfl rfl (by show List.Perm _ (List.range 6); decide) rfl hl rfl (Nat.le_of_ble_eq_true rfl) ⟨by show _ ≤ 2; omega, by show _ ≤ 36; omega⟩ dL_line_278 (fun B1 v1 hp1 H locs hP hD hS => ?_)
        obtain ⟨rfl, p10, hp10_, rfl, hkk10⟩ := hp1
        have hk10 := lk_place hKz (by rcases (show lbl y 2 = 0 ∨ lbl y 2 = 1 by omega) with e | e <;> (rw [e]; decide)) hkk10
        show W p l e _ s m args below meth c H locs _ _ _ (F0 m 281 ls [.int (nI p10), .int (nI p9), .int 2, .ref o, .ref (q 0)])
        have hP : va_P G.1 vwCl (lxF [[(o, .inr (10, [.ref ok, .ref ol, .ref on]))], [(ok, .inl (G.2.1, 8, .inl fk))], mlW G q M, [(ol, lxq k n rr)], lrB G r fs fa fb n, [(dp, .inl (G.2.1, 40, .inl dD))]]) H := hP
        have hD : va_D A (lxF [[(o, .inr (10, [.ref ok, .ref ol, .ref on]))], [(ok, .inl (G.2.1, 8, .inl fk))], mlW G q M, [(ol, lxq k n rr)], lrB G r fs fa fb n, [(dp, .inl (G.2.1, 40, .inl dD))]]) := hD
        obtain ⟨hP, hD⟩ := lb_sub (Cs := [mlW G q M, [(o, .inr (10, [.ref ok, .ref ol, .ref on]))], [(ok, .inl (G.2.1, 8, .inl fk))], [(ol, lxq k n rr)], lrB G r fs fa fb n, [(dp, .inl (G.2.1, 40, .inl dD))]]) [2, 0, 1, 3, 4, 5] [] hP hD rfl (by show List.Perm _ (List.range 6); decide)
        refine ly_s (As := [.ref (q 0), .ref o, .int 2, .int (nI p9), .int (nI p10)]) (rest := []) hx hb hml hown hts (t_L_add l G k q o ok ol on n rr r fk fs fa fb M rn 2 (nI p9) (nI p10) hI (lf2 ((lf_kd hp9_).trans hk9) ((lf_kd hp10_).trans hk10) (by rcases (show lbl y 2 = 0 ∨ lbl y 2 = 1 by omega) with e | e <;> (rw [e]; decide)))) 5 (sxGS (bi13 (w := Cond.methodLink RL 50 yL_add) 51 rfl) (bi13 (w := Cond.static yL_add) 52 rfl) (bi13 (w := Cond.initialized RL) 44 rfl) (bi13 (w := Cond.code yL_add cL_add 5 (some .boolean)) 40 rfl)) rfl (by decide +kernel) ⟨Nat.le_of_ble_eq_true rfl, Nat.le_of_ble_eq_true rfl⟩ hK hP hD hS hA hE [0, 1, 3, 4] [2, 5] rfl rfl (by show List.Perm _ (List.range 6); decide) rfl hl rfl (Nat.le_of_ble_eq_true rfl) ⟨by show _ ≤ 2; omega, by show _ ≤ 36; omega⟩ dL_line_281 (fun B1 v1 hp1 H locs hP hD hS => ?_)
        obtain ⟨rfl, M1, ol1, n1, rr1, r1, fs1, fa1, fb1, rfl, hI1, hA1⟩ := hp1
        obtain ⟨hW1, hn1⟩ := lw_lgA hW hA1 (fun e => absurd e (by decide)) (by decide) (by decide) (by decide) (by decide)
        show W p l e _ s m args below meth c H locs _ _ _ (F0 m 284 ls [.int 1])
        have hP : va_P G.1 vwCl (lxF [mlW G q M1, [(o, .inr (10, [.ref ok, .ref ol1, .ref on]))], [(ol1, lxq k n1 rr1)], lrB G r1 fs1 fa1 fb1 n1, [(ok, .inl (G.2.1, 8, .inl fk))], [(dp, .inl (G.2.1, 40, .inl dD))]]) H := hP
        have hD : va_D A (lxF [mlW G q M1, [(o, .inr (10, [.ref ok, .ref ol1, .ref on]))], [(ol1, lxq k n1 rr1)], lrB G r1 fs1 fa1 fb1 n1, [(ok, .inl (G.2.1, 8, .inl fk))], [(dp, .inl (G.2.1, 40, .inl dD))]]) := hD
        obtain ⟨hP, hD⟩ := lb_sub (Cs := [mlW G q M1, [(o, .inr (10, [.ref ok, .ref ol1, .ref on]))], [(ok, .inl (G.2.1, 8, .inl fk))], [(ol1, lxq k n1 rr1)], lrB G r1 fs1 fa1 fb1 n1, [(dp, .inl (G.2.1, 40, .inl dD))]]) [0, 1, 4, 2, 3, 5] [] hP hD rfl (by show List.Perm _ (List.range 6); decide)
        exact ly_ri hx hb hr hlk hP hD hS rfl (⟨rfl, M1, ol1, n1, rr1, r1, fs1, fa1, fb1, d, dD, rfl, hI1, hW1, by omega⟩) (by omega) (by omega) dL_line_284
      · refine lv_tableIn (off := 238) (tgt := 285) hx hb dL_line_47 (by rcases sw with sw | sw <;> (rw [sw]; decide)) (by rcases sw with sw | sw <;> (rw [sw]; decide)) (by rcases sw with sw | sw <;> (rw [sw]; rfl)) (by decide) ?_
        refine lv_aload_n hx hb dL_line_285 rfl (lv_at hl 1 rfl) ?_
        refine lv_aload_n hx hb dL_line_286 rfl (lv_at hl 2 rfl) ?_
        refine lv_iconst (v := 3) hx hb dL_line_287 (by decide) ?_
        refine lv_aload_n hx hb dL_line_288 rfl (lv_at hl 2 rfl) ?_
        refine lv_iconst (v := 3) hx hb dL_line_289 (by decide) ?_
        refine lv_iload_n hx hb dL_line_290 rfl (lv_at hl 3 rfl) ?_
        refine lv_iconst (v := 4) hx hb dL_line_291 (by decide) ?_
        refine lv_ishr hx hb dL_line_292 ?_
        refine ly_s (As := [.ref o, .int 3, .int (x >>> (4 &&& 31))]) (rest := [.int 3, .ref o, .ref (q 0)]) hx hb hml hown hts (t_L_place l G k o ok ol on fk 3 (x >>> (4 &&& 31))) 3 (sxGS (bi13 (w := Cond.methodLink RL 46 yL_place) 54 rfl) (bi13 (w := Cond.static yL_place) 55 rfl) (bi13 (w := Cond.initialized RL) 44 rfl) (bi13 (w := Cond.code yL_place cL_place 5 (some .int)) 49 rfl)) rfl (by decide +kernel) ⟨Nat.le_of_ble_eq_true rfl, Nat.le_of_ble_eq_true rfl⟩ hK hP hD hS hA hE [1, 2] [0, 3, 4, 5] rfl rfl (by show List.Perm _ (List.range 6); decide) rfl hl rfl (Nat.le_of_ble_eq_true rfl) ⟨by show _ ≤ 2; omega, by show _ ≤ 36; omega⟩ dL_line_293 (fun B1 v1 hp1 H locs hP hD hS => ?_)
        obtain ⟨rfl, p11, hp11_, rfl, hkk11⟩ := hp1
        have hk11 := lk_place hKz (by decide) hkk11
        show W p l e _ s m args below meth c H locs _ _ _ (F0 m 296 ls [.int (nI p11), .int 3, .ref o, .ref (q 0)])
        have hP : va_P G.1 vwCl (lxF [[(o, .inr (10, [.ref ok, .ref ol, .ref on]))], [(ok, .inl (G.2.1, 8, .inl fk))], mlW G q M, [(ol, lxq k n rr)], lrB G r fs fa fb n, [(dp, .inl (G.2.1, 40, .inl dD))]]) H := hP
        have hD : va_D A (lxF [[(o, .inr (10, [.ref ok, .ref ol, .ref on]))], [(ok, .inl (G.2.1, 8, .inl fk))], mlW G q M, [(ol, lxq k n rr)], lrB G r fs fa fb n, [(dp, .inl (G.2.1, 40, .inl dD))]]) := hD
        obtain ⟨hP, hD⟩ := lb_sub (Cs := [mlW G q M, [(o, .inr (10, [.ref ok, .ref ol, .ref on]))], [(ok, .inl (G.2.1, 8, .inl fk))], [(ol, lxq k n rr)], lrB G r fs fa fb n, [(dp, .inl (G.2.1, 40, .inl dD))]]) [2, 0, 1, 3, 4, 5] [] hP hD rfl (by show List.Perm _ (List.range 6); decide)
        refine lv_aload_n hx hb dL_line_296 rfl (lv_at hl 2 rfl) ?_
        refine lv_iload hx hb dL_line_297 (lv_at hl 0 rfl) ?_
        refine lv_iload_n hx hb dL_line_299 rfl (lv_at hl 4 rfl) ?_
        refine lv_iconst (v := 3) hx hb dL_line_300 (by decide) ?_
        refine lv_ishr hx hb dL_line_301 ?_
        refine ly_s (As := [.ref o, .int (nI (lbl y 3)), .int (y >>> (3 &&& 31))]) (rest := [.int (nI p11), .int 3, .ref o, .ref (q 0)]) hx hb hml hown hts (t_L_place l G k o ok ol on fk (nI (lbl y 3)) (y >>> (3 &&& 31))) 3 (sxGS (bi13 (w := Cond.methodLink RL 46 yL_place) 54 rfl) (bi13 (w := Cond.static yL_place) 55 rfl) (bi13 (w := Cond.initialized RL) 44 rfl) (bi13 (w := Cond.code yL_place cL_place 5 (some .int)) 49 rfl)) rfl (by decide +kernel) ⟨Nat.le_of_ble_eq_true rfl, Nat.le_of_ble_eq_true rfl⟩ hK hP hD hS hA hE [1, 2] [0, 3, 4, 5] rfl rfl (by show List.Perm _ (List.range 6); decide) rfl hl rfl (Nat.le_of_ble_eq_true rfl) ⟨by show _ ≤ 2; omega, by show _ ≤ 36; omega⟩ dL_line_302 (fun B1 v1 hp1 H locs hP hD hS => ?_)
        obtain ⟨rfl, p12, hp12_, rfl, hkk12⟩ := hp1
        have hk12 := lk_place hKz (by rcases (show lbl y 3 = 0 ∨ lbl y 3 = 1 ∨ lbl y 3 = 2 by omega) with e | e | e <;> (rw [e]; decide)) hkk12
        show W p l e _ s m args below meth c H locs _ _ _ (F0 m 305 ls [.int (nI p12), .int (nI p11), .int 3, .ref o, .ref (q 0)])
        have hP : va_P G.1 vwCl (lxF [[(o, .inr (10, [.ref ok, .ref ol, .ref on]))], [(ok, .inl (G.2.1, 8, .inl fk))], mlW G q M, [(ol, lxq k n rr)], lrB G r fs fa fb n, [(dp, .inl (G.2.1, 40, .inl dD))]]) H := hP
        have hD : va_D A (lxF [[(o, .inr (10, [.ref ok, .ref ol, .ref on]))], [(ok, .inl (G.2.1, 8, .inl fk))], mlW G q M, [(ol, lxq k n rr)], lrB G r fs fa fb n, [(dp, .inl (G.2.1, 40, .inl dD))]]) := hD
        obtain ⟨hP, hD⟩ := lb_sub (Cs := [mlW G q M, [(o, .inr (10, [.ref ok, .ref ol, .ref on]))], [(ok, .inl (G.2.1, 8, .inl fk))], [(ol, lxq k n rr)], lrB G r fs fa fb n, [(dp, .inl (G.2.1, 40, .inl dD))]]) [2, 0, 1, 3, 4, 5] [] hP hD rfl (by show List.Perm _ (List.range 6); decide)
        refine ly_s (As := [.ref (q 0), .ref o, .int 3, .int (nI p11), .int (nI p12)]) (rest := []) hx hb hml hown hts (t_L_add l G k q o ok ol on n rr r fk fs fa fb M rn 3 (nI p11) (nI p12) hI (lf3 ((lf_kd hp11_).trans hk11) ((lf_kd hp12_).trans hk12) (by rcases (show lbl y 3 = 0 ∨ lbl y 3 = 1 ∨ lbl y 3 = 2 by omega) with e | e | e <;> (rw [e]; decide)))) 5 (sxGS (bi13 (w := Cond.methodLink RL 50 yL_add) 51 rfl) (bi13 (w := Cond.static yL_add) 52 rfl) (bi13 (w := Cond.initialized RL) 44 rfl) (bi13 (w := Cond.code yL_add cL_add 5 (some .boolean)) 40 rfl)) rfl (by decide +kernel) ⟨Nat.le_of_ble_eq_true rfl, Nat.le_of_ble_eq_true rfl⟩ hK hP hD hS hA hE [0, 1, 3, 4] [2, 5] rfl rfl (by show List.Perm _ (List.range 6); decide) rfl hl rfl (Nat.le_of_ble_eq_true rfl) ⟨by show _ ≤ 2; omega, by show _ ≤ 36; omega⟩ dL_line_305 (fun B1 v1 hp1 H locs hP hD hS => ?_)
        obtain ⟨rfl, M1, ol1, n1, rr1, r1, fs1, fa1, fb1, rfl, hI1, hA1⟩ := hp1
        obtain ⟨hW1, hn1⟩ := lw_lgA hW hA1 (fun e => absurd e (by decide)) (by decide) (by decide) (by decide) (by decide)
        show W p l e _ s m args below meth c H locs _ _ _ (F0 m 308 ls [.int 1])
        have hP : va_P G.1 vwCl (lxF [mlW G q M1, [(o, .inr (10, [.ref ok, .ref ol1, .ref on]))], [(ol1, lxq k n1 rr1)], lrB G r1 fs1 fa1 fb1 n1, [(ok, .inl (G.2.1, 8, .inl fk))], [(dp, .inl (G.2.1, 40, .inl dD))]]) H := hP
        have hD : va_D A (lxF [mlW G q M1, [(o, .inr (10, [.ref ok, .ref ol1, .ref on]))], [(ol1, lxq k n1 rr1)], lrB G r1 fs1 fa1 fb1 n1, [(ok, .inl (G.2.1, 8, .inl fk))], [(dp, .inl (G.2.1, 40, .inl dD))]]) := hD
        obtain ⟨hP, hD⟩ := lb_sub (Cs := [mlW G q M1, [(o, .inr (10, [.ref ok, .ref ol1, .ref on]))], [(ok, .inl (G.2.1, 8, .inl fk))], [(ol1, lxq k n1 rr1)], lrB G r1 fs1 fa1 fb1 n1, [(dp, .inl (G.2.1, 40, .inl dD))]]) [0, 1, 4, 2, 3, 5] [] hP hD rfl (by show List.Perm _ (List.range 6); decide)
        exact ly_ri hx hb hr hlk hP hD hS rfl (⟨rfl, M1, ol1, n1, rr1, r1, fs1, fa1, fb1, d, dD, rfl, hI1, hW1, by omega⟩) (by omega) (by omega) dL_line_308
      · refine lv_tableIn (off := 262) (tgt := 309) hx hb dL_line_47 (by rw [sw]; decide) (by rw [sw]; decide) (by rw [sw]; rfl) (by decide) ?_
        refine lv_aload_n hx hb dL_line_309 rfl (lv_at hl 2 rfl) ?_
        refine lv_iload hx hb dL_line_310 (lv_at hl 0 rfl) ?_
        refine lv_iload_n hx hb dL_line_312 rfl (lv_at hl 4 rfl) ?_
        refine lv_iconst (v := 3) hx hb dL_line_313 (by decide) ?_
        refine lv_ishr hx hb dL_line_314 ?_
        refine ly_s (As := [.ref o, .int (nI (lbl y 3)), .int (y >>> (3 &&& 31))]) (rest := []) hx hb hml hown hts (t_L_place l G k o ok ol on fk (nI (lbl y 3)) (y >>> (3 &&& 31))) 3 (sxGS (bi13 (w := Cond.methodLink RL 46 yL_place) 54 rfl) (bi13 (w := Cond.static yL_place) 55 rfl) (bi13 (w := Cond.initialized RL) 44 rfl) (bi13 (w := Cond.code yL_place cL_place 5 (some .int)) 49 rfl)) rfl (by decide +kernel) ⟨Nat.le_of_ble_eq_true rfl, Nat.le_of_ble_eq_true rfl⟩ hK hP hD hS hA hE [1, 2] [0, 3, 4, 5] rfl rfl (by show List.Perm _ (List.range 6); decide) rfl hl rfl (Nat.le_of_ble_eq_true rfl) ⟨by show _ ≤ 2; omega, by show _ ≤ 36; omega⟩ dL_line_315 (fun B1 v1 hp1 H locs hP hD hS => ?_)
        obtain ⟨rfl, p13, hp13_, rfl, hkk13⟩ := hp1
        have hk13 := lk_place hKz (by rcases (show lbl y 3 = 0 ∨ lbl y 3 = 1 ∨ lbl y 3 = 2 by omega) with e | e | e <;> (rw [e]; decide)) hkk13
        show W p l e _ s m args below meth c H locs _ _ _ (F0 m 318 ls [.int (nI p13)])
        have hP : va_P G.1 vwCl (lxF [[(o, .inr (10, [.ref ok, .ref ol, .ref on]))], [(ok, .inl (G.2.1, 8, .inl fk))], mlW G q M, [(ol, lxq k n rr)], lrB G r fs fa fb n, [(dp, .inl (G.2.1, 40, .inl dD))]]) H := hP
        have hD : va_D A (lxF [[(o, .inr (10, [.ref ok, .ref ol, .ref on]))], [(ok, .inl (G.2.1, 8, .inl fk))], mlW G q M, [(ol, lxq k n rr)], lrB G r fs fa fb n, [(dp, .inl (G.2.1, 40, .inl dD))]]) := hD
        obtain ⟨hP, hD⟩ := lb_sub (Cs := [mlW G q M, [(o, .inr (10, [.ref ok, .ref ol, .ref on]))], [(ok, .inl (G.2.1, 8, .inl fk))], [(ol, lxq k n rr)], lrB G r fs fa fb n, [(dp, .inl (G.2.1, 40, .inl dD))]]) [2, 0, 1, 3, 4, 5] [] hP hD rfl (by show List.Perm _ (List.range 6); decide)
        refine lv_istore (lv' := [(8, .int (nI p13)), (7, .int (nI (lbl y 3))), (0, .ref (q 0)), (1, .ref o), (2, .int x), (3, .int y), (4, .ref dp), (5, .int (nI (lbl (y >>> (4 &&& 31)) 31) - 9)), (6, .int kd)]) hx hb dL_line_318 hl (by decide) rfl (fun ls hl => ?_)
        refine lv_aload_n hx hb dL_line_320 rfl (lv_at hl 2 rfl) ?_
        refine lv_aload_n hx hb dL_line_321 rfl (lv_at hl 3 rfl) ?_
        refine lv_iconst (v := 4) hx hb dL_line_322 (by decide) ?_
        refine lv_aload_n hx hb dL_line_323 rfl (lv_at hl 3 rfl) ?_
        refine lv_iconst (v := 4) hx hb dL_line_324 (by decide) ?_
        refine lv_iload_n hx hb dL_line_325 rfl (lv_at hl 4 rfl) ?_
        refine lv_iconst (v := 4) hx hb dL_line_326 (by decide) ?_
        refine lv_ishr hx hb dL_line_327 ?_
        refine ly_s (As := [.ref o, .int 4, .int (x >>> (4 &&& 31))]) (rest := [.int 4, .ref o, .ref (q 0)]) hx hb hml hown hts (t_L_place l G k o ok ol on fk 4 (x >>> (4 &&& 31))) 3 (sxGS (bi13 (w := Cond.methodLink RL 46 yL_place) 54 rfl) (bi13 (w := Cond.static yL_place) 55 rfl) (bi13 (w := Cond.initialized RL) 44 rfl) (bi13 (w := Cond.code yL_place cL_place 5 (some .int)) 49 rfl)) rfl (by decide +kernel) ⟨Nat.le_of_ble_eq_true rfl, Nat.le_of_ble_eq_true rfl⟩ hK hP hD hS hA hE [1, 2] [0, 3, 4, 5] rfl rfl (by show List.Perm _ (List.range 6); decide) rfl hl rfl (Nat.le_of_ble_eq_true rfl) ⟨by show _ ≤ 2; omega, by show _ ≤ 36; omega⟩ dL_line_328 (fun B1 v1 hp1 H locs hP hD hS => ?_)
        obtain ⟨rfl, p14, hp14_, rfl, hkk14⟩ := hp1
        have hk14 := lk_place hKz (by decide) hkk14
        show W p l e _ s m args below meth c H locs _ _ _ (F0 m 331 ls [.int (nI p14), .int 4, .ref o, .ref (q 0)])
        have hP : va_P G.1 vwCl (lxF [[(o, .inr (10, [.ref ok, .ref ol, .ref on]))], [(ok, .inl (G.2.1, 8, .inl fk))], mlW G q M, [(ol, lxq k n rr)], lrB G r fs fa fb n, [(dp, .inl (G.2.1, 40, .inl dD))]]) H := hP
        have hD : va_D A (lxF [[(o, .inr (10, [.ref ok, .ref ol, .ref on]))], [(ok, .inl (G.2.1, 8, .inl fk))], mlW G q M, [(ol, lxq k n rr)], lrB G r fs fa fb n, [(dp, .inl (G.2.1, 40, .inl dD))]]) := hD
        obtain ⟨hP, hD⟩ := lb_sub (Cs := [mlW G q M, [(o, .inr (10, [.ref ok, .ref ol, .ref on]))], [(ok, .inl (G.2.1, 8, .inl fk))], [(ol, lxq k n rr)], lrB G r fs fa fb n, [(dp, .inl (G.2.1, 40, .inl dD))]]) [2, 0, 1, 3, 4, 5] [] hP hD rfl (by show List.Perm _ (List.range 6); decide)
        refine lv_iload hx hb dL_line_331 (lv_at hl 0 rfl) ?_
        refine lv_if_ne (tgt := 340) hx hb dL_line_333 (by decide) (fun c2 => ?_) (fun c2 => ?_)
        · have nc2 := (not_congr (nI_eq (a := p13) (b := 0) (by omega) (by omega))).mp c2
          refine lv_iload hx hb dL_line_340 (lv_at hl 0 rfl) ?_
          refine ly_s (As := [.ref (q 0), .ref o, .int 4, .int (nI p14), .int (nI p13)]) (rest := []) hx hb hml hown hts (t_L_add l G k q o ok ol on n rr r fk fs fa fb M rn 4 (nI p14) (nI p13) hI (lf4 ((lf_kd hp14_).trans hk14) ((lf_kd hp13_).trans hk13) (by rcases (show lbl y 3 = 0 ∨ lbl y 3 = 1 ∨ lbl y 3 = 2 by omega) with e | e | e <;> (rw [e]; decide)))) 5 (sxGS (bi13 (w := Cond.methodLink RL 50 yL_add) 51 rfl) (bi13 (w := Cond.static yL_add) 52 rfl) (bi13 (w := Cond.initialized RL) 44 rfl) (bi13 (w := Cond.code yL_add cL_add 5 (some .boolean)) 40 rfl)) rfl (by decide +kernel) ⟨Nat.le_of_ble_eq_true rfl, Nat.le_of_ble_eq_true rfl⟩ hK hP hD hS hA hE [0, 1, 3, 4] [2, 5] rfl rfl (by show List.Perm _ (List.range 6); decide) rfl hl rfl (Nat.le_of_ble_eq_true rfl) ⟨by show _ ≤ 2; omega, by show _ ≤ 36; omega⟩ dL_line_342 (fun B1 v1 hp1 H locs hP hD hS => ?_)
          obtain ⟨rfl, M1, ol1, n1, rr1, r1, fs1, fa1, fb1, rfl, hI1, hA1⟩ := hp1
          obtain ⟨hW1, hn1⟩ := lw_lgA hW hA1 (fun _ => c2) (by decide) (by decide) (by decide) (by decide)
          show W p l e _ s m args below meth c H locs _ _ _ (F0 m 345 ls [.int 1])
          have hP : va_P G.1 vwCl (lxF [mlW G q M1, [(o, .inr (10, [.ref ok, .ref ol1, .ref on]))], [(ol1, lxq k n1 rr1)], lrB G r1 fs1 fa1 fb1 n1, [(ok, .inl (G.2.1, 8, .inl fk))], [(dp, .inl (G.2.1, 40, .inl dD))]]) H := hP
          have hD : va_D A (lxF [mlW G q M1, [(o, .inr (10, [.ref ok, .ref ol1, .ref on]))], [(ol1, lxq k n1 rr1)], lrB G r1 fs1 fa1 fb1 n1, [(ok, .inl (G.2.1, 8, .inl fk))], [(dp, .inl (G.2.1, 40, .inl dD))]]) := hD
          obtain ⟨hP, hD⟩ := lb_sub (Cs := [mlW G q M1, [(o, .inr (10, [.ref ok, .ref ol1, .ref on]))], [(ok, .inl (G.2.1, 8, .inl fk))], [(ol1, lxq k n1 rr1)], lrB G r1 fs1 fa1 fb1 n1, [(dp, .inl (G.2.1, 40, .inl dD))]]) [0, 1, 4, 2, 3, 5] [] hP hD rfl (by show List.Perm _ (List.range 6); decide)
          exact ly_ri hx hb hr hlk hP hD hS rfl (⟨rfl, M1, ol1, n1, rr1, r1, fs1, fa1, fb1, d, dD, rfl, hI1, hW1, by omega⟩) (by omega) (by omega) dL_line_345
        · have nc2 := (nI_eq (a := p13) (b := 0) (by omega) (by omega)).mp c2
          refine lv_iconst (v := 3) hx hb dL_line_336 (by decide) ?_
          refine lv_goto (tgt := 342) hx hb dL_line_337 (by decide) ?_
          refine ly_s (As := [.ref (q 0), .ref o, .int 4, .int (nI p14), .int 3]) (rest := []) hx hb hml hown hts (t_L_add l G k q o ok ol on n rr r fk fs fa fb M rn 4 (nI p14) 3 hI (lf4 (kB := 0) ((lf_kd hp14_).trans hk14) ((lf_kd (p := 3) (by omega)).trans (lk_all hKz).2.1) (by decide))) 5 (sxGS (bi13 (w := Cond.methodLink RL 50 yL_add) 51 rfl) (bi13 (w := Cond.static yL_add) 52 rfl) (bi13 (w := Cond.initialized RL) 44 rfl) (bi13 (w := Cond.code yL_add cL_add 5 (some .boolean)) 40 rfl)) rfl (by decide +kernel) ⟨Nat.le_of_ble_eq_true rfl, Nat.le_of_ble_eq_true rfl⟩ hK hP hD hS hA hE [0, 1, 3, 4] [2, 5] rfl rfl (by show List.Perm _ (List.range 6); decide) rfl hl rfl (Nat.le_of_ble_eq_true rfl) ⟨by show _ ≤ 2; omega, by show _ ≤ 36; omega⟩ dL_line_342 (fun B1 v1 hp1 H locs hP hD hS => ?_)
          obtain ⟨rfl, M1, ol1, n1, rr1, r1, fs1, fa1, fb1, rfl, hI1, hA1⟩ := hp1
          obtain ⟨hW1, hn1⟩ := lw_lgA hW hA1 (fun _ => by decide) (by decide) (by decide) (by decide) (by decide)
          show W p l e _ s m args below meth c H locs _ _ _ (F0 m 345 ls [.int 1])
          have hP : va_P G.1 vwCl (lxF [mlW G q M1, [(o, .inr (10, [.ref ok, .ref ol1, .ref on]))], [(ol1, lxq k n1 rr1)], lrB G r1 fs1 fa1 fb1 n1, [(ok, .inl (G.2.1, 8, .inl fk))], [(dp, .inl (G.2.1, 40, .inl dD))]]) H := hP
          have hD : va_D A (lxF [mlW G q M1, [(o, .inr (10, [.ref ok, .ref ol1, .ref on]))], [(ol1, lxq k n1 rr1)], lrB G r1 fs1 fa1 fb1 n1, [(ok, .inl (G.2.1, 8, .inl fk))], [(dp, .inl (G.2.1, 40, .inl dD))]]) := hD
          obtain ⟨hP, hD⟩ := lb_sub (Cs := [mlW G q M1, [(o, .inr (10, [.ref ok, .ref ol1, .ref on]))], [(ok, .inl (G.2.1, 8, .inl fk))], [(ol1, lxq k n1 rr1)], lrB G r1 fs1 fa1 fb1 n1, [(dp, .inl (G.2.1, 40, .inl dD))]]) [0, 1, 4, 2, 3, 5] [] hP hD rfl (by show List.Perm _ (List.range 6); decide)
          exact ly_ri hx hb hr hlk hP hD hS rfl (⟨rfl, M1, ol1, n1, rr1, r1, fs1, fa1, fb1, d, dD, rfl, hI1, hW1, by omega⟩) (by omega) (by omega) dL_line_345
      · refine lv_tableIn (off := 299) (tgt := 346) hx hb dL_line_47 (by rcases sw with sw | sw <;> (rw [sw]; decide)) (by rcases sw with sw | sw <;> (rw [sw]; decide)) (by rcases sw with sw | sw <;> (rw [sw]; rfl)) (by decide) ?_
        refine lv_aload_n hx hb dL_line_346 rfl (lv_at hl 1 rfl) ?_
        refine lv_aload_n hx hb dL_line_347 rfl (lv_at hl 2 rfl) ?_
        refine lv_iconst (v := 5) hx hb dL_line_348 (by decide) ?_
        refine lv_aload_n hx hb dL_line_349 rfl (lv_at hl 2 rfl) ?_
        refine lv_iload_n hx hb dL_line_350 rfl (lv_at hl 4 rfl) ?_
        refine lv_bipush (v := 6) hx hb dL_line_351 (by decide) ?_
        refine ly_s (As := [.int y, .int 6]) (rest := [.ref o, .int 5, .ref o, .ref (q 0)]) hx hb hml hown hts (t_L_below l G k y 6 (by decide) (by decide)) 2 (sxGS (bi13 (w := Cond.methodLink RL 29 yL_below) 42 rfl) (bi13 (w := Cond.static yL_below) 43 rfl) (bi13 (w := Cond.initialized RL) 44 rfl) (bi13 (w := Cond.code yL_below cL_below 2 (some .int)) 27 rfl)) rfl (by decide +kernel) ⟨Nat.le_of_ble_eq_true rfl, Nat.le_of_ble_eq_true rfl⟩ hK hP hD hS hA hE [] [0, 1, 2, 3, 4, 5] rfl rfl (by show List.Perm _ (List.range 6); decide) rfl hl rfl (Nat.le_of_ble_eq_true rfl) ⟨by show _ ≤ 2; omega, by show _ ≤ 36; omega⟩ dL_line_353 (fun B1 v1 hp1 H locs hP hD hS => ?_)
        obtain ⟨rfl, rfl⟩ := hp1
        have hbl2 := lbl_lt y (n := 6) (by decide)
        show W p l e _ s m args below meth c H locs _ _ _ (F0 m 356 ls [.int (nI (lbl y 6)), .ref o, .int 5, .ref o, .ref (q 0)])
        have hP : va_P G.1 vwCl (lxF [mlW G q M, [(o, .inr (10, [.ref ok, .ref ol, .ref on]))], [(ok, .inl (G.2.1, 8, .inl fk))], [(ol, lxq k n rr)], lrB G r fs fa fb n, [(dp, .inl (G.2.1, 40, .inl dD))]]) H := hP
        have hD : va_D A (lxF [mlW G q M, [(o, .inr (10, [.ref ok, .ref ol, .ref on]))], [(ok, .inl (G.2.1, 8, .inl fk))], [(ol, lxq k n rr)], lrB G r fs fa fb n, [(dp, .inl (G.2.1, 40, .inl dD))]]) := hD
        refine lv_iload_n hx hb dL_line_356 rfl (lv_at hl 3 rfl) ?_
        refine lv_iconst (v := 4) hx hb dL_line_357 (by decide) ?_
        refine lv_ishr hx hb dL_line_358 ?_
        refine ly_s (As := [.ref o, .int (nI (lbl y 6)), .int (x >>> (4 &&& 31))]) (rest := [.int 5, .ref o, .ref (q 0)]) hx hb hml hown hts (t_L_place l G k o ok ol on fk (nI (lbl y 6)) (x >>> (4 &&& 31))) 3 (sxGS (bi13 (w := Cond.methodLink RL 46 yL_place) 54 rfl) (bi13 (w := Cond.static yL_place) 55 rfl) (bi13 (w := Cond.initialized RL) 44 rfl) (bi13 (w := Cond.code yL_place cL_place 5 (some .int)) 49 rfl)) rfl (by decide +kernel) ⟨Nat.le_of_ble_eq_true rfl, Nat.le_of_ble_eq_true rfl⟩ hK hP hD hS hA hE [1, 2] [0, 3, 4, 5] rfl rfl (by show List.Perm _ (List.range 6); decide) rfl hl rfl (Nat.le_of_ble_eq_true rfl) ⟨by show _ ≤ 2; omega, by show _ ≤ 36; omega⟩ dL_line_359 (fun B1 v1 hp1 H locs hP hD hS => ?_)
        obtain ⟨rfl, p15, hp15_, rfl, hkk15⟩ := hp1
        have hk15 := lk_place hKz (by rcases (show lbl y 6 = 0 ∨ lbl y 6 = 1 ∨ lbl y 6 = 2 ∨ lbl y 6 = 3 ∨ lbl y 6 = 4 ∨ lbl y 6 = 5 by omega) with e | e | e | e | e | e <;> (rw [e]; decide)) hkk15
        show W p l e _ s m args below meth c H locs _ _ _ (F0 m 362 ls [.int (nI p15), .int 5, .ref o, .ref (q 0)])
        have hP : va_P G.1 vwCl (lxF [[(o, .inr (10, [.ref ok, .ref ol, .ref on]))], [(ok, .inl (G.2.1, 8, .inl fk))], mlW G q M, [(ol, lxq k n rr)], lrB G r fs fa fb n, [(dp, .inl (G.2.1, 40, .inl dD))]]) H := hP
        have hD : va_D A (lxF [[(o, .inr (10, [.ref ok, .ref ol, .ref on]))], [(ok, .inl (G.2.1, 8, .inl fk))], mlW G q M, [(ol, lxq k n rr)], lrB G r fs fa fb n, [(dp, .inl (G.2.1, 40, .inl dD))]]) := hD
        obtain ⟨hP, hD⟩ := lb_sub (Cs := [mlW G q M, [(o, .inr (10, [.ref ok, .ref ol, .ref on]))], [(ok, .inl (G.2.1, 8, .inl fk))], [(ol, lxq k n rr)], lrB G r fs fa fb n, [(dp, .inl (G.2.1, 40, .inl dD))]]) [2, 0, 1, 3, 4, 5] [] hP hD rfl (by show List.Perm _ (List.range 6); decide)
        refine lv_iconst (v := 0) hx hb dL_line_362 (by decide) ?_
        refine ly_s (As := [.ref (q 0), .ref o, .int 5, .int (nI p15), .int 0]) (rest := []) hx hb hml hown hts (t_L_add l G k q o ok ol on n rr r fk fs fa fb M rn 5 (nI p15) 0 hI (lf5 ((lf_kd hp15_).trans hk15) (by rcases (show lbl y 6 = 0 ∨ lbl y 6 = 1 ∨ lbl y 6 = 2 ∨ lbl y 6 = 3 ∨ lbl y 6 = 4 ∨ lbl y 6 = 5 by omega) with e | e | e | e | e | e <;> (rw [e]; decide)))) 5 (sxGS (bi13 (w := Cond.methodLink RL 50 yL_add) 51 rfl) (bi13 (w := Cond.static yL_add) 52 rfl) (bi13 (w := Cond.initialized RL) 44 rfl) (bi13 (w := Cond.code yL_add cL_add 5 (some .boolean)) 40 rfl)) rfl (by decide +kernel) ⟨Nat.le_of_ble_eq_true rfl, Nat.le_of_ble_eq_true rfl⟩ hK hP hD hS hA hE [0, 1, 3, 4] [2, 5] rfl rfl (by show List.Perm _ (List.range 6); decide) rfl hl rfl (Nat.le_of_ble_eq_true rfl) ⟨by show _ ≤ 2; omega, by show _ ≤ 36; omega⟩ dL_line_363 (fun B1 v1 hp1 H locs hP hD hS => ?_)
        obtain ⟨rfl, M1, ol1, n1, rr1, r1, fs1, fa1, fb1, rfl, hI1, hA1⟩ := hp1
        obtain ⟨hW1, hn1⟩ := lw_lgA hW hA1 (fun e => absurd e (by decide)) (by decide) (by decide) (by decide) (by decide)
        show W p l e _ s m args below meth c H locs _ _ _ (F0 m 366 ls [.int 1])
        have hP : va_P G.1 vwCl (lxF [mlW G q M1, [(o, .inr (10, [.ref ok, .ref ol1, .ref on]))], [(ol1, lxq k n1 rr1)], lrB G r1 fs1 fa1 fb1 n1, [(ok, .inl (G.2.1, 8, .inl fk))], [(dp, .inl (G.2.1, 40, .inl dD))]]) H := hP
        have hD : va_D A (lxF [mlW G q M1, [(o, .inr (10, [.ref ok, .ref ol1, .ref on]))], [(ol1, lxq k n1 rr1)], lrB G r1 fs1 fa1 fb1 n1, [(ok, .inl (G.2.1, 8, .inl fk))], [(dp, .inl (G.2.1, 40, .inl dD))]]) := hD
        obtain ⟨hP, hD⟩ := lb_sub (Cs := [mlW G q M1, [(o, .inr (10, [.ref ok, .ref ol1, .ref on]))], [(ok, .inl (G.2.1, 8, .inl fk))], [(ol1, lxq k n1 rr1)], lrB G r1 fs1 fa1 fb1 n1, [(dp, .inl (G.2.1, 40, .inl dD))]]) [0, 1, 4, 2, 3, 5] [] hP hD rfl (by show List.Perm _ (List.range 6); decide)
        exact ly_ri hx hb hr hlk hP hD hS rfl (⟨rfl, M1, ol1, n1, rr1, r1, fs1, fa1, fb1, d, dD, rfl, hI1, hW1, by omega⟩) (by omega) (by omega) dL_line_366
      · refine lv_tableIn (off := 320) (tgt := 367) hx hb dL_line_47 (by rw [sw]; decide) (by rw [sw]; decide) (by rw [sw]; rfl) (by decide) ?_
        refine lv_aload_n hx hb dL_line_367 rfl (lv_at hl 1 rfl) ?_
        refine lv_aload_n hx hb dL_line_368 rfl (lv_at hl 2 rfl) ?_
        refine lv_bipush (v := 6) hx hb dL_line_369 (by decide) ?_
        refine lv_aload_n hx hb dL_line_371 rfl (lv_at hl 2 rfl) ?_
        refine lv_iload hx hb dL_line_372 (lv_at hl 0 rfl) ?_
        refine lv_iconst (v := 2) hx hb dL_line_374 (by decide) ?_
        refine lv_icmp_ne (tgt := 382) hx hb dL_line_375 (by decide) (fun c3 => ?_) (fun c3 => ?_)
        · have nc3 := (not_congr (nI_eq (a := (lbl y 3)) (b := 2) (by omega) (by omega))).mp c3
          refine lv_iload hx hb dL_line_382 (lv_at hl 0 rfl) ?_
          refine lv_iload_n hx hb dL_line_384 rfl (lv_at hl 3 rfl) ?_
          refine lv_iconst (v := 4) hx hb dL_line_385 (by decide) ?_
          refine lv_ishr hx hb dL_line_386 ?_
          refine ly_s (As := [.ref o, .int (nI (lbl y 3)), .int (x >>> (4 &&& 31))]) (rest := [.int 6, .ref o, .ref (q 0)]) hx hb hml hown hts (t_L_place l G k o ok ol on fk (nI (lbl y 3)) (x >>> (4 &&& 31))) 3 (sxGS (bi13 (w := Cond.methodLink RL 46 yL_place) 54 rfl) (bi13 (w := Cond.static yL_place) 55 rfl) (bi13 (w := Cond.initialized RL) 44 rfl) (bi13 (w := Cond.code yL_place cL_place 5 (some .int)) 49 rfl)) rfl (by decide +kernel) ⟨Nat.le_of_ble_eq_true rfl, Nat.le_of_ble_eq_true rfl⟩ hK hP hD hS hA hE [1, 2] [0, 3, 4, 5] rfl rfl (by show List.Perm _ (List.range 6); decide) rfl hl rfl (Nat.le_of_ble_eq_true rfl) ⟨by show _ ≤ 2; omega, by show _ ≤ 36; omega⟩ dL_line_387 (fun B1 v1 hp1 H locs hP hD hS => ?_)
          obtain ⟨rfl, p16, hp16_, rfl, hkk16⟩ := hp1
          have hk16 := lk_place hKz (by rcases (show lbl y 3 = 0 ∨ lbl y 3 = 1 ∨ lbl y 3 = 2 by omega) with e | e | e <;> (rw [e]; decide)) hkk16
          show W p l e _ s m args below meth c H locs _ _ _ (F0 m 390 ls [.int (nI p16), .int 6, .ref o, .ref (q 0)])
          have hP : va_P G.1 vwCl (lxF [[(o, .inr (10, [.ref ok, .ref ol, .ref on]))], [(ok, .inl (G.2.1, 8, .inl fk))], mlW G q M, [(ol, lxq k n rr)], lrB G r fs fa fb n, [(dp, .inl (G.2.1, 40, .inl dD))]]) H := hP
          have hD : va_D A (lxF [[(o, .inr (10, [.ref ok, .ref ol, .ref on]))], [(ok, .inl (G.2.1, 8, .inl fk))], mlW G q M, [(ol, lxq k n rr)], lrB G r fs fa fb n, [(dp, .inl (G.2.1, 40, .inl dD))]]) := hD
          obtain ⟨hP, hD⟩ := lb_sub (Cs := [mlW G q M, [(o, .inr (10, [.ref ok, .ref ol, .ref on]))], [(ok, .inl (G.2.1, 8, .inl fk))], [(ol, lxq k n rr)], lrB G r fs fa fb n, [(dp, .inl (G.2.1, 40, .inl dD))]]) [2, 0, 1, 3, 4, 5] [] hP hD rfl (by show List.Perm _ (List.range 6); decide)
          refine lv_iload hx hb dL_line_390 (lv_at hl 6 rfl) ?_
          refine ly_s (As := [.ref (q 0), .ref o, .int 6, .int (nI p16), .int (nI (lbl (y >>> (4 &&& 31)) 31) - 9)]) (rest := []) hx hb hml hown hts (t_L_add l G k q o ok ol on n rr r fk fs fa fb M rn 6 (nI p16) (nI (lbl (y >>> (4 &&& 31)) 31) - 9) hI (lf6 ((lf_kd hp16_).trans hk16) (by have h2 : ¬ lbl y 3 = 2 := fun z => c3 (by rw [z]; rfl); rcases (show lbl y 3 = 0 ∨ lbl y 3 = 1 by omega) with e | e <;> (rw [e]; decide)) (lf_small (c := (lbl (y >>> (4 &&& 31)) 31)) (d := 9) (by omega) (by omega)))) 5 (sxGS (bi13 (w := Cond.methodLink RL 50 yL_add) 51 rfl) (bi13 (w := Cond.static yL_add) 52 rfl) (bi13 (w := Cond.initialized RL) 44 rfl) (bi13 (w := Cond.code yL_add cL_add 5 (some .boolean)) 40 rfl)) rfl (by decide +kernel) ⟨Nat.le_of_ble_eq_true rfl, Nat.le_of_ble_eq_true rfl⟩ hK hP hD hS hA hE [0, 1, 3, 4] [2, 5] rfl rfl (by show List.Perm _ (List.range 6); decide) rfl hl rfl (Nat.le_of_ble_eq_true rfl) ⟨by show _ ≤ 2; omega, by show _ ≤ 36; omega⟩ dL_line_392 (fun B1 v1 hp1 H locs hP hD hS => ?_)
          obtain ⟨rfl, M1, ol1, n1, rr1, r1, fs1, fa1, fb1, rfl, hI1, hA1⟩ := hp1
          obtain ⟨hW1, hn1⟩ := lw_lgA hW hA1 (fun e => absurd e (by decide)) (by decide) (by decide) (by decide) (by decide)
          show W p l e _ s m args below meth c H locs _ _ _ (F0 m 395 ls [.int 1])
          have hP : va_P G.1 vwCl (lxF [mlW G q M1, [(o, .inr (10, [.ref ok, .ref ol1, .ref on]))], [(ol1, lxq k n1 rr1)], lrB G r1 fs1 fa1 fb1 n1, [(ok, .inl (G.2.1, 8, .inl fk))], [(dp, .inl (G.2.1, 40, .inl dD))]]) H := hP
          have hD : va_D A (lxF [mlW G q M1, [(o, .inr (10, [.ref ok, .ref ol1, .ref on]))], [(ol1, lxq k n1 rr1)], lrB G r1 fs1 fa1 fb1 n1, [(ok, .inl (G.2.1, 8, .inl fk))], [(dp, .inl (G.2.1, 40, .inl dD))]]) := hD
          obtain ⟨hP, hD⟩ := lb_sub (Cs := [mlW G q M1, [(o, .inr (10, [.ref ok, .ref ol1, .ref on]))], [(ok, .inl (G.2.1, 8, .inl fk))], [(ol1, lxq k n1 rr1)], lrB G r1 fs1 fa1 fb1 n1, [(dp, .inl (G.2.1, 40, .inl dD))]]) [0, 1, 4, 2, 3, 5] [] hP hD rfl (by show List.Perm _ (List.range 6); decide)
          exact ly_ri hx hb hr hlk hP hD hS rfl (⟨rfl, M1, ol1, n1, rr1, r1, fs1, fa1, fb1, d, dD, rfl, hI1, hW1, by omega⟩) (by omega) (by omega) dL_line_395
        · have nc3 := (nI_eq (a := (lbl y 3)) (b := 2) (by omega) (by omega)).mp c3
          refine lv_iconst (v := 4) hx hb dL_line_378 (by decide) ?_
          refine lv_goto (tgt := 384) hx hb dL_line_379 (by decide) ?_
          refine lv_iload_n hx hb dL_line_384 rfl (lv_at hl 3 rfl) ?_
          refine lv_iconst (v := 4) hx hb dL_line_385 (by decide) ?_
          refine lv_ishr hx hb dL_line_386 ?_
          refine ly_s (As := [.ref o, .int 4, .int (x >>> (4 &&& 31))]) (rest := [.int 6, .ref o, .ref (q 0)]) hx hb hml hown hts (t_L_place l G k o ok ol on fk 4 (x >>> (4 &&& 31))) 3 (sxGS (bi13 (w := Cond.methodLink RL 46 yL_place) 54 rfl) (bi13 (w := Cond.static yL_place) 55 rfl) (bi13 (w := Cond.initialized RL) 44 rfl) (bi13 (w := Cond.code yL_place cL_place 5 (some .int)) 49 rfl)) rfl (by decide +kernel) ⟨Nat.le_of_ble_eq_true rfl, Nat.le_of_ble_eq_true rfl⟩ hK hP hD hS hA hE [1, 2] [0, 3, 4, 5] rfl rfl (by show List.Perm _ (List.range 6); decide) rfl hl rfl (Nat.le_of_ble_eq_true rfl) ⟨by show _ ≤ 2; omega, by show _ ≤ 36; omega⟩ dL_line_387 (fun B1 v1 hp1 H locs hP hD hS => ?_)
          obtain ⟨rfl, p17, hp17_, rfl, hkk17⟩ := hp1
          have hk17 := lk_place hKz (by decide) hkk17
          show W p l e _ s m args below meth c H locs _ _ _ (F0 m 390 ls [.int (nI p17), .int 6, .ref o, .ref (q 0)])
          have hP : va_P G.1 vwCl (lxF [[(o, .inr (10, [.ref ok, .ref ol, .ref on]))], [(ok, .inl (G.2.1, 8, .inl fk))], mlW G q M, [(ol, lxq k n rr)], lrB G r fs fa fb n, [(dp, .inl (G.2.1, 40, .inl dD))]]) H := hP
          have hD : va_D A (lxF [[(o, .inr (10, [.ref ok, .ref ol, .ref on]))], [(ok, .inl (G.2.1, 8, .inl fk))], mlW G q M, [(ol, lxq k n rr)], lrB G r fs fa fb n, [(dp, .inl (G.2.1, 40, .inl dD))]]) := hD
          obtain ⟨hP, hD⟩ := lb_sub (Cs := [mlW G q M, [(o, .inr (10, [.ref ok, .ref ol, .ref on]))], [(ok, .inl (G.2.1, 8, .inl fk))], [(ol, lxq k n rr)], lrB G r fs fa fb n, [(dp, .inl (G.2.1, 40, .inl dD))]]) [2, 0, 1, 3, 4, 5] [] hP hD rfl (by show List.Perm _ (List.range 6); decide)
          refine lv_iload hx hb dL_line_390 (lv_at hl 6 rfl) ?_
          refine ly_s (As := [.ref (q 0), .ref o, .int 6, .int (nI p17), .int (nI (lbl (y >>> (4 &&& 31)) 31) - 9)]) (rest := []) hx hb hml hown hts (t_L_add l G k q o ok ol on n rr r fk fs fa fb M rn 6 (nI p17) (nI (lbl (y >>> (4 &&& 31)) 31) - 9) hI (lf6 ((lf_kd hp17_).trans hk17) (by decide) (lf_small (c := (lbl (y >>> (4 &&& 31)) 31)) (d := 9) (by omega) (by omega)))) 5 (sxGS (bi13 (w := Cond.methodLink RL 50 yL_add) 51 rfl) (bi13 (w := Cond.static yL_add) 52 rfl) (bi13 (w := Cond.initialized RL) 44 rfl) (bi13 (w := Cond.code yL_add cL_add 5 (some .boolean)) 40 rfl)) rfl (by decide +kernel) ⟨Nat.le_of_ble_eq_true rfl, Nat.le_of_ble_eq_true rfl⟩ hK hP hD hS hA hE [0, 1, 3, 4] [2, 5] rfl rfl (by show List.Perm _ (List.range 6); decide) rfl hl rfl (Nat.le_of_ble_eq_true rfl) ⟨by show _ ≤ 2; omega, by show _ ≤ 36; omega⟩ dL_line_392 (fun B1 v1 hp1 H locs hP hD hS => ?_)
          obtain ⟨rfl, M1, ol1, n1, rr1, r1, fs1, fa1, fb1, rfl, hI1, hA1⟩ := hp1
          obtain ⟨hW1, hn1⟩ := lw_lgA hW hA1 (fun e => absurd e (by decide)) (by decide) (by decide) (by decide) (by decide)
          show W p l e _ s m args below meth c H locs _ _ _ (F0 m 395 ls [.int 1])
          have hP : va_P G.1 vwCl (lxF [mlW G q M1, [(o, .inr (10, [.ref ok, .ref ol1, .ref on]))], [(ol1, lxq k n1 rr1)], lrB G r1 fs1 fa1 fb1 n1, [(ok, .inl (G.2.1, 8, .inl fk))], [(dp, .inl (G.2.1, 40, .inl dD))]]) H := hP
          have hD : va_D A (lxF [mlW G q M1, [(o, .inr (10, [.ref ok, .ref ol1, .ref on]))], [(ol1, lxq k n1 rr1)], lrB G r1 fs1 fa1 fb1 n1, [(ok, .inl (G.2.1, 8, .inl fk))], [(dp, .inl (G.2.1, 40, .inl dD))]]) := hD
          obtain ⟨hP, hD⟩ := lb_sub (Cs := [mlW G q M1, [(o, .inr (10, [.ref ok, .ref ol1, .ref on]))], [(ok, .inl (G.2.1, 8, .inl fk))], [(ol1, lxq k n1 rr1)], lrB G r1 fs1 fa1 fb1 n1, [(dp, .inl (G.2.1, 40, .inl dD))]]) [0, 1, 4, 2, 3, 5] [] hP hD rfl (by show List.Perm _ (List.range 6); decide)
          exact ly_ri hx hb hr hlk hP hD hS rfl (⟨rfl, M1, ol1, n1, rr1, r1, fs1, fa1, fb1, d, dD, rfl, hI1, hW1, by omega⟩) (by omega) (by omega) dL_line_395
      · refine lv_tableIn (off := 349) (tgt := 396) hx hb dL_line_47 (by rw [sw]; decide) (by rw [sw]; decide) (by rw [sw]; rfl) (by decide) ?_
        refine lv_aload_n hx hb dL_line_396 rfl (lv_at hl 1 rfl) ?_
        refine lv_aload_n hx hb dL_line_397 rfl (lv_at hl 2 rfl) ?_
        refine lv_bipush (v := 7) hx hb dL_line_398 (by decide) ?_
        refine lv_aload_n hx hb dL_line_400 rfl (lv_at hl 2 rfl) ?_
        refine lv_iload hx hb dL_line_401 (lv_at hl 7 rfl) ?_
        refine lv_iload_n hx hb dL_line_403 rfl (lv_at hl 3 rfl) ?_
        refine lv_iconst (v := 4) hx hb dL_line_404 (by decide) ?_
        refine lv_ishr hx hb dL_line_405 ?_
        refine ly_s (As := [.ref o, .int kd, .int (x >>> (4 &&& 31))]) (rest := [.int 7, .ref o, .ref (q 0)]) hx hb hml hown hts (t_L_place l G k o ok ol on fk kd (x >>> (4 &&& 31))) 3 (sxGS (bi13 (w := Cond.methodLink RL 46 yL_place) 54 rfl) (bi13 (w := Cond.static yL_place) 55 rfl) (bi13 (w := Cond.initialized RL) 44 rfl) (bi13 (w := Cond.code yL_place cL_place 5 (some .int)) 49 rfl)) rfl (by decide +kernel) ⟨Nat.le_of_ble_eq_true rfl, Nat.le_of_ble_eq_true rfl⟩ hK hP hD hS hA hE [1, 2] [0, 3, 4, 5] rfl rfl (by show List.Perm _ (List.range 6); decide) rfl hl rfl (Nat.le_of_ble_eq_true rfl) ⟨by show _ ≤ 2; omega, by show _ ≤ 36; omega⟩ dL_line_406 (fun B1 v1 hp1 H locs hP hD hS => ?_)
        obtain ⟨rfl, p18, hp18_, rfl, hkk18⟩ := hp1
        have hk18 := lk_place hKz (by rcases hkd with e | e | e <;> (rw [e]; decide)) hkk18
        show W p l e _ s m args below meth c H locs _ _ _ (F0 m 409 ls [.int (nI p18), .int 7, .ref o, .ref (q 0)])
        have hP : va_P G.1 vwCl (lxF [[(o, .inr (10, [.ref ok, .ref ol, .ref on]))], [(ok, .inl (G.2.1, 8, .inl fk))], mlW G q M, [(ol, lxq k n rr)], lrB G r fs fa fb n, [(dp, .inl (G.2.1, 40, .inl dD))]]) H := hP
        have hD : va_D A (lxF [[(o, .inr (10, [.ref ok, .ref ol, .ref on]))], [(ok, .inl (G.2.1, 8, .inl fk))], mlW G q M, [(ol, lxq k n rr)], lrB G r fs fa fb n, [(dp, .inl (G.2.1, 40, .inl dD))]]) := hD
        obtain ⟨hP, hD⟩ := lb_sub (Cs := [mlW G q M, [(o, .inr (10, [.ref ok, .ref ol, .ref on]))], [(ok, .inl (G.2.1, 8, .inl fk))], [(ol, lxq k n rr)], lrB G r fs fa fb n, [(dp, .inl (G.2.1, 40, .inl dD))]]) [2, 0, 1, 3, 4, 5] [] hP hD rfl (by show List.Perm _ (List.range 6); decide)
        refine lv_iconst (v := 0) hx hb dL_line_409 (by decide) ?_
        refine ly_s (As := [.ref (q 0), .ref o, .int 7, .int (nI p18), .int 0]) (rest := []) hx hb hml hown hts (t_L_add l G k q o ok ol on n rr r fk fs fa fb M rn 7 (nI p18) 0 hI (lf7 ((lf_kd hp18_).trans hk18) (by rcases hkd with e | e | e <;> (rw [e]; decide)))) 5 (sxGS (bi13 (w := Cond.methodLink RL 50 yL_add) 51 rfl) (bi13 (w := Cond.static yL_add) 52 rfl) (bi13 (w := Cond.initialized RL) 44 rfl) (bi13 (w := Cond.code yL_add cL_add 5 (some .boolean)) 40 rfl)) rfl (by decide +kernel) ⟨Nat.le_of_ble_eq_true rfl, Nat.le_of_ble_eq_true rfl⟩ hK hP hD hS hA hE [0, 1, 3, 4] [2, 5] rfl rfl (by show List.Perm _ (List.range 6); decide) rfl hl rfl (Nat.le_of_ble_eq_true rfl) ⟨by show _ ≤ 2; omega, by show _ ≤ 36; omega⟩ dL_line_410 (fun B1 v1 hp1 H locs hP hD hS => ?_)
        obtain ⟨rfl, M1, ol1, n1, rr1, r1, fs1, fa1, fb1, rfl, hI1, hA1⟩ := hp1
        obtain ⟨hW1, hn1⟩ := lw_lgA hW hA1 (fun e => absurd e (by decide)) (by decide) (by decide) (by decide) (by decide)
        show W p l e _ s m args below meth c H locs _ _ _ (F0 m 413 ls [.int 1])
        have hP : va_P G.1 vwCl (lxF [mlW G q M1, [(o, .inr (10, [.ref ok, .ref ol1, .ref on]))], [(ol1, lxq k n1 rr1)], lrB G r1 fs1 fa1 fb1 n1, [(ok, .inl (G.2.1, 8, .inl fk))], [(dp, .inl (G.2.1, 40, .inl dD))]]) H := hP
        have hD : va_D A (lxF [mlW G q M1, [(o, .inr (10, [.ref ok, .ref ol1, .ref on]))], [(ol1, lxq k n1 rr1)], lrB G r1 fs1 fa1 fb1 n1, [(ok, .inl (G.2.1, 8, .inl fk))], [(dp, .inl (G.2.1, 40, .inl dD))]]) := hD
        obtain ⟨hP, hD⟩ := lb_sub (Cs := [mlW G q M1, [(o, .inr (10, [.ref ok, .ref ol1, .ref on]))], [(ok, .inl (G.2.1, 8, .inl fk))], [(ol1, lxq k n1 rr1)], lrB G r1 fs1 fa1 fb1 n1, [(dp, .inl (G.2.1, 40, .inl dD))]]) [0, 1, 4, 2, 3, 5] [] hP hD rfl (by show List.Perm _ (List.range 6); decide)
        exact ly_ri hx hb hr hlk hP hD hS rfl (⟨rfl, M1, ol1, n1, rr1, r1, fs1, fa1, fb1, d, dD, rfl, hI1, hW1, by omega⟩) (by omega) (by omega) dL_line_413
      · refine lv_tableIn (off := 367) (tgt := 414) hx hb dL_line_47 (by rw [sw]; decide) (by rw [sw]; decide) (by rw [sw]; rfl) (by decide) ?_
        refine lv_aload_n hx hb dL_line_414 rfl (lv_at hl 2 rfl) ?_
        refine lb_get (ci := 10) (v := .ref ol) (C := RX10) (T := TX10) (N := 3) hx hb hts owX10 hown hK hP 1 0 rfl rfl rfl 1 (by decide) (bw13 (w := Cond.fieldLink RL 9 "DropflagMillLaw$Own" "lines" "[[I") hts 31 rfl) (fun _ h9 => h9) rfl dL_line_415 ?_
        refine lb_alenq (v := nI n) hx hb hK hE hP 3 0 rfl rfl rfl dL_line_418 ?_
        refine lv_aload hx hb dL_line_419 (lv_at hl 5 rfl) ?_
        refine lv_iconst (v := 0) hx hb dL_line_421 (by decide) ?_
        refine lb_iald (v := nI d) hx hb hK hP 5 0 rfl rfl (i := 0) (vp_in_nI (n := 0) (by omega) (by omega)) hd0 dL_line_422 ?_
        refine lv_iadd hx hb dL_line_423 ?_
        rw [show ((nI n) + (nI d) : Int32) = nI (n + d) from nI_add n d]
        refine lv_bipush (v := 26) hx hb dL_line_424 (by decide) ?_
        refine lv_icmp_le (tgt := 431) hx hb dL_line_426 (by decide) (fun c4 => ?_) (fun c4 => ?_)
        · have nc4 := (nI_leI (a := (n + d)) (b := 26) (by omega) (by omega)).mp c4
          refine lv_iload_n hx hb dL_line_431 rfl (lv_at hl 4 rfl) ?_
          refine lv_iconst (v := 3) hx hb dL_line_432 (by decide) ?_
          refine ly_s (As := [.int y, .int 3]) (rest := []) hx hb hml hown hts (t_L_below l G k y 3 (by decide) (by decide)) 2 (sxGS (bi13 (w := Cond.methodLink RL 29 yL_below) 42 rfl) (bi13 (w := Cond.static yL_below) 43 rfl) (bi13 (w := Cond.initialized RL) 44 rfl) (bi13 (w := Cond.code yL_below cL_below 2 (some .int)) 27 rfl)) rfl (by decide +kernel) ⟨Nat.le_of_ble_eq_true rfl, Nat.le_of_ble_eq_true rfl⟩ hK hP hD hS hA hE [] [0, 1, 2, 3, 4, 5] rfl rfl (by show List.Perm _ (List.range 6); decide) rfl hl rfl (Nat.le_of_ble_eq_true rfl) ⟨by show _ ≤ 2; omega, by show _ ≤ 36; omega⟩ dL_line_433 (fun B1 v1 hp1 H locs hP hD hS => ?_)
          obtain ⟨rfl, rfl⟩ := hp1
          have hbl4 := lbl_lt y (n := 3) (by decide)
          show W p l e _ s m args below meth c H locs _ _ _ (F0 m 436 ls [.int (nI (lbl y 3))])
          have hP : va_P G.1 vwCl (lxF [mlW G q M, [(o, .inr (10, [.ref ok, .ref ol, .ref on]))], [(ok, .inl (G.2.1, 8, .inl fk))], [(ol, lxq k n rr)], lrB G r fs fa fb n, [(dp, .inl (G.2.1, 40, .inl dD))]]) H := hP
          have hD : va_D A (lxF [mlW G q M, [(o, .inr (10, [.ref ok, .ref ol, .ref on]))], [(ok, .inl (G.2.1, 8, .inl fk))], [(ol, lxq k n rr)], lrB G r fs fa fb n, [(dp, .inl (G.2.1, 40, .inl dD))]]) := hD
          refine lv_if_ne (tgt := 443) hx hb dL_line_436 (by decide) (fun c5 => ?_) (fun c5 => ?_)
          · have nc5 := (not_congr (nI_eq (a := (lbl y 3)) (b := 0) (by omega) (by omega))).mp c5
            refine lv_iconst (v := 0) hx hb dL_line_443 (by decide) ?_
            refine lv_istore (lv' := [(9, .int 0), (7, .int (nI (lbl y 3))), (0, .ref (q 0)), (1, .ref o), (2, .int x), (3, .int y), (4, .ref dp), (5, .int (nI (lbl (y >>> (4 &&& 31)) 31) - 9)), (6, .int kd)]) hx hb dL_line_444 hl (by decide) rfl (fun ls hl => ?_)
            refine lv_aload hx hb dL_line_446 (lv_at hl 6 rfl) ?_
            refine lv_aload hx hb dL_line_448 (lv_at hl 6 rfl) ?_
            refine lv_iconst (v := 0) hx hb dL_line_450 (by decide) ?_
            refine lv_dup2_11 hx hb dL_line_451 rfl rfl ?_
            refine lb_iald (v := nI d) hx hb hK hP 5 0 rfl rfl (i := 0) (vp_in_nI (n := 0) (by omega) (by omega)) hd0 dL_line_452 ?_
            refine lv_iconst (v := 1) hx hb dL_line_453 (by decide) ?_
            refine lv_iadd hx hb dL_line_454 ?_
            rw [show ((nI d) + 1 : Int32) = nI (d + 1) from nI_add d 1]
            refine lv_dup_x2 hx hb dL_line_455 rfl rfl rfl ?_
            refine lb_iast (x := nI (d + 1)) hx hb hK hP hD hS 5 0 rfl rfl (i := 0) (i' := 0) (vp_in_nI (n := 0) (by omega) (by omega)) rfl dL_line_456 (fun H locs hP hD hS => ?_)
            have hP : va_P G.1 vwCl (lxF [mlW G q M, [(o, .inr (10, [.ref ok, .ref ol, .ref on]))], [(ok, .inl (G.2.1, 8, .inl fk))], [(ol, lxq k n rr)], lrB G r fs fa fb n, [(dp, .inl (G.2.1, 40, .inl (upd dD 0 (nI (d + 1)))))]]) H := hP
            have hD : va_D A (lxF [mlW G q M, [(o, .inr (10, [.ref ok, .ref ol, .ref on]))], [(ok, .inl (G.2.1, 8, .inl fk))], [(ol, lxq k n rr)], lrB G r fs fa fb n, [(dp, .inl (G.2.1, 40, .inl (upd dD 0 (nI (d + 1)))))]]) := hD
            refine lv_iload hx hb dL_line_457 (lv_at hl 0 rfl) ?_
            refine lv_if_eq (tgt := 467) hx hb dL_line_459 (by decide) (fun c6 => ?_) (fun c6 => absurd c6 (by decide))
            refine lv_bipush (v := 8) hx hb dL_line_467 (by decide) ?_
            refine lb_iast (x := 8) hx hb hK hP hD hS 5 0 rfl rfl (i := nI (d + 1)) (i' := (d + 1)) (vp_in_nI (n := (d + 1)) (by omega) (by omega)) (nI_clamp (by omega)) dL_line_469 (fun H locs hP hD hS => ?_)
            have hP : va_P G.1 vwCl (lxF [mlW G q M, [(o, .inr (10, [.ref ok, .ref ol, .ref on]))], [(ok, .inl (G.2.1, 8, .inl fk))], [(ol, lxq k n rr)], lrB G r fs fa fb n, [(dp, .inl (G.2.1, 40, .inl (upd (upd dD 0 (nI (d + 1))) (d + 1) 8)))]]) H := hP
            have hD : va_D A (lxF [mlW G q M, [(o, .inr (10, [.ref ok, .ref ol, .ref on]))], [(ok, .inl (G.2.1, 8, .inl fk))], [(ol, lxq k n rr)], lrB G r fs fa fb n, [(dp, .inl (G.2.1, 40, .inl (upd (upd dD 0 (nI (d + 1))) (d + 1) 8)))]]) := hD
            refine lv_aload_n hx hb dL_line_470 rfl (lv_at hl 2 rfl) ?_
            refine lv_aload_n hx hb dL_line_471 rfl (lv_at hl 3 rfl) ?_
            refine lv_iload hx hb dL_line_472 (lv_at hl 0 rfl) ?_
            refine lv_if_eq (tgt := 482) hx hb dL_line_474 (by decide) (fun c7 => ?_) (fun c7 => absurd c7 (by decide))
            refine lv_bipush (v := 8) hx hb dL_line_482 (by decide) ?_
            refine lv_iload hx hb dL_line_484 (lv_at hl 0 rfl) ?_
            refine lv_if_eq (tgt := 501) hx hb dL_line_486 (by decide) (fun c8 => ?_) (fun c8 => absurd c8 (by decide))
            refine lv_aload_n hx hb dL_line_501 rfl (lv_at hl 3 rfl) ?_
            refine lv_iconst (v := 0) hx hb dL_line_502 (by decide) ?_
            refine lv_iload_n hx hb dL_line_503 rfl (lv_at hl 5 rfl) ?_
            refine lv_iconst (v := 3) hx hb dL_line_504 (by decide) ?_
            refine lv_ishr hx hb dL_line_505 ?_
            refine ly_s (As := [.ref o, .int 0, .int (y >>> (3 &&& 31))]) (rest := [.int 8, .ref o, .ref (q 0)]) hx hb hml hown hts (t_L_place l G k o ok ol on fk 0 (y >>> (3 &&& 31))) 3 (sxGS (bi13 (w := Cond.methodLink RL 46 yL_place) 54 rfl) (bi13 (w := Cond.static yL_place) 55 rfl) (bi13 (w := Cond.initialized RL) 44 rfl) (bi13 (w := Cond.code yL_place cL_place 5 (some .int)) 49 rfl)) rfl (by decide +kernel) ⟨Nat.le_of_ble_eq_true rfl, Nat.le_of_ble_eq_true rfl⟩ hK hP hD hS hA hE [1, 2] [0, 3, 4, 5] rfl rfl (by show List.Perm _ (List.range 6); decide) rfl hl rfl (Nat.le_of_ble_eq_true rfl) ⟨by show _ ≤ 2; omega, by show _ ≤ 36; omega⟩ dL_line_506 (fun B1 v1 hp1 H locs hP hD hS => ?_)
            obtain ⟨rfl, p19, hp19_, rfl, hkk19⟩ := hp1
            have hk19 := lk_place hKz (by decide) hkk19
            show W p l e _ s m args below meth c H locs _ _ _ (F0 m 509 ls [.int (nI p19), .int 8, .ref o, .ref (q 0)])
            have hP : va_P G.1 vwCl (lxF [[(o, .inr (10, [.ref ok, .ref ol, .ref on]))], [(ok, .inl (G.2.1, 8, .inl fk))], mlW G q M, [(ol, lxq k n rr)], lrB G r fs fa fb n, [(dp, .inl (G.2.1, 40, .inl (upd (upd dD 0 (nI (d + 1))) (d + 1) 8)))]]) H := hP
            have hD : va_D A (lxF [[(o, .inr (10, [.ref ok, .ref ol, .ref on]))], [(ok, .inl (G.2.1, 8, .inl fk))], mlW G q M, [(ol, lxq k n rr)], lrB G r fs fa fb n, [(dp, .inl (G.2.1, 40, .inl (upd (upd dD 0 (nI (d + 1))) (d + 1) 8)))]]) := hD
            obtain ⟨hP, hD⟩ := lb_sub (Cs := [mlW G q M, [(o, .inr (10, [.ref ok, .ref ol, .ref on]))], [(ok, .inl (G.2.1, 8, .inl fk))], [(ol, lxq k n rr)], lrB G r fs fa fb n, [(dp, .inl (G.2.1, 40, .inl (upd (upd dD 0 (nI (d + 1))) (d + 1) 8)))]]) [2, 0, 1, 3, 4, 5] [] hP hD rfl (by show List.Perm _ (List.range 6); decide)
            refine lv_iconst (v := 0) hx hb dL_line_509 (by decide) ?_
            refine ly_s (As := [.ref (q 0), .ref o, .int 8, .int (nI p19), .int 0]) (rest := []) hx hb hml hown hts (t_L_add l G k q o ok ol on n rr r fk fs fa fb M rn 8 (nI p19) 0 hI (lf8 ((lf_kd hp19_).trans hk19))) 5 (sxGS (bi13 (w := Cond.methodLink RL 50 yL_add) 51 rfl) (bi13 (w := Cond.static yL_add) 52 rfl) (bi13 (w := Cond.initialized RL) 44 rfl) (bi13 (w := Cond.code yL_add cL_add 5 (some .boolean)) 40 rfl)) rfl (by decide +kernel) ⟨Nat.le_of_ble_eq_true rfl, Nat.le_of_ble_eq_true rfl⟩ hK hP hD hS hA hE [0, 1, 3, 4] [2, 5] rfl rfl (by show List.Perm _ (List.range 6); decide) rfl hl rfl (Nat.le_of_ble_eq_true rfl) ⟨by show _ ≤ 2; omega, by show _ ≤ 36; omega⟩ dL_line_510 (fun B1 v1 hp1 H locs hP hD hS => ?_)
            obtain ⟨rfl, M1, ol1, n1, rr1, r1, fs1, fa1, fb1, rfl, hI1, hA1⟩ := hp1
            obtain ⟨rfl, rfl, rfl, rfl⟩ := lg_sure hA1 (by omega) (by decide) (by decide)
            show W p l e _ s m args below meth c H locs _ _ _ (F0 m 513 ls [.int 1])
            have hP : va_P G.1 vwCl (lxF [mlW G q M1, [(o, .inr (10, [.ref ok, .ref ol1, .ref on]))], [(ol1, lxq k (n + 1) rr1)], lrB G r1 (upd fs n 8) (upd fa n (nI p19)) (upd fb n 0) (n + 1), [(ok, .inl (G.2.1, 8, .inl fk))], [(dp, .inl (G.2.1, 40, .inl (upd (upd dD 0 (nI (d + 1))) (d + 1) 8)))]]) H := hP
            have hD : va_D A (lxF [mlW G q M1, [(o, .inr (10, [.ref ok, .ref ol1, .ref on]))], [(ol1, lxq k (n + 1) rr1)], lrB G r1 (upd fs n 8) (upd fa n (nI p19)) (upd fb n 0) (n + 1), [(ok, .inl (G.2.1, 8, .inl fk))], [(dp, .inl (G.2.1, 40, .inl (upd (upd dD 0 (nI (d + 1))) (d + 1) 8)))]]) := hD
            obtain ⟨hP, hD⟩ := lb_sub (Cs := [mlW G q M1, [(o, .inr (10, [.ref ok, .ref ol1, .ref on]))], [(ok, .inl (G.2.1, 8, .inl fk))], [(ol1, lxq k (n + 1) rr1)], lrB G r1 (upd fs n 8) (upd fa n (nI p19)) (upd fb n 0) (n + 1), [(dp, .inl (G.2.1, 40, .inl (upd (upd dD 0 (nI (d + 1))) (d + 1) 8)))]]) [0, 1, 4, 2, 3, 5] [] hP hD rfl (by show List.Perm _ (List.range 6); decide)
            exact ly_ri hx hb hr hlk hP hD hS rfl (⟨rfl, M1, ol1, n + 1, rr1, r1, _, _, _, d + 1, _, rfl, hI1, lw_open hW (by decide), by omega⟩) (by omega) (by omega) dL_line_513
          · have nc5 := (nI_eq (a := (lbl y 3)) (b := 0) (by omega) (by omega)).mp c5
            refine lv_iconst (v := 1) hx hb dL_line_439 (by decide) ?_
            refine lv_goto (tgt := 444) hx hb dL_line_440 (by decide) ?_
            refine lv_istore (lv' := [(9, .int 1), (7, .int (nI (lbl y 3))), (0, .ref (q 0)), (1, .ref o), (2, .int x), (3, .int y), (4, .ref dp), (5, .int (nI (lbl (y >>> (4 &&& 31)) 31) - 9)), (6, .int kd)]) hx hb dL_line_444 hl (by decide) rfl (fun ls hl => ?_)
            refine lv_aload hx hb dL_line_446 (lv_at hl 6 rfl) ?_
            refine lv_aload hx hb dL_line_448 (lv_at hl 6 rfl) ?_
            refine lv_iconst (v := 0) hx hb dL_line_450 (by decide) ?_
            refine lv_dup2_11 hx hb dL_line_451 rfl rfl ?_
            refine lb_iald (v := nI d) hx hb hK hP 5 0 rfl rfl (i := 0) (vp_in_nI (n := 0) (by omega) (by omega)) hd0 dL_line_452 ?_
            refine lv_iconst (v := 1) hx hb dL_line_453 (by decide) ?_
            refine lv_iadd hx hb dL_line_454 ?_
            rw [show ((nI d) + 1 : Int32) = nI (d + 1) from nI_add d 1]
            refine lv_dup_x2 hx hb dL_line_455 rfl rfl rfl ?_
            refine lb_iast (x := nI (d + 1)) hx hb hK hP hD hS 5 0 rfl rfl (i := 0) (i' := 0) (vp_in_nI (n := 0) (by omega) (by omega)) rfl dL_line_456 (fun H locs hP hD hS => ?_)
            have hP : va_P G.1 vwCl (lxF [mlW G q M, [(o, .inr (10, [.ref ok, .ref ol, .ref on]))], [(ok, .inl (G.2.1, 8, .inl fk))], [(ol, lxq k n rr)], lrB G r fs fa fb n, [(dp, .inl (G.2.1, 40, .inl (upd dD 0 (nI (d + 1)))))]]) H := hP
            have hD : va_D A (lxF [mlW G q M, [(o, .inr (10, [.ref ok, .ref ol, .ref on]))], [(ok, .inl (G.2.1, 8, .inl fk))], [(ol, lxq k n rr)], lrB G r fs fa fb n, [(dp, .inl (G.2.1, 40, .inl (upd dD 0 (nI (d + 1)))))]]) := hD
            refine lv_iload hx hb dL_line_457 (lv_at hl 0 rfl) ?_
            refine lv_if_eq (tgt := 467) hx hb dL_line_459 (by decide) (fun c9 => absurd c9 (by decide)) (fun c9 => ?_)
            refine lv_bipush (v := 10) hx hb dL_line_462 (by decide) ?_
            refine lv_goto (tgt := 469) hx hb dL_line_464 (by decide) ?_
            refine lb_iast (x := 10) hx hb hK hP hD hS 5 0 rfl rfl (i := nI (d + 1)) (i' := (d + 1)) (vp_in_nI (n := (d + 1)) (by omega) (by omega)) (nI_clamp (by omega)) dL_line_469 (fun H locs hP hD hS => ?_)
            have hP : va_P G.1 vwCl (lxF [mlW G q M, [(o, .inr (10, [.ref ok, .ref ol, .ref on]))], [(ok, .inl (G.2.1, 8, .inl fk))], [(ol, lxq k n rr)], lrB G r fs fa fb n, [(dp, .inl (G.2.1, 40, .inl (upd (upd dD 0 (nI (d + 1))) (d + 1) 10)))]]) H := hP
            have hD : va_D A (lxF [mlW G q M, [(o, .inr (10, [.ref ok, .ref ol, .ref on]))], [(ok, .inl (G.2.1, 8, .inl fk))], [(ol, lxq k n rr)], lrB G r fs fa fb n, [(dp, .inl (G.2.1, 40, .inl (upd (upd dD 0 (nI (d + 1))) (d + 1) 10)))]]) := hD
            refine lv_aload_n hx hb dL_line_470 rfl (lv_at hl 2 rfl) ?_
            refine lv_aload_n hx hb dL_line_471 rfl (lv_at hl 3 rfl) ?_
            refine lv_iload hx hb dL_line_472 (lv_at hl 0 rfl) ?_
            refine lv_if_eq (tgt := 482) hx hb dL_line_474 (by decide) (fun c10 => absurd c10 (by decide)) (fun c10 => ?_)
            refine lv_bipush (v := 10) hx hb dL_line_477 (by decide) ?_
            refine lv_goto (tgt := 484) hx hb dL_line_479 (by decide) ?_
            refine lv_iload hx hb dL_line_484 (lv_at hl 0 rfl) ?_
            refine lv_if_eq (tgt := 501) hx hb dL_line_486 (by decide) (fun c11 => absurd c11 (by decide)) (fun c11 => ?_)
            refine lv_iconst (v := 1) hx hb dL_line_489 (by decide) ?_
            refine lv_iload_n hx hb dL_line_490 rfl (lv_at hl 5 rfl) ?_
            refine lv_iconst (v := 3) hx hb dL_line_491 (by decide) ?_
            refine lv_ishr hx hb dL_line_492 ?_
            refine lv_iconst (v := 4) hx hb dL_line_493 (by decide) ?_
            refine ly_s (As := [.int (y >>> (3 &&& 31)), .int 4]) (rest := [.int 1, .int 10, .ref o, .ref (q 0)]) hx hb hml hown hts (t_L_below l G k (y >>> (3 &&& 31)) 4 (by decide) (by decide)) 2 (sxGS (bi13 (w := Cond.methodLink RL 29 yL_below) 42 rfl) (bi13 (w := Cond.static yL_below) 43 rfl) (bi13 (w := Cond.initialized RL) 44 rfl) (bi13 (w := Cond.code yL_below cL_below 2 (some .int)) 27 rfl)) rfl (by decide +kernel) ⟨Nat.le_of_ble_eq_true rfl, Nat.le_of_ble_eq_true rfl⟩ hK hP hD hS hA hE [] [0, 1, 2, 3, 4, 5] rfl rfl (by show List.Perm _ (List.range 6); decide) rfl hl rfl (Nat.le_of_ble_eq_true rfl) ⟨by show _ ≤ 2; omega, by show _ ≤ 36; omega⟩ dL_line_494 (fun B1 v1 hp1 H locs hP hD hS => ?_)
            obtain ⟨rfl, rfl⟩ := hp1
            have hbl11 := lbl_lt (y >>> (3 &&& 31)) (n := 4) (by decide)
            show W p l e _ s m args below meth c H locs _ _ _ (F0 m 497 ls [.int (nI (lbl (y >>> (3 &&& 31)) 4)), .int 1, .int 10, .ref o, .ref (q 0)])
            have hP : va_P G.1 vwCl (lxF [mlW G q M, [(o, .inr (10, [.ref ok, .ref ol, .ref on]))], [(ok, .inl (G.2.1, 8, .inl fk))], [(ol, lxq k n rr)], lrB G r fs fa fb n, [(dp, .inl (G.2.1, 40, .inl (upd (upd dD 0 (nI (d + 1))) (d + 1) 10)))]]) H := hP
            have hD : va_D A (lxF [mlW G q M, [(o, .inr (10, [.ref ok, .ref ol, .ref on]))], [(ok, .inl (G.2.1, 8, .inl fk))], [(ol, lxq k n rr)], lrB G r fs fa fb n, [(dp, .inl (G.2.1, 40, .inl (upd (upd dD 0 (nI (d + 1))) (d + 1) 10)))]]) := hD
            refine lv_iadd hx hb dL_line_497 ?_
            rw [show ((1 : Int32) + (nI (lbl (y >>> (3 &&& 31)) 4)) : Int32) = nI (1 + (lbl (y >>> (3 &&& 31)) 4)) from nI_add 1 (lbl (y >>> (3 &&& 31)) 4)]
            refine lv_goto (tgt := 509) hx hb dL_line_498 (by decide) ?_
            refine lv_iconst (v := 0) hx hb dL_line_509 (by decide) ?_
            refine ly_s (As := [.ref (q 0), .ref o, .int 10, .int (nI (1 + (lbl (y >>> (3 &&& 31)) 4))), .int 0]) (rest := []) hx hb hml hown hts (t_L_add l G k q o ok ol on n rr r fk fs fa fb M rn 10 (nI (1 + (lbl (y >>> (3 &&& 31)) 4))) 0 hI (lf10 (by omega) (by omega))) 5 (sxGS (bi13 (w := Cond.methodLink RL 50 yL_add) 51 rfl) (bi13 (w := Cond.static yL_add) 52 rfl) (bi13 (w := Cond.initialized RL) 44 rfl) (bi13 (w := Cond.code yL_add cL_add 5 (some .boolean)) 40 rfl)) rfl (by decide +kernel) ⟨Nat.le_of_ble_eq_true rfl, Nat.le_of_ble_eq_true rfl⟩ hK hP hD hS hA hE [0, 1, 3, 4] [2, 5] rfl rfl (by show List.Perm _ (List.range 6); decide) rfl hl rfl (Nat.le_of_ble_eq_true rfl) ⟨by show _ ≤ 2; omega, by show _ ≤ 36; omega⟩ dL_line_510 (fun B1 v1 hp1 H locs hP hD hS => ?_)
            obtain ⟨rfl, M1, ol1, n1, rr1, r1, fs1, fa1, fb1, rfl, hI1, hA1⟩ := hp1
            obtain ⟨rfl, rfl, rfl, rfl⟩ := lg_sure hA1 (by omega) (by decide) (by decide)
            show W p l e _ s m args below meth c H locs _ _ _ (F0 m 513 ls [.int 1])
            have hP : va_P G.1 vwCl (lxF [mlW G q M1, [(o, .inr (10, [.ref ok, .ref ol1, .ref on]))], [(ol1, lxq k (n + 1) rr1)], lrB G r1 (upd fs n 10) (upd fa n (nI (1 + (lbl (y >>> (3 &&& 31)) 4)))) (upd fb n 0) (n + 1), [(ok, .inl (G.2.1, 8, .inl fk))], [(dp, .inl (G.2.1, 40, .inl (upd (upd dD 0 (nI (d + 1))) (d + 1) 10)))]]) H := hP
            have hD : va_D A (lxF [mlW G q M1, [(o, .inr (10, [.ref ok, .ref ol1, .ref on]))], [(ol1, lxq k (n + 1) rr1)], lrB G r1 (upd fs n 10) (upd fa n (nI (1 + (lbl (y >>> (3 &&& 31)) 4)))) (upd fb n 0) (n + 1), [(ok, .inl (G.2.1, 8, .inl fk))], [(dp, .inl (G.2.1, 40, .inl (upd (upd dD 0 (nI (d + 1))) (d + 1) 10)))]]) := hD
            obtain ⟨hP, hD⟩ := lb_sub (Cs := [mlW G q M1, [(o, .inr (10, [.ref ok, .ref ol1, .ref on]))], [(ok, .inl (G.2.1, 8, .inl fk))], [(ol1, lxq k (n + 1) rr1)], lrB G r1 (upd fs n 10) (upd fa n (nI (1 + (lbl (y >>> (3 &&& 31)) 4)))) (upd fb n 0) (n + 1), [(dp, .inl (G.2.1, 40, .inl (upd (upd dD 0 (nI (d + 1))) (d + 1) 10)))]]) [0, 1, 4, 2, 3, 5] [] hP hD rfl (by show List.Perm _ (List.range 6); decide)
            exact ly_ri hx hb hr hlk hP hD hS rfl (⟨rfl, M1, ol1, n + 1, rr1, r1, _, _, _, d + 1, _, rfl, hI1, lw_open hW (by decide), by omega⟩) (by omega) (by omega) dL_line_513
        · have nc4 := (not_congr (nI_leI (a := (n + d)) (b := 26) (by omega) (by omega))).mp c4
          refine lv_iconst (v := 1) hx hb dL_line_429 (by decide) ?_
          exact ly_ri hx hb hr hlk hP hD hS rfl (⟨rfl, M, ol, n, rr, r, fs, fa, fb, d, dD, rfl, hI, hW, by omega⟩) (by omega) (by omega) dL_line_430
      · refine lv_tableIn (off := 467) (tgt := 514) hx hb dL_line_47 (by rw [sw]; decide) (by rw [sw]; decide) (by rw [sw]; rfl) (by decide) ?_
        refine lv_aload hx hb dL_line_514 (lv_at hl 5 rfl) ?_
        refine lv_iconst (v := 0) hx hb dL_line_516 (by decide) ?_
        refine lb_iald (v := nI d) hx hb hK hP 5 0 rfl rfl (i := 0) (vp_in_nI (n := 0) (by omega) (by omega)) hd0 dL_line_517 ?_
        refine lv_if_ne (tgt := 523) hx hb dL_line_518 (by decide) (fun c12 => ?_) (fun c12 => ?_)
        · have nc12 := (not_congr (nI_eq (a := d) (b := 0) (by omega) (by omega))).mp c12
          refine lv_aload hx hb dL_line_523 (lv_at hl 5 rfl) ?_
          refine lv_aload hx hb dL_line_525 (lv_at hl 5 rfl) ?_
          refine lv_iconst (v := 0) hx hb dL_line_527 (by decide) ?_
          refine lb_iald (v := nI d) hx hb hK hP 5 0 rfl rfl (i := 0) (vp_in_nI (n := 0) (by omega) (by omega)) hd0 dL_line_528 ?_
          refine lb_iald (v := dD d) hx hb hK hP 5 0 rfl rfl (i := nI d) (vp_in_nI (n := d) (by omega) (by omega)) (congrArg _ (nI_clamp (by omega))) dL_line_529 ?_
          refine lv_bipush (v := 8) hx hb dL_line_530 (by decide) ?_
          refine lv_icmp_ne (tgt := 543) hx hb dL_line_532 (by decide) (fun c13 => ?_) (fun c13 => ?_)
          · refine lv_aload_n hx hb dL_line_543 rfl (lv_at hl 1 rfl) ?_
            refine lv_aload_n hx hb dL_line_544 rfl (lv_at hl 2 rfl) ?_
            refine lv_aload hx hb dL_line_545 (lv_at hl 5 rfl) ?_
            refine ly_s (As := [.ref (q 0), .ref o, .ref dp]) (rest := []) hx hb hml hown hts (t_L_close l G k q o ok ol on n rr r fk fs fa fb M rn dp d dD hI (by omega) (by omega) hd0 (by omega)) 3 (sxGS (bi13 (w := Cond.methodLink RL 53 yL_close) 56 rfl) (bi13 (w := Cond.static yL_close) 57 rfl) (bi13 (w := Cond.initialized RL) 44 rfl) (bi13 (w := Cond.code yL_close cL_close 3 (some .boolean)) 53 rfl)) rfl (by decide +kernel) ⟨Nat.le_of_ble_eq_true rfl, Nat.le_of_ble_eq_true rfl⟩ hK hP hD hS hA hE [0, 1, 3, 4, 5] [2] rfl rfl (by show List.Perm _ (List.range 6); decide) rfl hl rfl (Nat.le_of_ble_eq_true rfl) ⟨by show _ ≤ 2; omega, by show _ ≤ 36; omega⟩ dL_line_547 (fun B1 v1 hp1 H locs hP hD hS => ?_)
            obtain ⟨rfl, M1, ol1, rr1, r1, rfl, hI1⟩ := hp1
            show W p l e _ s m args below meth c H locs _ _ _ (F0 m 550 ls [.int 1])
            have hP : va_P G.1 vwCl (lxF [mlW G q M1, [(o, .inr (10, [.ref ok, .ref ol1, .ref on]))], [(ol1, lxq k (n + 1) rr1)], lrB G r1 (upd fs n 11) (upd fa n 0) (upd fb n 0) (n + 1), [(dp, .inl (G.2.1, 40, .inl (upd dD 0 (nI (d - 1)))))], [(ok, .inl (G.2.1, 8, .inl fk))]]) H := hP
            have hD : va_D A (lxF [mlW G q M1, [(o, .inr (10, [.ref ok, .ref ol1, .ref on]))], [(ol1, lxq k (n + 1) rr1)], lrB G r1 (upd fs n 11) (upd fa n 0) (upd fb n 0) (n + 1), [(dp, .inl (G.2.1, 40, .inl (upd dD 0 (nI (d - 1)))))], [(ok, .inl (G.2.1, 8, .inl fk))]]) := hD
            obtain ⟨hP, hD⟩ := lb_sub (Cs := [mlW G q M1, [(o, .inr (10, [.ref ok, .ref ol1, .ref on]))], [(ok, .inl (G.2.1, 8, .inl fk))], [(ol1, lxq k (n + 1) rr1)], lrB G r1 (upd fs n 11) (upd fa n 0) (upd fb n 0) (n + 1), [(dp, .inl (G.2.1, 40, .inl (upd dD 0 (nI (d - 1)))))]]) [0, 1, 5, 2, 3, 4] [] hP hD rfl (by show List.Perm _ (List.range 6); decide)
            exact ly_ri hx hb hr hlk hP hD hS rfl (⟨rfl, M1, ol1, n + 1, rr1, r1, _, _, _, d - 1, _, rfl, hI1, lw_end hW (by omega), by omega⟩) (by omega) (by omega) dL_line_550
          · refine lv_iload_n hx hb dL_line_535 rfl (lv_at hl 4 rfl) ?_
            refine lv_iconst (v := 2) hx hb dL_line_536 (by decide) ?_
            refine ly_s (As := [.int y, .int 2]) (rest := []) hx hb hml hown hts (t_L_below l G k y 2 (by decide) (by decide)) 2 (sxGS (bi13 (w := Cond.methodLink RL 29 yL_below) 42 rfl) (bi13 (w := Cond.static yL_below) 43 rfl) (bi13 (w := Cond.initialized RL) 44 rfl) (bi13 (w := Cond.code yL_below cL_below 2 (some .int)) 27 rfl)) rfl (by decide +kernel) ⟨Nat.le_of_ble_eq_true rfl, Nat.le_of_ble_eq_true rfl⟩ hK hP hD hS hA hE [] [0, 1, 2, 3, 4, 5] rfl rfl (by show List.Perm _ (List.range 6); decide) rfl hl rfl (Nat.le_of_ble_eq_true rfl) ⟨by show _ ≤ 2; omega, by show _ ≤ 36; omega⟩ dL_line_537 (fun B1 v1 hp1 H locs hP hD hS => ?_)
            obtain ⟨rfl, rfl⟩ := hp1
            have hbl13 := lbl_lt y (n := 2) (by decide)
            show W p l e _ s m args below meth c H locs _ _ _ (F0 m 540 ls [.int (nI (lbl y 2))])
            have hP : va_P G.1 vwCl (lxF [mlW G q M, [(o, .inr (10, [.ref ok, .ref ol, .ref on]))], [(ok, .inl (G.2.1, 8, .inl fk))], [(ol, lxq k n rr)], lrB G r fs fa fb n, [(dp, .inl (G.2.1, 40, .inl dD))]]) H := hP
            have hD : va_D A (lxF [mlW G q M, [(o, .inr (10, [.ref ok, .ref ol, .ref on]))], [(ok, .inl (G.2.1, 8, .inl fk))], [(ol, lxq k n rr)], lrB G r fs fa fb n, [(dp, .inl (G.2.1, 40, .inl dD))]]) := hD
            refine lv_if_ne (tgt := 551) hx hb dL_line_540 (by decide) (fun c14 => ?_) (fun c14 => ?_)
            · have nc14 := (not_congr (nI_eq (a := (lbl y 2)) (b := 0) (by omega) (by omega))).mp c14
              refine lv_aload hx hb dL_line_551 (lv_at hl 5 rfl) ?_
              refine lv_aload hx hb dL_line_553 (lv_at hl 5 rfl) ?_
              refine lv_iconst (v := 0) hx hb dL_line_555 (by decide) ?_
              refine lb_iald (v := nI d) hx hb hK hP 5 0 rfl rfl (i := 0) (vp_in_nI (n := 0) (by omega) (by omega)) hd0 dL_line_556 ?_
              refine lv_bipush (v := 9) hx hb dL_line_557 (by decide) ?_
              refine lb_iast (x := 9) hx hb hK hP hD hS 5 0 rfl rfl (i := nI d) (i' := d) (vp_in_nI (n := d) (by omega) (by omega)) (nI_clamp (by omega)) dL_line_559 (fun H locs hP hD hS => ?_)
              have hP : va_P G.1 vwCl (lxF [mlW G q M, [(o, .inr (10, [.ref ok, .ref ol, .ref on]))], [(ok, .inl (G.2.1, 8, .inl fk))], [(ol, lxq k n rr)], lrB G r fs fa fb n, [(dp, .inl (G.2.1, 40, .inl (upd dD d 9)))]]) H := hP
              have hD : va_D A (lxF [mlW G q M, [(o, .inr (10, [.ref ok, .ref ol, .ref on]))], [(ok, .inl (G.2.1, 8, .inl fk))], [(ol, lxq k n rr)], lrB G r fs fa fb n, [(dp, .inl (G.2.1, 40, .inl (upd dD d 9)))]]) := hD
              refine lv_aload_n hx hb dL_line_560 rfl (lv_at hl 1 rfl) ?_
              refine lv_aload_n hx hb dL_line_561 rfl (lv_at hl 2 rfl) ?_
              refine lv_bipush (v := 9) hx hb dL_line_562 (by decide) ?_
              refine lv_iconst (v := 0) hx hb dL_line_564 (by decide) ?_
              refine lv_iconst (v := 0) hx hb dL_line_565 (by decide) ?_
              refine ly_s (As := [.ref (q 0), .ref o, .int 9, .int 0, .int 0]) (rest := []) hx hb hml hown hts (t_L_add l G k q o ok ol on n rr r fk fs fa fb M rn 9 0 0 hI lf9) 5 (sxGS (bi13 (w := Cond.methodLink RL 50 yL_add) 51 rfl) (bi13 (w := Cond.static yL_add) 52 rfl) (bi13 (w := Cond.initialized RL) 44 rfl) (bi13 (w := Cond.code yL_add cL_add 5 (some .boolean)) 40 rfl)) rfl (by decide +kernel) ⟨Nat.le_of_ble_eq_true rfl, Nat.le_of_ble_eq_true rfl⟩ hK hP hD hS hA hE [0, 1, 3, 4] [2, 5] rfl rfl (by show List.Perm _ (List.range 6); decide) rfl hl rfl (Nat.le_of_ble_eq_true rfl) ⟨by show _ ≤ 2; omega, by show _ ≤ 36; omega⟩ dL_line_566 (fun B1 v1 hp1 H locs hP hD hS => ?_)
              obtain ⟨rfl, M1, ol1, n1, rr1, r1, fs1, fa1, fb1, rfl, hI1, hA1⟩ := hp1
              obtain ⟨rfl, rfl, rfl, rfl⟩ := lg_sure hA1 (by omega) (by decide) (by decide)
              show W p l e _ s m args below meth c H locs _ _ _ (F0 m 569 ls [.int 1])
              have hP : va_P G.1 vwCl (lxF [mlW G q M1, [(o, .inr (10, [.ref ok, .ref ol1, .ref on]))], [(ol1, lxq k (n + 1) rr1)], lrB G r1 (upd fs n 9) (upd fa n 0) (upd fb n 0) (n + 1), [(ok, .inl (G.2.1, 8, .inl fk))], [(dp, .inl (G.2.1, 40, .inl (upd dD d 9)))]]) H := hP
              have hD : va_D A (lxF [mlW G q M1, [(o, .inr (10, [.ref ok, .ref ol1, .ref on]))], [(ol1, lxq k (n + 1) rr1)], lrB G r1 (upd fs n 9) (upd fa n 0) (upd fb n 0) (n + 1), [(ok, .inl (G.2.1, 8, .inl fk))], [(dp, .inl (G.2.1, 40, .inl (upd dD d 9)))]]) := hD
              obtain ⟨hP, hD⟩ := lb_sub (Cs := [mlW G q M1, [(o, .inr (10, [.ref ok, .ref ol1, .ref on]))], [(ok, .inl (G.2.1, 8, .inl fk))], [(ol1, lxq k (n + 1) rr1)], lrB G r1 (upd fs n 9) (upd fa n 0) (upd fb n 0) (n + 1), [(dp, .inl (G.2.1, 40, .inl (upd dD d 9)))]]) [0, 1, 4, 2, 3, 5] [] hP hD rfl (by show List.Perm _ (List.range 6); decide)
              exact ly_ri hx hb hr hlk hP hD hS rfl (⟨rfl, M1, ol1, n + 1, rr1, r1, _, _, _, d, _, rfl, hI1, lw_else hW (by omega) c13, by omega⟩) (by omega) (by omega) dL_line_569
            · have nc14 := (nI_eq (a := (lbl y 2)) (b := 0) (by omega) (by omega)).mp c14
              refine lv_aload_n hx hb dL_line_543 rfl (lv_at hl 1 rfl) ?_
              refine lv_aload_n hx hb dL_line_544 rfl (lv_at hl 2 rfl) ?_
              refine lv_aload hx hb dL_line_545 (lv_at hl 5 rfl) ?_
              refine ly_s (As := [.ref (q 0), .ref o, .ref dp]) (rest := []) hx hb hml hown hts (t_L_close l G k q o ok ol on n rr r fk fs fa fb M rn dp d dD hI (by omega) (by omega) hd0 (by omega)) 3 (sxGS (bi13 (w := Cond.methodLink RL 53 yL_close) 56 rfl) (bi13 (w := Cond.static yL_close) 57 rfl) (bi13 (w := Cond.initialized RL) 44 rfl) (bi13 (w := Cond.code yL_close cL_close 3 (some .boolean)) 53 rfl)) rfl (by decide +kernel) ⟨Nat.le_of_ble_eq_true rfl, Nat.le_of_ble_eq_true rfl⟩ hK hP hD hS hA hE [0, 1, 3, 4, 5] [2] rfl rfl (by show List.Perm _ (List.range 6); decide) rfl hl rfl (Nat.le_of_ble_eq_true rfl) ⟨by show _ ≤ 2; omega, by show _ ≤ 36; omega⟩ dL_line_547 (fun B1 v1 hp1 H locs hP hD hS => ?_)
              obtain ⟨rfl, M1, ol1, rr1, r1, rfl, hI1⟩ := hp1
              show W p l e _ s m args below meth c H locs _ _ _ (F0 m 550 ls [.int 1])
              have hP : va_P G.1 vwCl (lxF [mlW G q M1, [(o, .inr (10, [.ref ok, .ref ol1, .ref on]))], [(ol1, lxq k (n + 1) rr1)], lrB G r1 (upd fs n 11) (upd fa n 0) (upd fb n 0) (n + 1), [(dp, .inl (G.2.1, 40, .inl (upd dD 0 (nI (d - 1)))))], [(ok, .inl (G.2.1, 8, .inl fk))]]) H := hP
              have hD : va_D A (lxF [mlW G q M1, [(o, .inr (10, [.ref ok, .ref ol1, .ref on]))], [(ol1, lxq k (n + 1) rr1)], lrB G r1 (upd fs n 11) (upd fa n 0) (upd fb n 0) (n + 1), [(dp, .inl (G.2.1, 40, .inl (upd dD 0 (nI (d - 1)))))], [(ok, .inl (G.2.1, 8, .inl fk))]]) := hD
              obtain ⟨hP, hD⟩ := lb_sub (Cs := [mlW G q M1, [(o, .inr (10, [.ref ok, .ref ol1, .ref on]))], [(ok, .inl (G.2.1, 8, .inl fk))], [(ol1, lxq k (n + 1) rr1)], lrB G r1 (upd fs n 11) (upd fa n 0) (upd fb n 0) (n + 1), [(dp, .inl (G.2.1, 40, .inl (upd dD 0 (nI (d - 1)))))]]) [0, 1, 5, 2, 3, 4] [] hP hD rfl (by show List.Perm _ (List.range 6); decide)
              exact ly_ri hx hb hr hlk hP hD hS rfl (⟨rfl, M1, ol1, n + 1, rr1, r1, _, _, _, d - 1, _, rfl, hI1, lw_end hW (by omega), by omega⟩) (by omega) (by omega) dL_line_550
        · have nc12 := (nI_eq (a := d) (b := 0) (by omega) (by omega)).mp c12
          refine lv_iconst (v := 1) hx hb dL_line_521 (by decide) ?_
          exact ly_ri hx hb hr hlk hP hD hS rfl (⟨rfl, M, ol, n, rr, r, fs, fa, fb, d, dD, rfl, hI, hW, by omega⟩) (by omega) (by omega) dL_line_522
      · refine lv_tableIn (off := 523) (tgt := 570) hx hb dL_line_47 (by rw [sw]; decide) (by rw [sw]; decide) (by rw [sw]; rfl) (by decide) ?_
        refine lv_aload_n hx hb dL_line_570 rfl (lv_at hl 1 rfl) ?_
        refine lv_aload_n hx hb dL_line_571 rfl (lv_at hl 2 rfl) ?_
        refine lv_bipush (v := 12) hx hb dL_line_572 (by decide) ?_
        refine lv_aload_n hx hb dL_line_574 rfl (lv_at hl 2 rfl) ?_
        refine lv_iconst (v := 5) hx hb dL_line_575 (by decide) ?_
        refine lv_iload_n hx hb dL_line_576 rfl (lv_at hl 3 rfl) ?_
        refine lv_iconst (v := 4) hx hb dL_line_577 (by decide) ?_
        refine lv_ishr hx hb dL_line_578 ?_
        refine ly_s (As := [.ref o, .int 5, .int (x >>> (4 &&& 31))]) (rest := [.int 12, .ref o, .ref (q 0)]) hx hb hml hown hts (t_L_place l G k o ok ol on fk 5 (x >>> (4 &&& 31))) 3 (sxGS (bi13 (w := Cond.methodLink RL 46 yL_place) 54 rfl) (bi13 (w := Cond.static yL_place) 55 rfl) (bi13 (w := Cond.initialized RL) 44 rfl) (bi13 (w := Cond.code yL_place cL_place 5 (some .int)) 49 rfl)) rfl (by decide +kernel) ⟨Nat.le_of_ble_eq_true rfl, Nat.le_of_ble_eq_true rfl⟩ hK hP hD hS hA hE [1, 2] [0, 3, 4, 5] rfl rfl (by show List.Perm _ (List.range 6); decide) rfl hl rfl (Nat.le_of_ble_eq_true rfl) ⟨by show _ ≤ 2; omega, by show _ ≤ 36; omega⟩ dL_line_579 (fun B1 v1 hp1 H locs hP hD hS => ?_)
        obtain ⟨rfl, p20, hp20_, rfl, hkk20⟩ := hp1
        have hk20 := lk_place hKz (by decide) hkk20
        show W p l e _ s m args below meth c H locs _ _ _ (F0 m 582 ls [.int (nI p20), .int 12, .ref o, .ref (q 0)])
        have hP : va_P G.1 vwCl (lxF [[(o, .inr (10, [.ref ok, .ref ol, .ref on]))], [(ok, .inl (G.2.1, 8, .inl fk))], mlW G q M, [(ol, lxq k n rr)], lrB G r fs fa fb n, [(dp, .inl (G.2.1, 40, .inl dD))]]) H := hP
        have hD : va_D A (lxF [[(o, .inr (10, [.ref ok, .ref ol, .ref on]))], [(ok, .inl (G.2.1, 8, .inl fk))], mlW G q M, [(ol, lxq k n rr)], lrB G r fs fa fb n, [(dp, .inl (G.2.1, 40, .inl dD))]]) := hD
        obtain ⟨hP, hD⟩ := lb_sub (Cs := [mlW G q M, [(o, .inr (10, [.ref ok, .ref ol, .ref on]))], [(ok, .inl (G.2.1, 8, .inl fk))], [(ol, lxq k n rr)], lrB G r fs fa fb n, [(dp, .inl (G.2.1, 40, .inl dD))]]) [2, 0, 1, 3, 4, 5] [] hP hD rfl (by show List.Perm _ (List.range 6); decide)
        refine lv_aload_n hx hb dL_line_582 rfl (lv_at hl 2 rfl) ?_
        refine lv_iconst (v := 5) hx hb dL_line_583 (by decide) ?_
        refine lv_iload_n hx hb dL_line_584 rfl (lv_at hl 4 rfl) ?_
        refine lv_iconst (v := 3) hx hb dL_line_585 (by decide) ?_
        refine lv_ishr hx hb dL_line_586 ?_
        refine ly_s (As := [.ref o, .int 5, .int (y >>> (3 &&& 31))]) (rest := [.int (nI p20), .int 12, .ref o, .ref (q 0)]) hx hb hml hown hts (t_L_place l G k o ok ol on fk 5 (y >>> (3 &&& 31))) 3 (sxGS (bi13 (w := Cond.methodLink RL 46 yL_place) 54 rfl) (bi13 (w := Cond.static yL_place) 55 rfl) (bi13 (w := Cond.initialized RL) 44 rfl) (bi13 (w := Cond.code yL_place cL_place 5 (some .int)) 49 rfl)) rfl (by decide +kernel) ⟨Nat.le_of_ble_eq_true rfl, Nat.le_of_ble_eq_true rfl⟩ hK hP hD hS hA hE [1, 2] [0, 3, 4, 5] rfl rfl (by show List.Perm _ (List.range 6); decide) rfl hl rfl (Nat.le_of_ble_eq_true rfl) ⟨by show _ ≤ 2; omega, by show _ ≤ 36; omega⟩ dL_line_587 (fun B1 v1 hp1 H locs hP hD hS => ?_)
        obtain ⟨rfl, p21, hp21_, rfl, hkk21⟩ := hp1
        have hk21 := lk_place hKz (by decide) hkk21
        show W p l e _ s m args below meth c H locs _ _ _ (F0 m 590 ls [.int (nI p21), .int (nI p20), .int 12, .ref o, .ref (q 0)])
        have hP : va_P G.1 vwCl (lxF [[(o, .inr (10, [.ref ok, .ref ol, .ref on]))], [(ok, .inl (G.2.1, 8, .inl fk))], mlW G q M, [(ol, lxq k n rr)], lrB G r fs fa fb n, [(dp, .inl (G.2.1, 40, .inl dD))]]) H := hP
        have hD : va_D A (lxF [[(o, .inr (10, [.ref ok, .ref ol, .ref on]))], [(ok, .inl (G.2.1, 8, .inl fk))], mlW G q M, [(ol, lxq k n rr)], lrB G r fs fa fb n, [(dp, .inl (G.2.1, 40, .inl dD))]]) := hD
        obtain ⟨hP, hD⟩ := lb_sub (Cs := [mlW G q M, [(o, .inr (10, [.ref ok, .ref ol, .ref on]))], [(ok, .inl (G.2.1, 8, .inl fk))], [(ol, lxq k n rr)], lrB G r fs fa fb n, [(dp, .inl (G.2.1, 40, .inl dD))]]) [2, 0, 1, 3, 4, 5] [] hP hD rfl (by show List.Perm _ (List.range 6); decide)
        refine ly_s (As := [.ref (q 0), .ref o, .int 12, .int (nI p20), .int (nI p21)]) (rest := []) hx hb hml hown hts (t_L_add l G k q o ok ol on n rr r fk fs fa fb M rn 12 (nI p20) (nI p21) hI (lf12 ((lf_kd hp20_).trans hk20) ((lf_kd hp21_).trans hk21))) 5 (sxGS (bi13 (w := Cond.methodLink RL 50 yL_add) 51 rfl) (bi13 (w := Cond.static yL_add) 52 rfl) (bi13 (w := Cond.initialized RL) 44 rfl) (bi13 (w := Cond.code yL_add cL_add 5 (some .boolean)) 40 rfl)) rfl (by decide +kernel) ⟨Nat.le_of_ble_eq_true rfl, Nat.le_of_ble_eq_true rfl⟩ hK hP hD hS hA hE [0, 1, 3, 4] [2, 5] rfl rfl (by show List.Perm _ (List.range 6); decide) rfl hl rfl (Nat.le_of_ble_eq_true rfl) ⟨by show _ ≤ 2; omega, by show _ ≤ 36; omega⟩ dL_line_590 (fun B1 v1 hp1 H locs hP hD hS => ?_)
        obtain ⟨rfl, M1, ol1, n1, rr1, r1, fs1, fa1, fb1, rfl, hI1, hA1⟩ := hp1
        obtain ⟨hW1, hn1⟩ := lw_lgA hW hA1 (fun e => absurd e (by decide)) (by decide) (by decide) (by decide) (by decide)
        show W p l e _ s m args below meth c H locs _ _ _ (F0 m 593 ls [.int 1])
        have hP : va_P G.1 vwCl (lxF [mlW G q M1, [(o, .inr (10, [.ref ok, .ref ol1, .ref on]))], [(ol1, lxq k n1 rr1)], lrB G r1 fs1 fa1 fb1 n1, [(ok, .inl (G.2.1, 8, .inl fk))], [(dp, .inl (G.2.1, 40, .inl dD))]]) H := hP
        have hD : va_D A (lxF [mlW G q M1, [(o, .inr (10, [.ref ok, .ref ol1, .ref on]))], [(ol1, lxq k n1 rr1)], lrB G r1 fs1 fa1 fb1 n1, [(ok, .inl (G.2.1, 8, .inl fk))], [(dp, .inl (G.2.1, 40, .inl dD))]]) := hD
        obtain ⟨hP, hD⟩ := lb_sub (Cs := [mlW G q M1, [(o, .inr (10, [.ref ok, .ref ol1, .ref on]))], [(ok, .inl (G.2.1, 8, .inl fk))], [(ol1, lxq k n1 rr1)], lrB G r1 fs1 fa1 fb1 n1, [(dp, .inl (G.2.1, 40, .inl dD))]]) [0, 1, 4, 2, 3, 5] [] hP hD rfl (by show List.Perm _ (List.range 6); decide)
        exact ly_ri hx hb hr hlk hP hD hS rfl (⟨rfl, M1, ol1, n1, rr1, r1, fs1, fa1, fb1, d, dD, rfl, hI1, hW1, by omega⟩) (by omega) (by omega) dL_line_593
      · refine lv_tableIn (off := 547) (tgt := 594) hx hb dL_line_47 (by rw [sw]; decide) (by rw [sw]; decide) (by rw [sw]; rfl) (by decide) ?_
        refine lv_aload_n hx hb dL_line_594 rfl (lv_at hl 1 rfl) ?_
        refine lv_aload_n hx hb dL_line_595 rfl (lv_at hl 2 rfl) ?_
        refine lv_bipush (v := 13) hx hb dL_line_596 (by decide) ?_
        refine lv_iload_n hx hb dL_line_598 rfl (lv_at hl 4 rfl) ?_
        refine lv_iconst (v := 2) hx hb dL_line_599 (by decide) ?_
        refine ly_s (As := [.int y, .int 2]) (rest := [.int 13, .ref o, .ref (q 0)]) hx hb hml hown hts (t_L_below l G k y 2 (by decide) (by decide)) 2 (sxGS (bi13 (w := Cond.methodLink RL 29 yL_below) 42 rfl) (bi13 (w := Cond.static yL_below) 43 rfl) (bi13 (w := Cond.initialized RL) 44 rfl) (bi13 (w := Cond.code yL_below cL_below 2 (some .int)) 27 rfl)) rfl (by decide +kernel) ⟨Nat.le_of_ble_eq_true rfl, Nat.le_of_ble_eq_true rfl⟩ hK hP hD hS hA hE [] [0, 1, 2, 3, 4, 5] rfl rfl (by show List.Perm _ (List.range 6); decide) rfl hl rfl (Nat.le_of_ble_eq_true rfl) ⟨by show _ ≤ 2; omega, by show _ ≤ 36; omega⟩ dL_line_600 (fun B1 v1 hp1 H locs hP hD hS => ?_)
        obtain ⟨rfl, rfl⟩ := hp1
        have hbl14 := lbl_lt y (n := 2) (by decide)
        show W p l e _ s m args below meth c H locs _ _ _ (F0 m 603 ls [.int (nI (lbl y 2)), .int 13, .ref o, .ref (q 0)])
        have hP : va_P G.1 vwCl (lxF [mlW G q M, [(o, .inr (10, [.ref ok, .ref ol, .ref on]))], [(ok, .inl (G.2.1, 8, .inl fk))], [(ol, lxq k n rr)], lrB G r fs fa fb n, [(dp, .inl (G.2.1, 40, .inl dD))]]) H := hP
        have hD : va_D A (lxF [mlW G q M, [(o, .inr (10, [.ref ok, .ref ol, .ref on]))], [(ok, .inl (G.2.1, 8, .inl fk))], [(ol, lxq k n rr)], lrB G r fs fa fb n, [(dp, .inl (G.2.1, 40, .inl dD))]]) := hD
        refine lv_iadd hx hb dL_line_603 ?_
        rw [show ((13 : Int32) + (nI (lbl y 2)) : Int32) = nI (13 + (lbl y 2)) from nI_add 13 (lbl y 2)]
        refine lv_aload_n hx hb dL_line_604 rfl (lv_at hl 2 rfl) ?_
        refine lv_iconst (v := 5) hx hb dL_line_605 (by decide) ?_
        refine lv_iload_n hx hb dL_line_606 rfl (lv_at hl 3 rfl) ?_
        refine lv_iconst (v := 4) hx hb dL_line_607 (by decide) ?_
        refine lv_ishr hx hb dL_line_608 ?_
        refine ly_s (As := [.ref o, .int 5, .int (x >>> (4 &&& 31))]) (rest := [.int (nI (13 + (lbl y 2))), .ref o, .ref (q 0)]) hx hb hml hown hts (t_L_place l G k o ok ol on fk 5 (x >>> (4 &&& 31))) 3 (sxGS (bi13 (w := Cond.methodLink RL 46 yL_place) 54 rfl) (bi13 (w := Cond.static yL_place) 55 rfl) (bi13 (w := Cond.initialized RL) 44 rfl) (bi13 (w := Cond.code yL_place cL_place 5 (some .int)) 49 rfl)) rfl (by decide +kernel) ⟨Nat.le_of_ble_eq_true rfl, Nat.le_of_ble_eq_true rfl⟩ hK hP hD hS hA hE [1, 2] [0, 3, 4, 5] rfl rfl (by show List.Perm _ (List.range 6); decide) rfl hl rfl (Nat.le_of_ble_eq_true rfl) ⟨by show _ ≤ 2; omega, by show _ ≤ 36; omega⟩ dL_line_609 (fun B1 v1 hp1 H locs hP hD hS => ?_)
        obtain ⟨rfl, p22, hp22_, rfl, hkk22⟩ := hp1
        have hk22 := lk_place hKz (by decide) hkk22
        show W p l e _ s m args below meth c H locs _ _ _ (F0 m 612 ls [.int (nI p22), .int (nI (13 + (lbl y 2))), .ref o, .ref (q 0)])
        have hP : va_P G.1 vwCl (lxF [[(o, .inr (10, [.ref ok, .ref ol, .ref on]))], [(ok, .inl (G.2.1, 8, .inl fk))], mlW G q M, [(ol, lxq k n rr)], lrB G r fs fa fb n, [(dp, .inl (G.2.1, 40, .inl dD))]]) H := hP
        have hD : va_D A (lxF [[(o, .inr (10, [.ref ok, .ref ol, .ref on]))], [(ok, .inl (G.2.1, 8, .inl fk))], mlW G q M, [(ol, lxq k n rr)], lrB G r fs fa fb n, [(dp, .inl (G.2.1, 40, .inl dD))]]) := hD
        obtain ⟨hP, hD⟩ := lb_sub (Cs := [mlW G q M, [(o, .inr (10, [.ref ok, .ref ol, .ref on]))], [(ok, .inl (G.2.1, 8, .inl fk))], [(ol, lxq k n rr)], lrB G r fs fa fb n, [(dp, .inl (G.2.1, 40, .inl dD))]]) [2, 0, 1, 3, 4, 5] [] hP hD rfl (by show List.Perm _ (List.range 6); decide)
        refine lv_iconst (v := 0) hx hb dL_line_612 (by decide) ?_
        refine ly_s (As := [.ref (q 0), .ref o, .int (nI (13 + (lbl y 2))), .int (nI p22), .int 0]) (rest := []) hx hb hml hown hts (t_L_add l G k q o ok ol on n rr r fk fs fa fb M rn (nI (13 + (lbl y 2))) (nI p22) 0 hI (lf_hold (t := lbl y 2) (by omega) ((lf_kd hp22_).trans hk22))) 5 (sxGS (bi13 (w := Cond.methodLink RL 50 yL_add) 51 rfl) (bi13 (w := Cond.static yL_add) 52 rfl) (bi13 (w := Cond.initialized RL) 44 rfl) (bi13 (w := Cond.code yL_add cL_add 5 (some .boolean)) 40 rfl)) rfl (by decide +kernel) ⟨Nat.le_of_ble_eq_true rfl, Nat.le_of_ble_eq_true rfl⟩ hK hP hD hS hA hE [0, 1, 3, 4] [2, 5] rfl rfl (by show List.Perm _ (List.range 6); decide) rfl hl rfl (Nat.le_of_ble_eq_true rfl) ⟨by show _ ≤ 2; omega, by show _ ≤ 36; omega⟩ dL_line_613 (fun B1 v1 hp1 H locs hP hD hS => ?_)
        obtain ⟨rfl, M1, ol1, n1, rr1, r1, fs1, fa1, fb1, rfl, hI1, hA1⟩ := hp1
        obtain ⟨hW1, hn1⟩ := lw_lgA hW hA1 (fun z => absurd z (by rcases (show lbl y 2 = 0 ∨ lbl y 2 = 1 by omega) with e | e <;> (rw [e]; decide))) (by rcases (show lbl y 2 = 0 ∨ lbl y 2 = 1 by omega) with e | e <;> (rw [e]; decide)) (by rcases (show lbl y 2 = 0 ∨ lbl y 2 = 1 by omega) with e | e <;> (rw [e]; decide)) (by rcases (show lbl y 2 = 0 ∨ lbl y 2 = 1 by omega) with e | e <;> (rw [e]; decide)) (by rcases (show lbl y 2 = 0 ∨ lbl y 2 = 1 by omega) with e | e <;> (rw [e]; decide))
        show W p l e _ s m args below meth c H locs _ _ _ (F0 m 616 ls [.int 1])
        have hP : va_P G.1 vwCl (lxF [mlW G q M1, [(o, .inr (10, [.ref ok, .ref ol1, .ref on]))], [(ol1, lxq k n1 rr1)], lrB G r1 fs1 fa1 fb1 n1, [(ok, .inl (G.2.1, 8, .inl fk))], [(dp, .inl (G.2.1, 40, .inl dD))]]) H := hP
        have hD : va_D A (lxF [mlW G q M1, [(o, .inr (10, [.ref ok, .ref ol1, .ref on]))], [(ol1, lxq k n1 rr1)], lrB G r1 fs1 fa1 fb1 n1, [(ok, .inl (G.2.1, 8, .inl fk))], [(dp, .inl (G.2.1, 40, .inl dD))]]) := hD
        obtain ⟨hP, hD⟩ := lb_sub (Cs := [mlW G q M1, [(o, .inr (10, [.ref ok, .ref ol1, .ref on]))], [(ok, .inl (G.2.1, 8, .inl fk))], [(ol1, lxq k n1 rr1)], lrB G r1 fs1 fa1 fb1 n1, [(dp, .inl (G.2.1, 40, .inl dD))]]) [0, 1, 4, 2, 3, 5] [] hP hD rfl (by show List.Perm _ (List.range 6); decide)
        exact ly_ri hx hb hr hlk hP hD hS rfl (⟨rfl, M1, ol1, n1, rr1, r1, fs1, fa1, fb1, d, dD, rfl, hI1, hW1, by omega⟩) (by omega) (by omega) dL_line_616
      · refine lv_tableIn (off := 570) (tgt := 617) hx hb dL_line_47 (by rw [sw]; decide) (by rw [sw]; decide) (by rw [sw]; rfl) (by decide) ?_
        refine lv_iload_n hx hb dL_line_617 rfl (lv_at hl 4 rfl) ?_
        refine lv_iconst (v := 4) hx hb dL_line_618 (by decide) ?_
        refine ly_s (As := [.int y, .int 4]) (rest := []) hx hb hml hown hts (t_L_below l G k y 4 (by decide) (by decide)) 2 (sxGS (bi13 (w := Cond.methodLink RL 29 yL_below) 42 rfl) (bi13 (w := Cond.static yL_below) 43 rfl) (bi13 (w := Cond.initialized RL) 44 rfl) (bi13 (w := Cond.code yL_below cL_below 2 (some .int)) 27 rfl)) rfl (by decide +kernel) ⟨Nat.le_of_ble_eq_true rfl, Nat.le_of_ble_eq_true rfl⟩ hK hP hD hS hA hE [] [0, 1, 2, 3, 4, 5] rfl rfl (by show List.Perm _ (List.range 6); decide) rfl hl rfl (Nat.le_of_ble_eq_true rfl) ⟨by show _ ≤ 2; omega, by show _ ≤ 36; omega⟩ dL_line_619 (fun B1 v1 hp1 H locs hP hD hS => ?_)
        obtain ⟨rfl, rfl⟩ := hp1
        have hbl14 := lbl_lt y (n := 4) (by decide)
        show W p l e _ s m args below meth c H locs _ _ _ (F0 m 622 ls [.int (nI (lbl y 4))])
        have hP : va_P G.1 vwCl (lxF [mlW G q M, [(o, .inr (10, [.ref ok, .ref ol, .ref on]))], [(ok, .inl (G.2.1, 8, .inl fk))], [(ol, lxq k n rr)], lrB G r fs fa fb n, [(dp, .inl (G.2.1, 40, .inl dD))]]) H := hP
        have hD : va_D A (lxF [mlW G q M, [(o, .inr (10, [.ref ok, .ref ol, .ref on]))], [(ok, .inl (G.2.1, 8, .inl fk))], [(ol, lxq k n rr)], lrB G r fs fa fb n, [(dp, .inl (G.2.1, 40, .inl dD))]]) := hD
        refine lv_if_gt (tgt := 637) hx hb dL_line_622 (by decide) (fun c15 => ?_) (fun c15 => ?_)
        · have nc15 := (nI_ltI (a := 0) (b := (lbl y 4)) (by omega) (by omega)).mp c15
          refine lv_iconst (v := 1) hx hb dL_line_637 (by decide) ?_
          refine lv_goto (tgt := 642) hx hb dL_line_638 (by decide) ?_
          exact ly_ri hx hb hr hlk hP hD hS rfl (⟨rfl, M, ol, n, rr, r, fs, fa, fb, d, dD, rfl, hI, hW, by omega⟩) (by omega) (by omega) dL_line_642
        · have nc15 := (not_congr (nI_ltI (a := 0) (b := (lbl y 4)) (by omega) (by omega))).mp c15
          refine lv_aload_n hx hb dL_line_625 rfl (lv_at hl 1 rfl) ?_
          refine lv_aload_n hx hb dL_line_626 rfl (lv_at hl 2 rfl) ?_
          refine lv_bipush (v := 15) hx hb dL_line_627 (by decide) ?_
          refine lv_iconst (v := 0) hx hb dL_line_629 (by decide) ?_
          refine lv_iconst (v := 0) hx hb dL_line_630 (by decide) ?_
          refine ly_s (As := [.ref (q 0), .ref o, .int 15, .int 0, .int 0]) (rest := []) hx hb hml hown hts (t_L_add l G k q o ok ol on n rr r fk fs fa fb M rn 15 0 0 hI lf15) 5 (sxGS (bi13 (w := Cond.methodLink RL 50 yL_add) 51 rfl) (bi13 (w := Cond.static yL_add) 52 rfl) (bi13 (w := Cond.initialized RL) 44 rfl) (bi13 (w := Cond.code yL_add cL_add 5 (some .boolean)) 40 rfl)) rfl (by decide +kernel) ⟨Nat.le_of_ble_eq_true rfl, Nat.le_of_ble_eq_true rfl⟩ hK hP hD hS hA hE [0, 1, 3, 4] [2, 5] rfl rfl (by show List.Perm _ (List.range 6); decide) rfl hl rfl (Nat.le_of_ble_eq_true rfl) ⟨by show _ ≤ 2; omega, by show _ ≤ 36; omega⟩ dL_line_631 (fun B1 v1 hp1 H locs hP hD hS => ?_)
          obtain ⟨rfl, M1, ol1, n1, rr1, r1, fs1, fa1, fb1, rfl, hI1, hA1⟩ := hp1
          obtain ⟨hW1, hn1⟩ := lw_lgA hW hA1 (fun e => absurd e (by decide)) (by decide) (by decide) (by decide) (by decide)
          show W p l e _ s m args below meth c H locs _ _ _ (F0 m 634 ls [.int 1])
          have hP : va_P G.1 vwCl (lxF [mlW G q M1, [(o, .inr (10, [.ref ok, .ref ol1, .ref on]))], [(ol1, lxq k n1 rr1)], lrB G r1 fs1 fa1 fb1 n1, [(ok, .inl (G.2.1, 8, .inl fk))], [(dp, .inl (G.2.1, 40, .inl dD))]]) H := hP
          have hD : va_D A (lxF [mlW G q M1, [(o, .inr (10, [.ref ok, .ref ol1, .ref on]))], [(ol1, lxq k n1 rr1)], lrB G r1 fs1 fa1 fb1 n1, [(ok, .inl (G.2.1, 8, .inl fk))], [(dp, .inl (G.2.1, 40, .inl dD))]]) := hD
          obtain ⟨hP, hD⟩ := lb_sub (Cs := [mlW G q M1, [(o, .inr (10, [.ref ok, .ref ol1, .ref on]))], [(ok, .inl (G.2.1, 8, .inl fk))], [(ol1, lxq k n1 rr1)], lrB G r1 fs1 fa1 fb1 n1, [(dp, .inl (G.2.1, 40, .inl dD))]]) [0, 1, 4, 2, 3, 5] [] hP hD rfl (by show List.Perm _ (List.range 6); decide)
          refine lv_if_eq (tgt := 641) hx hb dL_line_634 (by decide) (fun c16 => absurd c16 (by decide)) (fun c16 => ?_)
          refine lv_iconst (v := 1) hx hb dL_line_637 (by decide) ?_
          refine lv_goto (tgt := 642) hx hb dL_line_638 (by decide) ?_
          exact ly_ri hx hb hr hlk hP hD hS rfl (⟨rfl, M1, ol1, n1, rr1, r1, fs1, fa1, fb1, d, dD, rfl, hI1, hW1, by omega⟩) (by omega) (by omega) dL_line_642
      · refine lv_tableOut (tgt := 643) hx hb dL_line_47 (by rw [sw]; decide) (by decide) ?_
        refine lv_aload_n hx hb dL_line_643 rfl (lv_at hl 1 rfl) ?_
        refine lv_aload_n hx hb dL_line_644 rfl (lv_at hl 2 rfl) ?_
        refine lv_bipush (v := 16) hx hb dL_line_645 (by decide) ?_
        refine lv_aload_n hx hb dL_line_647 rfl (lv_at hl 2 rfl) ?_
        refine lv_iconst (v := 0) hx hb dL_line_648 (by decide) ?_
        refine lv_iload_n hx hb dL_line_649 rfl (lv_at hl 3 rfl) ?_
        refine lv_iconst (v := 4) hx hb dL_line_650 (by decide) ?_
        refine lv_ishr hx hb dL_line_651 ?_
        refine ly_s (As := [.ref o, .int 0, .int (x >>> (4 &&& 31))]) (rest := [.int 16, .ref o, .ref (q 0)]) hx hb hml hown hts (t_L_place l G k o ok ol on fk 0 (x >>> (4 &&& 31))) 3 (sxGS (bi13 (w := Cond.methodLink RL 46 yL_place) 54 rfl) (bi13 (w := Cond.static yL_place) 55 rfl) (bi13 (w := Cond.initialized RL) 44 rfl) (bi13 (w := Cond.code yL_place cL_place 5 (some .int)) 49 rfl)) rfl (by decide +kernel) ⟨Nat.le_of_ble_eq_true rfl, Nat.le_of_ble_eq_true rfl⟩ hK hP hD hS hA hE [1, 2] [0, 3, 4, 5] rfl rfl (by show List.Perm _ (List.range 6); decide) rfl hl rfl (Nat.le_of_ble_eq_true rfl) ⟨by show _ ≤ 2; omega, by show _ ≤ 36; omega⟩ dL_line_652 (fun B1 v1 hp1 H locs hP hD hS => ?_)
        obtain ⟨rfl, p23, hp23_, rfl, hkk23⟩ := hp1
        have hk23 := lk_place hKz (by decide) hkk23
        show W p l e _ s m args below meth c H locs _ _ _ (F0 m 655 ls [.int (nI p23), .int 16, .ref o, .ref (q 0)])
        have hP : va_P G.1 vwCl (lxF [[(o, .inr (10, [.ref ok, .ref ol, .ref on]))], [(ok, .inl (G.2.1, 8, .inl fk))], mlW G q M, [(ol, lxq k n rr)], lrB G r fs fa fb n, [(dp, .inl (G.2.1, 40, .inl dD))]]) H := hP
        have hD : va_D A (lxF [[(o, .inr (10, [.ref ok, .ref ol, .ref on]))], [(ok, .inl (G.2.1, 8, .inl fk))], mlW G q M, [(ol, lxq k n rr)], lrB G r fs fa fb n, [(dp, .inl (G.2.1, 40, .inl dD))]]) := hD
        obtain ⟨hP, hD⟩ := lb_sub (Cs := [mlW G q M, [(o, .inr (10, [.ref ok, .ref ol, .ref on]))], [(ok, .inl (G.2.1, 8, .inl fk))], [(ol, lxq k n rr)], lrB G r fs fa fb n, [(dp, .inl (G.2.1, 40, .inl dD))]]) [2, 0, 1, 3, 4, 5] [] hP hD rfl (by show List.Perm _ (List.range 6); decide)
        refine lv_iload hx hb dL_line_655 (lv_at hl 6 rfl) ?_
        refine ly_s (As := [.ref (q 0), .ref o, .int 16, .int (nI p23), .int (nI (lbl (y >>> (4 &&& 31)) 31) - 9)]) (rest := []) hx hb hml hown hts (t_L_add l G k q o ok ol on n rr r fk fs fa fb M rn 16 (nI p23) (nI (lbl (y >>> (4 &&& 31)) 31) - 9) hI (lf16 ((lf_kd hp23_).trans hk23) (lf_small (c := (lbl (y >>> (4 &&& 31)) 31)) (d := 9) (by omega) (by omega)))) 5 (sxGS (bi13 (w := Cond.methodLink RL 50 yL_add) 51 rfl) (bi13 (w := Cond.static yL_add) 52 rfl) (bi13 (w := Cond.initialized RL) 44 rfl) (bi13 (w := Cond.code yL_add cL_add 5 (some .boolean)) 40 rfl)) rfl (by decide +kernel) ⟨Nat.le_of_ble_eq_true rfl, Nat.le_of_ble_eq_true rfl⟩ hK hP hD hS hA hE [0, 1, 3, 4] [2, 5] rfl rfl (by show List.Perm _ (List.range 6); decide) rfl hl rfl (Nat.le_of_ble_eq_true rfl) ⟨by show _ ≤ 2; omega, by show _ ≤ 36; omega⟩ dL_line_657 (fun B1 v1 hp1 H locs hP hD hS => ?_)
        obtain ⟨rfl, M1, ol1, n1, rr1, r1, fs1, fa1, fb1, rfl, hI1, hA1⟩ := hp1
        obtain ⟨hW1, hn1⟩ := lw_lgA hW hA1 (fun e => absurd e (by decide)) (by decide) (by decide) (by decide) (by decide)
        show W p l e _ s m args below meth c H locs _ _ _ (F0 m 660 ls [.int 1])
        have hP : va_P G.1 vwCl (lxF [mlW G q M1, [(o, .inr (10, [.ref ok, .ref ol1, .ref on]))], [(ol1, lxq k n1 rr1)], lrB G r1 fs1 fa1 fb1 n1, [(ok, .inl (G.2.1, 8, .inl fk))], [(dp, .inl (G.2.1, 40, .inl dD))]]) H := hP
        have hD : va_D A (lxF [mlW G q M1, [(o, .inr (10, [.ref ok, .ref ol1, .ref on]))], [(ol1, lxq k n1 rr1)], lrB G r1 fs1 fa1 fb1 n1, [(ok, .inl (G.2.1, 8, .inl fk))], [(dp, .inl (G.2.1, 40, .inl dD))]]) := hD
        obtain ⟨hP, hD⟩ := lb_sub (Cs := [mlW G q M1, [(o, .inr (10, [.ref ok, .ref ol1, .ref on]))], [(ok, .inl (G.2.1, 8, .inl fk))], [(ol1, lxq k n1 rr1)], lrB G r1 fs1 fa1 fb1 n1, [(dp, .inl (G.2.1, 40, .inl dD))]]) [0, 1, 4, 2, 3, 5] [] hP hD rfl (by show List.Perm _ (List.range 6); decide)
        exact ly_ri hx hb hr hlk hP hD hS rfl (⟨rfl, M1, ol1, n1, rr1, r1, fs1, fa1, fb1, d, dD, rfl, hI1, hW1, by omega⟩) (by omega) (by omega) dL_line_660
  refine lv_iload_n hx hb dL_line_13 rfl (lv_at hl 4 rfl) ?_
  refine lv_iconst (v := 3) hx hb dL_line_14 (by decide) ?_
  refine ly_s (As := [.int y, .int 3]) (rest := []) hx hb hml hown hts (t_L_below l G k y 3 (by decide) (by decide)) 2 (sxGS (bi13 (w := Cond.methodLink RL 29 yL_below) 42 rfl) (bi13 (w := Cond.static yL_below) 43 rfl) (bi13 (w := Cond.initialized RL) 44 rfl) (bi13 (w := Cond.code yL_below cL_below 2 (some .int)) 27 rfl)) rfl (by decide +kernel) ⟨Nat.le_of_ble_eq_true rfl, Nat.le_of_ble_eq_true rfl⟩ hK hP hD hS hA hE [] [0, 1, 2, 3, 4, 5] rfl rfl (by show List.Perm _ (List.range 6); decide) rfl hl rfl (Nat.le_of_ble_eq_true rfl) ⟨by show _ ≤ 2; omega, by show _ ≤ 36; omega⟩ dL_line_15 (fun B1 v1 hp1 H locs hP hD hS => ?_)
  obtain ⟨rfl, rfl⟩ := hp1
  have hbl16 := lbl_lt y (n := 3) (by decide)
  show W p l e _ s m args below meth c H locs _ _ _ (F0 m 18 ls [.int (nI (lbl y 3))])
  have hP : va_P G.1 vwCl (lxF [mlW G q M, [(o, .inr (10, [.ref ok, .ref ol, .ref on]))], [(ok, .inl (G.2.1, 8, .inl fk))], [(ol, lxq k n rr)], lrB G r fs fa fb n, [(dp, .inl (G.2.1, 40, .inl dD))]]) H := hP
  have hD : va_D A (lxF [mlW G q M, [(o, .inr (10, [.ref ok, .ref ol, .ref on]))], [(ok, .inl (G.2.1, 8, .inl fk))], [(ol, lxq k n rr)], lrB G r fs fa fb n, [(dp, .inl (G.2.1, 40, .inl dD))]]) := hD
  refine lv_if_ne (tgt := 25) hx hb dL_line_18 (by decide) (fun c17 => ?_) (fun c17 => ?_)
  · have nc17 := (not_congr (nI_eq (a := (lbl y 3)) (b := 0) (by omega) (by omega))).mp c17
    refine lv_iconst (v := 1) hx hb dL_line_25 (by decide) ?_
    refine lv_iload_n hx hb dL_line_26 rfl (lv_at hl 4 rfl) ?_
    refine lv_iconst (v := 2) hx hb dL_line_27 (by decide) ?_
    refine ly_s (As := [.int y, .int 2]) (rest := [.int 1]) hx hb hml hown hts (t_L_below l G k y 2 (by decide) (by decide)) 2 (sxGS (bi13 (w := Cond.methodLink RL 29 yL_below) 42 rfl) (bi13 (w := Cond.static yL_below) 43 rfl) (bi13 (w := Cond.initialized RL) 44 rfl) (bi13 (w := Cond.code yL_below cL_below 2 (some .int)) 27 rfl)) rfl (by decide +kernel) ⟨Nat.le_of_ble_eq_true rfl, Nat.le_of_ble_eq_true rfl⟩ hK hP hD hS hA hE [] [0, 1, 2, 3, 4, 5] rfl rfl (by show List.Perm _ (List.range 6); decide) rfl hl rfl (Nat.le_of_ble_eq_true rfl) ⟨by show _ ≤ 2; omega, by show _ ≤ 36; omega⟩ dL_line_28 (fun B1 v1 hp1 H locs hP hD hS => ?_)
    obtain ⟨rfl, rfl⟩ := hp1
    have hbl17 := lbl_lt y (n := 2) (by decide)
    show W p l e _ s m args below meth c H locs _ _ _ (F0 m 31 ls [.int (nI (lbl y 2)), .int 1])
    have hP : va_P G.1 vwCl (lxF [mlW G q M, [(o, .inr (10, [.ref ok, .ref ol, .ref on]))], [(ok, .inl (G.2.1, 8, .inl fk))], [(ol, lxq k n rr)], lrB G r fs fa fb n, [(dp, .inl (G.2.1, 40, .inl dD))]]) H := hP
    have hD : va_D A (lxF [mlW G q M, [(o, .inr (10, [.ref ok, .ref ol, .ref on]))], [(ok, .inl (G.2.1, 8, .inl fk))], [(ol, lxq k n rr)], lrB G r fs fa fb n, [(dp, .inl (G.2.1, 40, .inl dD))]]) := hD
    refine lv_iadd hx hb dL_line_31 ?_
    rw [show ((1 : Int32) + (nI (lbl y 2)) : Int32) = nI (1 + (lbl y 2)) from nI_add 1 (lbl y 2)]
    refine lv_istore (lv' := [(6, .int (nI (1 + (lbl y 2)))), (5, .int ((nI (lbl (y >>> (4 &&& 31)) 31)) - 9)), (0, .ref (q 0)), (1, .ref o), (2, .int x), (3, .int y), (4, .ref dp)]) hx hb dL_line_32 hl (by decide) rfl (fun ls hl => ?_)
    exact LP34_1 1 (nI (1 + (lbl y 2))) (by omega) (by rcases (show lbl y 2 = 0 ∨ lbl y 2 = 1 by omega) with e | e <;> (rw [e]; decide)) _ _ (by omega) (by omega) _ _ hP hD hS ls (lv_sub hl [2, 3, 4, 5, 6, 1, 0] rfl)
  · have nc17 := (nI_eq (a := (lbl y 3)) (b := 0) (by omega) (by omega)).mp c17
    refine lv_iconst (v := 5) hx hb dL_line_21 (by decide) ?_
    refine lv_goto (tgt := 32) hx hb dL_line_22 (by decide) ?_
    refine lv_istore (lv' := [(6, .int 5), (5, .int ((nI (lbl (y >>> (4 &&& 31)) 31)) - 9)), (0, .ref (q 0)), (1, .ref o), (2, .int x), (3, .int y), (4, .ref dp)]) hx hb dL_line_32 hl (by decide) rfl (fun ls hl => ?_)
    exact LP34_1 1 5 (by omega) (by decide) _ _ (by omega) (by omega) _ _ hP hD hS ls (lv_sub hl [2, 3, 4, 5, 6, 1, 0] rfl)
