abbrev wdL_isSound : List Cond := Cond.code yL_isSound cL_isSound 7 (some .boolean) :: bwC
set_option maxHeartbeats 4000000 in
set_option maxRecDepth 100000 in
theorem t_L_isSound (l : Launch) (G : sxG) (k : lxC) (q : Nat → Nat) (o ok ol na n : Nat) (fk : Nat → Int32) (rr : Nat → Option Nat) (r : Nat → Nat) (fs fa fb : Nat → Int32) (nf : Nat → Option Nat) (nr nl : Nat → Nat) (nc : Nat → Nat → Int32) (M : mlS) (rn : Int32) (hI : lsI fk n rr r fs fa fb M rn) (hG : qz_G n fk fs fa fb) (hz : qk_fc M.2.1 = 0) (hnf : ∀ j, j < n + 1 → nf j = some (nr j)) (hF : jnF fs n nl nc n) : lyM l yL_isSound wdL_isSound 6 144 32 64 G k [mlW G q M, [(o, .inr (10, [.ref ok, .ref ol, .ref na]))], [(ok, .inl (G.2.1, 8, .inl fk))], [(ol, lxq k n rr)], lrB G r fs fa fb n, [(na, lxq k (n + 1) nf)], nxB G nr nl nc (n + 1)] [.ref (q 0), .ref o] (fun B v => v = some (.int 1) ∧ ∃ M1 : mlS, B = [mlW G q M1, [(o, .inr (10, [.ref ok, .ref ol, .ref na]))], [(ok, .inl (G.2.1, 8, .inl fk))], [(ol, lxq k n rr)], lrB G r fs fa fb n, [(na, lxq k (n + 1) nf)], nxB G nr nl nc (n + 1)] ∧ lsI fk n rr r fs fa fb M1 rn ∧ qk_fc M1.2.1 = 0) := by
  refine lyM.of (cc := cL_isSound) (maxL := 7) (rt := (some .boolean)) (by decide) rfl (Nat.le_of_ble_eq_true rfl) ?_
  intro p e s m args below meth c ⟨hx, hb, hr, hml, hown, hlk, hts, hK⟩ hnm A hA hP hD hS hE ls hl
  have hl : lv_has ls 7 [(0, .ref (q 0)), (1, .ref o)] := hl
  obtain ⟨hrr, hM, hP4, hrn⟩ := id hI
  have hn := hP4.2.1
  have hKK := qz_KK hG.1
  obtain ⟨hw, hwr, hbd⟩ := ml_good hM.2.1 hz
  refine lv_iconst (v := 0) hx hb dL_isSound_0 (by decide) ?_
  refine lv_istore_n (lv' := [(2, .int 0), (0, .ref (q 0)), (1, .ref o)]) hx hb dL_isSound_1 rfl hl (by decide) rfl (fun ls hl => ?_)
  have LP2_1 : ∀ (kk1 : Nat) (i : Nat), n - i < kk1 → (i ≤ n) → ∀ cells slots : Nat, cells ≤ i → slots ≤ 2 * i → ∀ (H : Heap) (locs : List Loc), va_P G.1 vwCl (lxF [mlW G q M, [(o, .inr (10, [.ref ok, .ref ol, .ref na]))], [(ok, .inl (G.2.1, 8, .inl fk))], [(ol, lxq k n rr)], lrB G r fs fa fb n, [(na, lxq k (n + 1) nf)], nxB G nr nl nc (n + 1)]) H → va_D A (lxF [mlW G q M, [(o, .inr (10, [.ref ok, .ref ol, .ref na]))], [(ok, .inl (G.2.1, 8, .inl fk))], [(ol, lxq k n rr)], lrB G r fs fa fb n, [(na, lxq k (n + 1) nf)], nxB G nr nl nc (n + 1)]) → va_S A s.heap H locs → ∀ ls : Array Slot, lv_has ls 7 [(0, .ref (q 0)), (1, .ref o), (2, .int (nI i))] → W p l e ({ frames := 6, cells := 32, slots := 64, locals := 144 } : Room) s m args below meth c H locs cells slots (lyZ 32 64 G args s below A (fun B v => v = some (.int 1) ∧ ∃ M1 : mlS, B = [mlW G q M1, [(o, .inr (10, [.ref ok, .ref ol, .ref na]))], [(ok, .inl (G.2.1, 8, .inl fk))], [(ol, lxq k n rr)], lrB G r fs fa fb n, [(na, lxq k (n + 1) nf)], nxB G nr nl nc (n + 1)] ∧ lsI fk n rr r fs fa fb M1 rn ∧ qk_fc M1.2.1 = 0)) (F0 m 2 ls []) := by
    intro kk1
    induction kk1 with
    | zero =>
      intro i hm
      exact absurd hm (Nat.not_lt_zero _)
    | succ kk1 ih1 =>
      intro i hm1 hi cells slots hcc1 hss1 H locs hP hD hS ls hl
      refine lv_iload_n hx hb dL_isSound_2 rfl (lv_at hl 2 rfl) ?_
      refine lv_aload_n hx hb dL_isSound_3 rfl (lv_at hl 1 rfl) ?_
      refine lb_get (ci := 10) (v := .ref ol) (C := RX10) (T := TX10) (N := 3) hx hb hts owX10 hown hK hP 1 0 rfl rfl rfl 1 (by decide) (bw13 (w := Cond.fieldLink RL 9 "DropflagMillLaw$Own" "lines" "[[I") hts 31 rfl) (fun _ h9 => h9) rfl dL_isSound_4 ?_
      refine lb_alenq (v := nI n) hx hb hK hE hP 3 0 rfl rfl rfl dL_isSound_7 ?_
      refine lv_icmp_ge (tgt := 75) hx hb dL_isSound_8 (by decide) (fun c2 => ?_) (fun c2 => ?_)
      · have nc2 := (nI_leI (a := n) (b := i) (by omega) (by omega)).mp c2
        refine lv_iconst (v := 0) hx hb dL_isSound_75 (by decide) ?_
        refine lv_istore_n (lv' := [(2, .int 0), (0, .ref (q 0)), (1, .ref o)]) hx hb dL_isSound_76 rfl hl (by decide) rfl (fun ls hl => ?_)
        have LP77_3 : ∀ (kk3 : Nat) (i : Nat) (M : mlS), n + 1 - i < kk3 → (i ≤ n + 1) → (lsI fk n rr r fs fa fb M rn) → (qk_fc M.2.1 = 0) → ∀ cells slots : Nat, cells ≤ 32 → slots ≤ 64 → ∀ (H : Heap) (locs : List Loc), va_P G.1 vwCl (lxF [mlW G q M, [(o, .inr (10, [.ref ok, .ref ol, .ref na]))], [(ok, .inl (G.2.1, 8, .inl fk))], [(ol, lxq k n rr)], lrB G r fs fa fb n, [(na, lxq k (n + 1) nf)], nxB G nr nl nc (n + 1)]) H → va_D A (lxF [mlW G q M, [(o, .inr (10, [.ref ok, .ref ol, .ref na]))], [(ok, .inl (G.2.1, 8, .inl fk))], [(ol, lxq k n rr)], lrB G r fs fa fb n, [(na, lxq k (n + 1) nf)], nxB G nr nl nc (n + 1)]) → va_S A s.heap H locs → ∀ ls : Array Slot, lv_has ls 7 [(0, .ref (q 0)), (1, .ref o), (2, .int (nI i))] → W p l e ({ frames := 6, cells := 32, slots := 64, locals := 144 } : Room) s m args below meth c H locs cells slots (lyZ 32 64 G args s below A (fun B v => v = some (.int 1) ∧ ∃ M1 : mlS, B = [mlW G q M1, [(o, .inr (10, [.ref ok, .ref ol, .ref na]))], [(ok, .inl (G.2.1, 8, .inl fk))], [(ol, lxq k n rr)], lrB G r fs fa fb n, [(na, lxq k (n + 1) nf)], nxB G nr nl nc (n + 1)] ∧ lsI fk n rr r fs fa fb M1 rn ∧ qk_fc M1.2.1 = 0)) (F0 m 77 ls []) := by
          intro kk3
          induction kk3 with
          | zero =>
            intro i M hm
            exact absurd hm (Nat.not_lt_zero _)
          | succ kk3 ih3 =>
            intro i M hm3 hi hI hz cells slots hcc3 hss3 H locs hP hD hS ls hl
            refine lv_iload_n hx hb dL_isSound_77 rfl (lv_at hl 2 rfl) ?_
            refine lv_aload_n hx hb dL_isSound_78 rfl (lv_at hl 1 rfl) ?_
            refine lb_get (ci := 10) (v := .ref ol) (C := RX10) (T := TX10) (N := 3) hx hb hts owX10 hown hK hP 1 0 rfl rfl rfl 1 (by decide) (bw13 (w := Cond.fieldLink RL 9 "DropflagMillLaw$Own" "lines" "[[I") hts 31 rfl) (fun _ h9 => h9) rfl dL_isSound_79 ?_
            refine lb_alenq (v := nI n) hx hb hK hE hP 3 0 rfl rfl rfl dL_isSound_82 ?_
            refine lv_icmp_gt (tgt := 256) hx hb dL_isSound_83 (by decide) (fun c4 => ?_) (fun c4 => ?_)
            · have nc4 := (nI_ltI (a := n) (b := i) (by omega) (by omega)).mp c4
              refine lv_iconst (v := 1) hx hb dL_isSound_256 (by decide) ?_
              exact ly_ri hx hb hr hlk hP hD hS rfl (⟨rfl, M, rfl, hI, hz⟩) (by omega) (by omega) dL_isSound_257
            · have nc4 := (not_congr (nI_ltI (a := n) (b := i) (by omega) (by omega))).mp c4
              refine lv_bipush (v := 6) hx hb dL_isSound_86 (by decide) ?_
              refine lv_istore_n (lv' := [(3, .int 6), (0, .ref (q 0)), (1, .ref o), (2, .int (nI i))]) hx hb dL_isSound_88 rfl hl (by decide) rfl (fun ls hl => ?_)
              have LP89_5 : ∀ (kk5 : Nat) (j : Nat) (M : mlS), 12 - j < kk5 → (6 ≤ j) → (j ≤ 12) → (lsI fk n rr r fs fa fb M rn) → (qk_fc M.2.1 = 0) → ∀ cells slots : Nat, cells ≤ 32 → slots ≤ 64 → ∀ (H : Heap) (locs : List Loc), va_P G.1 vwCl (lxF [mlW G q M, [(o, .inr (10, [.ref ok, .ref ol, .ref na]))], [(ok, .inl (G.2.1, 8, .inl fk))], [(ol, lxq k n rr)], lrB G r fs fa fb n, [(na, lxq k (n + 1) nf)], nxB G nr nl nc (n + 1)]) H → va_D A (lxF [mlW G q M, [(o, .inr (10, [.ref ok, .ref ol, .ref na]))], [(ok, .inl (G.2.1, 8, .inl fk))], [(ol, lxq k n rr)], lrB G r fs fa fb n, [(na, lxq k (n + 1) nf)], nxB G nr nl nc (n + 1)]) → va_S A s.heap H locs → ∀ ls : Array Slot, lv_has ls 7 [(0, .ref (q 0)), (1, .ref o), (2, .int (nI i)), (3, .int (nI j))] → W p l e ({ frames := 6, cells := 32, slots := 64, locals := 144 } : Room) s m args below meth c H locs cells slots (lyZ 32 64 G args s below A (fun B v => v = some (.int 1) ∧ ∃ M1 : mlS, B = [mlW G q M1, [(o, .inr (10, [.ref ok, .ref ol, .ref na]))], [(ok, .inl (G.2.1, 8, .inl fk))], [(ol, lxq k n rr)], lrB G r fs fa fb n, [(na, lxq k (n + 1) nf)], nxB G nr nl nc (n + 1)] ∧ lsI fk n rr r fs fa fb M1 rn ∧ qk_fc M1.2.1 = 0)) (F0 m 89 ls []) := by
                intro kk5
                induction kk5 with
                | zero =>
                  intro j M hm
                  exact absurd hm (Nat.not_lt_zero _)
                | succ kk5 ih5 =>
                  intro j M hm5 hj6 hj hI hz cells slots hcc5 hss5 H locs hP hD hS ls hl
                  refine lv_iload_n hx hb dL_isSound_89 rfl (lv_at hl 3 rfl) ?_
                  refine lv_bipush (v := 12) hx hb dL_isSound_90 (by decide) ?_
                  refine lv_icmp_ge (tgt := 250) hx hb dL_isSound_92 (by decide) (fun c6 => ?_) (fun c6 => ?_)
                  · have nc6 := (nI_leI (a := 12) (b := j) (by omega) (by omega)).mp c6
                    refine lv_iinc (v := nI (i + 1)) (lv' := [(2, .int (nI (i + 1))), (0, .ref (q 0)), (1, .ref o), (3, .int (nI j))]) hx hb dL_isSound_250 hl (k := 2) rfl (nI_1 i) (by decide) rfl (fun ls hl => ?_)
                    refine lv_goto (tgt := 77) hx hb dL_isSound_253 (by decide) ?_
                    exact ih3 (i + 1) M (by omega) (by omega) (hI) (hz) _ _ (by omega) (by omega) _ _ hP hD hS ls (lv_sub hl [1, 2, 0] rfl)
                  · have nc6 := (not_congr (nI_leI (a := 12) (b := j) (by omega) (by omega))).mp c6
                    obtain ⟨hrr, hM, hP4, hrn⟩ := id hI
                    have hql := hP4.2.2.2
                    obtain ⟨hw, hwr, hbd⟩ := ml_good hM.2.1 hz
                    refine lv_iload_n hx hb dL_isSound_95 rfl (lv_at hl 2 rfl) ?_
                    refine lv_aload_n hx hb dL_isSound_96 rfl (lv_at hl 1 rfl) ?_
                    refine lb_get (ci := 10) (v := .ref ol) (C := RX10) (T := TX10) (N := 3) hx hb hts owX10 hown hK hP 1 0 rfl rfl rfl 1 (by decide) (bw13 (w := Cond.fieldLink RL 9 "DropflagMillLaw$Own" "lines" "[[I") hts 31 rfl) (fun _ h9 => h9) rfl dL_isSound_97 ?_
                    refine lb_alenq (v := nI n) hx hb hK hE hP 3 0 rfl rfl rfl dL_isSound_100 ?_
                    refine lv_icmp_ge (tgt := 128) hx hb dL_isSound_101 (by decide) (fun c7 => ?_) (fun c7 => ?_)
                    · have nc7 := (nI_leI (a := n) (b := i) (by omega) (by omega)).mp c7
                      have hE1 : i < n → ¬ fs i = 11 := fun z => by omega
                      have hno : ∀ z, i ≤ z → z < n → fs z = 11 → ¬ (1 < nl z ∧ nc z 0 ≤ nI i) := fun z h1 h2 _ => absurd h2 (by omega)
                      refine lv_aload_n hx hb dL_isSound_128 rfl (lv_at hl 1 rfl) ?_
                      refine lv_iload_n hx hb dL_isSound_129 rfl (lv_at hl 3 rfl) ?_
                      refine ly_v (As := [.int (nI j)]) (rest := []) hx hb hml hown hts (t_X10_isOwned l G k o ok ol na fk j (by omega)) 1 (sxGV (bi14 (w := Cond.methodLink RL 146 yX10_isOwned) 28 rfl) (bi14 (w := Cond.instanceMethod yX10_isOwned) 29 rfl) (bi14 (w := Cond.selects RX10 yX10_isOwned yX10_isOwned) 30 rfl) (bi13 (w := Cond.initialized RX10) 21 rfl) (bi13 (w := Cond.code yX10_isOwned cX10_isOwned 2 (some .boolean)) 17 rfl)) rfl (by decide +kernel) ⟨Nat.le_of_ble_eq_true rfl, Nat.le_of_ble_eq_true rfl⟩ hK hP hD hS hA hE [1, 2] [0, 3, 4, 5, 6] rfl rfl (by show List.Perm _ (List.range 7); decide) 0 0 rfl rfl rfl rfl hl rfl (Nat.le_of_ble_eq_true rfl) ⟨by show _ ≤ 32; omega, by show _ ≤ 64; omega⟩ dL_isSound_130 (fun B1 v1 hp1 H locs hP hD hS => ?_)
                      obtain ⟨rfl, xo1, rfl, hxo1⟩ := hp1
                      show W p l e _ s m args below meth c H locs _ _ _ (F0 m 133 ls [.int xo1])
                      have hP : va_P G.1 vwCl (lxF [[(o, .inr (10, [.ref ok, .ref ol, .ref na]))], [(ok, .inl (G.2.1, 8, .inl fk))], mlW G q M, [(ol, lxq k n rr)], lrB G r fs fa fb n, [(na, lxq k (n + 1) nf)], nxB G nr nl nc (n + 1)]) H := hP
                      have hD : va_D A (lxF [[(o, .inr (10, [.ref ok, .ref ol, .ref na]))], [(ok, .inl (G.2.1, 8, .inl fk))], mlW G q M, [(ol, lxq k n rr)], lrB G r fs fa fb n, [(na, lxq k (n + 1) nf)], nxB G nr nl nc (n + 1)]) := hD
                      obtain ⟨hP, hD⟩ := lb_sub (Cs := [mlW G q M, [(o, .inr (10, [.ref ok, .ref ol, .ref na]))], [(ok, .inl (G.2.1, 8, .inl fk))], [(ol, lxq k n rr)], lrB G r fs fa fb n, [(na, lxq k (n + 1) nf)], nxB G nr nl nc (n + 1)]) [2, 0, 1, 3, 4, 5, 6] [] hP hD rfl (by show List.Perm _ (List.range 7); decide)
                      refine lv_if_eq (tgt := 145) hx hb dL_isSound_133 (by decide) (fun c8 => ?_) (fun c8 => ?_)
                      · have hno1 : ¬ (qp_kd 8 fk j = 1 ∨ qp_kd 8 fk j = 2 ∨ qp_kd 8 fk j = 5) := hxo1.elim (fun z => absurd (z.2.symm.trans c8) (by decide)) (fun z => z.1)
                        refine lv_iconst (v := 0) hx hb dL_isSound_145 (by decide) ?_
                        refine lv_istore (lv' := [(4, .int 0), (0, .ref (q 0)), (1, .ref o), (2, .int (nI i)), (3, .int (nI j))]) hx hb dL_isSound_146 hl (by decide) rfl (fun ls hl => ?_)
                        refine lv_aload_n hx hb dL_isSound_148 rfl (lv_at hl 2 rfl) ?_
                        refine lv_iload_n hx hb dL_isSound_149 rfl (lv_at hl 4 rfl) ?_
                        refine ly_v (As := [.int (nI j)]) (rest := []) hx hb hml hown hts (t_X10_isOwned l G k o ok ol na fk j (by omega)) 1 (sxGV (bi14 (w := Cond.methodLink RL 146 yX10_isOwned) 28 rfl) (bi14 (w := Cond.instanceMethod yX10_isOwned) 29 rfl) (bi14 (w := Cond.selects RX10 yX10_isOwned yX10_isOwned) 30 rfl) (bi13 (w := Cond.initialized RX10) 21 rfl) (bi13 (w := Cond.code yX10_isOwned cX10_isOwned 2 (some .boolean)) 17 rfl)) rfl (by decide +kernel) ⟨Nat.le_of_ble_eq_true rfl, Nat.le_of_ble_eq_true rfl⟩ hK hP hD hS hA hE [1, 2] [0, 3, 4, 5, 6] rfl rfl (by show List.Perm _ (List.range 7); decide) 0 0 rfl rfl rfl rfl hl rfl (Nat.le_of_ble_eq_true rfl) ⟨by show _ ≤ 32; omega, by show _ ≤ 64; omega⟩ dL_isSound_150 (fun B1 v1 hp1 H locs hP hD hS => ?_)
                        obtain ⟨rfl, xo2, rfl, hxo2⟩ := hp1
                        show W p l e _ s m args below meth c H locs _ _ _ (F0 m 153 ls [.int xo2])
                        have hP : va_P G.1 vwCl (lxF [[(o, .inr (10, [.ref ok, .ref ol, .ref na]))], [(ok, .inl (G.2.1, 8, .inl fk))], mlW G q M, [(ol, lxq k n rr)], lrB G r fs fa fb n, [(na, lxq k (n + 1) nf)], nxB G nr nl nc (n + 1)]) H := hP
                        have hD : va_D A (lxF [[(o, .inr (10, [.ref ok, .ref ol, .ref na]))], [(ok, .inl (G.2.1, 8, .inl fk))], mlW G q M, [(ol, lxq k n rr)], lrB G r fs fa fb n, [(na, lxq k (n + 1) nf)], nxB G nr nl nc (n + 1)]) := hD
                        obtain ⟨hP, hD⟩ := lb_sub (Cs := [mlW G q M, [(o, .inr (10, [.ref ok, .ref ol, .ref na]))], [(ok, .inl (G.2.1, 8, .inl fk))], [(ol, lxq k n rr)], lrB G r fs fa fb n, [(na, lxq k (n + 1) nf)], nxB G nr nl nc (n + 1)]) [2, 0, 1, 3, 4, 5, 6] [] hP hD rfl (by show List.Perm _ (List.range 7); decide)
                        refine lv_if_eq (tgt := 165) hx hb dL_isSound_153 (by decide) (fun c9 => ?_) (fun c9 => False.elim (by rcases hxo2 with z | z; exact hno1 z.1; exact c9 z.2))
                        refine lv_iconst (v := 0) hx hb dL_isSound_165 (by decide) ?_
                        refine lv_istore (lv' := [(5, .int 0), (4, .int 0), (0, .ref (q 0)), (1, .ref o), (2, .int (nI i)), (3, .int (nI j))]) hx hb dL_isSound_166 hl (by decide) rfl (fun ls hl => ?_)
                        refine lv_iload hx hb dL_isSound_168 (lv_at hl 1 rfl) ?_
                        refine lv_iconst (v := 3) hx hb dL_isSound_170 (by decide) ?_
                        refine lv_icmp_gt (tgt := 242) hx hb dL_isSound_171 (by decide) (fun c10 => absurd c10 (by decide)) (fun c10 => ?_)
                        refine lv_iload hx hb dL_isSound_174 (lv_at hl 1 rfl) ?_
                        refine lv_iconst (v := 3) hx hb dL_isSound_176 (by decide) ?_
                        refine lv_icmp_ne (tgt := 184) hx hb dL_isSound_177 (by decide) (fun c11 => ?_) (fun c11 => absurd c11 (by decide))
                        refine lv_iconst (v := 0) hx hb dL_isSound_184 (by decide) ?_
                        refine lv_iload hx hb dL_isSound_185 (lv_at hl 0 rfl) ?_
                        refine lv_iconst (v := 1) hx hb dL_isSound_187 (by decide) ?_
                        refine lv_icmp_ne (tgt := 204) hx hb dL_isSound_188 (by decide) (fun c12 => ?_) (fun c12 => absurd c12 (by decide))
                        refine lv_iconst (v := 0) hx hb dL_isSound_204 (by decide) ?_
                        refine lv_icmp_ne (tgt := 242) hx hb dL_isSound_205 (by decide) (fun c13 => absurd c13 (by decide)) (fun c13 => ?_)
                        refine lv_iload hx hb dL_isSound_208 (lv_at hl 1 rfl) ?_
                        refine lv_iconst (v := 1) hx hb dL_isSound_210 (by decide) ?_
                        refine lv_icmp_ne (tgt := 220) hx hb dL_isSound_211 (by decide) (fun c14 => ?_) (fun c14 => absurd c14 (by decide))
                        refine lv_iload hx hb dL_isSound_220 (lv_at hl 1 rfl) ?_
                        refine lv_iconst (v := 2) hx hb dL_isSound_222 (by decide) ?_
                        refine lv_icmp_ne (tgt := 232) hx hb dL_isSound_223 (by decide) (fun c15 => ?_) (fun c15 => absurd c15 (by decide))
                        refine lv_iload hx hb dL_isSound_232 (lv_at hl 0 rfl) ?_
                        refine lv_if_ne (tgt := 244) hx hb dL_isSound_234 (by decide) (fun c16 => absurd c16 (by decide)) (fun c16 => ?_)
                        refine lv_iload hx hb dL_isSound_237 (lv_at hl 1 rfl) ?_
                        refine lv_if_eq (tgt := 244) hx hb dL_isSound_239 (by decide) (fun c17 => ?_) (fun c17 => absurd c17 (by decide))
                        refine lv_iinc (v := nI (j + 1)) (lv' := [(3, .int (nI (j + 1))), (5, .int 0), (4, .int 0), (0, .ref (q 0)), (1, .ref o), (2, .int (nI i))]) hx hb dL_isSound_244 hl (k := 5) rfl (nI_1 j) (by decide) rfl (fun ls hl => ?_)
                        refine lv_goto (tgt := 89) hx hb dL_isSound_247 (by decide) ?_
                        exact ih5 (j + 1) M (by omega) (by omega) (by omega) (hI) (hz) _ _ (by omega) (by omega) _ _ hP hD hS ls (lv_sub hl [3, 4, 5, 0] rfl)
                      · have ho : qp_kd 8 fk j = 1 ∨ qp_kd 8 fk j = 2 ∨ qp_kd 8 fk j = 5 := hxo1.elim (fun z => z.1) (fun z => absurd z.2 c8)
                        have hkd : ¬ qp_kd 8 fk j = -1 := by rcases ho with z | z | z <;> (rw [z]; decide)
                        refine lv_aload_n hx hb dL_isSound_136 rfl (lv_at hl 0 rfl) ?_
                        refine lv_iload_n hx hb dL_isSound_137 rfl (lv_at hl 2 rfl) ?_
                        refine lv_iload_n hx hb dL_isSound_138 rfl (lv_at hl 3 rfl) ?_
                        refine ly_v (As := [.int (nI i), .int (nI j)]) (rest := []) hx hb hml hown hts (m_couldDrop (l := l) (G := G) (k := k) (q := q) (M := M) (L := i) (p := j) hM hP4 hw (by omega) (by omega) ho) 2 (sxGV (bi14 (w := Cond.methodLink RL 118 yX9_couldDrop) 31 rfl) (bi14 (w := Cond.instanceMethod yX9_couldDrop) 32 rfl) (bi14 (w := Cond.selects RX9 yX9_couldDrop yX9_couldDrop) 33 rfl) (bi1 (w := Cond.initialized RX9) 58 rfl) (bi12 (w := Cond.code yX9_couldDrop cX9_couldDrop 3 (some .int)) 9 rfl)) rfl (by decide +kernel) ⟨Nat.le_of_ble_eq_true rfl, Nat.le_of_ble_eq_true rfl⟩ hK hP hD hS hA hE [0] [1, 2, 3, 4, 5, 6] rfl rfl (by show List.Perm _ (List.range 7); decide) 0 0 rfl rfl rfl rfl hl rfl (Nat.le_of_ble_eq_true rfl) ⟨by show _ ≤ 32; omega, by show _ ≤ 64; omega⟩ dL_isSound_139 (fun B1 v1 hp1 H locs hP hD hS => ?_)
                        obtain ⟨M1, T1, gs, ga, gb, rfl, rfl, hM1, e1, e2, e3, hL1, hins⟩ := hp1
                        obtain ⟨cd, hcd⟩ : ∃ x : Int32, x = s_X2_numberOfLine (qk_fc T1) (qk_xn T1) (qk_xl T1) (nI i) := ⟨_, rfl⟩
                        rw [← hcd]
                        show W p l e _ s m args below meth c H locs _ _ _ (F0 m 142 ls [.int cd])
                        have hP : va_P G.1 vwCl (lxF [mlW G q M1, [(o, .inr (10, [.ref ok, .ref ol, .ref na]))], [(ok, .inl (G.2.1, 8, .inl fk))], [(ol, lxq k n rr)], lrB G r fs fa fb n, [(na, lxq k (n + 1) nf)], nxB G nr nl nc (n + 1)]) H := hP
                        have hD : va_D A (lxF [mlW G q M1, [(o, .inr (10, [.ref ok, .ref ol, .ref na]))], [(ok, .inl (G.2.1, 8, .inl fk))], [(ol, lxq k n rr)], lrB G r fs fa fb n, [(na, lxq k (n + 1) nf)], nxB G nr nl nc (n + 1)]) := hD
                        refine lv_goto (tgt := 146) hx hb dL_isSound_142 (by decide) ?_
                        refine lv_istore (lv' := [(4, .int cd), (0, .ref (q 0)), (1, .ref o), (2, .int (nI i)), (3, .int (nI j))]) hx hb dL_isSound_146 hl (by decide) rfl (fun ls hl => ?_)
                        refine lv_aload_n hx hb dL_isSound_148 rfl (lv_at hl 2 rfl) ?_
                        refine lv_iload_n hx hb dL_isSound_149 rfl (lv_at hl 4 rfl) ?_
                        refine ly_v (As := [.int (nI j)]) (rest := []) hx hb hml hown hts (t_X10_isOwned l G k o ok ol na fk j (by omega)) 1 (sxGV (bi14 (w := Cond.methodLink RL 146 yX10_isOwned) 28 rfl) (bi14 (w := Cond.instanceMethod yX10_isOwned) 29 rfl) (bi14 (w := Cond.selects RX10 yX10_isOwned yX10_isOwned) 30 rfl) (bi13 (w := Cond.initialized RX10) 21 rfl) (bi13 (w := Cond.code yX10_isOwned cX10_isOwned 2 (some .boolean)) 17 rfl)) rfl (by decide +kernel) ⟨Nat.le_of_ble_eq_true rfl, Nat.le_of_ble_eq_true rfl⟩ hK hP hD hS hA hE [1, 2] [0, 3, 4, 5, 6] rfl rfl (by show List.Perm _ (List.range 7); decide) 0 0 rfl rfl rfl rfl hl rfl (Nat.le_of_ble_eq_true rfl) ⟨by show _ ≤ 32; omega, by show _ ≤ 64; omega⟩ dL_isSound_150 (fun B1 v1 hp1 H locs hP hD hS => ?_)
                        obtain ⟨rfl, xo2, rfl, hxo2⟩ := hp1
                        show W p l e _ s m args below meth c H locs _ _ _ (F0 m 153 ls [.int xo2])
                        have hP : va_P G.1 vwCl (lxF [[(o, .inr (10, [.ref ok, .ref ol, .ref na]))], [(ok, .inl (G.2.1, 8, .inl fk))], mlW G q M1, [(ol, lxq k n rr)], lrB G r fs fa fb n, [(na, lxq k (n + 1) nf)], nxB G nr nl nc (n + 1)]) H := hP
                        have hD : va_D A (lxF [[(o, .inr (10, [.ref ok, .ref ol, .ref na]))], [(ok, .inl (G.2.1, 8, .inl fk))], mlW G q M1, [(ol, lxq k n rr)], lrB G r fs fa fb n, [(na, lxq k (n + 1) nf)], nxB G nr nl nc (n + 1)]) := hD
                        obtain ⟨hP, hD⟩ := lb_sub (Cs := [mlW G q M1, [(o, .inr (10, [.ref ok, .ref ol, .ref na]))], [(ok, .inl (G.2.1, 8, .inl fk))], [(ol, lxq k n rr)], lrB G r fs fa fb n, [(na, lxq k (n + 1) nf)], nxB G nr nl nc (n + 1)]) [2, 0, 1, 3, 4, 5, 6] [] hP hD rfl (by show List.Perm _ (List.range 7); decide)
                        refine lv_if_eq (tgt := 165) hx hb dL_isSound_153 (by decide) (fun c18 => False.elim (by rcases hxo2 with z | z; exact absurd (z.2.symm.trans c18) (by decide); exact z.1 ho)) (fun c18 => ?_)
                        refine lv_aload_n hx hb dL_isSound_156 rfl (lv_at hl 1 rfl) ?_
                        refine lv_iload_n hx hb dL_isSound_157 rfl (lv_at hl 3 rfl) ?_
                        refine lv_iload_n hx hb dL_isSound_158 rfl (lv_at hl 4 rfl) ?_
                        refine ly_v (As := [.int (nI i), .int (nI j)]) (rest := []) hx hb hml hown hts (m_state (l := l) (G := G) (k := k) (q := q) (M := M1) (L := i) (p := j) hM1 hP4 (by omega) (by omega) hkd) 2 (sxGV (bi14 (w := Cond.methodLink RL 139 yX9_state) 25 rfl) (bi12 (w := Cond.instanceMethod yX9_state) 18 rfl) (bi12 (w := Cond.selects RX9 yX9_state yX9_state) 19 rfl) (bi1 (w := Cond.initialized RX9) 58 rfl) (bi10 (w := Cond.code yX9_state cX9_state 3 (some .int)) 44 rfl)) rfl (by decide +kernel) ⟨Nat.le_of_ble_eq_true rfl, Nat.le_of_ble_eq_true rfl⟩ hK hP hD hS hA hE [0] [1, 2, 3, 4, 5, 6] rfl rfl (by show List.Perm _ (List.range 7); decide) 0 0 rfl rfl rfl rfl hl rfl (Nat.le_of_ble_eq_true rfl) ⟨by show _ ≤ 32; omega, by show _ ≤ 64; omega⟩ dL_isSound_159 (fun B1 v1 hp1 H locs hP hD hS => ?_)
                        obtain ⟨rfl, rfl⟩ := hp1
                        obtain ⟨st, hst⟩ : ∃ x : Int32, x = s_X0_stateAt 8 n fk (qk_cr M1.2.1) (qk_ch M1.2.1) (qk_cl M1.2.1) (nI i) (nI j) := ⟨_, rfl⟩
                        rw [← hst]
                        have hsd := qj_sound hKK hM1.2.1 hL1 (ml_insP (show i ≤ n by omega) hins).1 (by omega) (Nat.le_refl _) hn (ml_insP (show i ≤ n by omega) hins).2.1 (ml_insP (show i ≤ n by omega) hins).2.2 hkd hql hE1 hw (ls_out hM1.2.1 hw hn (by omega) hF hno) cd st _ hcd hst rfl
                        show W p l e _ s m args below meth c H locs _ _ _ (F0 m 162 ls [.int st])
                        have hP : va_P G.1 vwCl (lxF [mlW G q M1, [(o, .inr (10, [.ref ok, .ref ol, .ref na]))], [(ok, .inl (G.2.1, 8, .inl fk))], [(ol, lxq k n rr)], lrB G r fs fa fb n, [(na, lxq k (n + 1) nf)], nxB G nr nl nc (n + 1)]) H := hP
                        have hD : va_D A (lxF [mlW G q M1, [(o, .inr (10, [.ref ok, .ref ol, .ref na]))], [(ok, .inl (G.2.1, 8, .inl fk))], [(ol, lxq k n rr)], lrB G r fs fa fb n, [(na, lxq k (n + 1) nf)], nxB G nr nl nc (n + 1)]) := hD
                        refine lv_goto (tgt := 166) hx hb dL_isSound_162 (by decide) ?_
                        refine lv_istore (lv' := [(5, .int st), (4, .int cd), (0, .ref (q 0)), (1, .ref o), (2, .int (nI i)), (3, .int (nI j))]) hx hb dL_isSound_166 hl (by decide) rfl (fun ls hl => ?_)
                        refine lv_iload hx hb dL_isSound_168 (lv_at hl 1 rfl) ?_
                        refine lv_iconst (v := 3) hx hb dL_isSound_170 (by decide) ?_
                        refine lv_icmp_gt (tgt := 242) hx hb dL_isSound_171 (by decide) (fun c19 => False.elim (by exact hsd.1 c19)) (fun c19 => ?_)
                        refine lv_iload hx hb dL_isSound_174 (lv_at hl 1 rfl) ?_
                        refine lv_iconst (v := 3) hx hb dL_isSound_176 (by decide) ?_
                        refine lv_icmp_ne (tgt := 184) hx hb dL_isSound_177 (by decide) (fun c20 => ?_) (fun c20 => ?_)
                        · refine lv_iconst (v := 0) hx hb dL_isSound_184 (by decide) ?_
                          refine lv_iload hx hb dL_isSound_185 (lv_at hl 0 rfl) ?_
                          refine lv_iconst (v := 1) hx hb dL_isSound_187 (by decide) ?_
                          refine lv_icmp_ne (tgt := 204) hx hb dL_isSound_188 (by decide) (fun c21 => ?_) (fun c21 => ?_)
                          · refine lv_iconst (v := 0) hx hb dL_isSound_204 (by decide) ?_
                            refine lv_icmp_ne (tgt := 242) hx hb dL_isSound_205 (by decide) (fun c22 => absurd c22 (by decide)) (fun c22 => ?_)
                            refine lv_iload hx hb dL_isSound_208 (lv_at hl 1 rfl) ?_
                            refine lv_iconst (v := 1) hx hb dL_isSound_210 (by decide) ?_
                            refine lv_icmp_ne (tgt := 220) hx hb dL_isSound_211 (by decide) (fun c23 => ?_) (fun c23 => ?_)
                            · refine lv_iload hx hb dL_isSound_220 (lv_at hl 1 rfl) ?_
                              refine lv_iconst (v := 2) hx hb dL_isSound_222 (by decide) ?_
                              refine lv_icmp_ne (tgt := 232) hx hb dL_isSound_223 (by decide) (fun c24 => ?_) (fun c24 => ?_)
                              · refine lv_iload hx hb dL_isSound_232 (lv_at hl 0 rfl) ?_
                                refine lv_if_ne (tgt := 244) hx hb dL_isSound_234 (by decide) (fun c25 => ?_) (fun c25 => ?_)
                                · refine lv_iinc (v := nI (j + 1)) (lv' := [(3, .int (nI (j + 1))), (5, .int st), (4, .int cd), (0, .ref (q 0)), (1, .ref o), (2, .int (nI i))]) hx hb dL_isSound_244 hl (k := 5) rfl (nI_1 j) (by decide) rfl (fun ls hl => ?_)
                                  refine lv_goto (tgt := 89) hx hb dL_isSound_247 (by decide) ?_
                                  exact ih5 (j + 1) M1 (by omega) (by omega) (by omega) (⟨hrr, hM1, hP4, e3.trans hrn⟩) (by rw [e1]; exact hz) _ _ (by omega) (by omega) _ _ hP hD hS ls (lv_sub hl [3, 4, 5, 0] rfl)
                                · refine lv_iload hx hb dL_isSound_237 (lv_at hl 1 rfl) ?_
                                  refine lv_if_eq (tgt := 244) hx hb dL_isSound_239 (by decide) (fun c26 => ?_) (fun c26 => ?_)
                                  · refine lv_iinc (v := nI (j + 1)) (lv' := [(3, .int (nI (j + 1))), (5, .int st), (4, .int cd), (0, .ref (q 0)), (1, .ref o), (2, .int (nI i))]) hx hb dL_isSound_244 hl (k := 5) rfl (nI_1 j) (by decide) rfl (fun ls hl => ?_)
                                    refine lv_goto (tgt := 89) hx hb dL_isSound_247 (by decide) ?_
                                    exact ih5 (j + 1) M1 (by omega) (by omega) (by omega) (⟨hrr, hM1, hP4, e3.trans hrn⟩) (by rw [e1]; exact hz) _ _ (by omega) (by omega) _ _ hP hD hS ls (lv_sub hl [3, 4, 5, 0] rfl)
                                  · refine lv_iconst (v := 0) hx hb dL_isSound_242 (by decide) ?_
                                    exact ly_ri hx hb hr hlk hP hD hS rfl (False.elim (c26 (hsd.2.2.2.2 c25))) (by omega) (by omega) dL_isSound_243
                              · refine lv_iload hx hb dL_isSound_226 (lv_at hl 0 rfl) ?_
                                refine lv_iconst (v := 1) hx hb dL_isSound_228 (by decide) ?_
                                refine lv_icmp_eq (tgt := 242) hx hb dL_isSound_229 (by decide) (fun c27 => absurd c27 c21) (fun c27 => ?_)
                                refine lv_iload hx hb dL_isSound_232 (lv_at hl 0 rfl) ?_
                                refine lv_if_ne (tgt := 244) hx hb dL_isSound_234 (by decide) (fun c28 => ?_) (fun c28 => ?_)
                                · refine lv_iinc (v := nI (j + 1)) (lv' := [(3, .int (nI (j + 1))), (5, .int st), (4, .int cd), (0, .ref (q 0)), (1, .ref o), (2, .int (nI i))]) hx hb dL_isSound_244 hl (k := 5) rfl (nI_1 j) (by decide) rfl (fun ls hl => ?_)
                                  refine lv_goto (tgt := 89) hx hb dL_isSound_247 (by decide) ?_
                                  exact ih5 (j + 1) M1 (by omega) (by omega) (by omega) (⟨hrr, hM1, hP4, e3.trans hrn⟩) (by rw [e1]; exact hz) _ _ (by omega) (by omega) _ _ hP hD hS ls (lv_sub hl [3, 4, 5, 0] rfl)
                                · refine lv_iload hx hb dL_isSound_237 (lv_at hl 1 rfl) ?_
                                  refine lv_if_eq (tgt := 244) hx hb dL_isSound_239 (by decide) (fun c29 => ?_) (fun c29 => ?_)
                                  · refine lv_iinc (v := nI (j + 1)) (lv' := [(3, .int (nI (j + 1))), (5, .int st), (4, .int cd), (0, .ref (q 0)), (1, .ref o), (2, .int (nI i))]) hx hb dL_isSound_244 hl (k := 5) rfl (nI_1 j) (by decide) rfl (fun ls hl => ?_)
                                    refine lv_goto (tgt := 89) hx hb dL_isSound_247 (by decide) ?_
                                    exact ih5 (j + 1) M1 (by omega) (by omega) (by omega) (⟨hrr, hM1, hP4, e3.trans hrn⟩) (by rw [e1]; exact hz) _ _ (by omega) (by omega) _ _ hP hD hS ls (lv_sub hl [3, 4, 5, 0] rfl)
                                  · refine lv_iconst (v := 0) hx hb dL_isSound_242 (by decide) ?_
                                    exact ly_ri hx hb hr hlk hP hD hS rfl (False.elim (c29 (hsd.2.2.2.2 c28))) (by omega) (by omega) dL_isSound_243
                            · refine lv_iload hx hb dL_isSound_214 (lv_at hl 0 rfl) ?_
                              refine lv_iconst (v := 2) hx hb dL_isSound_216 (by decide) ?_
                              refine lv_icmp_ne (tgt := 242) hx hb dL_isSound_217 (by decide) (fun c30 => ?_) (fun c30 => ?_)
                              · refine lv_iconst (v := 0) hx hb dL_isSound_242 (by decide) ?_
                                exact ly_ri hx hb hr hlk hP hD hS rfl (False.elim (c30 (hsd.2.2.1 c23))) (by omega) (by omega) dL_isSound_243
                              · refine lv_iload hx hb dL_isSound_220 (lv_at hl 1 rfl) ?_
                                refine lv_iconst (v := 2) hx hb dL_isSound_222 (by decide) ?_
                                refine lv_icmp_ne (tgt := 232) hx hb dL_isSound_223 (by decide) (fun c31 => ?_) (fun c31 => ?_)
                                · refine lv_iload hx hb dL_isSound_232 (lv_at hl 0 rfl) ?_
                                  refine lv_if_ne (tgt := 244) hx hb dL_isSound_234 (by decide) (fun c32 => ?_) (fun c32 => ?_)
                                  · refine lv_iinc (v := nI (j + 1)) (lv' := [(3, .int (nI (j + 1))), (5, .int st), (4, .int cd), (0, .ref (q 0)), (1, .ref o), (2, .int (nI i))]) hx hb dL_isSound_244 hl (k := 5) rfl (nI_1 j) (by decide) rfl (fun ls hl => ?_)
                                    refine lv_goto (tgt := 89) hx hb dL_isSound_247 (by decide) ?_
                                    exact ih5 (j + 1) M1 (by omega) (by omega) (by omega) (⟨hrr, hM1, hP4, e3.trans hrn⟩) (by rw [e1]; exact hz) _ _ (by omega) (by omega) _ _ hP hD hS ls (lv_sub hl [3, 4, 5, 0] rfl)
                                  · refine lv_iload hx hb dL_isSound_237 (lv_at hl 1 rfl) ?_
                                    refine lv_if_eq (tgt := 244) hx hb dL_isSound_239 (by decide) (fun c33 => ?_) (fun c33 => ?_)
                                    · refine lv_iinc (v := nI (j + 1)) (lv' := [(3, .int (nI (j + 1))), (5, .int st), (4, .int cd), (0, .ref (q 0)), (1, .ref o), (2, .int (nI i))]) hx hb dL_isSound_244 hl (k := 5) rfl (nI_1 j) (by decide) rfl (fun ls hl => ?_)
                                      refine lv_goto (tgt := 89) hx hb dL_isSound_247 (by decide) ?_
                                      exact ih5 (j + 1) M1 (by omega) (by omega) (by omega) (⟨hrr, hM1, hP4, e3.trans hrn⟩) (by rw [e1]; exact hz) _ _ (by omega) (by omega) _ _ hP hD hS ls (lv_sub hl [3, 4, 5, 0] rfl)
                                    · refine lv_iconst (v := 0) hx hb dL_isSound_242 (by decide) ?_
                                      exact ly_ri hx hb hr hlk hP hD hS rfl (False.elim (c33 (hsd.2.2.2.2 c32))) (by omega) (by omega) dL_isSound_243
                                · refine lv_iload hx hb dL_isSound_226 (lv_at hl 0 rfl) ?_
                                  refine lv_iconst (v := 1) hx hb dL_isSound_228 (by decide) ?_
                                  refine lv_icmp_eq (tgt := 242) hx hb dL_isSound_229 (by decide) (fun c34 => absurd c34 c21) (fun c34 => ?_)
                                  refine lv_iload hx hb dL_isSound_232 (lv_at hl 0 rfl) ?_
                                  refine lv_if_ne (tgt := 244) hx hb dL_isSound_234 (by decide) (fun c35 => ?_) (fun c35 => ?_)
                                  · refine lv_iinc (v := nI (j + 1)) (lv' := [(3, .int (nI (j + 1))), (5, .int st), (4, .int cd), (0, .ref (q 0)), (1, .ref o), (2, .int (nI i))]) hx hb dL_isSound_244 hl (k := 5) rfl (nI_1 j) (by decide) rfl (fun ls hl => ?_)
                                    refine lv_goto (tgt := 89) hx hb dL_isSound_247 (by decide) ?_
                                    exact ih5 (j + 1) M1 (by omega) (by omega) (by omega) (⟨hrr, hM1, hP4, e3.trans hrn⟩) (by rw [e1]; exact hz) _ _ (by omega) (by omega) _ _ hP hD hS ls (lv_sub hl [3, 4, 5, 0] rfl)
                                  · refine lv_iload hx hb dL_isSound_237 (lv_at hl 1 rfl) ?_
                                    refine lv_if_eq (tgt := 244) hx hb dL_isSound_239 (by decide) (fun c36 => ?_) (fun c36 => ?_)
                                    · refine lv_iinc (v := nI (j + 1)) (lv' := [(3, .int (nI (j + 1))), (5, .int st), (4, .int cd), (0, .ref (q 0)), (1, .ref o), (2, .int (nI i))]) hx hb dL_isSound_244 hl (k := 5) rfl (nI_1 j) (by decide) rfl (fun ls hl => ?_)
                                      refine lv_goto (tgt := 89) hx hb dL_isSound_247 (by decide) ?_
                                      exact ih5 (j + 1) M1 (by omega) (by omega) (by omega) (⟨hrr, hM1, hP4, e3.trans hrn⟩) (by rw [e1]; exact hz) _ _ (by omega) (by omega) _ _ hP hD hS ls (lv_sub hl [3, 4, 5, 0] rfl)
                                    · refine lv_iconst (v := 0) hx hb dL_isSound_242 (by decide) ?_
                                      exact ly_ri hx hb hr hlk hP hD hS rfl (False.elim (c36 (hsd.2.2.2.2 c35))) (by omega) (by omega) dL_isSound_243
                          · refine lv_aload_n hx hb dL_isSound_191 rfl (lv_at hl 2 rfl) ?_
                            refine lv_iload_n hx hb dL_isSound_192 rfl (lv_at hl 4 rfl) ?_
                            refine lv_iload_n hx hb dL_isSound_193 rfl (lv_at hl 5 rfl) ?_
                            refine ly_v (As := [.int (nI i), .int (nI j)]) (rest := [.int 0]) hx hb hml hown hts (m_inTheWay (l := l) (G := G) (k := k) (q := q) (M := M1) (L := i) (p := j) hM1 hP4 (by omega) (by omega) hkd) 2 (sxGV (bi14 (w := Cond.methodLink RL 150 yX9_inTheWay) 34 rfl) (bi12 (w := Cond.instanceMethod yX9_inTheWay) 21 rfl) (bi12 (w := Cond.selects RX9 yX9_inTheWay yX9_inTheWay) 22 rfl) (bi1 (w := Cond.initialized RX9) 58 rfl) (bi10 (w := Cond.code yX9_inTheWay cX9_inTheWay 3 (some .int)) 53 rfl)) rfl (by decide +kernel) ⟨Nat.le_of_ble_eq_true rfl, Nat.le_of_ble_eq_true rfl⟩ hK hP hD hS hA hE [0] [1, 2, 3, 4, 5, 6] rfl rfl (by show List.Perm _ (List.range 7); decide) 0 0 rfl rfl rfl rfl hl rfl (Nat.le_of_ble_eq_true rfl) ⟨by show _ ≤ 32; omega, by show _ ≤ 64; omega⟩ dL_isSound_194 (fun B1 v1 hp1 H locs hP hD hS => ?_)
                            obtain ⟨rfl, rfl⟩ := hp1
                            obtain ⟨wy, hwy⟩ : ∃ x : Int32, x = s_X0_smallestLoan (qk_lc M1.2.1) (qk_yp M1.2.1) (qk_ye M1.2.1) 8 (qk_cd M1.2.1) (nI i) (nI j) (s_X0_wantedAt n (qk_cn M1.2.1) (nI i)) 0 := ⟨_, rfl⟩
                            rw [← hwy]
                            rw [← hwy] at hsd
                            show W p l e _ s m args below meth c H locs _ _ _ (F0 m 197 ls [.int wy, .int 0])
                            have hP : va_P G.1 vwCl (lxF [mlW G q M1, [(o, .inr (10, [.ref ok, .ref ol, .ref na]))], [(ok, .inl (G.2.1, 8, .inl fk))], [(ol, lxq k n rr)], lrB G r fs fa fb n, [(na, lxq k (n + 1) nf)], nxB G nr nl nc (n + 1)]) H := hP
                            have hD : va_D A (lxF [mlW G q M1, [(o, .inr (10, [.ref ok, .ref ol, .ref na]))], [(ok, .inl (G.2.1, 8, .inl fk))], [(ol, lxq k n rr)], lrB G r fs fa fb n, [(na, lxq k (n + 1) nf)], nxB G nr nl nc (n + 1)]) := hD
                            refine lv_if_lt (tgt := 204) hx hb dL_isSound_197 (by decide) (fun c37 => ?_) (fun c37 => ?_)
                            · refine lv_iconst (v := 0) hx hb dL_isSound_204 (by decide) ?_
                              refine lv_icmp_ne (tgt := 242) hx hb dL_isSound_205 (by decide) (fun c38 => absurd c38 (by decide)) (fun c38 => ?_)
                              refine lv_iload hx hb dL_isSound_208 (lv_at hl 1 rfl) ?_
                              refine lv_iconst (v := 1) hx hb dL_isSound_210 (by decide) ?_
                              refine lv_icmp_ne (tgt := 220) hx hb dL_isSound_211 (by decide) (fun c39 => ?_) (fun c39 => ?_)
                              · refine lv_iload hx hb dL_isSound_220 (lv_at hl 1 rfl) ?_
                                refine lv_iconst (v := 2) hx hb dL_isSound_222 (by decide) ?_
                                refine lv_icmp_ne (tgt := 232) hx hb dL_isSound_223 (by decide) (fun c40 => ?_) (fun c40 => ?_)
                                · refine lv_iload hx hb dL_isSound_232 (lv_at hl 0 rfl) ?_
                                  refine lv_if_ne (tgt := 244) hx hb dL_isSound_234 (by decide) (fun c41 => ?_) (fun c41 => ?_)
                                  · refine lv_iinc (v := nI (j + 1)) (lv' := [(3, .int (nI (j + 1))), (5, .int st), (4, .int cd), (0, .ref (q 0)), (1, .ref o), (2, .int (nI i))]) hx hb dL_isSound_244 hl (k := 5) rfl (nI_1 j) (by decide) rfl (fun ls hl => ?_)
                                    refine lv_goto (tgt := 89) hx hb dL_isSound_247 (by decide) ?_
                                    exact ih5 (j + 1) M1 (by omega) (by omega) (by omega) (⟨hrr, hM1, hP4, e3.trans hrn⟩) (by rw [e1]; exact hz) _ _ (by omega) (by omega) _ _ hP hD hS ls (lv_sub hl [3, 4, 5, 0] rfl)
                                  · refine lv_iload hx hb dL_isSound_237 (lv_at hl 1 rfl) ?_
                                    refine lv_if_eq (tgt := 244) hx hb dL_isSound_239 (by decide) (fun c42 => ?_) (fun c42 => ?_)
                                    · refine lv_iinc (v := nI (j + 1)) (lv' := [(3, .int (nI (j + 1))), (5, .int st), (4, .int cd), (0, .ref (q 0)), (1, .ref o), (2, .int (nI i))]) hx hb dL_isSound_244 hl (k := 5) rfl (nI_1 j) (by decide) rfl (fun ls hl => ?_)
                                      refine lv_goto (tgt := 89) hx hb dL_isSound_247 (by decide) ?_
                                      exact ih5 (j + 1) M1 (by omega) (by omega) (by omega) (⟨hrr, hM1, hP4, e3.trans hrn⟩) (by rw [e1]; exact hz) _ _ (by omega) (by omega) _ _ hP hD hS ls (lv_sub hl [3, 4, 5, 0] rfl)
                                    · refine lv_iconst (v := 0) hx hb dL_isSound_242 (by decide) ?_
                                      exact ly_ri hx hb hr hlk hP hD hS rfl (False.elim (c42 (hsd.2.2.2.2 c41))) (by omega) (by omega) dL_isSound_243
                                · refine lv_iload hx hb dL_isSound_226 (lv_at hl 0 rfl) ?_
                                  refine lv_iconst (v := 1) hx hb dL_isSound_228 (by decide) ?_
                                  refine lv_icmp_eq (tgt := 242) hx hb dL_isSound_229 (by decide) (fun c43 => ?_) (fun c43 => absurd c21 c43)
                                  refine lv_iconst (v := 0) hx hb dL_isSound_242 (by decide) ?_
                                  exact ly_ri hx hb hr hlk hP hD hS rfl (False.elim (hsd.2.2.2.1 c40 c21)) (by omega) (by omega) dL_isSound_243
                              · refine lv_iload hx hb dL_isSound_214 (lv_at hl 0 rfl) ?_
                                refine lv_iconst (v := 2) hx hb dL_isSound_216 (by decide) ?_
                                refine lv_icmp_ne (tgt := 242) hx hb dL_isSound_217 (by decide) (fun c44 => ?_) (fun c44 => ?_)
                                · refine lv_iconst (v := 0) hx hb dL_isSound_242 (by decide) ?_
                                  exact ly_ri hx hb hr hlk hP hD hS rfl (False.elim (c44 (hsd.2.2.1 c39))) (by omega) (by omega) dL_isSound_243
                                · refine lv_iload hx hb dL_isSound_220 (lv_at hl 1 rfl) ?_
                                  refine lv_iconst (v := 2) hx hb dL_isSound_222 (by decide) ?_
                                  refine lv_icmp_ne (tgt := 232) hx hb dL_isSound_223 (by decide) (fun c45 => ?_) (fun c45 => ?_)
                                  · refine lv_iload hx hb dL_isSound_232 (lv_at hl 0 rfl) ?_
                                    refine lv_if_ne (tgt := 244) hx hb dL_isSound_234 (by decide) (fun c46 => ?_) (fun c46 => ?_)
                                    · refine lv_iinc (v := nI (j + 1)) (lv' := [(3, .int (nI (j + 1))), (5, .int st), (4, .int cd), (0, .ref (q 0)), (1, .ref o), (2, .int (nI i))]) hx hb dL_isSound_244 hl (k := 5) rfl (nI_1 j) (by decide) rfl (fun ls hl => ?_)
                                      refine lv_goto (tgt := 89) hx hb dL_isSound_247 (by decide) ?_
                                      exact ih5 (j + 1) M1 (by omega) (by omega) (by omega) (⟨hrr, hM1, hP4, e3.trans hrn⟩) (by rw [e1]; exact hz) _ _ (by omega) (by omega) _ _ hP hD hS ls (lv_sub hl [3, 4, 5, 0] rfl)
                                    · refine lv_iload hx hb dL_isSound_237 (lv_at hl 1 rfl) ?_
                                      refine lv_if_eq (tgt := 244) hx hb dL_isSound_239 (by decide) (fun c47 => ?_) (fun c47 => ?_)
                                      · refine lv_iinc (v := nI (j + 1)) (lv' := [(3, .int (nI (j + 1))), (5, .int st), (4, .int cd), (0, .ref (q 0)), (1, .ref o), (2, .int (nI i))]) hx hb dL_isSound_244 hl (k := 5) rfl (nI_1 j) (by decide) rfl (fun ls hl => ?_)
                                        refine lv_goto (tgt := 89) hx hb dL_isSound_247 (by decide) ?_
                                        exact ih5 (j + 1) M1 (by omega) (by omega) (by omega) (⟨hrr, hM1, hP4, e3.trans hrn⟩) (by rw [e1]; exact hz) _ _ (by omega) (by omega) _ _ hP hD hS ls (lv_sub hl [3, 4, 5, 0] rfl)
                                      · refine lv_iconst (v := 0) hx hb dL_isSound_242 (by decide) ?_
                                        exact ly_ri hx hb hr hlk hP hD hS rfl (False.elim (c47 (hsd.2.2.2.2 c46))) (by omega) (by omega) dL_isSound_243
                                  · refine lv_iload hx hb dL_isSound_226 (lv_at hl 0 rfl) ?_
                                    refine lv_iconst (v := 1) hx hb dL_isSound_228 (by decide) ?_
                                    refine lv_icmp_eq (tgt := 242) hx hb dL_isSound_229 (by decide) (fun c48 => ?_) (fun c48 => absurd c21 c48)
                                    refine lv_iconst (v := 0) hx hb dL_isSound_242 (by decide) ?_
                                    exact ly_ri hx hb hr hlk hP hD hS rfl (False.elim (hsd.2.2.2.1 c45 c21)) (by omega) (by omega) dL_isSound_243
                            · refine lv_iconst (v := 1) hx hb dL_isSound_200 (by decide) ?_
                              refine lv_goto (tgt := 205) hx hb dL_isSound_201 (by decide) ?_
                              refine lv_icmp_ne (tgt := 242) hx hb dL_isSound_205 (by decide) (fun c49 => ?_) (fun c49 => absurd c49 (by decide))
                              refine lv_iconst (v := 0) hx hb dL_isSound_242 (by decide) ?_
                              exact ly_ri hx hb hr hlk hP hD hS rfl (False.elim (c20 (hsd.2.1.mpr ⟨c21, Int32.not_lt.mp c37⟩))) (by omega) (by omega) dL_isSound_243
                        · refine lv_iconst (v := 1) hx hb dL_isSound_180 (by decide) ?_
                          refine lv_goto (tgt := 185) hx hb dL_isSound_181 (by decide) ?_
                          refine lv_iload hx hb dL_isSound_185 (lv_at hl 0 rfl) ?_
                          refine lv_iconst (v := 1) hx hb dL_isSound_187 (by decide) ?_
                          refine lv_icmp_ne (tgt := 204) hx hb dL_isSound_188 (by decide) (fun c50 => ?_) (fun c50 => ?_)
                          · refine lv_iconst (v := 0) hx hb dL_isSound_204 (by decide) ?_
                            refine lv_icmp_ne (tgt := 242) hx hb dL_isSound_205 (by decide) (fun c51 => ?_) (fun c51 => absurd c51 (by decide))
                            refine lv_iconst (v := 0) hx hb dL_isSound_242 (by decide) ?_
                            exact ly_ri hx hb hr hlk hP hD hS rfl (False.elim (c50 (hsd.2.1.mp c20).1)) (by omega) (by omega) dL_isSound_243
                          · refine lv_aload_n hx hb dL_isSound_191 rfl (lv_at hl 2 rfl) ?_
                            refine lv_iload_n hx hb dL_isSound_192 rfl (lv_at hl 4 rfl) ?_
                            refine lv_iload_n hx hb dL_isSound_193 rfl (lv_at hl 5 rfl) ?_
                            refine ly_v (As := [.int (nI i), .int (nI j)]) (rest := [.int 1]) hx hb hml hown hts (m_inTheWay (l := l) (G := G) (k := k) (q := q) (M := M1) (L := i) (p := j) hM1 hP4 (by omega) (by omega) hkd) 2 (sxGV (bi14 (w := Cond.methodLink RL 150 yX9_inTheWay) 34 rfl) (bi12 (w := Cond.instanceMethod yX9_inTheWay) 21 rfl) (bi12 (w := Cond.selects RX9 yX9_inTheWay yX9_inTheWay) 22 rfl) (bi1 (w := Cond.initialized RX9) 58 rfl) (bi10 (w := Cond.code yX9_inTheWay cX9_inTheWay 3 (some .int)) 53 rfl)) rfl (by decide +kernel) ⟨Nat.le_of_ble_eq_true rfl, Nat.le_of_ble_eq_true rfl⟩ hK hP hD hS hA hE [0] [1, 2, 3, 4, 5, 6] rfl rfl (by show List.Perm _ (List.range 7); decide) 0 0 rfl rfl rfl rfl hl rfl (Nat.le_of_ble_eq_true rfl) ⟨by show _ ≤ 32; omega, by show _ ≤ 64; omega⟩ dL_isSound_194 (fun B1 v1 hp1 H locs hP hD hS => ?_)
                            obtain ⟨rfl, rfl⟩ := hp1
                            obtain ⟨wy, hwy⟩ : ∃ x : Int32, x = s_X0_smallestLoan (qk_lc M1.2.1) (qk_yp M1.2.1) (qk_ye M1.2.1) 8 (qk_cd M1.2.1) (nI i) (nI j) (s_X0_wantedAt n (qk_cn M1.2.1) (nI i)) 0 := ⟨_, rfl⟩
                            rw [← hwy]
                            rw [← hwy] at hsd
                            show W p l e _ s m args below meth c H locs _ _ _ (F0 m 197 ls [.int wy, .int 1])
                            have hP : va_P G.1 vwCl (lxF [mlW G q M1, [(o, .inr (10, [.ref ok, .ref ol, .ref na]))], [(ok, .inl (G.2.1, 8, .inl fk))], [(ol, lxq k n rr)], lrB G r fs fa fb n, [(na, lxq k (n + 1) nf)], nxB G nr nl nc (n + 1)]) H := hP
                            have hD : va_D A (lxF [mlW G q M1, [(o, .inr (10, [.ref ok, .ref ol, .ref na]))], [(ok, .inl (G.2.1, 8, .inl fk))], [(ol, lxq k n rr)], lrB G r fs fa fb n, [(na, lxq k (n + 1) nf)], nxB G nr nl nc (n + 1)]) := hD
                            refine lv_if_lt (tgt := 204) hx hb dL_isSound_197 (by decide) (fun c52 => ?_) (fun c52 => ?_)
                            · refine lv_iconst (v := 0) hx hb dL_isSound_204 (by decide) ?_
                              refine lv_icmp_ne (tgt := 242) hx hb dL_isSound_205 (by decide) (fun c53 => ?_) (fun c53 => absurd c53 (by decide))
                              refine lv_iconst (v := 0) hx hb dL_isSound_242 (by decide) ?_
                              exact ly_ri hx hb hr hlk hP hD hS rfl (False.elim (Int32.not_le.mpr c52 (hsd.2.1.mp c20).2)) (by omega) (by omega) dL_isSound_243
                            · refine lv_iconst (v := 1) hx hb dL_isSound_200 (by decide) ?_
                              refine lv_goto (tgt := 205) hx hb dL_isSound_201 (by decide) ?_
                              refine lv_icmp_ne (tgt := 242) hx hb dL_isSound_205 (by decide) (fun c54 => absurd c54 (by decide)) (fun c54 => ?_)
                              refine lv_iload hx hb dL_isSound_208 (lv_at hl 1 rfl) ?_
                              refine lv_iconst (v := 1) hx hb dL_isSound_210 (by decide) ?_
                              refine lv_icmp_ne (tgt := 220) hx hb dL_isSound_211 (by decide) (fun c55 => ?_) (fun c55 => ?_)
                              · refine lv_iload hx hb dL_isSound_220 (lv_at hl 1 rfl) ?_
                                refine lv_iconst (v := 2) hx hb dL_isSound_222 (by decide) ?_
                                refine lv_icmp_ne (tgt := 232) hx hb dL_isSound_223 (by decide) (fun c56 => ?_) (fun c56 => ?_)
                                · refine lv_iload hx hb dL_isSound_232 (lv_at hl 0 rfl) ?_
                                  refine lv_if_ne (tgt := 244) hx hb dL_isSound_234 (by decide) (fun c57 => ?_) (fun c57 => ?_)
                                  · refine lv_iinc (v := nI (j + 1)) (lv' := [(3, .int (nI (j + 1))), (5, .int st), (4, .int cd), (0, .ref (q 0)), (1, .ref o), (2, .int (nI i))]) hx hb dL_isSound_244 hl (k := 5) rfl (nI_1 j) (by decide) rfl (fun ls hl => ?_)
                                    refine lv_goto (tgt := 89) hx hb dL_isSound_247 (by decide) ?_
                                    exact ih5 (j + 1) M1 (by omega) (by omega) (by omega) (⟨hrr, hM1, hP4, e3.trans hrn⟩) (by rw [e1]; exact hz) _ _ (by omega) (by omega) _ _ hP hD hS ls (lv_sub hl [3, 4, 5, 0] rfl)
                                  · refine lv_iload hx hb dL_isSound_237 (lv_at hl 1 rfl) ?_
                                    refine lv_if_eq (tgt := 244) hx hb dL_isSound_239 (by decide) (fun c58 => ?_) (fun c58 => ?_)
                                    · refine lv_iinc (v := nI (j + 1)) (lv' := [(3, .int (nI (j + 1))), (5, .int st), (4, .int cd), (0, .ref (q 0)), (1, .ref o), (2, .int (nI i))]) hx hb dL_isSound_244 hl (k := 5) rfl (nI_1 j) (by decide) rfl (fun ls hl => ?_)
                                      refine lv_goto (tgt := 89) hx hb dL_isSound_247 (by decide) ?_
                                      exact ih5 (j + 1) M1 (by omega) (by omega) (by omega) (⟨hrr, hM1, hP4, e3.trans hrn⟩) (by rw [e1]; exact hz) _ _ (by omega) (by omega) _ _ hP hD hS ls (lv_sub hl [3, 4, 5, 0] rfl)
                                    · refine lv_iconst (v := 0) hx hb dL_isSound_242 (by decide) ?_
                                      exact ly_ri hx hb hr hlk hP hD hS rfl (False.elim (c58 (hsd.2.2.2.2 c57))) (by omega) (by omega) dL_isSound_243
                                · refine lv_iload hx hb dL_isSound_226 (lv_at hl 0 rfl) ?_
                                  refine lv_iconst (v := 1) hx hb dL_isSound_228 (by decide) ?_
                                  refine lv_icmp_eq (tgt := 242) hx hb dL_isSound_229 (by decide) (fun c59 => ?_) (fun c59 => absurd c50 c59)
                                  refine lv_iconst (v := 0) hx hb dL_isSound_242 (by decide) ?_
                                  exact ly_ri hx hb hr hlk hP hD hS rfl (False.elim (hsd.2.2.2.1 c56 c50)) (by omega) (by omega) dL_isSound_243
                              · refine lv_iload hx hb dL_isSound_214 (lv_at hl 0 rfl) ?_
                                refine lv_iconst (v := 2) hx hb dL_isSound_216 (by decide) ?_
                                refine lv_icmp_ne (tgt := 242) hx hb dL_isSound_217 (by decide) (fun c60 => ?_) (fun c60 => ?_)
                                · refine lv_iconst (v := 0) hx hb dL_isSound_242 (by decide) ?_
                                  exact ly_ri hx hb hr hlk hP hD hS rfl (False.elim (c60 (hsd.2.2.1 c55))) (by omega) (by omega) dL_isSound_243
                                · refine lv_iload hx hb dL_isSound_220 (lv_at hl 1 rfl) ?_
                                  refine lv_iconst (v := 2) hx hb dL_isSound_222 (by decide) ?_
                                  refine lv_icmp_ne (tgt := 232) hx hb dL_isSound_223 (by decide) (fun c61 => ?_) (fun c61 => ?_)
                                  · refine lv_iload hx hb dL_isSound_232 (lv_at hl 0 rfl) ?_
                                    refine lv_if_ne (tgt := 244) hx hb dL_isSound_234 (by decide) (fun c62 => ?_) (fun c62 => ?_)
                                    · refine lv_iinc (v := nI (j + 1)) (lv' := [(3, .int (nI (j + 1))), (5, .int st), (4, .int cd), (0, .ref (q 0)), (1, .ref o), (2, .int (nI i))]) hx hb dL_isSound_244 hl (k := 5) rfl (nI_1 j) (by decide) rfl (fun ls hl => ?_)
                                      refine lv_goto (tgt := 89) hx hb dL_isSound_247 (by decide) ?_
                                      exact ih5 (j + 1) M1 (by omega) (by omega) (by omega) (⟨hrr, hM1, hP4, e3.trans hrn⟩) (by rw [e1]; exact hz) _ _ (by omega) (by omega) _ _ hP hD hS ls (lv_sub hl [3, 4, 5, 0] rfl)
                                    · refine lv_iload hx hb dL_isSound_237 (lv_at hl 1 rfl) ?_
                                      refine lv_if_eq (tgt := 244) hx hb dL_isSound_239 (by decide) (fun c63 => ?_) (fun c63 => ?_)
                                      · refine lv_iinc (v := nI (j + 1)) (lv' := [(3, .int (nI (j + 1))), (5, .int st), (4, .int cd), (0, .ref (q 0)), (1, .ref o), (2, .int (nI i))]) hx hb dL_isSound_244 hl (k := 5) rfl (nI_1 j) (by decide) rfl (fun ls hl => ?_)
                                        refine lv_goto (tgt := 89) hx hb dL_isSound_247 (by decide) ?_
                                        exact ih5 (j + 1) M1 (by omega) (by omega) (by omega) (⟨hrr, hM1, hP4, e3.trans hrn⟩) (by rw [e1]; exact hz) _ _ (by omega) (by omega) _ _ hP hD hS ls (lv_sub hl [3, 4, 5, 0] rfl)
                                      · refine lv_iconst (v := 0) hx hb dL_isSound_242 (by decide) ?_
                                        exact ly_ri hx hb hr hlk hP hD hS rfl (False.elim (c63 (hsd.2.2.2.2 c62))) (by omega) (by omega) dL_isSound_243
                                  · refine lv_iload hx hb dL_isSound_226 (lv_at hl 0 rfl) ?_
                                    refine lv_iconst (v := 1) hx hb dL_isSound_228 (by decide) ?_
                                    refine lv_icmp_eq (tgt := 242) hx hb dL_isSound_229 (by decide) (fun c64 => ?_) (fun c64 => absurd c50 c64)
                                    refine lv_iconst (v := 0) hx hb dL_isSound_242 (by decide) ?_
                                    exact ly_ri hx hb hr hlk hP hD hS rfl (False.elim (hsd.2.2.2.1 c61 c50)) (by omega) (by omega) dL_isSound_243
                    · have nc7 := (not_congr (nI_leI (a := n) (b := i) (by omega) (by omega))).mp c7
                      refine lv_aload_n hx hb dL_isSound_104 rfl (lv_at hl 1 rfl) ?_
                      refine lb_get (ci := 10) (v := .ref ol) (C := RX10) (T := TX10) (N := 3) hx hb hts owX10 hown hK hP 1 0 rfl rfl rfl 1 (by decide) (bw13 (w := Cond.fieldLink RL 9 "DropflagMillLaw$Own" "lines" "[[I") hts 31 rfl) (fun _ h9 => h9) rfl dL_isSound_105 ?_
                      refine lv_iload_n hx hb dL_isSound_108 rfl (lv_at hl 2 rfl) ?_
                      refine lb_aald (v := .ref (r i)) hx hb hK hE hP 3 0 rfl rfl (i := nI i) (vp_in_nI (n := i) (by omega) (by omega)) (by rw [nI_clamp (by omega), hrr _ (by omega)]; rfl) dL_isSound_109 ?_
                      refine lv_iconst (v := 0) hx hb dL_isSound_110 (by decide) ?_
                      refine lb_iald (v := fs i) hx hb hK hP 4 i rfl (lrB_at (by omega)) (i := 0) (vp_in_nI (n := 0) (by omega) (by omega)) rfl dL_isSound_111 ?_
                      refine lv_bipush (v := 11) hx hb dL_isSound_112 (by decide) ?_
                      refine lv_icmp_eq (tgt := 244) hx hb dL_isSound_114 (by decide) (fun c65 => ?_) (fun c65 => ?_)
                      · refine lv_iinc (v := nI (j + 1)) (lv' := [(3, .int (nI (j + 1))), (0, .ref (q 0)), (1, .ref o), (2, .int (nI i))]) hx hb dL_isSound_244 hl (k := 3) rfl (nI_1 j) (by decide) rfl (fun ls hl => ?_)
                        refine lv_goto (tgt := 89) hx hb dL_isSound_247 (by decide) ?_
                        exact ih5 (j + 1) M (by omega) (by omega) (by omega) (hI) (hz) _ _ (by omega) (by omega) _ _ hP hD hS ls (lv_sub hl [1, 2, 3, 0] rfl)
                      · refine lv_aload_n hx hb dL_isSound_117 rfl (lv_at hl 1 rfl) ?_
                        refine lv_iload_n hx hb dL_isSound_118 rfl (lv_at hl 2 rfl) ?_
                        refine ly_s (As := [.ref o, .int (nI i)]) (rest := []) hx hb hml hown hts (t_L_isInLoop l G k o ok ol na n rr r fs fa fb nf nr nl nc i hn hrr hnf hF (by omega)) 2 (sxGS (bi14 (w := Cond.methodLink RL 142 yL_isInLoop) 26 rfl) (bi14 (w := Cond.static yL_isInLoop) 27 rfl) (bi13 (w := Cond.initialized RL) 44 rfl) (bi14 (w := Cond.code yL_isInLoop cL_isInLoop 3 (some .boolean)) 19 rfl)) rfl (by decide +kernel) ⟨Nat.le_of_ble_eq_true rfl, Nat.le_of_ble_eq_true rfl⟩ hK hP hD hS hA hE [1, 3, 4, 5, 6] [0, 2] rfl rfl (by show List.Perm _ (List.range 7); decide) rfl hl rfl (Nat.le_of_ble_eq_true rfl) ⟨by show _ ≤ 32; omega, by show _ ≤ 64; omega⟩ dL_isSound_119 (fun B1 v1 hp1 H locs hP hD hS => ?_)
                        obtain ⟨rfl, xl, rfl, hxl⟩ := hp1
                        show W p l e _ s m args below meth c H locs _ _ _ (F0 m 122 ls [.int xl])
                        have hP : va_P G.1 vwCl (lxF [[(o, .inr (10, [.ref ok, .ref ol, .ref na]))], [(ol, lxq k n rr)], lrB G r fs fa fb n, [(na, lxq k (n + 1) nf)], nxB G nr nl nc (n + 1), mlW G q M, [(ok, .inl (G.2.1, 8, .inl fk))]]) H := hP
                        have hD : va_D A (lxF [[(o, .inr (10, [.ref ok, .ref ol, .ref na]))], [(ol, lxq k n rr)], lrB G r fs fa fb n, [(na, lxq k (n + 1) nf)], nxB G nr nl nc (n + 1), mlW G q M, [(ok, .inl (G.2.1, 8, .inl fk))]]) := hD
                        obtain ⟨hP, hD⟩ := lb_sub (Cs := [mlW G q M, [(o, .inr (10, [.ref ok, .ref ol, .ref na]))], [(ok, .inl (G.2.1, 8, .inl fk))], [(ol, lxq k n rr)], lrB G r fs fa fb n, [(na, lxq k (n + 1) nf)], nxB G nr nl nc (n + 1)]) [5, 0, 6, 1, 2, 3, 4] [] hP hD rfl (by show List.Perm _ (List.range 7); decide)
                        refine lv_if_eq (tgt := 128) hx hb dL_isSound_122 (by decide) (fun c66 => ?_) (fun c66 => ?_)
                        · have hE1 : i < n → ¬ fs i = 11 := fun _ => c65
                          have hno : ∀ z, i ≤ z → z < n → fs z = 11 → ¬ (1 < nl z ∧ nc z 0 ≤ nI i) := hxl.elim (fun z => absurd (z.symm.trans c66) (by decide)) (fun z => z.2)
                          refine lv_aload_n hx hb dL_isSound_128 rfl (lv_at hl 1 rfl) ?_
                          refine lv_iload_n hx hb dL_isSound_129 rfl (lv_at hl 3 rfl) ?_
                          refine ly_v (As := [.int (nI j)]) (rest := []) hx hb hml hown hts (t_X10_isOwned l G k o ok ol na fk j (by omega)) 1 (sxGV (bi14 (w := Cond.methodLink RL 146 yX10_isOwned) 28 rfl) (bi14 (w := Cond.instanceMethod yX10_isOwned) 29 rfl) (bi14 (w := Cond.selects RX10 yX10_isOwned yX10_isOwned) 30 rfl) (bi13 (w := Cond.initialized RX10) 21 rfl) (bi13 (w := Cond.code yX10_isOwned cX10_isOwned 2 (some .boolean)) 17 rfl)) rfl (by decide +kernel) ⟨Nat.le_of_ble_eq_true rfl, Nat.le_of_ble_eq_true rfl⟩ hK hP hD hS hA hE [1, 2] [0, 3, 4, 5, 6] rfl rfl (by show List.Perm _ (List.range 7); decide) 0 0 rfl rfl rfl rfl hl rfl (Nat.le_of_ble_eq_true rfl) ⟨by show _ ≤ 32; omega, by show _ ≤ 64; omega⟩ dL_isSound_130 (fun B1 v1 hp1 H locs hP hD hS => ?_)
                          obtain ⟨rfl, xo1, rfl, hxo1⟩ := hp1
                          show W p l e _ s m args below meth c H locs _ _ _ (F0 m 133 ls [.int xo1])
                          have hP : va_P G.1 vwCl (lxF [[(o, .inr (10, [.ref ok, .ref ol, .ref na]))], [(ok, .inl (G.2.1, 8, .inl fk))], mlW G q M, [(ol, lxq k n rr)], lrB G r fs fa fb n, [(na, lxq k (n + 1) nf)], nxB G nr nl nc (n + 1)]) H := hP
                          have hD : va_D A (lxF [[(o, .inr (10, [.ref ok, .ref ol, .ref na]))], [(ok, .inl (G.2.1, 8, .inl fk))], mlW G q M, [(ol, lxq k n rr)], lrB G r fs fa fb n, [(na, lxq k (n + 1) nf)], nxB G nr nl nc (n + 1)]) := hD
                          obtain ⟨hP, hD⟩ := lb_sub (Cs := [mlW G q M, [(o, .inr (10, [.ref ok, .ref ol, .ref na]))], [(ok, .inl (G.2.1, 8, .inl fk))], [(ol, lxq k n rr)], lrB G r fs fa fb n, [(na, lxq k (n + 1) nf)], nxB G nr nl nc (n + 1)]) [2, 0, 1, 3, 4, 5, 6] [] hP hD rfl (by show List.Perm _ (List.range 7); decide)
                          refine lv_if_eq (tgt := 145) hx hb dL_isSound_133 (by decide) (fun c67 => ?_) (fun c67 => ?_)
                          · have hno1 : ¬ (qp_kd 8 fk j = 1 ∨ qp_kd 8 fk j = 2 ∨ qp_kd 8 fk j = 5) := hxo1.elim (fun z => absurd (z.2.symm.trans c67) (by decide)) (fun z => z.1)
                            refine lv_iconst (v := 0) hx hb dL_isSound_145 (by decide) ?_
                            refine lv_istore (lv' := [(4, .int 0), (0, .ref (q 0)), (1, .ref o), (2, .int (nI i)), (3, .int (nI j))]) hx hb dL_isSound_146 hl (by decide) rfl (fun ls hl => ?_)
                            refine lv_aload_n hx hb dL_isSound_148 rfl (lv_at hl 2 rfl) ?_
                            refine lv_iload_n hx hb dL_isSound_149 rfl (lv_at hl 4 rfl) ?_
                            refine ly_v (As := [.int (nI j)]) (rest := []) hx hb hml hown hts (t_X10_isOwned l G k o ok ol na fk j (by omega)) 1 (sxGV (bi14 (w := Cond.methodLink RL 146 yX10_isOwned) 28 rfl) (bi14 (w := Cond.instanceMethod yX10_isOwned) 29 rfl) (bi14 (w := Cond.selects RX10 yX10_isOwned yX10_isOwned) 30 rfl) (bi13 (w := Cond.initialized RX10) 21 rfl) (bi13 (w := Cond.code yX10_isOwned cX10_isOwned 2 (some .boolean)) 17 rfl)) rfl (by decide +kernel) ⟨Nat.le_of_ble_eq_true rfl, Nat.le_of_ble_eq_true rfl⟩ hK hP hD hS hA hE [1, 2] [0, 3, 4, 5, 6] rfl rfl (by show List.Perm _ (List.range 7); decide) 0 0 rfl rfl rfl rfl hl rfl (Nat.le_of_ble_eq_true rfl) ⟨by show _ ≤ 32; omega, by show _ ≤ 64; omega⟩ dL_isSound_150 (fun B1 v1 hp1 H locs hP hD hS => ?_)
                            obtain ⟨rfl, xo2, rfl, hxo2⟩ := hp1
                            show W p l e _ s m args below meth c H locs _ _ _ (F0 m 153 ls [.int xo2])
                            have hP : va_P G.1 vwCl (lxF [[(o, .inr (10, [.ref ok, .ref ol, .ref na]))], [(ok, .inl (G.2.1, 8, .inl fk))], mlW G q M, [(ol, lxq k n rr)], lrB G r fs fa fb n, [(na, lxq k (n + 1) nf)], nxB G nr nl nc (n + 1)]) H := hP
                            have hD : va_D A (lxF [[(o, .inr (10, [.ref ok, .ref ol, .ref na]))], [(ok, .inl (G.2.1, 8, .inl fk))], mlW G q M, [(ol, lxq k n rr)], lrB G r fs fa fb n, [(na, lxq k (n + 1) nf)], nxB G nr nl nc (n + 1)]) := hD
                            obtain ⟨hP, hD⟩ := lb_sub (Cs := [mlW G q M, [(o, .inr (10, [.ref ok, .ref ol, .ref na]))], [(ok, .inl (G.2.1, 8, .inl fk))], [(ol, lxq k n rr)], lrB G r fs fa fb n, [(na, lxq k (n + 1) nf)], nxB G nr nl nc (n + 1)]) [2, 0, 1, 3, 4, 5, 6] [] hP hD rfl (by show List.Perm _ (List.range 7); decide)
                            refine lv_if_eq (tgt := 165) hx hb dL_isSound_153 (by decide) (fun c68 => ?_) (fun c68 => False.elim (by rcases hxo2 with z | z; exact hno1 z.1; exact c68 z.2))
                            refine lv_iconst (v := 0) hx hb dL_isSound_165 (by decide) ?_
                            refine lv_istore (lv' := [(5, .int 0), (4, .int 0), (0, .ref (q 0)), (1, .ref o), (2, .int (nI i)), (3, .int (nI j))]) hx hb dL_isSound_166 hl (by decide) rfl (fun ls hl => ?_)
                            refine lv_iload hx hb dL_isSound_168 (lv_at hl 1 rfl) ?_
                            refine lv_iconst (v := 3) hx hb dL_isSound_170 (by decide) ?_
                            refine lv_icmp_gt (tgt := 242) hx hb dL_isSound_171 (by decide) (fun c69 => absurd c69 (by decide)) (fun c69 => ?_)
                            refine lv_iload hx hb dL_isSound_174 (lv_at hl 1 rfl) ?_
                            refine lv_iconst (v := 3) hx hb dL_isSound_176 (by decide) ?_
                            refine lv_icmp_ne (tgt := 184) hx hb dL_isSound_177 (by decide) (fun c70 => ?_) (fun c70 => absurd c70 (by decide))
                            refine lv_iconst (v := 0) hx hb dL_isSound_184 (by decide) ?_
                            refine lv_iload hx hb dL_isSound_185 (lv_at hl 0 rfl) ?_
                            refine lv_iconst (v := 1) hx hb dL_isSound_187 (by decide) ?_
                            refine lv_icmp_ne (tgt := 204) hx hb dL_isSound_188 (by decide) (fun c71 => ?_) (fun c71 => absurd c71 (by decide))
                            refine lv_iconst (v := 0) hx hb dL_isSound_204 (by decide) ?_
                            refine lv_icmp_ne (tgt := 242) hx hb dL_isSound_205 (by decide) (fun c72 => absurd c72 (by decide)) (fun c72 => ?_)
                            refine lv_iload hx hb dL_isSound_208 (lv_at hl 1 rfl) ?_
                            refine lv_iconst (v := 1) hx hb dL_isSound_210 (by decide) ?_
                            refine lv_icmp_ne (tgt := 220) hx hb dL_isSound_211 (by decide) (fun c73 => ?_) (fun c73 => absurd c73 (by decide))
                            refine lv_iload hx hb dL_isSound_220 (lv_at hl 1 rfl) ?_
                            refine lv_iconst (v := 2) hx hb dL_isSound_222 (by decide) ?_
                            refine lv_icmp_ne (tgt := 232) hx hb dL_isSound_223 (by decide) (fun c74 => ?_) (fun c74 => absurd c74 (by decide))
                            refine lv_iload hx hb dL_isSound_232 (lv_at hl 0 rfl) ?_
                            refine lv_if_ne (tgt := 244) hx hb dL_isSound_234 (by decide) (fun c75 => absurd c75 (by decide)) (fun c75 => ?_)
                            refine lv_iload hx hb dL_isSound_237 (lv_at hl 1 rfl) ?_
                            refine lv_if_eq (tgt := 244) hx hb dL_isSound_239 (by decide) (fun c76 => ?_) (fun c76 => absurd c76 (by decide))
                            refine lv_iinc (v := nI (j + 1)) (lv' := [(3, .int (nI (j + 1))), (5, .int 0), (4, .int 0), (0, .ref (q 0)), (1, .ref o), (2, .int (nI i))]) hx hb dL_isSound_244 hl (k := 5) rfl (nI_1 j) (by decide) rfl (fun ls hl => ?_)
                            refine lv_goto (tgt := 89) hx hb dL_isSound_247 (by decide) ?_
                            exact ih5 (j + 1) M (by omega) (by omega) (by omega) (hI) (hz) _ _ (by omega) (by omega) _ _ hP hD hS ls (lv_sub hl [3, 4, 5, 0] rfl)
                          · have ho : qp_kd 8 fk j = 1 ∨ qp_kd 8 fk j = 2 ∨ qp_kd 8 fk j = 5 := hxo1.elim (fun z => z.1) (fun z => absurd z.2 c67)
                            have hkd : ¬ qp_kd 8 fk j = -1 := by rcases ho with z | z | z <;> (rw [z]; decide)
                            refine lv_aload_n hx hb dL_isSound_136 rfl (lv_at hl 0 rfl) ?_
                            refine lv_iload_n hx hb dL_isSound_137 rfl (lv_at hl 2 rfl) ?_
                            refine lv_iload_n hx hb dL_isSound_138 rfl (lv_at hl 3 rfl) ?_
                            refine ly_v (As := [.int (nI i), .int (nI j)]) (rest := []) hx hb hml hown hts (m_couldDrop (l := l) (G := G) (k := k) (q := q) (M := M) (L := i) (p := j) hM hP4 hw (by omega) (by omega) ho) 2 (sxGV (bi14 (w := Cond.methodLink RL 118 yX9_couldDrop) 31 rfl) (bi14 (w := Cond.instanceMethod yX9_couldDrop) 32 rfl) (bi14 (w := Cond.selects RX9 yX9_couldDrop yX9_couldDrop) 33 rfl) (bi1 (w := Cond.initialized RX9) 58 rfl) (bi12 (w := Cond.code yX9_couldDrop cX9_couldDrop 3 (some .int)) 9 rfl)) rfl (by decide +kernel) ⟨Nat.le_of_ble_eq_true rfl, Nat.le_of_ble_eq_true rfl⟩ hK hP hD hS hA hE [0] [1, 2, 3, 4, 5, 6] rfl rfl (by show List.Perm _ (List.range 7); decide) 0 0 rfl rfl rfl rfl hl rfl (Nat.le_of_ble_eq_true rfl) ⟨by show _ ≤ 32; omega, by show _ ≤ 64; omega⟩ dL_isSound_139 (fun B1 v1 hp1 H locs hP hD hS => ?_)
                            obtain ⟨M1, T1, gs, ga, gb, rfl, rfl, hM1, e1, e2, e3, hL1, hins⟩ := hp1
                            obtain ⟨cd, hcd⟩ : ∃ x : Int32, x = s_X2_numberOfLine (qk_fc T1) (qk_xn T1) (qk_xl T1) (nI i) := ⟨_, rfl⟩
                            rw [← hcd]
                            show W p l e _ s m args below meth c H locs _ _ _ (F0 m 142 ls [.int cd])
                            have hP : va_P G.1 vwCl (lxF [mlW G q M1, [(o, .inr (10, [.ref ok, .ref ol, .ref na]))], [(ok, .inl (G.2.1, 8, .inl fk))], [(ol, lxq k n rr)], lrB G r fs fa fb n, [(na, lxq k (n + 1) nf)], nxB G nr nl nc (n + 1)]) H := hP
                            have hD : va_D A (lxF [mlW G q M1, [(o, .inr (10, [.ref ok, .ref ol, .ref na]))], [(ok, .inl (G.2.1, 8, .inl fk))], [(ol, lxq k n rr)], lrB G r fs fa fb n, [(na, lxq k (n + 1) nf)], nxB G nr nl nc (n + 1)]) := hD
                            refine lv_goto (tgt := 146) hx hb dL_isSound_142 (by decide) ?_
                            refine lv_istore (lv' := [(4, .int cd), (0, .ref (q 0)), (1, .ref o), (2, .int (nI i)), (3, .int (nI j))]) hx hb dL_isSound_146 hl (by decide) rfl (fun ls hl => ?_)
                            refine lv_aload_n hx hb dL_isSound_148 rfl (lv_at hl 2 rfl) ?_
                            refine lv_iload_n hx hb dL_isSound_149 rfl (lv_at hl 4 rfl) ?_
                            refine ly_v (As := [.int (nI j)]) (rest := []) hx hb hml hown hts (t_X10_isOwned l G k o ok ol na fk j (by omega)) 1 (sxGV (bi14 (w := Cond.methodLink RL 146 yX10_isOwned) 28 rfl) (bi14 (w := Cond.instanceMethod yX10_isOwned) 29 rfl) (bi14 (w := Cond.selects RX10 yX10_isOwned yX10_isOwned) 30 rfl) (bi13 (w := Cond.initialized RX10) 21 rfl) (bi13 (w := Cond.code yX10_isOwned cX10_isOwned 2 (some .boolean)) 17 rfl)) rfl (by decide +kernel) ⟨Nat.le_of_ble_eq_true rfl, Nat.le_of_ble_eq_true rfl⟩ hK hP hD hS hA hE [1, 2] [0, 3, 4, 5, 6] rfl rfl (by show List.Perm _ (List.range 7); decide) 0 0 rfl rfl rfl rfl hl rfl (Nat.le_of_ble_eq_true rfl) ⟨by show _ ≤ 32; omega, by show _ ≤ 64; omega⟩ dL_isSound_150 (fun B1 v1 hp1 H locs hP hD hS => ?_)
                            obtain ⟨rfl, xo2, rfl, hxo2⟩ := hp1
                            show W p l e _ s m args below meth c H locs _ _ _ (F0 m 153 ls [.int xo2])
                            have hP : va_P G.1 vwCl (lxF [[(o, .inr (10, [.ref ok, .ref ol, .ref na]))], [(ok, .inl (G.2.1, 8, .inl fk))], mlW G q M1, [(ol, lxq k n rr)], lrB G r fs fa fb n, [(na, lxq k (n + 1) nf)], nxB G nr nl nc (n + 1)]) H := hP
                            have hD : va_D A (lxF [[(o, .inr (10, [.ref ok, .ref ol, .ref na]))], [(ok, .inl (G.2.1, 8, .inl fk))], mlW G q M1, [(ol, lxq k n rr)], lrB G r fs fa fb n, [(na, lxq k (n + 1) nf)], nxB G nr nl nc (n + 1)]) := hD
                            obtain ⟨hP, hD⟩ := lb_sub (Cs := [mlW G q M1, [(o, .inr (10, [.ref ok, .ref ol, .ref na]))], [(ok, .inl (G.2.1, 8, .inl fk))], [(ol, lxq k n rr)], lrB G r fs fa fb n, [(na, lxq k (n + 1) nf)], nxB G nr nl nc (n + 1)]) [2, 0, 1, 3, 4, 5, 6] [] hP hD rfl (by show List.Perm _ (List.range 7); decide)
                            refine lv_if_eq (tgt := 165) hx hb dL_isSound_153 (by decide) (fun c77 => False.elim (by rcases hxo2 with z | z; exact absurd (z.2.symm.trans c77) (by decide); exact z.1 ho)) (fun c77 => ?_)
                            refine lv_aload_n hx hb dL_isSound_156 rfl (lv_at hl 1 rfl) ?_
                            refine lv_iload_n hx hb dL_isSound_157 rfl (lv_at hl 3 rfl) ?_
                            refine lv_iload_n hx hb dL_isSound_158 rfl (lv_at hl 4 rfl) ?_
                            refine ly_v (As := [.int (nI i), .int (nI j)]) (rest := []) hx hb hml hown hts (m_state (l := l) (G := G) (k := k) (q := q) (M := M1) (L := i) (p := j) hM1 hP4 (by omega) (by omega) hkd) 2 (sxGV (bi14 (w := Cond.methodLink RL 139 yX9_state) 25 rfl) (bi12 (w := Cond.instanceMethod yX9_state) 18 rfl) (bi12 (w := Cond.selects RX9 yX9_state yX9_state) 19 rfl) (bi1 (w := Cond.initialized RX9) 58 rfl) (bi10 (w := Cond.code yX9_state cX9_state 3 (some .int)) 44 rfl)) rfl (by decide +kernel) ⟨Nat.le_of_ble_eq_true rfl, Nat.le_of_ble_eq_true rfl⟩ hK hP hD hS hA hE [0] [1, 2, 3, 4, 5, 6] rfl rfl (by show List.Perm _ (List.range 7); decide) 0 0 rfl rfl rfl rfl hl rfl (Nat.le_of_ble_eq_true rfl) ⟨by show _ ≤ 32; omega, by show _ ≤ 64; omega⟩ dL_isSound_159 (fun B1 v1 hp1 H locs hP hD hS => ?_)
                            obtain ⟨rfl, rfl⟩ := hp1
                            obtain ⟨st, hst⟩ : ∃ x : Int32, x = s_X0_stateAt 8 n fk (qk_cr M1.2.1) (qk_ch M1.2.1) (qk_cl M1.2.1) (nI i) (nI j) := ⟨_, rfl⟩
                            rw [← hst]
                            have hsd := qj_sound hKK hM1.2.1 hL1 (ml_insP (show i ≤ n by omega) hins).1 (by omega) (Nat.le_refl _) hn (ml_insP (show i ≤ n by omega) hins).2.1 (ml_insP (show i ≤ n by omega) hins).2.2 hkd hql hE1 hw (ls_out hM1.2.1 hw hn (by omega) hF hno) cd st _ hcd hst rfl
                            show W p l e _ s m args below meth c H locs _ _ _ (F0 m 162 ls [.int st])
                            have hP : va_P G.1 vwCl (lxF [mlW G q M1, [(o, .inr (10, [.ref ok, .ref ol, .ref na]))], [(ok, .inl (G.2.1, 8, .inl fk))], [(ol, lxq k n rr)], lrB G r fs fa fb n, [(na, lxq k (n + 1) nf)], nxB G nr nl nc (n + 1)]) H := hP
                            have hD : va_D A (lxF [mlW G q M1, [(o, .inr (10, [.ref ok, .ref ol, .ref na]))], [(ok, .inl (G.2.1, 8, .inl fk))], [(ol, lxq k n rr)], lrB G r fs fa fb n, [(na, lxq k (n + 1) nf)], nxB G nr nl nc (n + 1)]) := hD
                            refine lv_goto (tgt := 166) hx hb dL_isSound_162 (by decide) ?_
                            refine lv_istore (lv' := [(5, .int st), (4, .int cd), (0, .ref (q 0)), (1, .ref o), (2, .int (nI i)), (3, .int (nI j))]) hx hb dL_isSound_166 hl (by decide) rfl (fun ls hl => ?_)
                            refine lv_iload hx hb dL_isSound_168 (lv_at hl 1 rfl) ?_
                            refine lv_iconst (v := 3) hx hb dL_isSound_170 (by decide) ?_
                            refine lv_icmp_gt (tgt := 242) hx hb dL_isSound_171 (by decide) (fun c78 => False.elim (by exact hsd.1 c78)) (fun c78 => ?_)
                            refine lv_iload hx hb dL_isSound_174 (lv_at hl 1 rfl) ?_
                            refine lv_iconst (v := 3) hx hb dL_isSound_176 (by decide) ?_
                            refine lv_icmp_ne (tgt := 184) hx hb dL_isSound_177 (by decide) (fun c79 => ?_) (fun c79 => ?_)
                            · refine lv_iconst (v := 0) hx hb dL_isSound_184 (by decide) ?_
                              refine lv_iload hx hb dL_isSound_185 (lv_at hl 0 rfl) ?_
                              refine lv_iconst (v := 1) hx hb dL_isSound_187 (by decide) ?_
                              refine lv_icmp_ne (tgt := 204) hx hb dL_isSound_188 (by decide) (fun c80 => ?_) (fun c80 => ?_)
                              · refine lv_iconst (v := 0) hx hb dL_isSound_204 (by decide) ?_
                                refine lv_icmp_ne (tgt := 242) hx hb dL_isSound_205 (by decide) (fun c81 => absurd c81 (by decide)) (fun c81 => ?_)
                                refine lv_iload hx hb dL_isSound_208 (lv_at hl 1 rfl) ?_
                                refine lv_iconst (v := 1) hx hb dL_isSound_210 (by decide) ?_
                                refine lv_icmp_ne (tgt := 220) hx hb dL_isSound_211 (by decide) (fun c82 => ?_) (fun c82 => ?_)
                                · refine lv_iload hx hb dL_isSound_220 (lv_at hl 1 rfl) ?_
                                  refine lv_iconst (v := 2) hx hb dL_isSound_222 (by decide) ?_
                                  refine lv_icmp_ne (tgt := 232) hx hb dL_isSound_223 (by decide) (fun c83 => ?_) (fun c83 => ?_)
                                  · refine lv_iload hx hb dL_isSound_232 (lv_at hl 0 rfl) ?_
                                    refine lv_if_ne (tgt := 244) hx hb dL_isSound_234 (by decide) (fun c84 => ?_) (fun c84 => ?_)
                                    · refine lv_iinc (v := nI (j + 1)) (lv' := [(3, .int (nI (j + 1))), (5, .int st), (4, .int cd), (0, .ref (q 0)), (1, .ref o), (2, .int (nI i))]) hx hb dL_isSound_244 hl (k := 5) rfl (nI_1 j) (by decide) rfl (fun ls hl => ?_)
                                      refine lv_goto (tgt := 89) hx hb dL_isSound_247 (by decide) ?_
                                      exact ih5 (j + 1) M1 (by omega) (by omega) (by omega) (⟨hrr, hM1, hP4, e3.trans hrn⟩) (by rw [e1]; exact hz) _ _ (by omega) (by omega) _ _ hP hD hS ls (lv_sub hl [3, 4, 5, 0] rfl)
                                    · refine lv_iload hx hb dL_isSound_237 (lv_at hl 1 rfl) ?_
                                      refine lv_if_eq (tgt := 244) hx hb dL_isSound_239 (by decide) (fun c85 => ?_) (fun c85 => ?_)
                                      · refine lv_iinc (v := nI (j + 1)) (lv' := [(3, .int (nI (j + 1))), (5, .int st), (4, .int cd), (0, .ref (q 0)), (1, .ref o), (2, .int (nI i))]) hx hb dL_isSound_244 hl (k := 5) rfl (nI_1 j) (by decide) rfl (fun ls hl => ?_)
                                        refine lv_goto (tgt := 89) hx hb dL_isSound_247 (by decide) ?_
                                        exact ih5 (j + 1) M1 (by omega) (by omega) (by omega) (⟨hrr, hM1, hP4, e3.trans hrn⟩) (by rw [e1]; exact hz) _ _ (by omega) (by omega) _ _ hP hD hS ls (lv_sub hl [3, 4, 5, 0] rfl)
                                      · refine lv_iconst (v := 0) hx hb dL_isSound_242 (by decide) ?_
                                        exact ly_ri hx hb hr hlk hP hD hS rfl (False.elim (c85 (hsd.2.2.2.2 c84))) (by omega) (by omega) dL_isSound_243
                                  · refine lv_iload hx hb dL_isSound_226 (lv_at hl 0 rfl) ?_
                                    refine lv_iconst (v := 1) hx hb dL_isSound_228 (by decide) ?_
                                    refine lv_icmp_eq (tgt := 242) hx hb dL_isSound_229 (by decide) (fun c86 => absurd c86 c80) (fun c86 => ?_)
                                    refine lv_iload hx hb dL_isSound_232 (lv_at hl 0 rfl) ?_
                                    refine lv_if_ne (tgt := 244) hx hb dL_isSound_234 (by decide) (fun c87 => ?_) (fun c87 => ?_)
                                    · refine lv_iinc (v := nI (j + 1)) (lv' := [(3, .int (nI (j + 1))), (5, .int st), (4, .int cd), (0, .ref (q 0)), (1, .ref o), (2, .int (nI i))]) hx hb dL_isSound_244 hl (k := 5) rfl (nI_1 j) (by decide) rfl (fun ls hl => ?_)
                                      refine lv_goto (tgt := 89) hx hb dL_isSound_247 (by decide) ?_
                                      exact ih5 (j + 1) M1 (by omega) (by omega) (by omega) (⟨hrr, hM1, hP4, e3.trans hrn⟩) (by rw [e1]; exact hz) _ _ (by omega) (by omega) _ _ hP hD hS ls (lv_sub hl [3, 4, 5, 0] rfl)
                                    · refine lv_iload hx hb dL_isSound_237 (lv_at hl 1 rfl) ?_
                                      refine lv_if_eq (tgt := 244) hx hb dL_isSound_239 (by decide) (fun c88 => ?_) (fun c88 => ?_)
                                      · refine lv_iinc (v := nI (j + 1)) (lv' := [(3, .int (nI (j + 1))), (5, .int st), (4, .int cd), (0, .ref (q 0)), (1, .ref o), (2, .int (nI i))]) hx hb dL_isSound_244 hl (k := 5) rfl (nI_1 j) (by decide) rfl (fun ls hl => ?_)
                                        refine lv_goto (tgt := 89) hx hb dL_isSound_247 (by decide) ?_
                                        exact ih5 (j + 1) M1 (by omega) (by omega) (by omega) (⟨hrr, hM1, hP4, e3.trans hrn⟩) (by rw [e1]; exact hz) _ _ (by omega) (by omega) _ _ hP hD hS ls (lv_sub hl [3, 4, 5, 0] rfl)
                                      · refine lv_iconst (v := 0) hx hb dL_isSound_242 (by decide) ?_
                                        exact ly_ri hx hb hr hlk hP hD hS rfl (False.elim (c88 (hsd.2.2.2.2 c87))) (by omega) (by omega) dL_isSound_243
                                · refine lv_iload hx hb dL_isSound_214 (lv_at hl 0 rfl) ?_
                                  refine lv_iconst (v := 2) hx hb dL_isSound_216 (by decide) ?_
                                  refine lv_icmp_ne (tgt := 242) hx hb dL_isSound_217 (by decide) (fun c89 => ?_) (fun c89 => ?_)
                                  · refine lv_iconst (v := 0) hx hb dL_isSound_242 (by decide) ?_
                                    exact ly_ri hx hb hr hlk hP hD hS rfl (False.elim (c89 (hsd.2.2.1 c82))) (by omega) (by omega) dL_isSound_243
                                  · refine lv_iload hx hb dL_isSound_220 (lv_at hl 1 rfl) ?_
                                    refine lv_iconst (v := 2) hx hb dL_isSound_222 (by decide) ?_
                                    refine lv_icmp_ne (tgt := 232) hx hb dL_isSound_223 (by decide) (fun c90 => ?_) (fun c90 => ?_)
                                    · refine lv_iload hx hb dL_isSound_232 (lv_at hl 0 rfl) ?_
                                      refine lv_if_ne (tgt := 244) hx hb dL_isSound_234 (by decide) (fun c91 => ?_) (fun c91 => ?_)
                                      · refine lv_iinc (v := nI (j + 1)) (lv' := [(3, .int (nI (j + 1))), (5, .int st), (4, .int cd), (0, .ref (q 0)), (1, .ref o), (2, .int (nI i))]) hx hb dL_isSound_244 hl (k := 5) rfl (nI_1 j) (by decide) rfl (fun ls hl => ?_)
                                        refine lv_goto (tgt := 89) hx hb dL_isSound_247 (by decide) ?_
                                        exact ih5 (j + 1) M1 (by omega) (by omega) (by omega) (⟨hrr, hM1, hP4, e3.trans hrn⟩) (by rw [e1]; exact hz) _ _ (by omega) (by omega) _ _ hP hD hS ls (lv_sub hl [3, 4, 5, 0] rfl)
                                      · refine lv_iload hx hb dL_isSound_237 (lv_at hl 1 rfl) ?_
                                        refine lv_if_eq (tgt := 244) hx hb dL_isSound_239 (by decide) (fun c92 => ?_) (fun c92 => ?_)
                                        · refine lv_iinc (v := nI (j + 1)) (lv' := [(3, .int (nI (j + 1))), (5, .int st), (4, .int cd), (0, .ref (q 0)), (1, .ref o), (2, .int (nI i))]) hx hb dL_isSound_244 hl (k := 5) rfl (nI_1 j) (by decide) rfl (fun ls hl => ?_)
                                          refine lv_goto (tgt := 89) hx hb dL_isSound_247 (by decide) ?_
                                          exact ih5 (j + 1) M1 (by omega) (by omega) (by omega) (⟨hrr, hM1, hP4, e3.trans hrn⟩) (by rw [e1]; exact hz) _ _ (by omega) (by omega) _ _ hP hD hS ls (lv_sub hl [3, 4, 5, 0] rfl)
                                        · refine lv_iconst (v := 0) hx hb dL_isSound_242 (by decide) ?_
                                          exact ly_ri hx hb hr hlk hP hD hS rfl (False.elim (c92 (hsd.2.2.2.2 c91))) (by omega) (by omega) dL_isSound_243
                                    · refine lv_iload hx hb dL_isSound_226 (lv_at hl 0 rfl) ?_
                                      refine lv_iconst (v := 1) hx hb dL_isSound_228 (by decide) ?_
                                      refine lv_icmp_eq (tgt := 242) hx hb dL_isSound_229 (by decide) (fun c93 => absurd c93 c80) (fun c93 => ?_)
                                      refine lv_iload hx hb dL_isSound_232 (lv_at hl 0 rfl) ?_
                                      refine lv_if_ne (tgt := 244) hx hb dL_isSound_234 (by decide) (fun c94 => ?_) (fun c94 => ?_)
                                      · refine lv_iinc (v := nI (j + 1)) (lv' := [(3, .int (nI (j + 1))), (5, .int st), (4, .int cd), (0, .ref (q 0)), (1, .ref o), (2, .int (nI i))]) hx hb dL_isSound_244 hl (k := 5) rfl (nI_1 j) (by decide) rfl (fun ls hl => ?_)
                                        refine lv_goto (tgt := 89) hx hb dL_isSound_247 (by decide) ?_
                                        exact ih5 (j + 1) M1 (by omega) (by omega) (by omega) (⟨hrr, hM1, hP4, e3.trans hrn⟩) (by rw [e1]; exact hz) _ _ (by omega) (by omega) _ _ hP hD hS ls (lv_sub hl [3, 4, 5, 0] rfl)
                                      · refine lv_iload hx hb dL_isSound_237 (lv_at hl 1 rfl) ?_
                                        refine lv_if_eq (tgt := 244) hx hb dL_isSound_239 (by decide) (fun c95 => ?_) (fun c95 => ?_)
                                        · refine lv_iinc (v := nI (j + 1)) (lv' := [(3, .int (nI (j + 1))), (5, .int st), (4, .int cd), (0, .ref (q 0)), (1, .ref o), (2, .int (nI i))]) hx hb dL_isSound_244 hl (k := 5) rfl (nI_1 j) (by decide) rfl (fun ls hl => ?_)
                                          refine lv_goto (tgt := 89) hx hb dL_isSound_247 (by decide) ?_
                                          exact ih5 (j + 1) M1 (by omega) (by omega) (by omega) (⟨hrr, hM1, hP4, e3.trans hrn⟩) (by rw [e1]; exact hz) _ _ (by omega) (by omega) _ _ hP hD hS ls (lv_sub hl [3, 4, 5, 0] rfl)
                                        · refine lv_iconst (v := 0) hx hb dL_isSound_242 (by decide) ?_
                                          exact ly_ri hx hb hr hlk hP hD hS rfl (False.elim (c95 (hsd.2.2.2.2 c94))) (by omega) (by omega) dL_isSound_243
                              · refine lv_aload_n hx hb dL_isSound_191 rfl (lv_at hl 2 rfl) ?_
                                refine lv_iload_n hx hb dL_isSound_192 rfl (lv_at hl 4 rfl) ?_
                                refine lv_iload_n hx hb dL_isSound_193 rfl (lv_at hl 5 rfl) ?_
                                refine ly_v (As := [.int (nI i), .int (nI j)]) (rest := [.int 0]) hx hb hml hown hts (m_inTheWay (l := l) (G := G) (k := k) (q := q) (M := M1) (L := i) (p := j) hM1 hP4 (by omega) (by omega) hkd) 2 (sxGV (bi14 (w := Cond.methodLink RL 150 yX9_inTheWay) 34 rfl) (bi12 (w := Cond.instanceMethod yX9_inTheWay) 21 rfl) (bi12 (w := Cond.selects RX9 yX9_inTheWay yX9_inTheWay) 22 rfl) (bi1 (w := Cond.initialized RX9) 58 rfl) (bi10 (w := Cond.code yX9_inTheWay cX9_inTheWay 3 (some .int)) 53 rfl)) rfl (by decide +kernel) ⟨Nat.le_of_ble_eq_true rfl, Nat.le_of_ble_eq_true rfl⟩ hK hP hD hS hA hE [0] [1, 2, 3, 4, 5, 6] rfl rfl (by show List.Perm _ (List.range 7); decide) 0 0 rfl rfl rfl rfl hl rfl (Nat.le_of_ble_eq_true rfl) ⟨by show _ ≤ 32; omega, by show _ ≤ 64; omega⟩ dL_isSound_194 (fun B1 v1 hp1 H locs hP hD hS => ?_)
                                obtain ⟨rfl, rfl⟩ := hp1
                                obtain ⟨wy, hwy⟩ : ∃ x : Int32, x = s_X0_smallestLoan (qk_lc M1.2.1) (qk_yp M1.2.1) (qk_ye M1.2.1) 8 (qk_cd M1.2.1) (nI i) (nI j) (s_X0_wantedAt n (qk_cn M1.2.1) (nI i)) 0 := ⟨_, rfl⟩
                                rw [← hwy]
                                rw [← hwy] at hsd
                                show W p l e _ s m args below meth c H locs _ _ _ (F0 m 197 ls [.int wy, .int 0])
                                have hP : va_P G.1 vwCl (lxF [mlW G q M1, [(o, .inr (10, [.ref ok, .ref ol, .ref na]))], [(ok, .inl (G.2.1, 8, .inl fk))], [(ol, lxq k n rr)], lrB G r fs fa fb n, [(na, lxq k (n + 1) nf)], nxB G nr nl nc (n + 1)]) H := hP
                                have hD : va_D A (lxF [mlW G q M1, [(o, .inr (10, [.ref ok, .ref ol, .ref na]))], [(ok, .inl (G.2.1, 8, .inl fk))], [(ol, lxq k n rr)], lrB G r fs fa fb n, [(na, lxq k (n + 1) nf)], nxB G nr nl nc (n + 1)]) := hD
                                refine lv_if_lt (tgt := 204) hx hb dL_isSound_197 (by decide) (fun c96 => ?_) (fun c96 => ?_)
                                · refine lv_iconst (v := 0) hx hb dL_isSound_204 (by decide) ?_
                                  refine lv_icmp_ne (tgt := 242) hx hb dL_isSound_205 (by decide) (fun c97 => absurd c97 (by decide)) (fun c97 => ?_)
                                  refine lv_iload hx hb dL_isSound_208 (lv_at hl 1 rfl) ?_
                                  refine lv_iconst (v := 1) hx hb dL_isSound_210 (by decide) ?_
                                  refine lv_icmp_ne (tgt := 220) hx hb dL_isSound_211 (by decide) (fun c98 => ?_) (fun c98 => ?_)
                                  · refine lv_iload hx hb dL_isSound_220 (lv_at hl 1 rfl) ?_
                                    refine lv_iconst (v := 2) hx hb dL_isSound_222 (by decide) ?_
                                    refine lv_icmp_ne (tgt := 232) hx hb dL_isSound_223 (by decide) (fun c99 => ?_) (fun c99 => ?_)
                                    · refine lv_iload hx hb dL_isSound_232 (lv_at hl 0 rfl) ?_
                                      refine lv_if_ne (tgt := 244) hx hb dL_isSound_234 (by decide) (fun c100 => ?_) (fun c100 => ?_)
                                      · refine lv_iinc (v := nI (j + 1)) (lv' := [(3, .int (nI (j + 1))), (5, .int st), (4, .int cd), (0, .ref (q 0)), (1, .ref o), (2, .int (nI i))]) hx hb dL_isSound_244 hl (k := 5) rfl (nI_1 j) (by decide) rfl (fun ls hl => ?_)
                                        refine lv_goto (tgt := 89) hx hb dL_isSound_247 (by decide) ?_
                                        exact ih5 (j + 1) M1 (by omega) (by omega) (by omega) (⟨hrr, hM1, hP4, e3.trans hrn⟩) (by rw [e1]; exact hz) _ _ (by omega) (by omega) _ _ hP hD hS ls (lv_sub hl [3, 4, 5, 0] rfl)
                                      · refine lv_iload hx hb dL_isSound_237 (lv_at hl 1 rfl) ?_
                                        refine lv_if_eq (tgt := 244) hx hb dL_isSound_239 (by decide) (fun c101 => ?_) (fun c101 => ?_)
                                        · refine lv_iinc (v := nI (j + 1)) (lv' := [(3, .int (nI (j + 1))), (5, .int st), (4, .int cd), (0, .ref (q 0)), (1, .ref o), (2, .int (nI i))]) hx hb dL_isSound_244 hl (k := 5) rfl (nI_1 j) (by decide) rfl (fun ls hl => ?_)
                                          refine lv_goto (tgt := 89) hx hb dL_isSound_247 (by decide) ?_
                                          exact ih5 (j + 1) M1 (by omega) (by omega) (by omega) (⟨hrr, hM1, hP4, e3.trans hrn⟩) (by rw [e1]; exact hz) _ _ (by omega) (by omega) _ _ hP hD hS ls (lv_sub hl [3, 4, 5, 0] rfl)
                                        · refine lv_iconst (v := 0) hx hb dL_isSound_242 (by decide) ?_
                                          exact ly_ri hx hb hr hlk hP hD hS rfl (False.elim (c101 (hsd.2.2.2.2 c100))) (by omega) (by omega) dL_isSound_243
                                    · refine lv_iload hx hb dL_isSound_226 (lv_at hl 0 rfl) ?_
                                      refine lv_iconst (v := 1) hx hb dL_isSound_228 (by decide) ?_
                                      refine lv_icmp_eq (tgt := 242) hx hb dL_isSound_229 (by decide) (fun c102 => ?_) (fun c102 => absurd c80 c102)
                                      refine lv_iconst (v := 0) hx hb dL_isSound_242 (by decide) ?_
                                      exact ly_ri hx hb hr hlk hP hD hS rfl (False.elim (hsd.2.2.2.1 c99 c80)) (by omega) (by omega) dL_isSound_243
                                  · refine lv_iload hx hb dL_isSound_214 (lv_at hl 0 rfl) ?_
                                    refine lv_iconst (v := 2) hx hb dL_isSound_216 (by decide) ?_
                                    refine lv_icmp_ne (tgt := 242) hx hb dL_isSound_217 (by decide) (fun c103 => ?_) (fun c103 => ?_)
                                    · refine lv_iconst (v := 0) hx hb dL_isSound_242 (by decide) ?_
                                      exact ly_ri hx hb hr hlk hP hD hS rfl (False.elim (c103 (hsd.2.2.1 c98))) (by omega) (by omega) dL_isSound_243
                                    · refine lv_iload hx hb dL_isSound_220 (lv_at hl 1 rfl) ?_
                                      refine lv_iconst (v := 2) hx hb dL_isSound_222 (by decide) ?_
                                      refine lv_icmp_ne (tgt := 232) hx hb dL_isSound_223 (by decide) (fun c104 => ?_) (fun c104 => ?_)
                                      · refine lv_iload hx hb dL_isSound_232 (lv_at hl 0 rfl) ?_
                                        refine lv_if_ne (tgt := 244) hx hb dL_isSound_234 (by decide) (fun c105 => ?_) (fun c105 => ?_)
                                        · refine lv_iinc (v := nI (j + 1)) (lv' := [(3, .int (nI (j + 1))), (5, .int st), (4, .int cd), (0, .ref (q 0)), (1, .ref o), (2, .int (nI i))]) hx hb dL_isSound_244 hl (k := 5) rfl (nI_1 j) (by decide) rfl (fun ls hl => ?_)
                                          refine lv_goto (tgt := 89) hx hb dL_isSound_247 (by decide) ?_
                                          exact ih5 (j + 1) M1 (by omega) (by omega) (by omega) (⟨hrr, hM1, hP4, e3.trans hrn⟩) (by rw [e1]; exact hz) _ _ (by omega) (by omega) _ _ hP hD hS ls (lv_sub hl [3, 4, 5, 0] rfl)
                                        · refine lv_iload hx hb dL_isSound_237 (lv_at hl 1 rfl) ?_
                                          refine lv_if_eq (tgt := 244) hx hb dL_isSound_239 (by decide) (fun c106 => ?_) (fun c106 => ?_)
                                          · refine lv_iinc (v := nI (j + 1)) (lv' := [(3, .int (nI (j + 1))), (5, .int st), (4, .int cd), (0, .ref (q 0)), (1, .ref o), (2, .int (nI i))]) hx hb dL_isSound_244 hl (k := 5) rfl (nI_1 j) (by decide) rfl (fun ls hl => ?_)
                                            refine lv_goto (tgt := 89) hx hb dL_isSound_247 (by decide) ?_
                                            exact ih5 (j + 1) M1 (by omega) (by omega) (by omega) (⟨hrr, hM1, hP4, e3.trans hrn⟩) (by rw [e1]; exact hz) _ _ (by omega) (by omega) _ _ hP hD hS ls (lv_sub hl [3, 4, 5, 0] rfl)
                                          · refine lv_iconst (v := 0) hx hb dL_isSound_242 (by decide) ?_
                                            exact ly_ri hx hb hr hlk hP hD hS rfl (False.elim (c106 (hsd.2.2.2.2 c105))) (by omega) (by omega) dL_isSound_243
                                      · refine lv_iload hx hb dL_isSound_226 (lv_at hl 0 rfl) ?_
                                        refine lv_iconst (v := 1) hx hb dL_isSound_228 (by decide) ?_
                                        refine lv_icmp_eq (tgt := 242) hx hb dL_isSound_229 (by decide) (fun c107 => ?_) (fun c107 => absurd c80 c107)
                                        refine lv_iconst (v := 0) hx hb dL_isSound_242 (by decide) ?_
                                        exact ly_ri hx hb hr hlk hP hD hS rfl (False.elim (hsd.2.2.2.1 c104 c80)) (by omega) (by omega) dL_isSound_243
                                · refine lv_iconst (v := 1) hx hb dL_isSound_200 (by decide) ?_
                                  refine lv_goto (tgt := 205) hx hb dL_isSound_201 (by decide) ?_
                                  refine lv_icmp_ne (tgt := 242) hx hb dL_isSound_205 (by decide) (fun c108 => ?_) (fun c108 => absurd c108 (by decide))
                                  refine lv_iconst (v := 0) hx hb dL_isSound_242 (by decide) ?_
                                  exact ly_ri hx hb hr hlk hP hD hS rfl (False.elim (c79 (hsd.2.1.mpr ⟨c80, Int32.not_lt.mp c96⟩))) (by omega) (by omega) dL_isSound_243
                            · refine lv_iconst (v := 1) hx hb dL_isSound_180 (by decide) ?_
                              refine lv_goto (tgt := 185) hx hb dL_isSound_181 (by decide) ?_
                              refine lv_iload hx hb dL_isSound_185 (lv_at hl 0 rfl) ?_
                              refine lv_iconst (v := 1) hx hb dL_isSound_187 (by decide) ?_
                              refine lv_icmp_ne (tgt := 204) hx hb dL_isSound_188 (by decide) (fun c109 => ?_) (fun c109 => ?_)
                              · refine lv_iconst (v := 0) hx hb dL_isSound_204 (by decide) ?_
                                refine lv_icmp_ne (tgt := 242) hx hb dL_isSound_205 (by decide) (fun c110 => ?_) (fun c110 => absurd c110 (by decide))
                                refine lv_iconst (v := 0) hx hb dL_isSound_242 (by decide) ?_
                                exact ly_ri hx hb hr hlk hP hD hS rfl (False.elim (c109 (hsd.2.1.mp c79).1)) (by omega) (by omega) dL_isSound_243
                              · refine lv_aload_n hx hb dL_isSound_191 rfl (lv_at hl 2 rfl) ?_
                                refine lv_iload_n hx hb dL_isSound_192 rfl (lv_at hl 4 rfl) ?_
                                refine lv_iload_n hx hb dL_isSound_193 rfl (lv_at hl 5 rfl) ?_
                                refine ly_v (As := [.int (nI i), .int (nI j)]) (rest := [.int 1]) hx hb hml hown hts (m_inTheWay (l := l) (G := G) (k := k) (q := q) (M := M1) (L := i) (p := j) hM1 hP4 (by omega) (by omega) hkd) 2 (sxGV (bi14 (w := Cond.methodLink RL 150 yX9_inTheWay) 34 rfl) (bi12 (w := Cond.instanceMethod yX9_inTheWay) 21 rfl) (bi12 (w := Cond.selects RX9 yX9_inTheWay yX9_inTheWay) 22 rfl) (bi1 (w := Cond.initialized RX9) 58 rfl) (bi10 (w := Cond.code yX9_inTheWay cX9_inTheWay 3 (some .int)) 53 rfl)) rfl (by decide +kernel) ⟨Nat.le_of_ble_eq_true rfl, Nat.le_of_ble_eq_true rfl⟩ hK hP hD hS hA hE [0] [1, 2, 3, 4, 5, 6] rfl rfl (by show List.Perm _ (List.range 7); decide) 0 0 rfl rfl rfl rfl hl rfl (Nat.le_of_ble_eq_true rfl) ⟨by show _ ≤ 32; omega, by show _ ≤ 64; omega⟩ dL_isSound_194 (fun B1 v1 hp1 H locs hP hD hS => ?_)
                                obtain ⟨rfl, rfl⟩ := hp1
                                obtain ⟨wy, hwy⟩ : ∃ x : Int32, x = s_X0_smallestLoan (qk_lc M1.2.1) (qk_yp M1.2.1) (qk_ye M1.2.1) 8 (qk_cd M1.2.1) (nI i) (nI j) (s_X0_wantedAt n (qk_cn M1.2.1) (nI i)) 0 := ⟨_, rfl⟩
                                rw [← hwy]
                                rw [← hwy] at hsd
                                show W p l e _ s m args below meth c H locs _ _ _ (F0 m 197 ls [.int wy, .int 1])
                                have hP : va_P G.1 vwCl (lxF [mlW G q M1, [(o, .inr (10, [.ref ok, .ref ol, .ref na]))], [(ok, .inl (G.2.1, 8, .inl fk))], [(ol, lxq k n rr)], lrB G r fs fa fb n, [(na, lxq k (n + 1) nf)], nxB G nr nl nc (n + 1)]) H := hP
                                have hD : va_D A (lxF [mlW G q M1, [(o, .inr (10, [.ref ok, .ref ol, .ref na]))], [(ok, .inl (G.2.1, 8, .inl fk))], [(ol, lxq k n rr)], lrB G r fs fa fb n, [(na, lxq k (n + 1) nf)], nxB G nr nl nc (n + 1)]) := hD
                                refine lv_if_lt (tgt := 204) hx hb dL_isSound_197 (by decide) (fun c111 => ?_) (fun c111 => ?_)
                                · refine lv_iconst (v := 0) hx hb dL_isSound_204 (by decide) ?_
                                  refine lv_icmp_ne (tgt := 242) hx hb dL_isSound_205 (by decide) (fun c112 => ?_) (fun c112 => absurd c112 (by decide))
                                  refine lv_iconst (v := 0) hx hb dL_isSound_242 (by decide) ?_
                                  exact ly_ri hx hb hr hlk hP hD hS rfl (False.elim (Int32.not_le.mpr c111 (hsd.2.1.mp c79).2)) (by omega) (by omega) dL_isSound_243
                                · refine lv_iconst (v := 1) hx hb dL_isSound_200 (by decide) ?_
                                  refine lv_goto (tgt := 205) hx hb dL_isSound_201 (by decide) ?_
                                  refine lv_icmp_ne (tgt := 242) hx hb dL_isSound_205 (by decide) (fun c113 => absurd c113 (by decide)) (fun c113 => ?_)
                                  refine lv_iload hx hb dL_isSound_208 (lv_at hl 1 rfl) ?_
                                  refine lv_iconst (v := 1) hx hb dL_isSound_210 (by decide) ?_
                                  refine lv_icmp_ne (tgt := 220) hx hb dL_isSound_211 (by decide) (fun c114 => ?_) (fun c114 => ?_)
                                  · refine lv_iload hx hb dL_isSound_220 (lv_at hl 1 rfl) ?_
                                    refine lv_iconst (v := 2) hx hb dL_isSound_222 (by decide) ?_
                                    refine lv_icmp_ne (tgt := 232) hx hb dL_isSound_223 (by decide) (fun c115 => ?_) (fun c115 => ?_)
                                    · refine lv_iload hx hb dL_isSound_232 (lv_at hl 0 rfl) ?_
                                      refine lv_if_ne (tgt := 244) hx hb dL_isSound_234 (by decide) (fun c116 => ?_) (fun c116 => ?_)
                                      · refine lv_iinc (v := nI (j + 1)) (lv' := [(3, .int (nI (j + 1))), (5, .int st), (4, .int cd), (0, .ref (q 0)), (1, .ref o), (2, .int (nI i))]) hx hb dL_isSound_244 hl (k := 5) rfl (nI_1 j) (by decide) rfl (fun ls hl => ?_)
                                        refine lv_goto (tgt := 89) hx hb dL_isSound_247 (by decide) ?_
                                        exact ih5 (j + 1) M1 (by omega) (by omega) (by omega) (⟨hrr, hM1, hP4, e3.trans hrn⟩) (by rw [e1]; exact hz) _ _ (by omega) (by omega) _ _ hP hD hS ls (lv_sub hl [3, 4, 5, 0] rfl)
                                      · refine lv_iload hx hb dL_isSound_237 (lv_at hl 1 rfl) ?_
                                        refine lv_if_eq (tgt := 244) hx hb dL_isSound_239 (by decide) (fun c117 => ?_) (fun c117 => ?_)
                                        · refine lv_iinc (v := nI (j + 1)) (lv' := [(3, .int (nI (j + 1))), (5, .int st), (4, .int cd), (0, .ref (q 0)), (1, .ref o), (2, .int (nI i))]) hx hb dL_isSound_244 hl (k := 5) rfl (nI_1 j) (by decide) rfl (fun ls hl => ?_)
                                          refine lv_goto (tgt := 89) hx hb dL_isSound_247 (by decide) ?_
                                          exact ih5 (j + 1) M1 (by omega) (by omega) (by omega) (⟨hrr, hM1, hP4, e3.trans hrn⟩) (by rw [e1]; exact hz) _ _ (by omega) (by omega) _ _ hP hD hS ls (lv_sub hl [3, 4, 5, 0] rfl)
                                        · refine lv_iconst (v := 0) hx hb dL_isSound_242 (by decide) ?_
                                          exact ly_ri hx hb hr hlk hP hD hS rfl (False.elim (c117 (hsd.2.2.2.2 c116))) (by omega) (by omega) dL_isSound_243
                                    · refine lv_iload hx hb dL_isSound_226 (lv_at hl 0 rfl) ?_
                                      refine lv_iconst (v := 1) hx hb dL_isSound_228 (by decide) ?_
                                      refine lv_icmp_eq (tgt := 242) hx hb dL_isSound_229 (by decide) (fun c118 => ?_) (fun c118 => absurd c109 c118)
                                      refine lv_iconst (v := 0) hx hb dL_isSound_242 (by decide) ?_
                                      exact ly_ri hx hb hr hlk hP hD hS rfl (False.elim (hsd.2.2.2.1 c115 c109)) (by omega) (by omega) dL_isSound_243
                                  · refine lv_iload hx hb dL_isSound_214 (lv_at hl 0 rfl) ?_
                                    refine lv_iconst (v := 2) hx hb dL_isSound_216 (by decide) ?_
                                    refine lv_icmp_ne (tgt := 242) hx hb dL_isSound_217 (by decide) (fun c119 => ?_) (fun c119 => ?_)
                                    · refine lv_iconst (v := 0) hx hb dL_isSound_242 (by decide) ?_
                                      exact ly_ri hx hb hr hlk hP hD hS rfl (False.elim (c119 (hsd.2.2.1 c114))) (by omega) (by omega) dL_isSound_243
                                    · refine lv_iload hx hb dL_isSound_220 (lv_at hl 1 rfl) ?_
                                      refine lv_iconst (v := 2) hx hb dL_isSound_222 (by decide) ?_
                                      refine lv_icmp_ne (tgt := 232) hx hb dL_isSound_223 (by decide) (fun c120 => ?_) (fun c120 => ?_)
                                      · refine lv_iload hx hb dL_isSound_232 (lv_at hl 0 rfl) ?_
                                        refine lv_if_ne (tgt := 244) hx hb dL_isSound_234 (by decide) (fun c121 => ?_) (fun c121 => ?_)
                                        · refine lv_iinc (v := nI (j + 1)) (lv' := [(3, .int (nI (j + 1))), (5, .int st), (4, .int cd), (0, .ref (q 0)), (1, .ref o), (2, .int (nI i))]) hx hb dL_isSound_244 hl (k := 5) rfl (nI_1 j) (by decide) rfl (fun ls hl => ?_)
                                          refine lv_goto (tgt := 89) hx hb dL_isSound_247 (by decide) ?_
                                          exact ih5 (j + 1) M1 (by omega) (by omega) (by omega) (⟨hrr, hM1, hP4, e3.trans hrn⟩) (by rw [e1]; exact hz) _ _ (by omega) (by omega) _ _ hP hD hS ls (lv_sub hl [3, 4, 5, 0] rfl)
                                        · refine lv_iload hx hb dL_isSound_237 (lv_at hl 1 rfl) ?_
                                          refine lv_if_eq (tgt := 244) hx hb dL_isSound_239 (by decide) (fun c122 => ?_) (fun c122 => ?_)
                                          · refine lv_iinc (v := nI (j + 1)) (lv' := [(3, .int (nI (j + 1))), (5, .int st), (4, .int cd), (0, .ref (q 0)), (1, .ref o), (2, .int (nI i))]) hx hb dL_isSound_244 hl (k := 5) rfl (nI_1 j) (by decide) rfl (fun ls hl => ?_)
                                            refine lv_goto (tgt := 89) hx hb dL_isSound_247 (by decide) ?_
                                            exact ih5 (j + 1) M1 (by omega) (by omega) (by omega) (⟨hrr, hM1, hP4, e3.trans hrn⟩) (by rw [e1]; exact hz) _ _ (by omega) (by omega) _ _ hP hD hS ls (lv_sub hl [3, 4, 5, 0] rfl)
                                          · refine lv_iconst (v := 0) hx hb dL_isSound_242 (by decide) ?_
                                            exact ly_ri hx hb hr hlk hP hD hS rfl (False.elim (c122 (hsd.2.2.2.2 c121))) (by omega) (by omega) dL_isSound_243
                                      · refine lv_iload hx hb dL_isSound_226 (lv_at hl 0 rfl) ?_
                                        refine lv_iconst (v := 1) hx hb dL_isSound_228 (by decide) ?_
                                        refine lv_icmp_eq (tgt := 242) hx hb dL_isSound_229 (by decide) (fun c123 => ?_) (fun c123 => absurd c109 c123)
                                        refine lv_iconst (v := 0) hx hb dL_isSound_242 (by decide) ?_
                                        exact ly_ri hx hb hr hlk hP hD hS rfl (False.elim (hsd.2.2.2.1 c120 c109)) (by omega) (by omega) dL_isSound_243
                        · refine lv_goto (tgt := 244) hx hb dL_isSound_125 (by decide) ?_
                          refine lv_iinc (v := nI (j + 1)) (lv' := [(3, .int (nI (j + 1))), (0, .ref (q 0)), (1, .ref o), (2, .int (nI i))]) hx hb dL_isSound_244 hl (k := 3) rfl (nI_1 j) (by decide) rfl (fun ls hl => ?_)
                          refine lv_goto (tgt := 89) hx hb dL_isSound_247 (by decide) ?_
                          exact ih5 (j + 1) M (by omega) (by omega) (by omega) (hI) (hz) _ _ (by omega) (by omega) _ _ hP hD hS ls (lv_sub hl [1, 2, 3, 0] rfl)
              exact LP89_5 7 6 M (by omega) (by omega) (by omega) (hI) (hz) _ _ (by omega) (by omega) _ _ hP hD hS ls (lv_sub hl [1, 2, 3, 0] rfl)
        exact LP77_3 34 0 M (by omega) (Nat.zero_le _) (hI) (hz) _ _ (by omega) (by omega) _ _ hP hD hS ls (lv_sub hl [1, 2, 0] rfl)
      · have nc2 := (not_congr (nI_leI (a := n) (b := i) (by omega) (by omega))).mp c2
        refine lv_aload_n hx hb dL_isSound_11 rfl (lv_at hl 0 rfl) ?_
        refine lv_iload_n hx hb dL_isSound_12 rfl (lv_at hl 2 rfl) ?_
        refine lv_iconst (v := 5) hx hb dL_isSound_13 (by decide) ?_
        refine ly_v (As := [.int (nI i), .int 5]) (rest := []) hx hb hml hown hts (m_dead (l := l) (G := G) (k := k) (q := q) hM hP4 (by omega) hwr) 2 (sxGV (bi14 (w := Cond.methodLink RL 132 yX9_ofLine) 21 rfl) (bi12 (w := Cond.instanceMethod yX9_ofLine) 15 rfl) (bi12 (w := Cond.selects RX9 yX9_ofLine yX9_ofLine) 16 rfl) (bi1 (w := Cond.initialized RX9) 58 rfl) (bi10 (w := Cond.code yX9_ofLine cX9_ofLine 3 (some .int)) 38 rfl)) rfl (by decide +kernel) ⟨Nat.le_of_ble_eq_true rfl, Nat.le_of_ble_eq_true rfl⟩ hK hP hD hS hA hE [0] [1, 2, 3, 4, 5, 6] rfl rfl (by show List.Perm _ (List.range 7); decide) 0 0 rfl rfl rfl rfl hl rfl (Nat.le_of_ble_eq_true rfl) ⟨by show _ ≤ 32; omega, by show _ ≤ 64; omega⟩ dL_isSound_14 (fun B1 v1 hp1 H locs hP hD hS => ?_)
        obtain ⟨rfl, rfl⟩ := hp1
        show W p l e _ s m args below meth c H locs _ _ _ (F0 m 17 ls [.int (if qk_cr M.2.1 i = 0 then 1 else 0)])
        have hP : va_P G.1 vwCl (lxF [mlW G q M, [(o, .inr (10, [.ref ok, .ref ol, .ref na]))], [(ok, .inl (G.2.1, 8, .inl fk))], [(ol, lxq k n rr)], lrB G r fs fa fb n, [(na, lxq k (n + 1) nf)], nxB G nr nl nc (n + 1)]) H := hP
        have hD : va_D A (lxF [mlW G q M, [(o, .inr (10, [.ref ok, .ref ol, .ref na]))], [(ok, .inl (G.2.1, 8, .inl fk))], [(ol, lxq k n rr)], lrB G r fs fa fb n, [(na, lxq k (n + 1) nf)], nxB G nr nl nc (n + 1)]) := hD
        refine lv_iconst (v := 1) hx hb dL_isSound_17 (by decide) ?_
        refine lv_icmp_ne (tgt := 24) hx hb dL_isSound_18 (by decide) (fun c124 => ?_) (fun c124 => ?_)
        · have hr1 : ¬ qk_cr M.2.1 i = 0 := fun z => c124 (if_pos z)
          refine lv_aload_n hx hb dL_isSound_24 rfl (lv_at hl 1 rfl) ?_
          refine lv_iload_n hx hb dL_isSound_25 rfl (lv_at hl 2 rfl) ?_
          obtain ⟨t1, ht1, et1⟩ := ls_sort (hP4.2.2.1 i (by omega))
          refine ly_v (As := [.int (nI i)]) (rest := []) hx hb hml hown hts (t_X10_uses2 l G k o ok ol na n rr r fs fa fb i t1 hn hrr (by omega) ht1 et1) 1 (sxGV (bi14 (w := Cond.methodLink RL 135 yX10_uses) 22 rfl) (bi14 (w := Cond.instanceMethod yX10_uses) 23 rfl) (bi14 (w := Cond.selects RX10 yX10_uses yX10_uses) 24 rfl) (bi13 (w := Cond.initialized RX10) 21 rfl) (bi13 (w := Cond.code yX10_uses cX10_uses 5 (some (.array .int))) 22 rfl)) rfl (by decide +kernel) ⟨Nat.le_of_ble_eq_true rfl, Nat.le_of_ble_eq_true rfl⟩ hK hP hD hS hA hE [1, 3, 4] [0, 2, 5, 6] rfl rfl (by show List.Perm _ (List.range 7); decide) 0 0 rfl rfl rfl rfl hl rfl (Nat.le_of_ble_eq_true rfl) ⟨by show _ ≤ 32; omega, by show _ ≤ 64; omega⟩ dL_isSound_26 (fun B1 v1 hp1 H locs hP hD hS => ?_)
          obtain ⟨u1, m1, g1, rfl, rfl, hm2, hg1⟩ := hp1
          show W p l e _ s m args below meth c H locs _ _ _ (F0 m 29 ls [.ref u1])
          have hP : va_P G.1 vwCl (lxF [[(o, .inr (10, [.ref ok, .ref ol, .ref na]))], [(ol, lxq k n rr)], lrB G r fs fa fb n, [(u1, .inl (G.2.1, m1, .inl g1))], mlW G q M, [(ok, .inl (G.2.1, 8, .inl fk))], [(na, lxq k (n + 1) nf)], nxB G nr nl nc (n + 1)]) H := hP
          have hD : va_D A (lxF [[(o, .inr (10, [.ref ok, .ref ol, .ref na]))], [(ol, lxq k n rr)], lrB G r fs fa fb n, [(u1, .inl (G.2.1, m1, .inl g1))], mlW G q M, [(ok, .inl (G.2.1, 8, .inl fk))], [(na, lxq k (n + 1) nf)], nxB G nr nl nc (n + 1)]) := hD
          obtain ⟨hP, hD⟩ := lb_sub (Cs := [mlW G q M, [(o, .inr (10, [.ref ok, .ref ol, .ref na]))], [(ok, .inl (G.2.1, 8, .inl fk))], [(ol, lxq k n rr)], lrB G r fs fa fb n, [(na, lxq k (n + 1) nf)], nxB G nr nl nc (n + 1), [(u1, .inl (G.2.1, m1, .inl g1))]]) [4, 0, 5, 1, 2, 6, 7, 3] [] hP hD rfl (by show List.Perm _ (List.range 8); decide)
          refine lv_astore_n (lv' := [(3, .ref u1), (0, .ref (q 0)), (1, .ref o), (2, .int (nI i))]) hx hb dL_isSound_29 rfl hl (by decide) rfl (fun ls hl => ?_)
          refine lv_aload_n hx hb dL_isSound_30 rfl (lv_at hl 0 rfl) ?_
          refine lb_alen (v := nI m1) hx hb hK hP 7 0 rfl rfl rfl dL_isSound_31 ?_
          refine lv_istore (lv' := [(4, .int (nI m1)), (3, .ref u1), (0, .ref (q 0)), (1, .ref o), (2, .int (nI i))]) hx hb dL_isSound_32 hl (by decide) rfl (fun ls hl => ?_)
          refine lv_iconst (v := 0) hx hb dL_isSound_34 (by decide) ?_
          refine lv_istore (lv' := [(5, .int 0), (4, .int (nI m1)), (3, .ref u1), (0, .ref (q 0)), (1, .ref o), (2, .int (nI i))]) hx hb dL_isSound_35 hl (by decide) rfl (fun ls hl => ?_)
          have LP37_125 : ∀ (kk125 : Nat) (j : Nat), m1 - j < kk125 → (j ≤ m1) → ∀ cells slots : Nat, cells ≤ i + 1 → slots ≤ 2 * i + 2 → ∀ (H : Heap) (locs : List Loc), va_P G.1 vwCl (lxF [mlW G q M, [(o, .inr (10, [.ref ok, .ref ol, .ref na]))], [(ok, .inl (G.2.1, 8, .inl fk))], [(ol, lxq k n rr)], lrB G r fs fa fb n, [(na, lxq k (n + 1) nf)], nxB G nr nl nc (n + 1), [(u1, .inl (G.2.1, m1, .inl g1))]]) H → va_D A (lxF [mlW G q M, [(o, .inr (10, [.ref ok, .ref ol, .ref na]))], [(ok, .inl (G.2.1, 8, .inl fk))], [(ol, lxq k n rr)], lrB G r fs fa fb n, [(na, lxq k (n + 1) nf)], nxB G nr nl nc (n + 1), [(u1, .inl (G.2.1, m1, .inl g1))]]) → va_S A s.heap H locs → ∀ ls : Array Slot, lv_has ls 7 [(0, .ref (q 0)), (1, .ref o), (2, .int (nI i)), (3, .ref u1), (4, .int (nI m1)), (5, .int (nI j))] → W p l e ({ frames := 6, cells := 32, slots := 64, locals := 144 } : Room) s m args below meth c H locs cells slots (lyZ 32 64 G args s below A (fun B v => v = some (.int 1) ∧ ∃ M1 : mlS, B = [mlW G q M1, [(o, .inr (10, [.ref ok, .ref ol, .ref na]))], [(ok, .inl (G.2.1, 8, .inl fk))], [(ol, lxq k n rr)], lrB G r fs fa fb n, [(na, lxq k (n + 1) nf)], nxB G nr nl nc (n + 1)] ∧ lsI fk n rr r fs fa fb M1 rn ∧ qk_fc M1.2.1 = 0)) (F0 m 37 ls []) := by
            intro kk125
            induction kk125 with
            | zero =>
              intro j hm
              exact absurd hm (Nat.not_lt_zero _)
            | succ kk125 ih125 =>
              intro j hm125 hj cells slots hcc125 hss125 H locs hP hD hS ls hl
              refine lv_iload hx hb dL_isSound_37 (lv_at hl 5 rfl) ?_
              refine lv_iload hx hb dL_isSound_39 (lv_at hl 4 rfl) ?_
              refine lv_icmp_ge (tgt := 69) hx hb dL_isSound_41 (by decide) (fun c126 => ?_) (fun c126 => ?_)
              · have nc126 := (nI_leI (a := m1) (b := j) (by omega) (by omega)).mp c126
                obtain ⟨hP, hD⟩ := lb_sub (Cs := [mlW G q M, [(o, .inr (10, [.ref ok, .ref ol, .ref na]))], [(ok, .inl (G.2.1, 8, .inl fk))], [(ol, lxq k n rr)], lrB G r fs fa fb n, [(na, lxq k (n + 1) nf)], nxB G nr nl nc (n + 1)]) [0, 1, 2, 3, 4, 5, 6] [7] hP hD rfl (by show List.Perm _ (List.range 8); decide)
                have hP : va_P G.1 vwCl (lxF [mlW G q M, [(o, .inr (10, [.ref ok, .ref ol, .ref na]))], [(ok, .inl (G.2.1, 8, .inl fk))], [(ol, lxq k n rr)], lrB G r fs fa fb n, [(na, lxq k (n + 1) nf)], nxB G nr nl nc (n + 1)]) H := hP
                have hD : va_D A (lxF [mlW G q M, [(o, .inr (10, [.ref ok, .ref ol, .ref na]))], [(ok, .inl (G.2.1, 8, .inl fk))], [(ol, lxq k n rr)], lrB G r fs fa fb n, [(na, lxq k (n + 1) nf)], nxB G nr nl nc (n + 1)]) := hD
                refine lv_iinc (v := nI (i + 1)) (lv' := [(2, .int (nI (i + 1))), (0, .ref (q 0)), (1, .ref o), (3, .ref u1), (4, .int (nI m1)), (5, .int (nI j))]) hx hb dL_isSound_69 hl (k := 2) rfl (nI_1 i) (by decide) rfl (fun ls hl => ?_)
                refine lv_goto (tgt := 2) hx hb dL_isSound_72 (by decide) ?_
                exact ih1 (i + 1) (by omega) (by omega) _ _ (by omega) (by omega) _ _ hP hD hS ls (lv_sub hl [1, 2, 0] rfl)
              · have nc126 := (not_congr (nI_leI (a := m1) (b := j) (by omega) (by omega))).mp c126
                refine lv_aload_n hx hb dL_isSound_44 rfl (lv_at hl 3 rfl) ?_
                refine lv_iload hx hb dL_isSound_45 (lv_at hl 5 rfl) ?_
                obtain ⟨p1, hp24, ep1, hkd, hst⟩ := ls_used hKK hM.2.1 hw hn (show i < n by omega) (hP4.2.2.1 i (by omega)) hr1 (hbd i (by omega)) (hg1 j (by omega))
                refine lb_iald (v := nI p1) hx hb hK hP 7 0 rfl rfl (i := nI j) (vp_in_nI (n := j) (by omega) (by omega)) ((congrArg _ (nI_clamp (by omega))).trans ep1) dL_isSound_47 ?_
                refine lv_istore (lv' := [(6, .int (nI p1)), (0, .ref (q 0)), (1, .ref o), (2, .int (nI i)), (3, .ref u1), (4, .int (nI m1)), (5, .int (nI j))]) hx hb dL_isSound_48 hl (by decide) rfl (fun ls hl => ?_)
                refine lv_aload_n hx hb dL_isSound_50 rfl (lv_at hl 1 rfl) ?_
                refine lv_iload_n hx hb dL_isSound_51 rfl (lv_at hl 3 rfl) ?_
                refine lv_iload hx hb dL_isSound_52 (lv_at hl 0 rfl) ?_
                refine ly_v (As := [.int (nI i), .int (nI p1)]) (rest := []) hx hb hml hown hts (m_state (l := l) (G := G) (k := k) (q := q) hM hP4 (by omega) hp24 hkd) 2 (sxGV (bi14 (w := Cond.methodLink RL 139 yX9_state) 25 rfl) (bi12 (w := Cond.instanceMethod yX9_state) 18 rfl) (bi12 (w := Cond.selects RX9 yX9_state yX9_state) 19 rfl) (bi1 (w := Cond.initialized RX9) 58 rfl) (bi10 (w := Cond.code yX9_state cX9_state 3 (some .int)) 44 rfl)) rfl (by decide +kernel) ⟨Nat.le_of_ble_eq_true rfl, Nat.le_of_ble_eq_true rfl⟩ hK hP hD hS hA hE [0] [1, 2, 3, 4, 5, 6, 7] rfl rfl (by show List.Perm _ (List.range 8); decide) 0 0 rfl rfl rfl rfl hl rfl (Nat.le_of_ble_eq_true rfl) ⟨by show _ ≤ 32; omega, by show _ ≤ 64; omega⟩ dL_isSound_54 (fun B1 v1 hp1 H locs hP hD hS => ?_)
                obtain ⟨rfl, rfl⟩ := hp1
                rw [hst]
                show W p l e _ s m args below meth c H locs _ _ _ (F0 m 57 ls [.int 1])
                have hP : va_P G.1 vwCl (lxF [mlW G q M, [(o, .inr (10, [.ref ok, .ref ol, .ref na]))], [(ok, .inl (G.2.1, 8, .inl fk))], [(ol, lxq k n rr)], lrB G r fs fa fb n, [(na, lxq k (n + 1) nf)], nxB G nr nl nc (n + 1), [(u1, .inl (G.2.1, m1, .inl g1))]]) H := hP
                have hD : va_D A (lxF [mlW G q M, [(o, .inr (10, [.ref ok, .ref ol, .ref na]))], [(ok, .inl (G.2.1, 8, .inl fk))], [(ol, lxq k n rr)], lrB G r fs fa fb n, [(na, lxq k (n + 1) nf)], nxB G nr nl nc (n + 1), [(u1, .inl (G.2.1, m1, .inl g1))]]) := hD
                refine lv_iconst (v := 1) hx hb dL_isSound_57 (by decide) ?_
                refine lv_icmp_eq (tgt := 63) hx hb dL_isSound_58 (by decide) (fun c127 => ?_) (fun c127 => absurd c127 (by decide))
                refine lv_iinc (v := nI (j + 1)) (lv' := [(5, .int (nI (j + 1))), (6, .int (nI p1)), (0, .ref (q 0)), (1, .ref o), (2, .int (nI i)), (3, .ref u1), (4, .int (nI m1))]) hx hb dL_isSound_63 hl (k := 6) rfl (nI_1 j) (by decide) rfl (fun ls hl => ?_)
                refine lv_goto (tgt := 37) hx hb dL_isSound_66 (by decide) ?_
                exact ih125 (j + 1) (by omega) (by omega) _ _ (by omega) (by omega) _ _ hP hD hS ls (lv_sub hl [2, 3, 4, 5, 6, 0] rfl)
          exact LP37_125 3 0 (by omega) (Nat.zero_le _) _ _ (by omega) (by omega) _ _ hP hD hS ls (lv_sub hl [3, 4, 5, 2, 1, 0] rfl)
        · refine lv_goto (tgt := 69) hx hb dL_isSound_21 (by decide) ?_
          have hP : va_P G.1 vwCl (lxF [mlW G q M, [(o, .inr (10, [.ref ok, .ref ol, .ref na]))], [(ok, .inl (G.2.1, 8, .inl fk))], [(ol, lxq k n rr)], lrB G r fs fa fb n, [(na, lxq k (n + 1) nf)], nxB G nr nl nc (n + 1)]) H := hP
          have hD : va_D A (lxF [mlW G q M, [(o, .inr (10, [.ref ok, .ref ol, .ref na]))], [(ok, .inl (G.2.1, 8, .inl fk))], [(ol, lxq k n rr)], lrB G r fs fa fb n, [(na, lxq k (n + 1) nf)], nxB G nr nl nc (n + 1)]) := hD
          refine lv_iinc (v := nI (i + 1)) (lv' := [(2, .int (nI (i + 1))), (0, .ref (q 0)), (1, .ref o)]) hx hb dL_isSound_69 hl (k := 2) rfl (nI_1 i) (by decide) rfl (fun ls hl => ?_)
          refine lv_goto (tgt := 2) hx hb dL_isSound_72 (by decide) ?_
          exact ih1 (i + 1) (by omega) (by omega) _ _ (by omega) (by omega) _ _ hP hD hS ls (lv_sub hl [1, 2, 0] rfl)
  exact LP2_1 33 0 (by omega) (Nat.zero_le _) _ _ (by omega) (by omega) _ _ hP hD hS ls (lv_sub hl [1, 2, 0] rfl)
