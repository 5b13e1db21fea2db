set_option maxHeartbeats 4000000 in
set_option maxRecDepth 100000 in
theorem t_X10_uses2 (l : Launch) (G : sxG) (k : lxC) (o ok ol on : Nat) (n : Nat) (rr : Nat → Option Nat) (r : Nat → Nat) (fs fa fb : Nat → Int32) (i t : Nat) (hn : n ≤ 32) (hrr : ∀ i, i < n → rr i = some (r i)) (hi : i < n) (ht : t ≤ 16) (es : fs i = nI t) : lyM l yX10_uses wdX10_uses 0 0 1 2 G k [[(o, .inr (10, [.ref ok, .ref ol, .ref on]))], [(ol, lxq k n rr)], lrB G r fs fa fb n] [.ref o, .int (nI i)] (fun B v => ∃ (a m : Nat) (g : Nat → Int32), B = [[(o, .inr (10, [.ref ok, .ref ol, .ref on]))], [(ol, lxq k n rr)], lrB G r fs fa fb n, [(a, .inl (G.2.1, m, .inl g))]] ∧ v = some (.ref a) ∧ m ≤ 2 ∧ ∀ j, j < m → (g j = qd_u (fs i) (fa i) (fb i) ∧ ¬ fs i = 0 ∧ ¬ fs i = 9 ∧ ¬ fs i = 10 ∧ ¬ fs i = 11 ∧ ¬ fs i = 15) ∨ (fs i = 12 ∧ g j = fb i)) := by
  refine lyM.of (cc := cX10_uses) (maxL := 5) (rt := (some (.array .int))) (by decide) rfl (Nat.le_of_ble_eq_true rfl) ?_
  intro p e s m args below meth c ⟨hx, hb, hr, hml, hown, hlk, hts, hK⟩ hnm A hA hP hD hS hE ls hl
  have hl : lv_has ls 5 [(0, .ref o), (1, .int (nI i))] := hl
  refine lv_aload_n hx hb dX10_uses_0 rfl (lv_at hl 0 rfl) ?_
  refine lb_get (ci := 10) (v := .ref ol) (C := RX10) (T := TX10) (N := 3) hx hb hts owX10 hown hK hP 0 0 rfl rfl rfl 1 (by decide) (bw13 (w := Cond.fieldLink RX10 14 "DropflagMillLaw$Own" "lines" "[[I") hts 12 rfl) (fun _ h9 => h9) rfl dX10_uses_1 ?_
  refine lv_iload_n hx hb dX10_uses_4 rfl (lv_at hl 1 rfl) ?_
  refine lb_aald (v := .ref (r i)) hx hb hK hE hP 1 0 rfl rfl (i := nI i) (vp_in_nI (n := i) (by omega) (by omega)) (by rw [nI_clamp (by omega), hrr _ (by omega)]; rfl) dX10_uses_5 ?_
  refine lv_astore_n (lv' := [(2, .ref (r i)), (0, .ref o), (1, .int (nI i))]) hx hb dX10_uses_6 rfl hl (by decide) rfl (fun ls hl => ?_)
  refine lv_aload_n hx hb dX10_uses_7 rfl (lv_at hl 0 rfl) ?_
  refine lv_iconst (v := 0) hx hb dX10_uses_8 (by decide) ?_
  refine lb_iald (v := nI t) hx hb hK hP 2 i rfl (lrB_at (by omega)) (i := 0) (vp_in_nI (n := 0) (by omega) (by omega)) es dX10_uses_9 ?_
  refine lv_istore_n (lv' := [(3, .int (nI t)), (2, .ref (r i)), (0, .ref o), (1, .int (nI i))]) hx hb dX10_uses_10 rfl hl (by decide) rfl (fun ls hl => ?_)
  refine lv_iload_n hx hb dX10_uses_11 rfl (lv_at hl 0 rfl) ?_
  refine lv_if_le (tgt := 30) hx hb dX10_uses_12 (by decide) (fun c1 => ?_) (fun c1 => ?_)
  · have nc1 := (nI_leI (a := t) (b := 0) (by omega) (by omega)).mp c1
    refine lv_iload_n hx hb dX10_uses_30 rfl (lv_at hl 0 rfl) ?_
    refine lv_bipush (v := 12) hx hb dX10_uses_31 (by decide) ?_
    refine lv_icmp_ne (tgt := 52) hx hb dX10_uses_33 (by decide) (fun c2 => ?_) (fun c2 => ?_)
    · have nc2 := (not_congr (nI_eq (a := t) (b := 12) (by omega) (by omega))).mp c2
      refine lv_iload_n hx hb dX10_uses_52 rfl (lv_at hl 0 rfl) ?_
      refine lv_iconst (v := 4) hx hb dX10_uses_53 (by decide) ?_
      refine lv_icmp_le (tgt := 63) hx hb dX10_uses_54 (by decide) (fun c3 => ?_) (fun c3 => ?_)
      · have nc3 := (nI_leI (a := t) (b := 4) (by omega) (by omega)).mp c3
        refine lv_iload_n hx hb dX10_uses_63 rfl (lv_at hl 0 rfl) ?_
        refine lv_bipush (v := 13) hx hb dX10_uses_64 (by decide) ?_
        refine lv_icmp_eq (tgt := 81) hx hb dX10_uses_66 (by decide) (fun c4 => ?_) (fun c4 => ?_)
        · have nc4 := (nI_eq (a := t) (b := 13) (by omega) (by omega)).mp c4
          refine lv_iconst (v := 1) hx hb dX10_uses_81 (by decide) ?_
          refine lv_goto (tgt := 86) hx hb dX10_uses_82 (by decide) ?_
          refine lv_istore (lv' := [(4, .int 1), (3, .int (nI t)), (2, .ref (r i)), (0, .ref o), (1, .int (nI i))]) hx hb dX10_uses_86 hl (by decide) rfl (fun ls hl => ?_)
          refine lv_iload hx hb dX10_uses_88 (lv_at hl 0 rfl) ?_
          refine lv_if_eq (tgt := 105) hx hb dX10_uses_90 (by decide) (fun c5 => absurd c5 (by decide)) (fun c5 => ?_)
          refine lv_iconst (v := 1) hx hb dX10_uses_93 (by decide) ?_
          refine lb_newi hx hb (bw0 (w := Cond.arrayClass .int) hts 5 rfl) hK hP hD hS hA 1 (by decide) rfl (by show 1 * 4 ≤ _; omega) (by show _ ≤ 1; omega) (by show _ ≤ 2; omega) dX10_uses_94 (fun a1_ H hP hD hS => ?_)
          have hP : va_P G.1 vwCl (lxF [[(o, .inr (10, [.ref ok, .ref ol, .ref on]))], [(ol, lxq k n rr)], lrB G r fs fa fb n, [(a1_, .inl (G.2.1, 1, .inl (fun _ => 0)))]]) H := hP
          have hD : va_D A (lxF [[(o, .inr (10, [.ref ok, .ref ol, .ref on]))], [(ol, lxq k n rr)], lrB G r fs fa fb n, [(a1_, .inl (G.2.1, 1, .inl (fun _ => 0)))]]) := hD
          refine lv_dup hx hb dX10_uses_96 rfl ?_
          refine lv_iconst (v := 0) hx hb dX10_uses_97 (by decide) ?_
          refine lv_aload_n hx hb dX10_uses_98 rfl (lv_at hl 2 rfl) ?_
          refine lv_iconst (v := 1) hx hb dX10_uses_99 (by decide) ?_
          refine lb_iald (v := fa i) hx hb hK hP 2 i rfl (lrB_at (by omega)) (i := 1) (vp_in_nI (n := 1) (by omega) (by omega)) rfl dX10_uses_100 ?_
          refine lb_iast (x := fa i) hx hb hK hP hD hS 3 0 rfl rfl (i := 0) (i' := 0) (vp_in_nI (n := 0) (by omega) (by omega)) rfl dX10_uses_101 (fun H locs hP hD hS => ?_)
          have hP : va_P G.1 vwCl (lxF [[(o, .inr (10, [.ref ok, .ref ol, .ref on]))], [(ol, lxq k n rr)], lrB G r fs fa fb n, [(a1_, .inl (G.2.1, 1, .inl (upd (fun _ => 0) 0 (fa i))))]]) H := hP
          have hD : va_D A (lxF [[(o, .inr (10, [.ref ok, .ref ol, .ref on]))], [(ol, lxq k n rr)], lrB G r fs fa fb n, [(a1_, .inl (G.2.1, 1, .inl (upd (fun _ => 0) 0 (fa i))))]]) := hD
          refine lv_goto (tgt := 108) hx hb dX10_uses_102 (by decide) ?_
          exact ly_ra hx hb hr (Or.inr ⟨_, rfl⟩) hlk hP hD hS (⟨_, 1, _, rfl, rfl, by omega, fun j hj => by rw [show j = 0 by omega]; left; rw [es]; rcases (show t = 5 ∨ t = 6 ∨ t = 7 ∨ t = 8 ∨ t = 13 ∨ t = 14 ∨ t = 16 by omega) with e | e | e | e | e | e | e <;> (rw [e]; exact ⟨rfl, by decide, by decide, by decide, by decide, by decide⟩)⟩) (by omega) (by omega) dX10_uses_108
        · have nc4 := (not_congr (nI_eq (a := t) (b := 13) (by omega) (by omega))).mp c4
          refine lv_iload_n hx hb dX10_uses_69 rfl (lv_at hl 0 rfl) ?_
          refine lv_bipush (v := 14) hx hb dX10_uses_70 (by decide) ?_
          refine lv_icmp_eq (tgt := 81) hx hb dX10_uses_72 (by decide) (fun c6 => ?_) (fun c6 => ?_)
          · have nc6 := (nI_eq (a := t) (b := 14) (by omega) (by omega)).mp c6
            refine lv_iconst (v := 1) hx hb dX10_uses_81 (by decide) ?_
            refine lv_goto (tgt := 86) hx hb dX10_uses_82 (by decide) ?_
            refine lv_istore (lv' := [(4, .int 1), (3, .int (nI t)), (2, .ref (r i)), (0, .ref o), (1, .int (nI i))]) hx hb dX10_uses_86 hl (by decide) rfl (fun ls hl => ?_)
            refine lv_iload hx hb dX10_uses_88 (lv_at hl 0 rfl) ?_
            refine lv_if_eq (tgt := 105) hx hb dX10_uses_90 (by decide) (fun c7 => absurd c7 (by decide)) (fun c7 => ?_)
            refine lv_iconst (v := 1) hx hb dX10_uses_93 (by decide) ?_
            refine lb_newi hx hb (bw0 (w := Cond.arrayClass .int) hts 5 rfl) hK hP hD hS hA 1 (by decide) rfl (by show 1 * 4 ≤ _; omega) (by show _ ≤ 1; omega) (by show _ ≤ 2; omega) dX10_uses_94 (fun a2_ H hP hD hS => ?_)
            have hP : va_P G.1 vwCl (lxF [[(o, .inr (10, [.ref ok, .ref ol, .ref on]))], [(ol, lxq k n rr)], lrB G r fs fa fb n, [(a2_, .inl (G.2.1, 1, .inl (fun _ => 0)))]]) H := hP
            have hD : va_D A (lxF [[(o, .inr (10, [.ref ok, .ref ol, .ref on]))], [(ol, lxq k n rr)], lrB G r fs fa fb n, [(a2_, .inl (G.2.1, 1, .inl (fun _ => 0)))]]) := hD
            refine lv_dup hx hb dX10_uses_96 rfl ?_
            refine lv_iconst (v := 0) hx hb dX10_uses_97 (by decide) ?_
            refine lv_aload_n hx hb dX10_uses_98 rfl (lv_at hl 2 rfl) ?_
            refine lv_iconst (v := 1) hx hb dX10_uses_99 (by decide) ?_
            refine lb_iald (v := fa i) hx hb hK hP 2 i rfl (lrB_at (by omega)) (i := 1) (vp_in_nI (n := 1) (by omega) (by omega)) rfl dX10_uses_100 ?_
            refine lb_iast (x := fa i) hx hb hK hP hD hS 3 0 rfl rfl (i := 0) (i' := 0) (vp_in_nI (n := 0) (by omega) (by omega)) rfl dX10_uses_101 (fun H locs hP hD hS => ?_)
            have hP : va_P G.1 vwCl (lxF [[(o, .inr (10, [.ref ok, .ref ol, .ref on]))], [(ol, lxq k n rr)], lrB G r fs fa fb n, [(a2_, .inl (G.2.1, 1, .inl (upd (fun _ => 0) 0 (fa i))))]]) H := hP
            have hD : va_D A (lxF [[(o, .inr (10, [.ref ok, .ref ol, .ref on]))], [(ol, lxq k n rr)], lrB G r fs fa fb n, [(a2_, .inl (G.2.1, 1, .inl (upd (fun _ => 0) 0 (fa i))))]]) := hD
            refine lv_goto (tgt := 108) hx hb dX10_uses_102 (by decide) ?_
            exact ly_ra hx hb hr (Or.inr ⟨_, rfl⟩) hlk hP hD hS (⟨_, 1, _, rfl, rfl, by omega, fun j hj => by rw [show j = 0 by omega]; left; rw [es]; rcases (show t = 5 ∨ t = 6 ∨ t = 7 ∨ t = 8 ∨ t = 13 ∨ t = 14 ∨ t = 16 by omega) with e | e | e | e | e | e | e <;> (rw [e]; exact ⟨rfl, by decide, by decide, by decide, by decide, by decide⟩)⟩) (by omega) (by omega) dX10_uses_108
          · have nc6 := (not_congr (nI_eq (a := t) (b := 14) (by omega) (by omega))).mp c6
            refine lv_iload_n hx hb dX10_uses_75 rfl (lv_at hl 0 rfl) ?_
            refine lv_bipush (v := 16) hx hb dX10_uses_76 (by decide) ?_
            refine lv_icmp_ne (tgt := 85) hx hb dX10_uses_78 (by decide) (fun c8 => ?_) (fun c8 => ?_)
            · have nc8 := (not_congr (nI_eq (a := t) (b := 16) (by omega) (by omega))).mp c8
              refine lv_iconst (v := 0) hx hb dX10_uses_85 (by decide) ?_
              refine lv_istore (lv' := [(4, .int 0), (3, .int (nI t)), (2, .ref (r i)), (0, .ref o), (1, .int (nI i))]) hx hb dX10_uses_86 hl (by decide) rfl (fun ls hl => ?_)
              refine lv_iload hx hb dX10_uses_88 (lv_at hl 0 rfl) ?_
              refine lv_if_eq (tgt := 105) hx hb dX10_uses_90 (by decide) (fun c9 => ?_) (fun c9 => absurd c9 (by decide))
              refine lv_iconst (v := 0) hx hb dX10_uses_105 (by decide) ?_
              refine lb_newi hx hb (bw0 (w := Cond.arrayClass .int) hts 5 rfl) hK hP hD hS hA 0 (by decide) rfl (by show 0 * 4 ≤ _; omega) (by show _ ≤ 1; omega) (by show _ ≤ 2; omega) dX10_uses_106 (fun a3_ H hP hD hS => ?_)
              have hP : va_P G.1 vwCl (lxF [[(o, .inr (10, [.ref ok, .ref ol, .ref on]))], [(ol, lxq k n rr)], lrB G r fs fa fb n, [(a3_, .inl (G.2.1, 0, .inl (fun _ => 0)))]]) H := hP
              have hD : va_D A (lxF [[(o, .inr (10, [.ref ok, .ref ol, .ref on]))], [(ol, lxq k n rr)], lrB G r fs fa fb n, [(a3_, .inl (G.2.1, 0, .inl (fun _ => 0)))]]) := hD
              exact ly_ra hx hb hr (Or.inr ⟨_, rfl⟩) hlk hP hD hS (⟨_, 0, _, rfl, rfl, by omega, fun j hj => absurd hj (Nat.not_lt_zero _)⟩) (by omega) (by omega) dX10_uses_108
            · have nc8 := (nI_eq (a := t) (b := 16) (by omega) (by omega)).mp c8
              refine lv_iconst (v := 1) hx hb dX10_uses_81 (by decide) ?_
              refine lv_goto (tgt := 86) hx hb dX10_uses_82 (by decide) ?_
              refine lv_istore (lv' := [(4, .int 1), (3, .int (nI t)), (2, .ref (r i)), (0, .ref o), (1, .int (nI i))]) hx hb dX10_uses_86 hl (by decide) rfl (fun ls hl => ?_)
              refine lv_iload hx hb dX10_uses_88 (lv_at hl 0 rfl) ?_
              refine lv_if_eq (tgt := 105) hx hb dX10_uses_90 (by decide) (fun c10 => absurd c10 (by decide)) (fun c10 => ?_)
              refine lv_iconst (v := 1) hx hb dX10_uses_93 (by decide) ?_
              refine lb_newi hx hb (bw0 (w := Cond.arrayClass .int) hts 5 rfl) hK hP hD hS hA 1 (by decide) rfl (by show 1 * 4 ≤ _; omega) (by show _ ≤ 1; omega) (by show _ ≤ 2; omega) dX10_uses_94 (fun a4_ H hP hD hS => ?_)
              have hP : va_P G.1 vwCl (lxF [[(o, .inr (10, [.ref ok, .ref ol, .ref on]))], [(ol, lxq k n rr)], lrB G r fs fa fb n, [(a4_, .inl (G.2.1, 1, .inl (fun _ => 0)))]]) H := hP
              have hD : va_D A (lxF [[(o, .inr (10, [.ref ok, .ref ol, .ref on]))], [(ol, lxq k n rr)], lrB G r fs fa fb n, [(a4_, .inl (G.2.1, 1, .inl (fun _ => 0)))]]) := hD
              refine lv_dup hx hb dX10_uses_96 rfl ?_
              refine lv_iconst (v := 0) hx hb dX10_uses_97 (by decide) ?_
              refine lv_aload_n hx hb dX10_uses_98 rfl (lv_at hl 2 rfl) ?_
              refine lv_iconst (v := 1) hx hb dX10_uses_99 (by decide) ?_
              refine lb_iald (v := fa i) hx hb hK hP 2 i rfl (lrB_at (by omega)) (i := 1) (vp_in_nI (n := 1) (by omega) (by omega)) rfl dX10_uses_100 ?_
              refine lb_iast (x := fa i) hx hb hK hP hD hS 3 0 rfl rfl (i := 0) (i' := 0) (vp_in_nI (n := 0) (by omega) (by omega)) rfl dX10_uses_101 (fun H locs hP hD hS => ?_)
              have hP : va_P G.1 vwCl (lxF [[(o, .inr (10, [.ref ok, .ref ol, .ref on]))], [(ol, lxq k n rr)], lrB G r fs fa fb n, [(a4_, .inl (G.2.1, 1, .inl (upd (fun _ => 0) 0 (fa i))))]]) H := hP
              have hD : va_D A (lxF [[(o, .inr (10, [.ref ok, .ref ol, .ref on]))], [(ol, lxq k n rr)], lrB G r fs fa fb n, [(a4_, .inl (G.2.1, 1, .inl (upd (fun _ => 0) 0 (fa i))))]]) := hD
              refine lv_goto (tgt := 108) hx hb dX10_uses_102 (by decide) ?_
              exact ly_ra hx hb hr (Or.inr ⟨_, rfl⟩) hlk hP hD hS (⟨_, 1, _, rfl, rfl, by omega, fun j hj => by rw [show j = 0 by omega]; left; rw [es]; rcases (show t = 5 ∨ t = 6 ∨ t = 7 ∨ t = 8 ∨ t = 13 ∨ t = 14 ∨ t = 16 by omega) with e | e | e | e | e | e | e <;> (rw [e]; exact ⟨rfl, by decide, by decide, by decide, by decide, by decide⟩)⟩) (by omega) (by omega) dX10_uses_108
      · have nc3 := (not_congr (nI_leI (a := t) (b := 4) (by omega) (by omega))).mp c3
        refine lv_iload_n hx hb dX10_uses_57 rfl (lv_at hl 0 rfl) ?_
        refine lv_bipush (v := 9) hx hb dX10_uses_58 (by decide) ?_
        refine lv_icmp_lt (tgt := 81) hx hb dX10_uses_60 (by decide) (fun c11 => ?_) (fun c11 => ?_)
        · have nc11 := (nI_ltI (a := t) (b := 9) (by omega) (by omega)).mp c11
          refine lv_iconst (v := 1) hx hb dX10_uses_81 (by decide) ?_
          refine lv_goto (tgt := 86) hx hb dX10_uses_82 (by decide) ?_
          refine lv_istore (lv' := [(4, .int 1), (3, .int (nI t)), (2, .ref (r i)), (0, .ref o), (1, .int (nI i))]) hx hb dX10_uses_86 hl (by decide) rfl (fun ls hl => ?_)
          refine lv_iload hx hb dX10_uses_88 (lv_at hl 0 rfl) ?_
          refine lv_if_eq (tgt := 105) hx hb dX10_uses_90 (by decide) (fun c12 => absurd c12 (by decide)) (fun c12 => ?_)
          refine lv_iconst (v := 1) hx hb dX10_uses_93 (by decide) ?_
          refine lb_newi hx hb (bw0 (w := Cond.arrayClass .int) hts 5 rfl) hK hP hD hS hA 1 (by decide) rfl (by show 1 * 4 ≤ _; omega) (by show _ ≤ 1; omega) (by show _ ≤ 2; omega) dX10_uses_94 (fun a5_ H hP hD hS => ?_)
          have hP : va_P G.1 vwCl (lxF [[(o, .inr (10, [.ref ok, .ref ol, .ref on]))], [(ol, lxq k n rr)], lrB G r fs fa fb n, [(a5_, .inl (G.2.1, 1, .inl (fun _ => 0)))]]) H := hP
          have hD : va_D A (lxF [[(o, .inr (10, [.ref ok, .ref ol, .ref on]))], [(ol, lxq k n rr)], lrB G r fs fa fb n, [(a5_, .inl (G.2.1, 1, .inl (fun _ => 0)))]]) := hD
          refine lv_dup hx hb dX10_uses_96 rfl ?_
          refine lv_iconst (v := 0) hx hb dX10_uses_97 (by decide) ?_
          refine lv_aload_n hx hb dX10_uses_98 rfl (lv_at hl 2 rfl) ?_
          refine lv_iconst (v := 1) hx hb dX10_uses_99 (by decide) ?_
          refine lb_iald (v := fa i) hx hb hK hP 2 i rfl (lrB_at (by omega)) (i := 1) (vp_in_nI (n := 1) (by omega) (by omega)) rfl dX10_uses_100 ?_
          refine lb_iast (x := fa i) hx hb hK hP hD hS 3 0 rfl rfl (i := 0) (i' := 0) (vp_in_nI (n := 0) (by omega) (by omega)) rfl dX10_uses_101 (fun H locs hP hD hS => ?_)
          have hP : va_P G.1 vwCl (lxF [[(o, .inr (10, [.ref ok, .ref ol, .ref on]))], [(ol, lxq k n rr)], lrB G r fs fa fb n, [(a5_, .inl (G.2.1, 1, .inl (upd (fun _ => 0) 0 (fa i))))]]) H := hP
          have hD : va_D A (lxF [[(o, .inr (10, [.ref ok, .ref ol, .ref on]))], [(ol, lxq k n rr)], lrB G r fs fa fb n, [(a5_, .inl (G.2.1, 1, .inl (upd (fun _ => 0) 0 (fa i))))]]) := hD
          refine lv_goto (tgt := 108) hx hb dX10_uses_102 (by decide) ?_
          exact ly_ra hx hb hr (Or.inr ⟨_, rfl⟩) hlk hP hD hS (⟨_, 1, _, rfl, rfl, by omega, fun j hj => by rw [show j = 0 by omega]; left; rw [es]; rcases (show t = 5 ∨ t = 6 ∨ t = 7 ∨ t = 8 ∨ t = 13 ∨ t = 14 ∨ t = 16 by omega) with e | e | e | e | e | e | e <;> (rw [e]; exact ⟨rfl, by decide, by decide, by decide, by decide, by decide⟩)⟩) (by omega) (by omega) dX10_uses_108
        · have nc11 := (not_congr (nI_ltI (a := t) (b := 9) (by omega) (by omega))).mp c11
          refine lv_iload_n hx hb dX10_uses_63 rfl (lv_at hl 0 rfl) ?_
          refine lv_bipush (v := 13) hx hb dX10_uses_64 (by decide) ?_
          refine lv_icmp_eq (tgt := 81) hx hb dX10_uses_66 (by decide) (fun c13 => ?_) (fun c13 => ?_)
          · have nc13 := (nI_eq (a := t) (b := 13) (by omega) (by omega)).mp c13
            refine lv_iconst (v := 1) hx hb dX10_uses_81 (by decide) ?_
            refine lv_goto (tgt := 86) hx hb dX10_uses_82 (by decide) ?_
            refine lv_istore (lv' := [(4, .int 1), (3, .int (nI t)), (2, .ref (r i)), (0, .ref o), (1, .int (nI i))]) hx hb dX10_uses_86 hl (by decide) rfl (fun ls hl => ?_)
            refine lv_iload hx hb dX10_uses_88 (lv_at hl 0 rfl) ?_
            refine lv_if_eq (tgt := 105) hx hb dX10_uses_90 (by decide) (fun c14 => absurd c14 (by decide)) (fun c14 => ?_)
            refine lv_iconst (v := 1) hx hb dX10_uses_93 (by decide) ?_
            refine lb_newi hx hb (bw0 (w := Cond.arrayClass .int) hts 5 rfl) hK hP hD hS hA 1 (by decide) rfl (by show 1 * 4 ≤ _; omega) (by show _ ≤ 1; omega) (by show _ ≤ 2; omega) dX10_uses_94 (fun a6_ H hP hD hS => ?_)
            have hP : va_P G.1 vwCl (lxF [[(o, .inr (10, [.ref ok, .ref ol, .ref on]))], [(ol, lxq k n rr)], lrB G r fs fa fb n, [(a6_, .inl (G.2.1, 1, .inl (fun _ => 0)))]]) H := hP
            have hD : va_D A (lxF [[(o, .inr (10, [.ref ok, .ref ol, .ref on]))], [(ol, lxq k n rr)], lrB G r fs fa fb n, [(a6_, .inl (G.2.1, 1, .inl (fun _ => 0)))]]) := hD
            refine lv_dup hx hb dX10_uses_96 rfl ?_
            refine lv_iconst (v := 0) hx hb dX10_uses_97 (by decide) ?_
            refine lv_aload_n hx hb dX10_uses_98 rfl (lv_at hl 2 rfl) ?_
            refine lv_iconst (v := 1) hx hb dX10_uses_99 (by decide) ?_
            refine lb_iald (v := fa i) hx hb hK hP 2 i rfl (lrB_at (by omega)) (i := 1) (vp_in_nI (n := 1) (by omega) (by omega)) rfl dX10_uses_100 ?_
            refine lb_iast (x := fa i) hx hb hK hP hD hS 3 0 rfl rfl (i := 0) (i' := 0) (vp_in_nI (n := 0) (by omega) (by omega)) rfl dX10_uses_101 (fun H locs hP hD hS => ?_)
            have hP : va_P G.1 vwCl (lxF [[(o, .inr (10, [.ref ok, .ref ol, .ref on]))], [(ol, lxq k n rr)], lrB G r fs fa fb n, [(a6_, .inl (G.2.1, 1, .inl (upd (fun _ => 0) 0 (fa i))))]]) H := hP
            have hD : va_D A (lxF [[(o, .inr (10, [.ref ok, .ref ol, .ref on]))], [(ol, lxq k n rr)], lrB G r fs fa fb n, [(a6_, .inl (G.2.1, 1, .inl (upd (fun _ => 0) 0 (fa i))))]]) := hD
            refine lv_goto (tgt := 108) hx hb dX10_uses_102 (by decide) ?_
            exact ly_ra hx hb hr (Or.inr ⟨_, rfl⟩) hlk hP hD hS (⟨_, 1, _, rfl, rfl, by omega, fun j hj => by rw [show j = 0 by omega]; left; rw [es]; rcases (show t = 5 ∨ t = 6 ∨ t = 7 ∨ t = 8 ∨ t = 13 ∨ t = 14 ∨ t = 16 by omega) with e | e | e | e | e | e | e <;> (rw [e]; exact ⟨rfl, by decide, by decide, by decide, by decide, by decide⟩)⟩) (by omega) (by omega) dX10_uses_108
          · have nc13 := (not_congr (nI_eq (a := t) (b := 13) (by omega) (by omega))).mp c13
            refine lv_iload_n hx hb dX10_uses_69 rfl (lv_at hl 0 rfl) ?_
            refine lv_bipush (v := 14) hx hb dX10_uses_70 (by decide) ?_
            refine lv_icmp_eq (tgt := 81) hx hb dX10_uses_72 (by decide) (fun c15 => ?_) (fun c15 => ?_)
            · have nc15 := (nI_eq (a := t) (b := 14) (by omega) (by omega)).mp c15
              refine lv_iconst (v := 1) hx hb dX10_uses_81 (by decide) ?_
              refine lv_goto (tgt := 86) hx hb dX10_uses_82 (by decide) ?_
              refine lv_istore (lv' := [(4, .int 1), (3, .int (nI t)), (2, .ref (r i)), (0, .ref o), (1, .int (nI i))]) hx hb dX10_uses_86 hl (by decide) rfl (fun ls hl => ?_)
              refine lv_iload hx hb dX10_uses_88 (lv_at hl 0 rfl) ?_
              refine lv_if_eq (tgt := 105) hx hb dX10_uses_90 (by decide) (fun c16 => absurd c16 (by decide)) (fun c16 => ?_)
              refine lv_iconst (v := 1) hx hb dX10_uses_93 (by decide) ?_
              refine lb_newi hx hb (bw0 (w := Cond.arrayClass .int) hts 5 rfl) hK hP hD hS hA 1 (by decide) rfl (by show 1 * 4 ≤ _; omega) (by show _ ≤ 1; omega) (by show _ ≤ 2; omega) dX10_uses_94 (fun a7_ H hP hD hS => ?_)
              have hP : va_P G.1 vwCl (lxF [[(o, .inr (10, [.ref ok, .ref ol, .ref on]))], [(ol, lxq k n rr)], lrB G r fs fa fb n, [(a7_, .inl (G.2.1, 1, .inl (fun _ => 0)))]]) H := hP
              have hD : va_D A (lxF [[(o, .inr (10, [.ref ok, .ref ol, .ref on]))], [(ol, lxq k n rr)], lrB G r fs fa fb n, [(a7_, .inl (G.2.1, 1, .inl (fun _ => 0)))]]) := hD
              refine lv_dup hx hb dX10_uses_96 rfl ?_
              refine lv_iconst (v := 0) hx hb dX10_uses_97 (by decide) ?_
              refine lv_aload_n hx hb dX10_uses_98 rfl (lv_at hl 2 rfl) ?_
              refine lv_iconst (v := 1) hx hb dX10_uses_99 (by decide) ?_
              refine lb_iald (v := fa i) hx hb hK hP 2 i rfl (lrB_at (by omega)) (i := 1) (vp_in_nI (n := 1) (by omega) (by omega)) rfl dX10_uses_100 ?_
              refine lb_iast (x := fa i) hx hb hK hP hD hS 3 0 rfl rfl (i := 0) (i' := 0) (vp_in_nI (n := 0) (by omega) (by omega)) rfl dX10_uses_101 (fun H locs hP hD hS => ?_)
              have hP : va_P G.1 vwCl (lxF [[(o, .inr (10, [.ref ok, .ref ol, .ref on]))], [(ol, lxq k n rr)], lrB G r fs fa fb n, [(a7_, .inl (G.2.1, 1, .inl (upd (fun _ => 0) 0 (fa i))))]]) H := hP
              have hD : va_D A (lxF [[(o, .inr (10, [.ref ok, .ref ol, .ref on]))], [(ol, lxq k n rr)], lrB G r fs fa fb n, [(a7_, .inl (G.2.1, 1, .inl (upd (fun _ => 0) 0 (fa i))))]]) := hD
              refine lv_goto (tgt := 108) hx hb dX10_uses_102 (by decide) ?_
              exact ly_ra hx hb hr (Or.inr ⟨_, rfl⟩) hlk hP hD hS (⟨_, 1, _, rfl, rfl, by omega, fun j hj => by rw [show j = 0 by omega]; left; rw [es]; rcases (show t = 5 ∨ t = 6 ∨ t = 7 ∨ t = 8 ∨ t = 13 ∨ t = 14 ∨ t = 16 by omega) with e | e | e | e | e | e | e <;> (rw [e]; exact ⟨rfl, by decide, by decide, by decide, by decide, by decide⟩)⟩) (by omega) (by omega) dX10_uses_108
            · have nc15 := (not_congr (nI_eq (a := t) (b := 14) (by omega) (by omega))).mp c15
              refine lv_iload_n hx hb dX10_uses_75 rfl (lv_at hl 0 rfl) ?_
              refine lv_bipush (v := 16) hx hb dX10_uses_76 (by decide) ?_
              refine lv_icmp_ne (tgt := 85) hx hb dX10_uses_78 (by decide) (fun c17 => ?_) (fun c17 => ?_)
              · have nc17 := (not_congr (nI_eq (a := t) (b := 16) (by omega) (by omega))).mp c17
                refine lv_iconst (v := 0) hx hb dX10_uses_85 (by decide) ?_
                refine lv_istore (lv' := [(4, .int 0), (3, .int (nI t)), (2, .ref (r i)), (0, .ref o), (1, .int (nI i))]) hx hb dX10_uses_86 hl (by decide) rfl (fun ls hl => ?_)
                refine lv_iload hx hb dX10_uses_88 (lv_at hl 0 rfl) ?_
                refine lv_if_eq (tgt := 105) hx hb dX10_uses_90 (by decide) (fun c18 => ?_) (fun c18 => absurd c18 (by decide))
                refine lv_iconst (v := 0) hx hb dX10_uses_105 (by decide) ?_
                refine lb_newi hx hb (bw0 (w := Cond.arrayClass .int) hts 5 rfl) hK hP hD hS hA 0 (by decide) rfl (by show 0 * 4 ≤ _; omega) (by show _ ≤ 1; omega) (by show _ ≤ 2; omega) dX10_uses_106 (fun a8_ H hP hD hS => ?_)
                have hP : va_P G.1 vwCl (lxF [[(o, .inr (10, [.ref ok, .ref ol, .ref on]))], [(ol, lxq k n rr)], lrB G r fs fa fb n, [(a8_, .inl (G.2.1, 0, .inl (fun _ => 0)))]]) H := hP
                have hD : va_D A (lxF [[(o, .inr (10, [.ref ok, .ref ol, .ref on]))], [(ol, lxq k n rr)], lrB G r fs fa fb n, [(a8_, .inl (G.2.1, 0, .inl (fun _ => 0)))]]) := hD
                exact ly_ra hx hb hr (Or.inr ⟨_, rfl⟩) hlk hP hD hS (⟨_, 0, _, rfl, rfl, by omega, fun j hj => absurd hj (Nat.not_lt_zero _)⟩) (by omega) (by omega) dX10_uses_108
              · have nc17 := (nI_eq (a := t) (b := 16) (by omega) (by omega)).mp c17
                refine lv_iconst (v := 1) hx hb dX10_uses_81 (by decide) ?_
                refine lv_goto (tgt := 86) hx hb dX10_uses_82 (by decide) ?_
                refine lv_istore (lv' := [(4, .int 1), (3, .int (nI t)), (2, .ref (r i)), (0, .ref o), (1, .int (nI i))]) hx hb dX10_uses_86 hl (by decide) rfl (fun ls hl => ?_)
                refine lv_iload hx hb dX10_uses_88 (lv_at hl 0 rfl) ?_
                refine lv_if_eq (tgt := 105) hx hb dX10_uses_90 (by decide) (fun c19 => absurd c19 (by decide)) (fun c19 => ?_)
                refine lv_iconst (v := 1) hx hb dX10_uses_93 (by decide) ?_
                refine lb_newi hx hb (bw0 (w := Cond.arrayClass .int) hts 5 rfl) hK hP hD hS hA 1 (by decide) rfl (by show 1 * 4 ≤ _; omega) (by show _ ≤ 1; omega) (by show _ ≤ 2; omega) dX10_uses_94 (fun a9_ H hP hD hS => ?_)
                have hP : va_P G.1 vwCl (lxF [[(o, .inr (10, [.ref ok, .ref ol, .ref on]))], [(ol, lxq k n rr)], lrB G r fs fa fb n, [(a9_, .inl (G.2.1, 1, .inl (fun _ => 0)))]]) H := hP
                have hD : va_D A (lxF [[(o, .inr (10, [.ref ok, .ref ol, .ref on]))], [(ol, lxq k n rr)], lrB G r fs fa fb n, [(a9_, .inl (G.2.1, 1, .inl (fun _ => 0)))]]) := hD
                refine lv_dup hx hb dX10_uses_96 rfl ?_
                refine lv_iconst (v := 0) hx hb dX10_uses_97 (by decide) ?_
                refine lv_aload_n hx hb dX10_uses_98 rfl (lv_at hl 2 rfl) ?_
                refine lv_iconst (v := 1) hx hb dX10_uses_99 (by decide) ?_
                refine lb_iald (v := fa i) hx hb hK hP 2 i rfl (lrB_at (by omega)) (i := 1) (vp_in_nI (n := 1) (by omega) (by omega)) rfl dX10_uses_100 ?_
                refine lb_iast (x := fa i) hx hb hK hP hD hS 3 0 rfl rfl (i := 0) (i' := 0) (vp_in_nI (n := 0) (by omega) (by omega)) rfl dX10_uses_101 (fun H locs hP hD hS => ?_)
                have hP : va_P G.1 vwCl (lxF [[(o, .inr (10, [.ref ok, .ref ol, .ref on]))], [(ol, lxq k n rr)], lrB G r fs fa fb n, [(a9_, .inl (G.2.1, 1, .inl (upd (fun _ => 0) 0 (fa i))))]]) H := hP
                have hD : va_D A (lxF [[(o, .inr (10, [.ref ok, .ref ol, .ref on]))], [(ol, lxq k n rr)], lrB G r fs fa fb n, [(a9_, .inl (G.2.1, 1, .inl (upd (fun _ => 0) 0 (fa i))))]]) := hD
                refine lv_goto (tgt := 108) hx hb dX10_uses_102 (by decide) ?_
                exact ly_ra hx hb hr (Or.inr ⟨_, rfl⟩) hlk hP hD hS (⟨_, 1, _, rfl, rfl, by omega, fun j hj => by rw [show j = 0 by omega]; left; rw [es]; rcases (show t = 5 ∨ t = 6 ∨ t = 7 ∨ t = 8 ∨ t = 13 ∨ t = 14 ∨ t = 16 by omega) with e | e | e | e | e | e | e <;> (rw [e]; exact ⟨rfl, by decide, by decide, by decide, by decide, by decide⟩)⟩) (by omega) (by omega) dX10_uses_108
    · have nc2 := (nI_eq (a := t) (b := 12) (by omega) (by omega)).mp c2
      refine lv_iconst (v := 2) hx hb dX10_uses_36 (by decide) ?_
      refine lb_newi hx hb (bw0 (w := Cond.arrayClass .int) hts 5 rfl) hK hP hD hS hA 2 (by decide) rfl (by show 2 * 4 ≤ _; omega) (by show _ ≤ 1; omega) (by show _ ≤ 2; omega) dX10_uses_37 (fun a10_ H hP hD hS => ?_)
      have hP : va_P G.1 vwCl (lxF [[(o, .inr (10, [.ref ok, .ref ol, .ref on]))], [(ol, lxq k n rr)], lrB G r fs fa fb n, [(a10_, .inl (G.2.1, 2, .inl (fun _ => 0)))]]) H := hP
      have hD : va_D A (lxF [[(o, .inr (10, [.ref ok, .ref ol, .ref on]))], [(ol, lxq k n rr)], lrB G r fs fa fb n, [(a10_, .inl (G.2.1, 2, .inl (fun _ => 0)))]]) := hD
      refine lv_dup hx hb dX10_uses_39 rfl ?_
      refine lv_iconst (v := 0) hx hb dX10_uses_40 (by decide) ?_
      refine lv_aload_n hx hb dX10_uses_41 rfl (lv_at hl 1 rfl) ?_
      refine lv_iconst (v := 1) hx hb dX10_uses_42 (by decide) ?_
      refine lb_iald (v := fa i) hx hb hK hP 2 i rfl (lrB_at (by omega)) (i := 1) (vp_in_nI (n := 1) (by omega) (by omega)) rfl dX10_uses_43 ?_
      refine lb_iast (x := fa i) hx hb hK hP hD hS 3 0 rfl rfl (i := 0) (i' := 0) (vp_in_nI (n := 0) (by omega) (by omega)) rfl dX10_uses_44 (fun H locs hP hD hS => ?_)
      have hP : va_P G.1 vwCl (lxF [[(o, .inr (10, [.ref ok, .ref ol, .ref on]))], [(ol, lxq k n rr)], lrB G r fs fa fb n, [(a10_, .inl (G.2.1, 2, .inl (upd (fun _ => 0) 0 (fa i))))]]) H := hP
      have hD : va_D A (lxF [[(o, .inr (10, [.ref ok, .ref ol, .ref on]))], [(ol, lxq k n rr)], lrB G r fs fa fb n, [(a10_, .inl (G.2.1, 2, .inl (upd (fun _ => 0) 0 (fa i))))]]) := hD
      refine lv_dup hx hb dX10_uses_45 rfl ?_
      refine lv_iconst (v := 1) hx hb dX10_uses_46 (by decide) ?_
      refine lv_aload_n hx hb dX10_uses_47 rfl (lv_at hl 1 rfl) ?_
      refine lv_iconst (v := 2) hx hb dX10_uses_48 (by decide) ?_
      refine lb_iald (v := fb i) hx hb hK hP 2 i rfl (lrB_at (by omega)) (i := 2) (vp_in_nI (n := 2) (by omega) (by omega)) rfl dX10_uses_49 ?_
      refine lb_iast (x := fb i) hx hb hK hP hD hS 3 0 rfl rfl (i := 1) (i' := 1) (vp_in_nI (n := 1) (by omega) (by omega)) rfl dX10_uses_50 (fun H locs hP hD hS => ?_)
      have hP : va_P G.1 vwCl (lxF [[(o, .inr (10, [.ref ok, .ref ol, .ref on]))], [(ol, lxq k n rr)], lrB G r fs fa fb n, [(a10_, .inl (G.2.1, 2, .inl (upd (upd (fun _ => 0) 0 (fa i)) 1 (fb i))))]]) H := hP
      have hD : va_D A (lxF [[(o, .inr (10, [.ref ok, .ref ol, .ref on]))], [(ol, lxq k n rr)], lrB G r fs fa fb n, [(a10_, .inl (G.2.1, 2, .inl (upd (upd (fun _ => 0) 0 (fa i)) 1 (fb i))))]]) := hD
      exact ly_ra hx hb hr (Or.inr ⟨_, rfl⟩) hlk hP hD hS (⟨_, 2, _, rfl, rfl, by omega, fun j hj => by rcases (show j = 0 ∨ j = 1 by omega) with e | e <;> subst e <;> first | (left; rw [es, show t = 12 by omega]; exact ⟨rfl, by decide, by decide, by decide, by decide, by decide⟩) | (right; exact ⟨by rw [es, show t = 12 by omega]; rfl, rfl⟩)⟩) (by omega) (by omega) dX10_uses_51
  · have nc1 := (not_congr (nI_leI (a := t) (b := 0) (by omega) (by omega))).mp c1
    refine lv_iload_n hx hb dX10_uses_15 rfl (lv_at hl 0 rfl) ?_
    refine lv_iconst (v := 5) hx hb dX10_uses_16 (by decide) ?_
    refine lv_icmp_ge (tgt := 30) hx hb dX10_uses_17 (by decide) (fun c20 => ?_) (fun c20 => ?_)
    · have nc20 := (nI_leI (a := 5) (b := t) (by omega) (by omega)).mp c20
      refine lv_iload_n hx hb dX10_uses_30 rfl (lv_at hl 0 rfl) ?_
      refine lv_bipush (v := 12) hx hb dX10_uses_31 (by decide) ?_
      refine lv_icmp_ne (tgt := 52) hx hb dX10_uses_33 (by decide) (fun c21 => ?_) (fun c21 => ?_)
      · have nc21 := (not_congr (nI_eq (a := t) (b := 12) (by omega) (by omega))).mp c21
        refine lv_iload_n hx hb dX10_uses_52 rfl (lv_at hl 0 rfl) ?_
        refine lv_iconst (v := 4) hx hb dX10_uses_53 (by decide) ?_
        refine lv_icmp_le (tgt := 63) hx hb dX10_uses_54 (by decide) (fun c22 => ?_) (fun c22 => ?_)
        · have nc22 := (nI_leI (a := t) (b := 4) (by omega) (by omega)).mp c22
          refine lv_iload_n hx hb dX10_uses_63 rfl (lv_at hl 0 rfl) ?_
          refine lv_bipush (v := 13) hx hb dX10_uses_64 (by decide) ?_
          refine lv_icmp_eq (tgt := 81) hx hb dX10_uses_66 (by decide) (fun c23 => ?_) (fun c23 => ?_)
          · have nc23 := (nI_eq (a := t) (b := 13) (by omega) (by omega)).mp c23
            refine lv_iconst (v := 1) hx hb dX10_uses_81 (by decide) ?_
            refine lv_goto (tgt := 86) hx hb dX10_uses_82 (by decide) ?_
            refine lv_istore (lv' := [(4, .int 1), (3, .int (nI t)), (2, .ref (r i)), (0, .ref o), (1, .int (nI i))]) hx hb dX10_uses_86 hl (by decide) rfl (fun ls hl => ?_)
            refine lv_iload hx hb dX10_uses_88 (lv_at hl 0 rfl) ?_
            refine lv_if_eq (tgt := 105) hx hb dX10_uses_90 (by decide) (fun c24 => absurd c24 (by decide)) (fun c24 => ?_)
            refine lv_iconst (v := 1) hx hb dX10_uses_93 (by decide) ?_
            refine lb_newi hx hb (bw0 (w := Cond.arrayClass .int) hts 5 rfl) hK hP hD hS hA 1 (by decide) rfl (by show 1 * 4 ≤ _; omega) (by show _ ≤ 1; omega) (by show _ ≤ 2; omega) dX10_uses_94 (fun a11_ H hP hD hS => ?_)
            have hP : va_P G.1 vwCl (lxF [[(o, .inr (10, [.ref ok, .ref ol, .ref on]))], [(ol, lxq k n rr)], lrB G r fs fa fb n, [(a11_, .inl (G.2.1, 1, .inl (fun _ => 0)))]]) H := hP
            have hD : va_D A (lxF [[(o, .inr (10, [.ref ok, .ref ol, .ref on]))], [(ol, lxq k n rr)], lrB G r fs fa fb n, [(a11_, .inl (G.2.1, 1, .inl (fun _ => 0)))]]) := hD
            refine lv_dup hx hb dX10_uses_96 rfl ?_
            refine lv_iconst (v := 0) hx hb dX10_uses_97 (by decide) ?_
            refine lv_aload_n hx hb dX10_uses_98 rfl (lv_at hl 2 rfl) ?_
            refine lv_iconst (v := 1) hx hb dX10_uses_99 (by decide) ?_
            refine lb_iald (v := fa i) hx hb hK hP 2 i rfl (lrB_at (by omega)) (i := 1) (vp_in_nI (n := 1) (by omega) (by omega)) rfl dX10_uses_100 ?_
            refine lb_iast (x := fa i) hx hb hK hP hD hS 3 0 rfl rfl (i := 0) (i' := 0) (vp_in_nI (n := 0) (by omega) (by omega)) rfl dX10_uses_101 (fun H locs hP hD hS => ?_)
            have hP : va_P G.1 vwCl (lxF [[(o, .inr (10, [.ref ok, .ref ol, .ref on]))], [(ol, lxq k n rr)], lrB G r fs fa fb n, [(a11_, .inl (G.2.1, 1, .inl (upd (fun _ => 0) 0 (fa i))))]]) H := hP
            have hD : va_D A (lxF [[(o, .inr (10, [.ref ok, .ref ol, .ref on]))], [(ol, lxq k n rr)], lrB G r fs fa fb n, [(a11_, .inl (G.2.1, 1, .inl (upd (fun _ => 0) 0 (fa i))))]]) := hD
            refine lv_goto (tgt := 108) hx hb dX10_uses_102 (by decide) ?_
            exact ly_ra hx hb hr (Or.inr ⟨_, rfl⟩) hlk hP hD hS (⟨_, 1, _, rfl, rfl, by omega, fun j hj => by rw [show j = 0 by omega]; left; rw [es]; rcases (show t = 5 ∨ t = 6 ∨ t = 7 ∨ t = 8 ∨ t = 13 ∨ t = 14 ∨ t = 16 by omega) with e | e | e | e | e | e | e <;> (rw [e]; exact ⟨rfl, by decide, by decide, by decide, by decide, by decide⟩)⟩) (by omega) (by omega) dX10_uses_108
          · have nc23 := (not_congr (nI_eq (a := t) (b := 13) (by omega) (by omega))).mp c23
            refine lv_iload_n hx hb dX10_uses_69 rfl (lv_at hl 0 rfl) ?_
            refine lv_bipush (v := 14) hx hb dX10_uses_70 (by decide) ?_
            refine lv_icmp_eq (tgt := 81) hx hb dX10_uses_72 (by decide) (fun c25 => ?_) (fun c25 => ?_)
            · have nc25 := (nI_eq (a := t) (b := 14) (by omega) (by omega)).mp c25
              refine lv_iconst (v := 1) hx hb dX10_uses_81 (by decide) ?_
              refine lv_goto (tgt := 86) hx hb dX10_uses_82 (by decide) ?_
              refine lv_istore (lv' := [(4, .int 1), (3, .int (nI t)), (2, .ref (r i)), (0, .ref o), (1, .int (nI i))]) hx hb dX10_uses_86 hl (by decide) rfl (fun ls hl => ?_)
              refine lv_iload hx hb dX10_uses_88 (lv_at hl 0 rfl) ?_
              refine lv_if_eq (tgt := 105) hx hb dX10_uses_90 (by decide) (fun c26 => absurd c26 (by decide)) (fun c26 => ?_)
              refine lv_iconst (v := 1) hx hb dX10_uses_93 (by decide) ?_
              refine lb_newi hx hb (bw0 (w := Cond.arrayClass .int) hts 5 rfl) hK hP hD hS hA 1 (by decide) rfl (by show 1 * 4 ≤ _; omega) (by show _ ≤ 1; omega) (by show _ ≤ 2; omega) dX10_uses_94 (fun a12_ H hP hD hS => ?_)
              have hP : va_P G.1 vwCl (lxF [[(o, .inr (10, [.ref ok, .ref ol, .ref on]))], [(ol, lxq k n rr)], lrB G r fs fa fb n, [(a12_, .inl (G.2.1, 1, .inl (fun _ => 0)))]]) H := hP
              have hD : va_D A (lxF [[(o, .inr (10, [.ref ok, .ref ol, .ref on]))], [(ol, lxq k n rr)], lrB G r fs fa fb n, [(a12_, .inl (G.2.1, 1, .inl (fun _ => 0)))]]) := hD
              refine lv_dup hx hb dX10_uses_96 rfl ?_
              refine lv_iconst (v := 0) hx hb dX10_uses_97 (by decide) ?_
              refine lv_aload_n hx hb dX10_uses_98 rfl (lv_at hl 2 rfl) ?_
              refine lv_iconst (v := 1) hx hb dX10_uses_99 (by decide) ?_
              refine lb_iald (v := fa i) hx hb hK hP 2 i rfl (lrB_at (by omega)) (i := 1) (vp_in_nI (n := 1) (by omega) (by omega)) rfl dX10_uses_100 ?_
              refine lb_iast (x := fa i) hx hb hK hP hD hS 3 0 rfl rfl (i := 0) (i' := 0) (vp_in_nI (n := 0) (by omega) (by omega)) rfl dX10_uses_101 (fun H locs hP hD hS => ?_)
              have hP : va_P G.1 vwCl (lxF [[(o, .inr (10, [.ref ok, .ref ol, .ref on]))], [(ol, lxq k n rr)], lrB G r fs fa fb n, [(a12_, .inl (G.2.1, 1, .inl (upd (fun _ => 0) 0 (fa i))))]]) H := hP
              have hD : va_D A (lxF [[(o, .inr (10, [.ref ok, .ref ol, .ref on]))], [(ol, lxq k n rr)], lrB G r fs fa fb n, [(a12_, .inl (G.2.1, 1, .inl (upd (fun _ => 0) 0 (fa i))))]]) := hD
              refine lv_goto (tgt := 108) hx hb dX10_uses_102 (by decide) ?_
              exact ly_ra hx hb hr (Or.inr ⟨_, rfl⟩) hlk hP hD hS (⟨_, 1, _, rfl, rfl, by omega, fun j hj => by rw [show j = 0 by omega]; left; rw [es]; rcases (show t = 5 ∨ t = 6 ∨ t = 7 ∨ t = 8 ∨ t = 13 ∨ t = 14 ∨ t = 16 by omega) with e | e | e | e | e | e | e <;> (rw [e]; exact ⟨rfl, by decide, by decide, by decide, by decide, by decide⟩)⟩) (by omega) (by omega) dX10_uses_108
            · have nc25 := (not_congr (nI_eq (a := t) (b := 14) (by omega) (by omega))).mp c25
              refine lv_iload_n hx hb dX10_uses_75 rfl (lv_at hl 0 rfl) ?_
              refine lv_bipush (v := 16) hx hb dX10_uses_76 (by decide) ?_
              refine lv_icmp_ne (tgt := 85) hx hb dX10_uses_78 (by decide) (fun c27 => ?_) (fun c27 => ?_)
              · have nc27 := (not_congr (nI_eq (a := t) (b := 16) (by omega) (by omega))).mp c27
                refine lv_iconst (v := 0) hx hb dX10_uses_85 (by decide) ?_
                refine lv_istore (lv' := [(4, .int 0), (3, .int (nI t)), (2, .ref (r i)), (0, .ref o), (1, .int (nI i))]) hx hb dX10_uses_86 hl (by decide) rfl (fun ls hl => ?_)
                refine lv_iload hx hb dX10_uses_88 (lv_at hl 0 rfl) ?_
                refine lv_if_eq (tgt := 105) hx hb dX10_uses_90 (by decide) (fun c28 => ?_) (fun c28 => absurd c28 (by decide))
                refine lv_iconst (v := 0) hx hb dX10_uses_105 (by decide) ?_
                refine lb_newi hx hb (bw0 (w := Cond.arrayClass .int) hts 5 rfl) hK hP hD hS hA 0 (by decide) rfl (by show 0 * 4 ≤ _; omega) (by show _ ≤ 1; omega) (by show _ ≤ 2; omega) dX10_uses_106 (fun a13_ H hP hD hS => ?_)
                have hP : va_P G.1 vwCl (lxF [[(o, .inr (10, [.ref ok, .ref ol, .ref on]))], [(ol, lxq k n rr)], lrB G r fs fa fb n, [(a13_, .inl (G.2.1, 0, .inl (fun _ => 0)))]]) H := hP
                have hD : va_D A (lxF [[(o, .inr (10, [.ref ok, .ref ol, .ref on]))], [(ol, lxq k n rr)], lrB G r fs fa fb n, [(a13_, .inl (G.2.1, 0, .inl (fun _ => 0)))]]) := hD
                exact ly_ra hx hb hr (Or.inr ⟨_, rfl⟩) hlk hP hD hS (⟨_, 0, _, rfl, rfl, by omega, fun j hj => absurd hj (Nat.not_lt_zero _)⟩) (by omega) (by omega) dX10_uses_108
              · have nc27 := (nI_eq (a := t) (b := 16) (by omega) (by omega)).mp c27
                refine lv_iconst (v := 1) hx hb dX10_uses_81 (by decide) ?_
                refine lv_goto (tgt := 86) hx hb dX10_uses_82 (by decide) ?_
                refine lv_istore (lv' := [(4, .int 1), (3, .int (nI t)), (2, .ref (r i)), (0, .ref o), (1, .int (nI i))]) hx hb dX10_uses_86 hl (by decide) rfl (fun ls hl => ?_)
                refine lv_iload hx hb dX10_uses_88 (lv_at hl 0 rfl) ?_
                refine lv_if_eq (tgt := 105) hx hb dX10_uses_90 (by decide) (fun c29 => absurd c29 (by decide)) (fun c29 => ?_)
                refine lv_iconst (v := 1) hx hb dX10_uses_93 (by decide) ?_
                refine lb_newi hx hb (bw0 (w := Cond.arrayClass .int) hts 5 rfl) hK hP hD hS hA 1 (by decide) rfl (by show 1 * 4 ≤ _; omega) (by show _ ≤ 1; omega) (by show _ ≤ 2; omega) dX10_uses_94 (fun a14_ H hP hD hS => ?_)
                have hP : va_P G.1 vwCl (lxF [[(o, .inr (10, [.ref ok, .ref ol, .ref on]))], [(ol, lxq k n rr)], lrB G r fs fa fb n, [(a14_, .inl (G.2.1, 1, .inl (fun _ => 0)))]]) H := hP
                have hD : va_D A (lxF [[(o, .inr (10, [.ref ok, .ref ol, .ref on]))], [(ol, lxq k n rr)], lrB G r fs fa fb n, [(a14_, .inl (G.2.1, 1, .inl (fun _ => 0)))]]) := hD
                refine lv_dup hx hb dX10_uses_96 rfl ?_
                refine lv_iconst (v := 0) hx hb dX10_uses_97 (by decide) ?_
                refine lv_aload_n hx hb dX10_uses_98 rfl (lv_at hl 2 rfl) ?_
                refine lv_iconst (v := 1) hx hb dX10_uses_99 (by decide) ?_
                refine lb_iald (v := fa i) hx hb hK hP 2 i rfl (lrB_at (by omega)) (i := 1) (vp_in_nI (n := 1) (by omega) (by omega)) rfl dX10_uses_100 ?_
                refine lb_iast (x := fa i) hx hb hK hP hD hS 3 0 rfl rfl (i := 0) (i' := 0) (vp_in_nI (n := 0) (by omega) (by omega)) rfl dX10_uses_101 (fun H locs hP hD hS => ?_)
                have hP : va_P G.1 vwCl (lxF [[(o, .inr (10, [.ref ok, .ref ol, .ref on]))], [(ol, lxq k n rr)], lrB G r fs fa fb n, [(a14_, .inl (G.2.1, 1, .inl (upd (fun _ => 0) 0 (fa i))))]]) H := hP
                have hD : va_D A (lxF [[(o, .inr (10, [.ref ok, .ref ol, .ref on]))], [(ol, lxq k n rr)], lrB G r fs fa fb n, [(a14_, .inl (G.2.1, 1, .inl (upd (fun _ => 0) 0 (fa i))))]]) := hD
                refine lv_goto (tgt := 108) hx hb dX10_uses_102 (by decide) ?_
                exact ly_ra hx hb hr (Or.inr ⟨_, rfl⟩) hlk hP hD hS (⟨_, 1, _, rfl, rfl, by omega, fun j hj => by rw [show j = 0 by omega]; left; rw [es]; rcases (show t = 5 ∨ t = 6 ∨ t = 7 ∨ t = 8 ∨ t = 13 ∨ t = 14 ∨ t = 16 by omega) with e | e | e | e | e | e | e <;> (rw [e]; exact ⟨rfl, by decide, by decide, by decide, by decide, by decide⟩)⟩) (by omega) (by omega) dX10_uses_108
        · have nc22 := (not_congr (nI_leI (a := t) (b := 4) (by omega) (by omega))).mp c22
          refine lv_iload_n hx hb dX10_uses_57 rfl (lv_at hl 0 rfl) ?_
          refine lv_bipush (v := 9) hx hb dX10_uses_58 (by decide) ?_
          refine lv_icmp_lt (tgt := 81) hx hb dX10_uses_60 (by decide) (fun c30 => ?_) (fun c30 => ?_)
          · have nc30 := (nI_ltI (a := t) (b := 9) (by omega) (by omega)).mp c30
            refine lv_iconst (v := 1) hx hb dX10_uses_81 (by decide) ?_
            refine lv_goto (tgt := 86) hx hb dX10_uses_82 (by decide) ?_
            refine lv_istore (lv' := [(4, .int 1), (3, .int (nI t)), (2, .ref (r i)), (0, .ref o), (1, .int (nI i))]) hx hb dX10_uses_86 hl (by decide) rfl (fun ls hl => ?_)
            refine lv_iload hx hb dX10_uses_88 (lv_at hl 0 rfl) ?_
            refine lv_if_eq (tgt := 105) hx hb dX10_uses_90 (by decide) (fun c31 => absurd c31 (by decide)) (fun c31 => ?_)
            refine lv_iconst (v := 1) hx hb dX10_uses_93 (by decide) ?_
            refine lb_newi hx hb (bw0 (w := Cond.arrayClass .int) hts 5 rfl) hK hP hD hS hA 1 (by decide) rfl (by show 1 * 4 ≤ _; omega) (by show _ ≤ 1; omega) (by show _ ≤ 2; omega) dX10_uses_94 (fun a15_ H hP hD hS => ?_)
            have hP : va_P G.1 vwCl (lxF [[(o, .inr (10, [.ref ok, .ref ol, .ref on]))], [(ol, lxq k n rr)], lrB G r fs fa fb n, [(a15_, .inl (G.2.1, 1, .inl (fun _ => 0)))]]) H := hP
            have hD : va_D A (lxF [[(o, .inr (10, [.ref ok, .ref ol, .ref on]))], [(ol, lxq k n rr)], lrB G r fs fa fb n, [(a15_, .inl (G.2.1, 1, .inl (fun _ => 0)))]]) := hD
            refine lv_dup hx hb dX10_uses_96 rfl ?_
            refine lv_iconst (v := 0) hx hb dX10_uses_97 (by decide) ?_
            refine lv_aload_n hx hb dX10_uses_98 rfl (lv_at hl 2 rfl) ?_
            refine lv_iconst (v := 1) hx hb dX10_uses_99 (by decide) ?_
            refine lb_iald (v := fa i) hx hb hK hP 2 i rfl (lrB_at (by omega)) (i := 1) (vp_in_nI (n := 1) (by omega) (by omega)) rfl dX10_uses_100 ?_
            refine lb_iast (x := fa i) hx hb hK hP hD hS 3 0 rfl rfl (i := 0) (i' := 0) (vp_in_nI (n := 0) (by omega) (by omega)) rfl dX10_uses_101 (fun H locs hP hD hS => ?_)
            have hP : va_P G.1 vwCl (lxF [[(o, .inr (10, [.ref ok, .ref ol, .ref on]))], [(ol, lxq k n rr)], lrB G r fs fa fb n, [(a15_, .inl (G.2.1, 1, .inl (upd (fun _ => 0) 0 (fa i))))]]) H := hP
            have hD : va_D A (lxF [[(o, .inr (10, [.ref ok, .ref ol, .ref on]))], [(ol, lxq k n rr)], lrB G r fs fa fb n, [(a15_, .inl (G.2.1, 1, .inl (upd (fun _ => 0) 0 (fa i))))]]) := hD
            refine lv_goto (tgt := 108) hx hb dX10_uses_102 (by decide) ?_
            exact ly_ra hx hb hr (Or.inr ⟨_, rfl⟩) hlk hP hD hS (⟨_, 1, _, rfl, rfl, by omega, fun j hj => by rw [show j = 0 by omega]; left; rw [es]; rcases (show t = 5 ∨ t = 6 ∨ t = 7 ∨ t = 8 ∨ t = 13 ∨ t = 14 ∨ t = 16 by omega) with e | e | e | e | e | e | e <;> (rw [e]; exact ⟨rfl, by decide, by decide, by decide, by decide, by decide⟩)⟩) (by omega) (by omega) dX10_uses_108
          · have nc30 := (not_congr (nI_ltI (a := t) (b := 9) (by omega) (by omega))).mp c30
            refine lv_iload_n hx hb dX10_uses_63 rfl (lv_at hl 0 rfl) ?_
            refine lv_bipush (v := 13) hx hb dX10_uses_64 (by decide) ?_
            refine lv_icmp_eq (tgt := 81) hx hb dX10_uses_66 (by decide) (fun c32 => ?_) (fun c32 => ?_)
            · have nc32 := (nI_eq (a := t) (b := 13) (by omega) (by omega)).mp c32
              refine lv_iconst (v := 1) hx hb dX10_uses_81 (by decide) ?_
              refine lv_goto (tgt := 86) hx hb dX10_uses_82 (by decide) ?_
              refine lv_istore (lv' := [(4, .int 1), (3, .int (nI t)), (2, .ref (r i)), (0, .ref o), (1, .int (nI i))]) hx hb dX10_uses_86 hl (by decide) rfl (fun ls hl => ?_)
              refine lv_iload hx hb dX10_uses_88 (lv_at hl 0 rfl) ?_
              refine lv_if_eq (tgt := 105) hx hb dX10_uses_90 (by decide) (fun c33 => absurd c33 (by decide)) (fun c33 => ?_)
              refine lv_iconst (v := 1) hx hb dX10_uses_93 (by decide) ?_
              refine lb_newi hx hb (bw0 (w := Cond.arrayClass .int) hts 5 rfl) hK hP hD hS hA 1 (by decide) rfl (by show 1 * 4 ≤ _; omega) (by show _ ≤ 1; omega) (by show _ ≤ 2; omega) dX10_uses_94 (fun a16_ H hP hD hS => ?_)
              have hP : va_P G.1 vwCl (lxF [[(o, .inr (10, [.ref ok, .ref ol, .ref on]))], [(ol, lxq k n rr)], lrB G r fs fa fb n, [(a16_, .inl (G.2.1, 1, .inl (fun _ => 0)))]]) H := hP
              have hD : va_D A (lxF [[(o, .inr (10, [.ref ok, .ref ol, .ref on]))], [(ol, lxq k n rr)], lrB G r fs fa fb n, [(a16_, .inl (G.2.1, 1, .inl (fun _ => 0)))]]) := hD
              refine lv_dup hx hb dX10_uses_96 rfl ?_
              refine lv_iconst (v := 0) hx hb dX10_uses_97 (by decide) ?_
              refine lv_aload_n hx hb dX10_uses_98 rfl (lv_at hl 2 rfl) ?_
              refine lv_iconst (v := 1) hx hb dX10_uses_99 (by decide) ?_
              refine lb_iald (v := fa i) hx hb hK hP 2 i rfl (lrB_at (by omega)) (i := 1) (vp_in_nI (n := 1) (by omega) (by omega)) rfl dX10_uses_100 ?_
              refine lb_iast (x := fa i) hx hb hK hP hD hS 3 0 rfl rfl (i := 0) (i' := 0) (vp_in_nI (n := 0) (by omega) (by omega)) rfl dX10_uses_101 (fun H locs hP hD hS => ?_)
              have hP : va_P G.1 vwCl (lxF [[(o, .inr (10, [.ref ok, .ref ol, .ref on]))], [(ol, lxq k n rr)], lrB G r fs fa fb n, [(a16_, .inl (G.2.1, 1, .inl (upd (fun _ => 0) 0 (fa i))))]]) H := hP
              have hD : va_D A (lxF [[(o, .inr (10, [.ref ok, .ref ol, .ref on]))], [(ol, lxq k n rr)], lrB G r fs fa fb n, [(a16_, .inl (G.2.1, 1, .inl (upd (fun _ => 0) 0 (fa i))))]]) := hD
              refine lv_goto (tgt := 108) hx hb dX10_uses_102 (by decide) ?_
              exact ly_ra hx hb hr (Or.inr ⟨_, rfl⟩) hlk hP hD hS (⟨_, 1, _, rfl, rfl, by omega, fun j hj => by rw [show j = 0 by omega]; left; rw [es]; rcases (show t = 5 ∨ t = 6 ∨ t = 7 ∨ t = 8 ∨ t = 13 ∨ t = 14 ∨ t = 16 by omega) with e | e | e | e | e | e | e <;> (rw [e]; exact ⟨rfl, by decide, by decide, by decide, by decide, by decide⟩)⟩) (by omega) (by omega) dX10_uses_108
            · have nc32 := (not_congr (nI_eq (a := t) (b := 13) (by omega) (by omega))).mp c32
              refine lv_iload_n hx hb dX10_uses_69 rfl (lv_at hl 0 rfl) ?_
              refine lv_bipush (v := 14) hx hb dX10_uses_70 (by decide) ?_
              refine lv_icmp_eq (tgt := 81) hx hb dX10_uses_72 (by decide) (fun c34 => ?_) (fun c34 => ?_)
              · have nc34 := (nI_eq (a := t) (b := 14) (by omega) (by omega)).mp c34
                refine lv_iconst (v := 1) hx hb dX10_uses_81 (by decide) ?_
                refine lv_goto (tgt := 86) hx hb dX10_uses_82 (by decide) ?_
                refine lv_istore (lv' := [(4, .int 1), (3, .int (nI t)), (2, .ref (r i)), (0, .ref o), (1, .int (nI i))]) hx hb dX10_uses_86 hl (by decide) rfl (fun ls hl => ?_)
                refine lv_iload hx hb dX10_uses_88 (lv_at hl 0 rfl) ?_
                refine lv_if_eq (tgt := 105) hx hb dX10_uses_90 (by decide) (fun c35 => absurd c35 (by decide)) (fun c35 => ?_)
                refine lv_iconst (v := 1) hx hb dX10_uses_93 (by decide) ?_
                refine lb_newi hx hb (bw0 (w := Cond.arrayClass .int) hts 5 rfl) hK hP hD hS hA 1 (by decide) rfl (by show 1 * 4 ≤ _; omega) (by show _ ≤ 1; omega) (by show _ ≤ 2; omega) dX10_uses_94 (fun a17_ H hP hD hS => ?_)
                have hP : va_P G.1 vwCl (lxF [[(o, .inr (10, [.ref ok, .ref ol, .ref on]))], [(ol, lxq k n rr)], lrB G r fs fa fb n, [(a17_, .inl (G.2.1, 1, .inl (fun _ => 0)))]]) H := hP
                have hD : va_D A (lxF [[(o, .inr (10, [.ref ok, .ref ol, .ref on]))], [(ol, lxq k n rr)], lrB G r fs fa fb n, [(a17_, .inl (G.2.1, 1, .inl (fun _ => 0)))]]) := hD
                refine lv_dup hx hb dX10_uses_96 rfl ?_
                refine lv_iconst (v := 0) hx hb dX10_uses_97 (by decide) ?_
                refine lv_aload_n hx hb dX10_uses_98 rfl (lv_at hl 2 rfl) ?_
                refine lv_iconst (v := 1) hx hb dX10_uses_99 (by decide) ?_
                refine lb_iald (v := fa i) hx hb hK hP 2 i rfl (lrB_at (by omega)) (i := 1) (vp_in_nI (n := 1) (by omega) (by omega)) rfl dX10_uses_100 ?_
                refine lb_iast (x := fa i) hx hb hK hP hD hS 3 0 rfl rfl (i := 0) (i' := 0) (vp_in_nI (n := 0) (by omega) (by omega)) rfl dX10_uses_101 (fun H locs hP hD hS => ?_)
                have hP : va_P G.1 vwCl (lxF [[(o, .inr (10, [.ref ok, .ref ol, .ref on]))], [(ol, lxq k n rr)], lrB G r fs fa fb n, [(a17_, .inl (G.2.1, 1, .inl (upd (fun _ => 0) 0 (fa i))))]]) H := hP
                have hD : va_D A (lxF [[(o, .inr (10, [.ref ok, .ref ol, .ref on]))], [(ol, lxq k n rr)], lrB G r fs fa fb n, [(a17_, .inl (G.2.1, 1, .inl (upd (fun _ => 0) 0 (fa i))))]]) := hD
                refine lv_goto (tgt := 108) hx hb dX10_uses_102 (by decide) ?_
                exact ly_ra hx hb hr (Or.inr ⟨_, rfl⟩) hlk hP hD hS (⟨_, 1, _, rfl, rfl, by omega, fun j hj => by rw [show j = 0 by omega]; left; rw [es]; rcases (show t = 5 ∨ t = 6 ∨ t = 7 ∨ t = 8 ∨ t = 13 ∨ t = 14 ∨ t = 16 by omega) with e | e | e | e | e | e | e <;> (rw [e]; exact ⟨rfl, by decide, by decide, by decide, by decide, by decide⟩)⟩) (by omega) (by omega) dX10_uses_108
              · have nc34 := (not_congr (nI_eq (a := t) (b := 14) (by omega) (by omega))).mp c34
                refine lv_iload_n hx hb dX10_uses_75 rfl (lv_at hl 0 rfl) ?_
                refine lv_bipush (v := 16) hx hb dX10_uses_76 (by decide) ?_
                refine lv_icmp_ne (tgt := 85) hx hb dX10_uses_78 (by decide) (fun c36 => ?_) (fun c36 => ?_)
                · have nc36 := (not_congr (nI_eq (a := t) (b := 16) (by omega) (by omega))).mp c36
                  refine lv_iconst (v := 0) hx hb dX10_uses_85 (by decide) ?_
                  refine lv_istore (lv' := [(4, .int 0), (3, .int (nI t)), (2, .ref (r i)), (0, .ref o), (1, .int (nI i))]) hx hb dX10_uses_86 hl (by decide) rfl (fun ls hl => ?_)
                  refine lv_iload hx hb dX10_uses_88 (lv_at hl 0 rfl) ?_
                  refine lv_if_eq (tgt := 105) hx hb dX10_uses_90 (by decide) (fun c37 => ?_) (fun c37 => absurd c37 (by decide))
                  refine lv_iconst (v := 0) hx hb dX10_uses_105 (by decide) ?_
                  refine lb_newi hx hb (bw0 (w := Cond.arrayClass .int) hts 5 rfl) hK hP hD hS hA 0 (by decide) rfl (by show 0 * 4 ≤ _; omega) (by show _ ≤ 1; omega) (by show _ ≤ 2; omega) dX10_uses_106 (fun a18_ H hP hD hS => ?_)
                  have hP : va_P G.1 vwCl (lxF [[(o, .inr (10, [.ref ok, .ref ol, .ref on]))], [(ol, lxq k n rr)], lrB G r fs fa fb n, [(a18_, .inl (G.2.1, 0, .inl (fun _ => 0)))]]) H := hP
                  have hD : va_D A (lxF [[(o, .inr (10, [.ref ok, .ref ol, .ref on]))], [(ol, lxq k n rr)], lrB G r fs fa fb n, [(a18_, .inl (G.2.1, 0, .inl (fun _ => 0)))]]) := hD
                  exact ly_ra hx hb hr (Or.inr ⟨_, rfl⟩) hlk hP hD hS (⟨_, 0, _, rfl, rfl, by omega, fun j hj => absurd hj (Nat.not_lt_zero _)⟩) (by omega) (by omega) dX10_uses_108
                · have nc36 := (nI_eq (a := t) (b := 16) (by omega) (by omega)).mp c36
                  refine lv_iconst (v := 1) hx hb dX10_uses_81 (by decide) ?_
                  refine lv_goto (tgt := 86) hx hb dX10_uses_82 (by decide) ?_
                  refine lv_istore (lv' := [(4, .int 1), (3, .int (nI t)), (2, .ref (r i)), (0, .ref o), (1, .int (nI i))]) hx hb dX10_uses_86 hl (by decide) rfl (fun ls hl => ?_)
                  refine lv_iload hx hb dX10_uses_88 (lv_at hl 0 rfl) ?_
                  refine lv_if_eq (tgt := 105) hx hb dX10_uses_90 (by decide) (fun c38 => absurd c38 (by decide)) (fun c38 => ?_)
                  refine lv_iconst (v := 1) hx hb dX10_uses_93 (by decide) ?_
                  refine lb_newi hx hb (bw0 (w := Cond.arrayClass .int) hts 5 rfl) hK hP hD hS hA 1 (by decide) rfl (by show 1 * 4 ≤ _; omega) (by show _ ≤ 1; omega) (by show _ ≤ 2; omega) dX10_uses_94 (fun a19_ H hP hD hS => ?_)
                  have hP : va_P G.1 vwCl (lxF [[(o, .inr (10, [.ref ok, .ref ol, .ref on]))], [(ol, lxq k n rr)], lrB G r fs fa fb n, [(a19_, .inl (G.2.1, 1, .inl (fun _ => 0)))]]) H := hP
                  have hD : va_D A (lxF [[(o, .inr (10, [.ref ok, .ref ol, .ref on]))], [(ol, lxq k n rr)], lrB G r fs fa fb n, [(a19_, .inl (G.2.1, 1, .inl (fun _ => 0)))]]) := hD
                  refine lv_dup hx hb dX10_uses_96 rfl ?_
                  refine lv_iconst (v := 0) hx hb dX10_uses_97 (by decide) ?_
                  refine lv_aload_n hx hb dX10_uses_98 rfl (lv_at hl 2 rfl) ?_
                  refine lv_iconst (v := 1) hx hb dX10_uses_99 (by decide) ?_
                  refine lb_iald (v := fa i) hx hb hK hP 2 i rfl (lrB_at (by omega)) (i := 1) (vp_in_nI (n := 1) (by omega) (by omega)) rfl dX10_uses_100 ?_
                  refine lb_iast (x := fa i) hx hb hK hP hD hS 3 0 rfl rfl (i := 0) (i' := 0) (vp_in_nI (n := 0) (by omega) (by omega)) rfl dX10_uses_101 (fun H locs hP hD hS => ?_)
                  have hP : va_P G.1 vwCl (lxF [[(o, .inr (10, [.ref ok, .ref ol, .ref on]))], [(ol, lxq k n rr)], lrB G r fs fa fb n, [(a19_, .inl (G.2.1, 1, .inl (upd (fun _ => 0) 0 (fa i))))]]) H := hP
                  have hD : va_D A (lxF [[(o, .inr (10, [.ref ok, .ref ol, .ref on]))], [(ol, lxq k n rr)], lrB G r fs fa fb n, [(a19_, .inl (G.2.1, 1, .inl (upd (fun _ => 0) 0 (fa i))))]]) := hD
                  refine lv_goto (tgt := 108) hx hb dX10_uses_102 (by decide) ?_
                  exact ly_ra hx hb hr (Or.inr ⟨_, rfl⟩) hlk hP hD hS (⟨_, 1, _, rfl, rfl, by omega, fun j hj => by rw [show j = 0 by omega]; left; rw [es]; rcases (show t = 5 ∨ t = 6 ∨ t = 7 ∨ t = 8 ∨ t = 13 ∨ t = 14 ∨ t = 16 by omega) with e | e | e | e | e | e | e <;> (rw [e]; exact ⟨rfl, by decide, by decide, by decide, by decide, by decide⟩)⟩) (by omega) (by omega) dX10_uses_108
      · have nc21 := (nI_eq (a := t) (b := 12) (by omega) (by omega)).mp c21
        refine lv_iconst (v := 2) hx hb dX10_uses_36 (by decide) ?_
        refine lb_newi hx hb (bw0 (w := Cond.arrayClass .int) hts 5 rfl) hK hP hD hS hA 2 (by decide) rfl (by show 2 * 4 ≤ _; omega) (by show _ ≤ 1; omega) (by show _ ≤ 2; omega) dX10_uses_37 (fun a20_ H hP hD hS => ?_)
        have hP : va_P G.1 vwCl (lxF [[(o, .inr (10, [.ref ok, .ref ol, .ref on]))], [(ol, lxq k n rr)], lrB G r fs fa fb n, [(a20_, .inl (G.2.1, 2, .inl (fun _ => 0)))]]) H := hP
        have hD : va_D A (lxF [[(o, .inr (10, [.ref ok, .ref ol, .ref on]))], [(ol, lxq k n rr)], lrB G r fs fa fb n, [(a20_, .inl (G.2.1, 2, .inl (fun _ => 0)))]]) := hD
        refine lv_dup hx hb dX10_uses_39 rfl ?_
        refine lv_iconst (v := 0) hx hb dX10_uses_40 (by decide) ?_
        refine lv_aload_n hx hb dX10_uses_41 rfl (lv_at hl 1 rfl) ?_
        refine lv_iconst (v := 1) hx hb dX10_uses_42 (by decide) ?_
        refine lb_iald (v := fa i) hx hb hK hP 2 i rfl (lrB_at (by omega)) (i := 1) (vp_in_nI (n := 1) (by omega) (by omega)) rfl dX10_uses_43 ?_
        refine lb_iast (x := fa i) hx hb hK hP hD hS 3 0 rfl rfl (i := 0) (i' := 0) (vp_in_nI (n := 0) (by omega) (by omega)) rfl dX10_uses_44 (fun H locs hP hD hS => ?_)
        have hP : va_P G.1 vwCl (lxF [[(o, .inr (10, [.ref ok, .ref ol, .ref on]))], [(ol, lxq k n rr)], lrB G r fs fa fb n, [(a20_, .inl (G.2.1, 2, .inl (upd (fun _ => 0) 0 (fa i))))]]) H := hP
        have hD : va_D A (lxF [[(o, .inr (10, [.ref ok, .ref ol, .ref on]))], [(ol, lxq k n rr)], lrB G r fs fa fb n, [(a20_, .inl (G.2.1, 2, .inl (upd (fun _ => 0) 0 (fa i))))]]) := hD
        refine lv_dup hx hb dX10_uses_45 rfl ?_
        refine lv_iconst (v := 1) hx hb dX10_uses_46 (by decide) ?_
        refine lv_aload_n hx hb dX10_uses_47 rfl (lv_at hl 1 rfl) ?_
        refine lv_iconst (v := 2) hx hb dX10_uses_48 (by decide) ?_
        refine lb_iald (v := fb i) hx hb hK hP 2 i rfl (lrB_at (by omega)) (i := 2) (vp_in_nI (n := 2) (by omega) (by omega)) rfl dX10_uses_49 ?_
        refine lb_iast (x := fb i) hx hb hK hP hD hS 3 0 rfl rfl (i := 1) (i' := 1) (vp_in_nI (n := 1) (by omega) (by omega)) rfl dX10_uses_50 (fun H locs hP hD hS => ?_)
        have hP : va_P G.1 vwCl (lxF [[(o, .inr (10, [.ref ok, .ref ol, .ref on]))], [(ol, lxq k n rr)], lrB G r fs fa fb n, [(a20_, .inl (G.2.1, 2, .inl (upd (upd (fun _ => 0) 0 (fa i)) 1 (fb i))))]]) H := hP
        have hD : va_D A (lxF [[(o, .inr (10, [.ref ok, .ref ol, .ref on]))], [(ol, lxq k n rr)], lrB G r fs fa fb n, [(a20_, .inl (G.2.1, 2, .inl (upd (upd (fun _ => 0) 0 (fa i)) 1 (fb i))))]]) := hD
        exact ly_ra hx hb hr (Or.inr ⟨_, rfl⟩) hlk hP hD hS (⟨_, 2, _, rfl, rfl, by omega, fun j hj => by rcases (show j = 0 ∨ j = 1 by omega) with e | e <;> subst e <;> first | (left; rw [es, show t = 12 by omega]; exact ⟨rfl, by decide, by decide, by decide, by decide, by decide⟩) | (right; exact ⟨by rw [es, show t = 12 by omega]; rfl, rfl⟩)⟩) (by omega) (by omega) dX10_uses_51
    · have nc20 := (not_congr (nI_leI (a := 5) (b := t) (by omega) (by omega))).mp c20
      refine lv_iconst (v := 1) hx hb dX10_uses_20 (by decide) ?_
      refine lb_newi hx hb (bw0 (w := Cond.arrayClass .int) hts 5 rfl) hK hP hD hS hA 1 (by decide) rfl (by show 1 * 4 ≤ _; omega) (by show _ ≤ 1; omega) (by show _ ≤ 2; omega) dX10_uses_21 (fun a21_ H hP hD hS => ?_)
      have hP : va_P G.1 vwCl (lxF [[(o, .inr (10, [.ref ok, .ref ol, .ref on]))], [(ol, lxq k n rr)], lrB G r fs fa fb n, [(a21_, .inl (G.2.1, 1, .inl (fun _ => 0)))]]) H := hP
      have hD : va_D A (lxF [[(o, .inr (10, [.ref ok, .ref ol, .ref on]))], [(ol, lxq k n rr)], lrB G r fs fa fb n, [(a21_, .inl (G.2.1, 1, .inl (fun _ => 0)))]]) := hD
      refine lv_dup hx hb dX10_uses_23 rfl ?_
      refine lv_iconst (v := 0) hx hb dX10_uses_24 (by decide) ?_
      refine lv_aload_n hx hb dX10_uses_25 rfl (lv_at hl 1 rfl) ?_
      refine lv_iconst (v := 2) hx hb dX10_uses_26 (by decide) ?_
      refine lb_iald (v := fb i) hx hb hK hP 2 i rfl (lrB_at (by omega)) (i := 2) (vp_in_nI (n := 2) (by omega) (by omega)) rfl dX10_uses_27 ?_
      refine lb_iast (x := fb i) hx hb hK hP hD hS 3 0 rfl rfl (i := 0) (i' := 0) (vp_in_nI (n := 0) (by omega) (by omega)) rfl dX10_uses_28 (fun H locs hP hD hS => ?_)
      have hP : va_P G.1 vwCl (lxF [[(o, .inr (10, [.ref ok, .ref ol, .ref on]))], [(ol, lxq k n rr)], lrB G r fs fa fb n, [(a21_, .inl (G.2.1, 1, .inl (upd (fun _ => 0) 0 (fb i))))]]) H := hP
      have hD : va_D A (lxF [[(o, .inr (10, [.ref ok, .ref ol, .ref on]))], [(ol, lxq k n rr)], lrB G r fs fa fb n, [(a21_, .inl (G.2.1, 1, .inl (upd (fun _ => 0) 0 (fb i))))]]) := hD
      exact ly_ra hx hb hr (Or.inr ⟨_, rfl⟩) hlk hP hD hS (⟨_, 1, _, rfl, rfl, by omega, fun j hj => by rw [show j = 0 by omega]; left; rw [es]; rcases (show t = 1 ∨ t = 2 ∨ t = 3 ∨ t = 4 by omega) with e | e | e | e <;> (rw [e]; exact ⟨rfl, by decide, by decide, by decide, by decide, by decide⟩)⟩) (by omega) (by omega) dX10_uses_29

/-- a line's sort is a small number -/
theorem ls_sort {fk : Nat → Int32} {s a b : Int32} (h : qp_F 8 fk s a b) : ∃ t : Nat, t ≤ 16 ∧ s = nI t := by
  rcases qp_fit h with ⟨s, f⟩ | ⟨s, f⟩ | ⟨s, f⟩ | ⟨s, f⟩ | ⟨s, f⟩ | ⟨s, f⟩ | ⟨s, f⟩ | ⟨s, f⟩ | ⟨s, f⟩ | ⟨s, f⟩ | ⟨s, f⟩ | ⟨s, f⟩ | ⟨s, f⟩ | ⟨s, f⟩ | ⟨s, f⟩ | ⟨s, f⟩ | ⟨s, f⟩
  · exact ⟨0, by decide, s⟩
  · exact ⟨1, by decide, s⟩
  · exact ⟨2, by decide, s⟩
  · exact ⟨3, by decide, s⟩
  · exact ⟨4, by decide, s⟩
  · exact ⟨5, by decide, s⟩
  · exact ⟨6, by decide, s⟩
  · exact ⟨7, by decide, s⟩
  · exact ⟨8, by decide, s⟩
  · exact ⟨9, by decide, s⟩
  · exact ⟨10, by decide, s⟩
  · exact ⟨11, by decide, s⟩
  · exact ⟨12, by decide, s⟩
  · exact ⟨13, by decide, s⟩
  · exact ⟨14, by decide, s⟩
  · exact ⟨15, by decide, s⟩
  · exact ⟨16, by decide, s⟩
