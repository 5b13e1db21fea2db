abbrev wdX7_fact : List Cond := Cond.code yX7_fact cX7_fact 3 (some .int) :: bwC
def s_X7_fact (sc : Int32) (zs : Nat → Int32) (zn : Nat → Int32) (zl : Nat → Int32) (p1 : Int32) (p2 : Int32) : Int32 := if (s_X7_isKept sc p1) = 0 then (-1) else (if p2 = 0 then zs p1.toNatClampNeg else (if p2 = 1 then zn p1.toNatClampNeg else zl p1.toNatClampNeg))
set_option maxHeartbeats 4000000 in
set_option maxRecDepth 100000 in
theorem c_X7_fact (l : Launch) (G : sxG) (o : Nat) (t0 : Nat) (t1 : Nat) (t2 : Nat) (sc : Int32) (zs : Nat → Int32) (zn : Nat → Int32) (zl : Nat → Int32) (p1 : Int32) (p2 : Int32)  : sxM l yX7_fact wdX7_fact 3 62 G [(o, .inr (7, [.ref t0, .ref t1, .ref t2, .int sc])), (t0, .inl (G.2.1, 60, .inl zs)), (t1, .inl (G.2.1, 60, .inl zn)), (t2, .inl (G.2.1, 60, .inl zl))] [.ref o, .int p1, .int p2] (fun r => r = s_X7_fact sc zs zn zl p1 p2) := by
  refine sxM.of (cc := cX7_fact) (maxL := 3) (by decide) rfl (Nat.le_of_ble_eq_true rfl) ?_
  intro p e s m args below meth c ⟨hx, hb, hr, hml, hown, hlk, hts, hK⟩ hP ls hl
  have hl : lv_has ls 3 [(0, .ref o), (1, .int p1), (2, .int p2)] := hl
  refine lv_aload_n hx hb dX7_fact_0 rfl (lv_at hl 0 rfl) ?_
  refine lv_iload_n hx hb dX7_fact_1 rfl (lv_at hl 1 rfl) ?_
  refine sx_v (As := [.int p1]) (rest := []) hx hb hml hown hts (c_X7_isKept l G o t0 t1 t2 sc p1 ) 1 (sxGV (bi9 (w := Cond.methodLink RX7 39 yX7_isKept) 38 rfl) (bi9 (w := Cond.instanceMethod yX7_isKept) 39 rfl) (bi9 (w := Cond.selects RX7 yX7_isKept yX7_isKept) 40 rfl) (bi6 (w := Cond.initialized RX7) 36 rfl) (bi9 (w := Cond.code yX7_isKept cX7_isKept 2 (some .boolean)) 33 rfl)) rfl (by decide +kernel) ⟨Nat.le_of_ble_eq_true rfl, Nat.le_of_ble_eq_true rfl⟩ hK hP [0] rfl 0 rfl rfl rfl hl rfl (Nat.le_of_ble_eq_true rfl) ⟨Nat.zero_le _, Nat.zero_le _⟩ dX7_fact_2 (fun r er => ?_)
  subst er
  refine lv_if_ne (tgt := 10) hx hb dX7_fact_5 (by decide) (fun c1 => ?_) (fun c1 => ?_)
  · refine lv_iload_n hx hb dX7_fact_10 rfl (lv_at hl 2 rfl) ?_
    by_cases c2 : p2 = 0
    · refine lv_lookup (tgt := 36) hx hb dX7_fact_11 (by decide) (off := 25) (by show Op.lookupswitch.offset [(0, 25), (1, 32)] 39 (p2 : Int32).toInt = 25; rw [c2]; rfl) (by decide) ?_
      refine lv_aload_n hx hb dX7_fact_36 rfl (lv_at hl 0 rfl) ?_
      refine va_get (D := G.1) (ci := 7) (v := .ref t0) (C := RX7) (T := TX7) (N := 4) hx hb hts owX7 hown hK.1 hP 0 rfl rfl 0 (by decide) (bw6 (w := Cond.fieldLink RX7 9 "DropflagMill$Story" "sorts" "[I") hts 27 rfl) (fun _ h9 => h9) rfl dX7_fact_37 ?_
      refine lv_iload_n hx hb dX7_fact_40 rfl (lv_at hl 1 rfl) ?_
      refine va_iald hx hb hK.1 hP 1 0 rfl rfl (i := p1) (sx_in_kept c1) dX7_fact_41 ?_
      exact sx_ret hx hb hr hlk rfl (by simp only [s_X7_fact, if_neg c1, if_pos c2]) dX7_fact_42
    · by_cases c3 : p2 = 1
      · refine lv_lookup (tgt := 43) hx hb dX7_fact_11 (by decide) (off := 32) (by show Op.lookupswitch.offset [(0, 25), (1, 32)] 39 (p2 : Int32).toInt = 32; rw [lv_osw (a := 0) c2 rfl]; rw [c3]; rfl) (by decide) ?_
        refine lv_aload_n hx hb dX7_fact_43 rfl (lv_at hl 0 rfl) ?_
        refine va_get (D := G.1) (ci := 7) (v := .ref t1) (C := RX7) (T := TX7) (N := 4) hx hb hts owX7 hown hK.1 hP 0 rfl rfl 1 (by decide) (bw6 (w := Cond.fieldLink RX7 15 "DropflagMill$Story" "numbers" "[I") hts 28 rfl) (fun _ h9 => h9) rfl dX7_fact_44 ?_
        refine lv_iload_n hx hb dX7_fact_47 rfl (lv_at hl 1 rfl) ?_
        refine va_iald hx hb hK.1 hP 2 0 rfl rfl (i := p1) (sx_in_kept c1) dX7_fact_48 ?_
        exact sx_ret hx hb hr hlk rfl (by simp only [s_X7_fact, if_neg c1, if_neg c2, if_pos c3]) dX7_fact_49
      · refine lv_lookup (tgt := 50) hx hb dX7_fact_11 (by decide) (off := 39) (by show Op.lookupswitch.offset [(0, 25), (1, 32)] 39 (p2 : Int32).toInt = 39; rw [lv_osw (a := 0) c2 rfl, lv_osw (a := 1) c3 rfl]; rfl) (by decide) ?_
        refine lv_aload_n hx hb dX7_fact_50 rfl (lv_at hl 0 rfl) ?_
        refine va_get (D := G.1) (ci := 7) (v := .ref t2) (C := RX7) (T := TX7) (N := 4) hx hb hts owX7 hown hK.1 hP 0 rfl rfl 2 (by decide) (bw6 (w := Cond.fieldLink RX7 18 "DropflagMill$Story" "lines" "[I") hts 29 rfl) (fun _ h9 => h9) rfl dX7_fact_51 ?_
        refine lv_iload_n hx hb dX7_fact_54 rfl (lv_at hl 1 rfl) ?_
        refine va_iald hx hb hK.1 hP 3 0 rfl rfl (i := p1) (sx_in_kept c1) dX7_fact_55 ?_
        exact sx_ret hx hb hr hlk rfl (by simp only [s_X7_fact, if_neg c1, if_neg c2, if_neg c3]) dX7_fact_56
  · refine lv_iconst (v := (-1)) hx hb dX7_fact_8 (by decide) ?_
    exact sx_ret hx hb hr hlk rfl (by simp only [s_X7_fact, if_pos c1]) dX7_fact_9
