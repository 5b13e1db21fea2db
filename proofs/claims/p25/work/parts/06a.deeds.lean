abbrev wdX1_usedFirst : List Cond := Cond.code yX1_usedFirst cX1_usedFirst 2 (some .int) :: bwC
def s_X1_usedFirst (pn : Nat) (fs : Nat → Int32) (fa : Nat → Int32) (fb : Nat → Int32) (p1 : Int32) : Int32 := if (s_X5_sortAt pn fs p1) = 1 then s_X5_bAt pn fb p1 else (if (s_X5_sortAt pn fs p1) = 2 then s_X5_bAt pn fb p1 else (if (s_X5_sortAt pn fs p1) = 3 then s_X5_bAt pn fb p1 else (if (s_X5_sortAt pn fs p1) = 4 then s_X5_bAt pn fb p1 else (if (s_X5_sortAt pn fs p1) = 5 then s_X5_aAt pn fa p1 else (if (s_X5_sortAt pn fs p1) = 6 then s_X5_aAt pn fa p1 else (if (s_X5_sortAt pn fs p1) = 7 then s_X5_aAt pn fa p1 else (if (s_X5_sortAt pn fs p1) = 8 then s_X5_aAt pn fa p1 else (if (s_X5_sortAt pn fs p1) = 9 then (-1) else (if (s_X5_sortAt pn fs p1) = 10 then (-1) else (if (s_X5_sortAt pn fs p1) = 11 then (-1) else (if (s_X5_sortAt pn fs p1) = 12 then s_X5_aAt pn fa p1 else (if (s_X5_sortAt pn fs p1) = 13 then s_X5_aAt pn fa p1 else (if (s_X5_sortAt pn fs p1) = 14 then s_X5_aAt pn fa p1 else (if (s_X5_sortAt pn fs p1) = 15 then (-1) else (if (s_X5_sortAt pn fs p1) = 16 then s_X5_aAt pn fa p1 else (-1))))))))))))))))
set_option maxHeartbeats 4000000 in
set_option maxRecDepth 100000 in
theorem c_X1_usedFirst (l : Launch) (G : sxG) (o : Nat) (h : Nat) (d1 : Nat) (d2 : Nat) (d3 : Nat) (d4 : Nat) (d5 : Nat) (d6 : Nat) (d7 : Nat) (d8 : Nat) (d9 : Nat) (k0 : Nat) (k1 : Nat) (k2 : Nat) (k3 : Nat) (pv : Nat) (pn : Nat) (fs : Nat → Int32) (fa : Nat → Int32) (fb : Nat → Int32) (p1 : Int32) (hn : pn ≤ 33) : sxM l yX1_usedFirst wdX1_usedFirst 2 42 G [(o, .inr (1, [.ref h, .ref d1, .ref d2, .ref d3, .ref d4, .ref d5, .ref d6, .ref d7, .ref d8, .ref d9])), (h, .inr (5, [.ref k0, .ref k1, .ref k2, .ref k3, .int (nI pv), .int (nI pn)])), (k1, .inl (G.2.1, 34, .inl fs)), (k2, .inl (G.2.1, 34, .inl fa)), (k3, .inl (G.2.1, 34, .inl fb))] [.ref o, .int p1] (fun r => r = s_X1_usedFirst pn fs fa fb p1) := by
  refine sxM.of (cc := cX1_usedFirst) (maxL := 2) (by decide) rfl (Nat.le_of_ble_eq_true rfl) ?_
  intro p e s m args below meth c ⟨hx, hb, hr, hml, hown, hlk, hts, hK⟩ hP ls hl
  have hl : lv_has ls 2 [(0, .ref o), (1, .int p1)] := hl
  refine lv_aload_n hx hb dX1_usedFirst_0 rfl (lv_at hl 0 rfl) ?_
  refine va_get (D := G.1) (ci := 1) (v := .ref h) (C := RX1) (T := TX1) (N := 10) hx hb hts owX1 hown hK.1 hP 0 rfl rfl 0 (by decide) (bw0 (w := Cond.fieldLink RX1 9 "DropflagMill$Deeds" "program" "LDropflagMill$Program;") hts 4 rfl) (fun _ h9 => h9) rfl dX1_usedFirst_1 ?_
  refine lv_iload_n hx hb dX1_usedFirst_4 rfl (lv_at hl 1 rfl) ?_
  refine sx_v (As := [.int p1]) (rest := []) hx hb hml hown hts (c_X5_sortAt l G h k0 k1 k2 k3 pv pn fs p1 (by omega)) 1 (sxGV (bi1 (w := Cond.methodLink RX1 53 yX5_sortAt) 36 rfl) (bi1 (w := Cond.instanceMethod yX5_sortAt) 37 rfl) (bi1 (w := Cond.selects RX5 yX5_sortAt yX5_sortAt) 38 rfl) (bi1 (w := Cond.initialized RX5) 30 rfl) (bi1 (w := Cond.code yX5_sortAt cX5_sortAt 2 (some .int)) 25 rfl)) rfl (by decide +kernel) ⟨Nat.le_of_ble_eq_true rfl, Nat.le_of_ble_eq_true rfl⟩ hK hP [1, 2] rfl 0 rfl rfl rfl hl rfl (Nat.le_of_ble_eq_true rfl) ⟨Nat.zero_le _, Nat.zero_le _⟩ dX1_usedFirst_5 (fun r er => ?_)
  subst er
  by_cases c1 : (s_X5_sortAt pn fs p1) = 1
  · refine lv_tableIn (off := 80) (tgt := 88) hx hb dX1_usedFirst_8 (by rw [c1]; decide) (by rw [c1]; decide) (by rw [c1]; rfl) (by decide) ?_
    refine lv_aload_n hx hb dX1_usedFirst_88 rfl (lv_at hl 0 rfl) ?_
    refine va_get (D := G.1) (ci := 1) (v := .ref h) (C := RX1) (T := TX1) (N := 10) hx hb hts owX1 hown hK.1 hP 0 rfl rfl 0 (by decide) (bw0 (w := Cond.fieldLink RX1 9 "DropflagMill$Deeds" "program" "LDropflagMill$Program;") hts 4 rfl) (fun _ h9 => h9) rfl dX1_usedFirst_89 ?_
    refine lv_iload_n hx hb dX1_usedFirst_92 rfl (lv_at hl 1 rfl) ?_
    refine sx_v (As := [.int p1]) (rest := []) hx hb hml hown hts (c_X5_bAt l G h k0 k1 k2 k3 pv pn fb p1 (by omega)) 1 (sxGV (bi1 (w := Cond.methodLink RX1 56 yX5_bAt) 39 rfl) (bi1 (w := Cond.instanceMethod yX5_bAt) 40 rfl) (bi1 (w := Cond.selects RX5 yX5_bAt yX5_bAt) 41 rfl) (bi1 (w := Cond.initialized RX5) 30 rfl) (bi1 (w := Cond.code yX5_bAt cX5_bAt 2 (some .int)) 31 rfl)) rfl (by decide +kernel) ⟨Nat.le_of_ble_eq_true rfl, Nat.le_of_ble_eq_true rfl⟩ hK hP [1, 4] rfl 0 rfl rfl rfl hl rfl (Nat.le_of_ble_eq_true rfl) ⟨Nat.zero_le _, Nat.zero_le _⟩ dX1_usedFirst_93 (fun r er => ?_)
    subst er
    exact sx_ret hx hb hr hlk rfl (by simp only [s_X1_usedFirst, if_pos c1]) dX1_usedFirst_96
  · by_cases c2 : (s_X5_sortAt pn fs p1) = 2
    · refine lv_tableIn (off := 80) (tgt := 88) hx hb dX1_usedFirst_8 (by rw [c2]; decide) (by rw [c2]; decide) (by rw [c2]; rfl) (by decide) ?_
      refine lv_aload_n hx hb dX1_usedFirst_88 rfl (lv_at hl 0 rfl) ?_
      refine va_get (D := G.1) (ci := 1) (v := .ref h) (C := RX1) (T := TX1) (N := 10) hx hb hts owX1 hown hK.1 hP 0 rfl rfl 0 (by decide) (bw0 (w := Cond.fieldLink RX1 9 "DropflagMill$Deeds" "program" "LDropflagMill$Program;") hts 4 rfl) (fun _ h9 => h9) rfl dX1_usedFirst_89 ?_
      refine lv_iload_n hx hb dX1_usedFirst_92 rfl (lv_at hl 1 rfl) ?_
      refine sx_v (As := [.int p1]) (rest := []) hx hb hml hown hts (c_X5_bAt l G h k0 k1 k2 k3 pv pn fb p1 (by omega)) 1 (sxGV (bi1 (w := Cond.methodLink RX1 56 yX5_bAt) 39 rfl) (bi1 (w := Cond.instanceMethod yX5_bAt) 40 rfl) (bi1 (w := Cond.selects RX5 yX5_bAt yX5_bAt) 41 rfl) (bi1 (w := Cond.initialized RX5) 30 rfl) (bi1 (w := Cond.code yX5_bAt cX5_bAt 2 (some .int)) 31 rfl)) rfl (by decide +kernel) ⟨Nat.le_of_ble_eq_true rfl, Nat.le_of_ble_eq_true rfl⟩ hK hP [1, 4] rfl 0 rfl rfl rfl hl rfl (Nat.le_of_ble_eq_true rfl) ⟨Nat.zero_le _, Nat.zero_le _⟩ dX1_usedFirst_93 (fun r er => ?_)
      subst er
      exact sx_ret hx hb hr hlk rfl (by simp only [s_X1_usedFirst, if_neg c1, if_pos c2]) dX1_usedFirst_96
    · by_cases c3 : (s_X5_sortAt pn fs p1) = 3
      · refine lv_tableIn (off := 80) (tgt := 88) hx hb dX1_usedFirst_8 (by rw [c3]; decide) (by rw [c3]; decide) (by rw [c3]; rfl) (by decide) ?_
        refine lv_aload_n hx hb dX1_usedFirst_88 rfl (lv_at hl 0 rfl) ?_
        refine va_get (D := G.1) (ci := 1) (v := .ref h) (C := RX1) (T := TX1) (N := 10) hx hb hts owX1 hown hK.1 hP 0 rfl rfl 0 (by decide) (bw0 (w := Cond.fieldLink RX1 9 "DropflagMill$Deeds" "program" "LDropflagMill$Program;") hts 4 rfl) (fun _ h9 => h9) rfl dX1_usedFirst_89 ?_
        refine lv_iload_n hx hb dX1_usedFirst_92 rfl (lv_at hl 1 rfl) ?_
        refine sx_v (As := [.int p1]) (rest := []) hx hb hml hown hts (c_X5_bAt l G h k0 k1 k2 k3 pv pn fb p1 (by omega)) 1 (sxGV (bi1 (w := Cond.methodLink RX1 56 yX5_bAt) 39 rfl) (bi1 (w := Cond.instanceMethod yX5_bAt) 40 rfl) (bi1 (w := Cond.selects RX5 yX5_bAt yX5_bAt) 41 rfl) (bi1 (w := Cond.initialized RX5) 30 rfl) (bi1 (w := Cond.code yX5_bAt cX5_bAt 2 (some .int)) 31 rfl)) rfl (by decide +kernel) ⟨Nat.le_of_ble_eq_true rfl, Nat.le_of_ble_eq_true rfl⟩ hK hP [1, 4] rfl 0 rfl rfl rfl hl rfl (Nat.le_of_ble_eq_true rfl) ⟨Nat.zero_le _, Nat.zero_le _⟩ dX1_usedFirst_93 (fun r er => ?_)
        subst er
        exact sx_ret hx hb hr hlk rfl (by simp only [s_X1_usedFirst, if_neg c1, if_neg c2, if_pos c3]) dX1_usedFirst_96
      · by_cases c4 : (s_X5_sortAt pn fs p1) = 4
        · refine lv_tableIn (off := 80) (tgt := 88) hx hb dX1_usedFirst_8 (by rw [c4]; decide) (by rw [c4]; decide) (by rw [c4]; rfl) (by decide) ?_
          refine lv_aload_n hx hb dX1_usedFirst_88 rfl (lv_at hl 0 rfl) ?_
          refine va_get (D := G.1) (ci := 1) (v := .ref h) (C := RX1) (T := TX1) (N := 10) hx hb hts owX1 hown hK.1 hP 0 rfl rfl 0 (by decide) (bw0 (w := Cond.fieldLink RX1 9 "DropflagMill$Deeds" "program" "LDropflagMill$Program;") hts 4 rfl) (fun _ h9 => h9) rfl dX1_usedFirst_89 ?_
          refine lv_iload_n hx hb dX1_usedFirst_92 rfl (lv_at hl 1 rfl) ?_
          refine sx_v (As := [.int p1]) (rest := []) hx hb hml hown hts (c_X5_bAt l G h k0 k1 k2 k3 pv pn fb p1 (by omega)) 1 (sxGV (bi1 (w := Cond.methodLink RX1 56 yX5_bAt) 39 rfl) (bi1 (w := Cond.instanceMethod yX5_bAt) 40 rfl) (bi1 (w := Cond.selects RX5 yX5_bAt yX5_bAt) 41 rfl) (bi1 (w := Cond.initialized RX5) 30 rfl) (bi1 (w := Cond.code yX5_bAt cX5_bAt 2 (some .int)) 31 rfl)) rfl (by decide +kernel) ⟨Nat.le_of_ble_eq_true rfl, Nat.le_of_ble_eq_true rfl⟩ hK hP [1, 4] rfl 0 rfl rfl rfl hl rfl (Nat.le_of_ble_eq_true rfl) ⟨Nat.zero_le _, Nat.zero_le _⟩ dX1_usedFirst_93 (fun r er => ?_)
          subst er
          exact sx_ret hx hb hr hlk rfl (by simp only [s_X1_usedFirst, if_neg c1, if_neg c2, if_neg c3, if_pos c4]) dX1_usedFirst_96
        · by_cases c5 : (s_X5_sortAt pn fs p1) = 5
          · refine lv_tableIn (off := 89) (tgt := 97) hx hb dX1_usedFirst_8 (by rw [c5]; decide) (by rw [c5]; decide) (by rw [c5]; rfl) (by decide) ?_
            refine lv_aload_n hx hb dX1_usedFirst_97 rfl (lv_at hl 0 rfl) ?_
            refine va_get (D := G.1) (ci := 1) (v := .ref h) (C := RX1) (T := TX1) (N := 10) hx hb hts owX1 hown hK.1 hP 0 rfl rfl 0 (by decide) (bw0 (w := Cond.fieldLink RX1 9 "DropflagMill$Deeds" "program" "LDropflagMill$Program;") hts 4 rfl) (fun _ h9 => h9) rfl dX1_usedFirst_98 ?_
            refine lv_iload_n hx hb dX1_usedFirst_101 rfl (lv_at hl 1 rfl) ?_
            refine sx_v (As := [.int p1]) (rest := []) hx hb hml hown hts (c_X5_aAt l G h k0 k1 k2 k3 pv pn fa p1 (by omega)) 1 (sxGV (bi1 (w := Cond.methodLink RX1 71 yX5_aAt) 42 rfl) (bi1 (w := Cond.instanceMethod yX5_aAt) 43 rfl) (bi1 (w := Cond.selects RX5 yX5_aAt yX5_aAt) 44 rfl) (bi1 (w := Cond.initialized RX5) 30 rfl) (bi1 (w := Cond.code yX5_aAt cX5_aAt 2 (some .int)) 33 rfl)) rfl (by decide +kernel) ⟨Nat.le_of_ble_eq_true rfl, Nat.le_of_ble_eq_true rfl⟩ hK hP [1, 3] rfl 0 rfl rfl rfl hl rfl (Nat.le_of_ble_eq_true rfl) ⟨Nat.zero_le _, Nat.zero_le _⟩ dX1_usedFirst_102 (fun r er => ?_)
            subst er
            exact sx_ret hx hb hr hlk rfl (by simp only [s_X1_usedFirst, if_neg c1, if_neg c2, if_neg c3, if_neg c4, if_pos c5]) dX1_usedFirst_105
          · by_cases c6 : (s_X5_sortAt pn fs p1) = 6
            · refine lv_tableIn (off := 89) (tgt := 97) hx hb dX1_usedFirst_8 (by rw [c6]; decide) (by rw [c6]; decide) (by rw [c6]; rfl) (by decide) ?_
              refine lv_aload_n hx hb dX1_usedFirst_97 rfl (lv_at hl 0 rfl) ?_
              refine va_get (D := G.1) (ci := 1) (v := .ref h) (C := RX1) (T := TX1) (N := 10) hx hb hts owX1 hown hK.1 hP 0 rfl rfl 0 (by decide) (bw0 (w := Cond.fieldLink RX1 9 "DropflagMill$Deeds" "program" "LDropflagMill$Program;") hts 4 rfl) (fun _ h9 => h9) rfl dX1_usedFirst_98 ?_
              refine lv_iload_n hx hb dX1_usedFirst_101 rfl (lv_at hl 1 rfl) ?_
              refine sx_v (As := [.int p1]) (rest := []) hx hb hml hown hts (c_X5_aAt l G h k0 k1 k2 k3 pv pn fa p1 (by omega)) 1 (sxGV (bi1 (w := Cond.methodLink RX1 71 yX5_aAt) 42 rfl) (bi1 (w := Cond.instanceMethod yX5_aAt) 43 rfl) (bi1 (w := Cond.selects RX5 yX5_aAt yX5_aAt) 44 rfl) (bi1 (w := Cond.initialized RX5) 30 rfl) (bi1 (w := Cond.code yX5_aAt cX5_aAt 2 (some .int)) 33 rfl)) rfl (by decide +kernel) ⟨Nat.le_of_ble_eq_true rfl, Nat.le_of_ble_eq_true rfl⟩ hK hP [1, 3] rfl 0 rfl rfl rfl hl rfl (Nat.le_of_ble_eq_true rfl) ⟨Nat.zero_le _, Nat.zero_le _⟩ dX1_usedFirst_102 (fun r er => ?_)
              subst er
              exact sx_ret hx hb hr hlk rfl (by simp only [s_X1_usedFirst, if_neg c1, if_neg c2, if_neg c3, if_neg c4, if_neg c5, if_pos c6]) dX1_usedFirst_105
            · by_cases c7 : (s_X5_sortAt pn fs p1) = 7
              · refine lv_tableIn (off := 89) (tgt := 97) hx hb dX1_usedFirst_8 (by rw [c7]; decide) (by rw [c7]; decide) (by rw [c7]; rfl) (by decide) ?_
                refine lv_aload_n hx hb dX1_usedFirst_97 rfl (lv_at hl 0 rfl) ?_
                refine va_get (D := G.1) (ci := 1) (v := .ref h) (C := RX1) (T := TX1) (N := 10) hx hb hts owX1 hown hK.1 hP 0 rfl rfl 0 (by decide) (bw0 (w := Cond.fieldLink RX1 9 "DropflagMill$Deeds" "program" "LDropflagMill$Program;") hts 4 rfl) (fun _ h9 => h9) rfl dX1_usedFirst_98 ?_
                refine lv_iload_n hx hb dX1_usedFirst_101 rfl (lv_at hl 1 rfl) ?_
                refine sx_v (As := [.int p1]) (rest := []) hx hb hml hown hts (c_X5_aAt l G h k0 k1 k2 k3 pv pn fa p1 (by omega)) 1 (sxGV (bi1 (w := Cond.methodLink RX1 71 yX5_aAt) 42 rfl) (bi1 (w := Cond.instanceMethod yX5_aAt) 43 rfl) (bi1 (w := Cond.selects RX5 yX5_aAt yX5_aAt) 44 rfl) (bi1 (w := Cond.initialized RX5) 30 rfl) (bi1 (w := Cond.code yX5_aAt cX5_aAt 2 (some .int)) 33 rfl)) rfl (by decide +kernel) ⟨Nat.le_of_ble_eq_true rfl, Nat.le_of_ble_eq_true rfl⟩ hK hP [1, 3] rfl 0 rfl rfl rfl hl rfl (Nat.le_of_ble_eq_true rfl) ⟨Nat.zero_le _, Nat.zero_le _⟩ dX1_usedFirst_102 (fun r er => ?_)
                subst er
                exact sx_ret hx hb hr hlk rfl (by simp only [s_X1_usedFirst, if_neg c1, if_neg c2, if_neg c3, if_neg c4, if_neg c5, if_neg c6, if_pos c7]) dX1_usedFirst_105
              · by_cases c8 : (s_X5_sortAt pn fs p1) = 8
                · refine lv_tableIn (off := 89) (tgt := 97) hx hb dX1_usedFirst_8 (by rw [c8]; decide) (by rw [c8]; decide) (by rw [c8]; rfl) (by decide) ?_
                  refine lv_aload_n hx hb dX1_usedFirst_97 rfl (lv_at hl 0 rfl) ?_
                  refine va_get (D := G.1) (ci := 1) (v := .ref h) (C := RX1) (T := TX1) (N := 10) hx hb hts owX1 hown hK.1 hP 0 rfl rfl 0 (by decide) (bw0 (w := Cond.fieldLink RX1 9 "DropflagMill$Deeds" "program" "LDropflagMill$Program;") hts 4 rfl) (fun _ h9 => h9) rfl dX1_usedFirst_98 ?_
                  refine lv_iload_n hx hb dX1_usedFirst_101 rfl (lv_at hl 1 rfl) ?_
                  refine sx_v (As := [.int p1]) (rest := []) hx hb hml hown hts (c_X5_aAt l G h k0 k1 k2 k3 pv pn fa p1 (by omega)) 1 (sxGV (bi1 (w := Cond.methodLink RX1 71 yX5_aAt) 42 rfl) (bi1 (w := Cond.instanceMethod yX5_aAt) 43 rfl) (bi1 (w := Cond.selects RX5 yX5_aAt yX5_aAt) 44 rfl) (bi1 (w := Cond.initialized RX5) 30 rfl) (bi1 (w := Cond.code yX5_aAt cX5_aAt 2 (some .int)) 33 rfl)) rfl (by decide +kernel) ⟨Nat.le_of_ble_eq_true rfl, Nat.le_of_ble_eq_true rfl⟩ hK hP [1, 3] rfl 0 rfl rfl rfl hl rfl (Nat.le_of_ble_eq_true rfl) ⟨Nat.zero_le _, Nat.zero_le _⟩ dX1_usedFirst_102 (fun r er => ?_)
                  subst er
                  exact sx_ret hx hb hr hlk rfl (by simp only [s_X1_usedFirst, if_neg c1, if_neg c2, if_neg c3, if_neg c4, if_neg c5, if_neg c6, if_neg c7, if_pos c8]) dX1_usedFirst_105
                · by_cases c9 : (s_X5_sortAt pn fs p1) = 9
                  · refine lv_tableIn (off := 98) (tgt := 106) hx hb dX1_usedFirst_8 (by rw [c9]; decide) (by rw [c9]; decide) (by rw [c9]; rfl) (by decide) ?_
                    refine lv_iconst (v := (-1)) hx hb dX1_usedFirst_106 (by decide) ?_
                    exact sx_ret hx hb hr hlk rfl (by simp only [s_X1_usedFirst, if_neg c1, if_neg c2, if_neg c3, if_neg c4, if_neg c5, if_neg c6, if_neg c7, if_neg c8, if_pos c9]) dX1_usedFirst_107
                  · by_cases c10 : (s_X5_sortAt pn fs p1) = 10
                    · refine lv_tableIn (off := 98) (tgt := 106) hx hb dX1_usedFirst_8 (by rw [c10]; decide) (by rw [c10]; decide) (by rw [c10]; rfl) (by decide) ?_
                      refine lv_iconst (v := (-1)) hx hb dX1_usedFirst_106 (by decide) ?_
                      exact sx_ret hx hb hr hlk rfl ((((if_neg c1).trans ((if_neg c2).trans ((if_neg c3).trans ((if_neg c4).trans ((if_neg c5).trans ((if_neg c6).trans ((if_neg c7).trans ((if_neg c8).trans ((if_neg c9).trans (if_pos c10))))))))))).symm) dX1_usedFirst_107
                    · by_cases c11 : (s_X5_sortAt pn fs p1) = 11
                      · refine lv_tableIn (off := 98) (tgt := 106) hx hb dX1_usedFirst_8 (by rw [c11]; decide) (by rw [c11]; decide) (by rw [c11]; rfl) (by decide) ?_
                        refine lv_iconst (v := (-1)) hx hb dX1_usedFirst_106 (by decide) ?_
                        exact sx_ret hx hb hr hlk rfl ((((if_neg c1).trans ((if_neg c2).trans ((if_neg c3).trans ((if_neg c4).trans ((if_neg c5).trans ((if_neg c6).trans ((if_neg c7).trans ((if_neg c8).trans ((if_neg c9).trans ((if_neg c10).trans (if_pos c11)))))))))))).symm) dX1_usedFirst_107
                      · by_cases c12 : (s_X5_sortAt pn fs p1) = 12
                        · refine lv_tableIn (off := 89) (tgt := 97) hx hb dX1_usedFirst_8 (by rw [c12]; decide) (by rw [c12]; decide) (by rw [c12]; rfl) (by decide) ?_
                          refine lv_aload_n hx hb dX1_usedFirst_97 rfl (lv_at hl 0 rfl) ?_
                          refine va_get (D := G.1) (ci := 1) (v := .ref h) (C := RX1) (T := TX1) (N := 10) hx hb hts owX1 hown hK.1 hP 0 rfl rfl 0 (by decide) (bw0 (w := Cond.fieldLink RX1 9 "DropflagMill$Deeds" "program" "LDropflagMill$Program;") hts 4 rfl) (fun _ h9 => h9) rfl dX1_usedFirst_98 ?_
                          refine lv_iload_n hx hb dX1_usedFirst_101 rfl (lv_at hl 1 rfl) ?_
                          refine sx_v (As := [.int p1]) (rest := []) hx hb hml hown hts (c_X5_aAt l G h k0 k1 k2 k3 pv pn fa p1 (by omega)) 1 (sxGV (bi1 (w := Cond.methodLink RX1 71 yX5_aAt) 42 rfl) (bi1 (w := Cond.instanceMethod yX5_aAt) 43 rfl) (bi1 (w := Cond.selects RX5 yX5_aAt yX5_aAt) 44 rfl) (bi1 (w := Cond.initialized RX5) 30 rfl) (bi1 (w := Cond.code yX5_aAt cX5_aAt 2 (some .int)) 33 rfl)) rfl (by decide +kernel) ⟨Nat.le_of_ble_eq_true rfl, Nat.le_of_ble_eq_true rfl⟩ hK hP [1, 3] rfl 0 rfl rfl rfl hl rfl (Nat.le_of_ble_eq_true rfl) ⟨Nat.zero_le _, Nat.zero_le _⟩ dX1_usedFirst_102 (fun r er => ?_)
                          subst er
                          exact sx_ret hx hb hr hlk rfl ((((if_neg c1).trans ((if_neg c2).trans ((if_neg c3).trans ((if_neg c4).trans ((if_neg c5).trans ((if_neg c6).trans ((if_neg c7).trans ((if_neg c8).trans ((if_neg c9).trans ((if_neg c10).trans ((if_neg c11).trans (if_pos c12))))))))))))).symm) dX1_usedFirst_105
                        · by_cases c13 : (s_X5_sortAt pn fs p1) = 13
                          · refine lv_tableIn (off := 89) (tgt := 97) hx hb dX1_usedFirst_8 (by rw [c13]; decide) (by rw [c13]; decide) (by rw [c13]; rfl) (by decide) ?_
                            refine lv_aload_n hx hb dX1_usedFirst_97 rfl (lv_at hl 0 rfl) ?_
                            refine va_get (D := G.1) (ci := 1) (v := .ref h) (C := RX1) (T := TX1) (N := 10) hx hb hts owX1 hown hK.1 hP 0 rfl rfl 0 (by decide) (bw0 (w := Cond.fieldLink RX1 9 "DropflagMill$Deeds" "program" "LDropflagMill$Program;") hts 4 rfl) (fun _ h9 => h9) rfl dX1_usedFirst_98 ?_
                            refine lv_iload_n hx hb dX1_usedFirst_101 rfl (lv_at hl 1 rfl) ?_
                            refine sx_v (As := [.int p1]) (rest := []) hx hb hml hown hts (c_X5_aAt l G h k0 k1 k2 k3 pv pn fa p1 (by omega)) 1 (sxGV (bi1 (w := Cond.methodLink RX1 71 yX5_aAt) 42 rfl) (bi1 (w := Cond.instanceMethod yX5_aAt) 43 rfl) (bi1 (w := Cond.selects RX5 yX5_aAt yX5_aAt) 44 rfl) (bi1 (w := Cond.initialized RX5) 30 rfl) (bi1 (w := Cond.code yX5_aAt cX5_aAt 2 (some .int)) 33 rfl)) rfl (by decide +kernel) ⟨Nat.le_of_ble_eq_true rfl, Nat.le_of_ble_eq_true rfl⟩ hK hP [1, 3] rfl 0 rfl rfl rfl hl rfl (Nat.le_of_ble_eq_true rfl) ⟨Nat.zero_le _, Nat.zero_le _⟩ dX1_usedFirst_102 (fun r er => ?_)
                            subst er
                            exact sx_ret hx hb hr hlk rfl ((((if_neg c1).trans ((if_neg c2).trans ((if_neg c3).trans ((if_neg c4).trans ((if_neg c5).trans ((if_neg c6).trans ((if_neg c7).trans ((if_neg c8).trans ((if_neg c9).trans ((if_neg c10).trans ((if_neg c11).trans ((if_neg c12).trans (if_pos c13)))))))))))))).symm) dX1_usedFirst_105
                          · by_cases c14 : (s_X5_sortAt pn fs p1) = 14
                            · refine lv_tableIn (off := 89) (tgt := 97) hx hb dX1_usedFirst_8 (by rw [c14]; decide) (by rw [c14]; decide) (by rw [c14]; rfl) (by decide) ?_
                              refine lv_aload_n hx hb dX1_usedFirst_97 rfl (lv_at hl 0 rfl) ?_
                              refine va_get (D := G.1) (ci := 1) (v := .ref h) (C := RX1) (T := TX1) (N := 10) hx hb hts owX1 hown hK.1 hP 0 rfl rfl 0 (by decide) (bw0 (w := Cond.fieldLink RX1 9 "DropflagMill$Deeds" "program" "LDropflagMill$Program;") hts 4 rfl) (fun _ h9 => h9) rfl dX1_usedFirst_98 ?_
                              refine lv_iload_n hx hb dX1_usedFirst_101 rfl (lv_at hl 1 rfl) ?_
                              refine sx_v (As := [.int p1]) (rest := []) hx hb hml hown hts (c_X5_aAt l G h k0 k1 k2 k3 pv pn fa p1 (by omega)) 1 (sxGV (bi1 (w := Cond.methodLink RX1 71 yX5_aAt) 42 rfl) (bi1 (w := Cond.instanceMethod yX5_aAt) 43 rfl) (bi1 (w := Cond.selects RX5 yX5_aAt yX5_aAt) 44 rfl) (bi1 (w := Cond.initialized RX5) 30 rfl) (bi1 (w := Cond.code yX5_aAt cX5_aAt 2 (some .int)) 33 rfl)) rfl (by decide +kernel) ⟨Nat.le_of_ble_eq_true rfl, Nat.le_of_ble_eq_true rfl⟩ hK hP [1, 3] rfl 0 rfl rfl rfl hl rfl (Nat.le_of_ble_eq_true rfl) ⟨Nat.zero_le _, Nat.zero_le _⟩ dX1_usedFirst_102 (fun r er => ?_)
                              subst er
                              exact sx_ret hx hb hr hlk rfl ((((if_neg c1).trans ((if_neg c2).trans ((if_neg c3).trans ((if_neg c4).trans ((if_neg c5).trans ((if_neg c6).trans ((if_neg c7).trans ((if_neg c8).trans ((if_neg c9).trans ((if_neg c10).trans ((if_neg c11).trans ((if_neg c12).trans ((if_neg c13).trans (if_pos c14))))))))))))))).symm) dX1_usedFirst_105
                            · by_cases c15 : (s_X5_sortAt pn fs p1) = 15
                              · refine lv_tableIn (off := 98) (tgt := 106) hx hb dX1_usedFirst_8 (by rw [c15]; decide) (by rw [c15]; decide) (by rw [c15]; rfl) (by decide) ?_
                                refine lv_iconst (v := (-1)) hx hb dX1_usedFirst_106 (by decide) ?_
                                exact sx_ret hx hb hr hlk rfl ((((if_neg c1).trans ((if_neg c2).trans ((if_neg c3).trans ((if_neg c4).trans ((if_neg c5).trans ((if_neg c6).trans ((if_neg c7).trans ((if_neg c8).trans ((if_neg c9).trans ((if_neg c10).trans ((if_neg c11).trans ((if_neg c12).trans ((if_neg c13).trans ((if_neg c14).trans (if_pos c15)))))))))))))))).symm) dX1_usedFirst_107
                              · by_cases c16 : (s_X5_sortAt pn fs p1) = 16
                                · refine lv_tableIn (off := 89) (tgt := 97) hx hb dX1_usedFirst_8 (by rw [c16]; decide) (by rw [c16]; decide) (by rw [c16]; rfl) (by decide) ?_
                                  refine lv_aload_n hx hb dX1_usedFirst_97 rfl (lv_at hl 0 rfl) ?_
                                  refine va_get (D := G.1) (ci := 1) (v := .ref h) (C := RX1) (T := TX1) (N := 10) hx hb hts owX1 hown hK.1 hP 0 rfl rfl 0 (by decide) (bw0 (w := Cond.fieldLink RX1 9 "DropflagMill$Deeds" "program" "LDropflagMill$Program;") hts 4 rfl) (fun _ h9 => h9) rfl dX1_usedFirst_98 ?_
                                  refine lv_iload_n hx hb dX1_usedFirst_101 rfl (lv_at hl 1 rfl) ?_
                                  refine sx_v (As := [.int p1]) (rest := []) hx hb hml hown hts (c_X5_aAt l G h k0 k1 k2 k3 pv pn fa p1 (by omega)) 1 (sxGV (bi1 (w := Cond.methodLink RX1 71 yX5_aAt) 42 rfl) (bi1 (w := Cond.instanceMethod yX5_aAt) 43 rfl) (bi1 (w := Cond.selects RX5 yX5_aAt yX5_aAt) 44 rfl) (bi1 (w := Cond.initialized RX5) 30 rfl) (bi1 (w := Cond.code yX5_aAt cX5_aAt 2 (some .int)) 33 rfl)) rfl (by decide +kernel) ⟨Nat.le_of_ble_eq_true rfl, Nat.le_of_ble_eq_true rfl⟩ hK hP [1, 3] rfl 0 rfl rfl rfl hl rfl (Nat.le_of_ble_eq_true rfl) ⟨Nat.zero_le _, Nat.zero_le _⟩ dX1_usedFirst_102 (fun r er => ?_)
                                  subst er
                                  exact sx_ret hx hb hr hlk rfl ((((if_neg c1).trans ((if_neg c2).trans ((if_neg c3).trans ((if_neg c4).trans ((if_neg c5).trans ((if_neg c6).trans ((if_neg c7).trans ((if_neg c8).trans ((if_neg c9).trans ((if_neg c10).trans ((if_neg c11).trans ((if_neg c12).trans ((if_neg c13).trans ((if_neg c14).trans ((if_neg c15).trans (if_pos c16))))))))))))))))).symm) dX1_usedFirst_105
                                · refine lv_tableOut (tgt := 106) hx hb dX1_usedFirst_8 (by have := lv_neT (a := 1) c1 rfl; have := lv_neT (a := 2) c2 rfl; have := lv_neT (a := 3) c3 rfl; have := lv_neT (a := 4) c4 rfl; have := lv_neT (a := 5) c5 rfl; have := lv_neT (a := 6) c6 rfl; have := lv_neT (a := 7) c7 rfl; have := lv_neT (a := 8) c8 rfl; have := lv_neT (a := 9) c9 rfl; have := lv_neT (a := 10) c10 rfl; have := lv_neT (a := 11) c11 rfl; have := lv_neT (a := 12) c12 rfl; have := lv_neT (a := 13) c13 rfl; have := lv_neT (a := 14) c14 rfl; have := lv_neT (a := 15) c15 rfl; have := lv_neT (a := 16) c16 rfl; omega) (by decide) ?_
                                  refine lv_iconst (v := (-1)) hx hb dX1_usedFirst_106 (by decide) ?_
                                  exact sx_ret hx hb hr hlk rfl ((((if_neg c1).trans ((if_neg c2).trans ((if_neg c3).trans ((if_neg c4).trans ((if_neg c5).trans ((if_neg c6).trans ((if_neg c7).trans ((if_neg c8).trans ((if_neg c9).trans ((if_neg c10).trans ((if_neg c11).trans ((if_neg c12).trans ((if_neg c13).trans ((if_neg c14).trans ((if_neg c15).trans (if_neg c16))))))))))))))))).symm) dX1_usedFirst_107

abbrev wdX1_givenBy : List Cond := Cond.code yX1_givenBy cX1_givenBy 2 (some .int) :: bwC
def s_X1_givenBy (pn : Nat) (fs : Nat → Int32) (fa : Nat → Int32) (p1 : Int32) : Int32 := if (s_X5_sortAt pn fs p1) = 0 then s_X5_aAt pn fa p1 else (if (s_X5_sortAt pn fs p1) = 1 then s_X5_aAt pn fa p1 else (if (s_X5_sortAt pn fs p1) = 2 then s_X5_aAt pn fa p1 else (if (s_X5_sortAt pn fs p1) = 3 then s_X5_aAt pn fa p1 else (if (s_X5_sortAt pn fs p1) = 4 then s_X5_aAt pn fa p1 else (-1)))))
set_option maxHeartbeats 4000000 in
set_option maxRecDepth 100000 in
theorem c_X1_givenBy (l : Launch) (G : sxG) (o : Nat) (h : Nat) (d1 : Nat) (d2 : Nat) (d3 : Nat) (d4 : Nat) (d5 : Nat) (d6 : Nat) (d7 : Nat) (d8 : Nat) (d9 : Nat) (k0 : Nat) (k1 : Nat) (k2 : Nat) (k3 : Nat) (pv : Nat) (pn : Nat) (fs : Nat → Int32) (fa : Nat → Int32) (p1 : Int32) (hn : pn ≤ 33) : sxM l yX1_givenBy wdX1_givenBy 2 42 G [(o, .inr (1, [.ref h, .ref d1, .ref d2, .ref d3, .ref d4, .ref d5, .ref d6, .ref d7, .ref d8, .ref d9])), (h, .inr (5, [.ref k0, .ref k1, .ref k2, .ref k3, .int (nI pv), .int (nI pn)])), (k1, .inl (G.2.1, 34, .inl fs)), (k2, .inl (G.2.1, 34, .inl fa))] [.ref o, .int p1] (fun r => r = s_X1_givenBy pn fs fa p1) := by
  refine sxM.of (cc := cX1_givenBy) (maxL := 2) (by decide) rfl (Nat.le_of_ble_eq_true rfl) ?_
  intro p e s m args below meth c ⟨hx, hb, hr, hml, hown, hlk, hts, hK⟩ hP ls hl
  have hl : lv_has ls 2 [(0, .ref o), (1, .int p1)] := hl
  refine lv_aload_n hx hb dX1_givenBy_0 rfl (lv_at hl 0 rfl) ?_
  refine va_get (D := G.1) (ci := 1) (v := .ref h) (C := RX1) (T := TX1) (N := 10) hx hb hts owX1 hown hK.1 hP 0 rfl rfl 0 (by decide) (bw0 (w := Cond.fieldLink RX1 9 "DropflagMill$Deeds" "program" "LDropflagMill$Program;") hts 4 rfl) (fun _ h9 => h9) rfl dX1_givenBy_1 ?_
  refine lv_iload_n hx hb dX1_givenBy_4 rfl (lv_at hl 1 rfl) ?_
  refine sx_v (As := [.int p1]) (rest := []) hx hb hml hown hts (c_X5_sortAt l G h k0 k1 k2 k3 pv pn fs p1 (by omega)) 1 (sxGV (bi1 (w := Cond.methodLink RX1 53 yX5_sortAt) 36 rfl) (bi1 (w := Cond.instanceMethod yX5_sortAt) 37 rfl) (bi1 (w := Cond.selects RX5 yX5_sortAt yX5_sortAt) 38 rfl) (bi1 (w := Cond.initialized RX5) 30 rfl) (bi1 (w := Cond.code yX5_sortAt cX5_sortAt 2 (some .int)) 25 rfl)) rfl (by decide +kernel) ⟨Nat.le_of_ble_eq_true rfl, Nat.le_of_ble_eq_true rfl⟩ hK hP [1, 2] rfl 0 rfl rfl rfl hl rfl (Nat.le_of_ble_eq_true rfl) ⟨Nat.zero_le _, Nat.zero_le _⟩ dX1_givenBy_5 (fun r er => ?_)
  subst er
  by_cases c1 : (s_X5_sortAt pn fs p1) = 0
  · refine lv_tableIn (off := 36) (tgt := 44) hx hb dX1_givenBy_8 (by rw [c1]; decide) (by rw [c1]; decide) (by rw [c1]; rfl) (by decide) ?_
    refine lv_aload_n hx hb dX1_givenBy_44 rfl (lv_at hl 0 rfl) ?_
    refine va_get (D := G.1) (ci := 1) (v := .ref h) (C := RX1) (T := TX1) (N := 10) hx hb hts owX1 hown hK.1 hP 0 rfl rfl 0 (by decide) (bw0 (w := Cond.fieldLink RX1 9 "DropflagMill$Deeds" "program" "LDropflagMill$Program;") hts 4 rfl) (fun _ h9 => h9) rfl dX1_givenBy_45 ?_
    refine lv_iload_n hx hb dX1_givenBy_48 rfl (lv_at hl 1 rfl) ?_
    refine sx_v (As := [.int p1]) (rest := []) hx hb hml hown hts (c_X5_aAt l G h k0 k1 k2 k3 pv pn fa p1 (by omega)) 1 (sxGV (bi1 (w := Cond.methodLink RX1 71 yX5_aAt) 42 rfl) (bi1 (w := Cond.instanceMethod yX5_aAt) 43 rfl) (bi1 (w := Cond.selects RX5 yX5_aAt yX5_aAt) 44 rfl) (bi1 (w := Cond.initialized RX5) 30 rfl) (bi1 (w := Cond.code yX5_aAt cX5_aAt 2 (some .int)) 33 rfl)) rfl (by decide +kernel) ⟨Nat.le_of_ble_eq_true rfl, Nat.le_of_ble_eq_true rfl⟩ hK hP [1, 3] rfl 0 rfl rfl rfl hl rfl (Nat.le_of_ble_eq_true rfl) ⟨Nat.zero_le _, Nat.zero_le _⟩ dX1_givenBy_49 (fun r er => ?_)
    subst er
    exact sx_ret hx hb hr hlk rfl (by simp only [s_X1_givenBy, if_pos c1]) dX1_givenBy_52
  · by_cases c2 : (s_X5_sortAt pn fs p1) = 1
    · refine lv_tableIn (off := 36) (tgt := 44) hx hb dX1_givenBy_8 (by rw [c2]; decide) (by rw [c2]; decide) (by rw [c2]; rfl) (by decide) ?_
      refine lv_aload_n hx hb dX1_givenBy_44 rfl (lv_at hl 0 rfl) ?_
      refine va_get (D := G.1) (ci := 1) (v := .ref h) (C := RX1) (T := TX1) (N := 10) hx hb hts owX1 hown hK.1 hP 0 rfl rfl 0 (by decide) (bw0 (w := Cond.fieldLink RX1 9 "DropflagMill$Deeds" "program" "LDropflagMill$Program;") hts 4 rfl) (fun _ h9 => h9) rfl dX1_givenBy_45 ?_
      refine lv_iload_n hx hb dX1_givenBy_48 rfl (lv_at hl 1 rfl) ?_
      refine sx_v (As := [.int p1]) (rest := []) hx hb hml hown hts (c_X5_aAt l G h k0 k1 k2 k3 pv pn fa p1 (by omega)) 1 (sxGV (bi1 (w := Cond.methodLink RX1 71 yX5_aAt) 42 rfl) (bi1 (w := Cond.instanceMethod yX5_aAt) 43 rfl) (bi1 (w := Cond.selects RX5 yX5_aAt yX5_aAt) 44 rfl) (bi1 (w := Cond.initialized RX5) 30 rfl) (bi1 (w := Cond.code yX5_aAt cX5_aAt 2 (some .int)) 33 rfl)) rfl (by decide +kernel) ⟨Nat.le_of_ble_eq_true rfl, Nat.le_of_ble_eq_true rfl⟩ hK hP [1, 3] rfl 0 rfl rfl rfl hl rfl (Nat.le_of_ble_eq_true rfl) ⟨Nat.zero_le _, Nat.zero_le _⟩ dX1_givenBy_49 (fun r er => ?_)
      subst er
      exact sx_ret hx hb hr hlk rfl (by simp only [s_X1_givenBy, if_neg c1, if_pos c2]) dX1_givenBy_52
    · by_cases c3 : (s_X5_sortAt pn fs p1) = 2
      · refine lv_tableIn (off := 36) (tgt := 44) hx hb dX1_givenBy_8 (by rw [c3]; decide) (by rw [c3]; decide) (by rw [c3]; rfl) (by decide) ?_
        refine lv_aload_n hx hb dX1_givenBy_44 rfl (lv_at hl 0 rfl) ?_
        refine va_get (D := G.1) (ci := 1) (v := .ref h) (C := RX1) (T := TX1) (N := 10) hx hb hts owX1 hown hK.1 hP 0 rfl rfl 0 (by decide) (bw0 (w := Cond.fieldLink RX1 9 "DropflagMill$Deeds" "program" "LDropflagMill$Program;") hts 4 rfl) (fun _ h9 => h9) rfl dX1_givenBy_45 ?_
        refine lv_iload_n hx hb dX1_givenBy_48 rfl (lv_at hl 1 rfl) ?_
        refine sx_v (As := [.int p1]) (rest := []) hx hb hml hown hts (c_X5_aAt l G h k0 k1 k2 k3 pv pn fa p1 (by omega)) 1 (sxGV (bi1 (w := Cond.methodLink RX1 71 yX5_aAt) 42 rfl) (bi1 (w := Cond.instanceMethod yX5_aAt) 43 rfl) (bi1 (w := Cond.selects RX5 yX5_aAt yX5_aAt) 44 rfl) (bi1 (w := Cond.initialized RX5) 30 rfl) (bi1 (w := Cond.code yX5_aAt cX5_aAt 2 (some .int)) 33 rfl)) rfl (by decide +kernel) ⟨Nat.le_of_ble_eq_true rfl, Nat.le_of_ble_eq_true rfl⟩ hK hP [1, 3] rfl 0 rfl rfl rfl hl rfl (Nat.le_of_ble_eq_true rfl) ⟨Nat.zero_le _, Nat.zero_le _⟩ dX1_givenBy_49 (fun r er => ?_)
        subst er
        exact sx_ret hx hb hr hlk rfl (by simp only [s_X1_givenBy, if_neg c1, if_neg c2, if_pos c3]) dX1_givenBy_52
      · by_cases c4 : (s_X5_sortAt pn fs p1) = 3
        · refine lv_tableIn (off := 36) (tgt := 44) hx hb dX1_givenBy_8 (by rw [c4]; decide) (by rw [c4]; decide) (by rw [c4]; rfl) (by decide) ?_
          refine lv_aload_n hx hb dX1_givenBy_44 rfl (lv_at hl 0 rfl) ?_
          refine va_get (D := G.1) (ci := 1) (v := .ref h) (C := RX1) (T := TX1) (N := 10) hx hb hts owX1 hown hK.1 hP 0 rfl rfl 0 (by decide) (bw0 (w := Cond.fieldLink RX1 9 "DropflagMill$Deeds" "program" "LDropflagMill$Program;") hts 4 rfl) (fun _ h9 => h9) rfl dX1_givenBy_45 ?_
          refine lv_iload_n hx hb dX1_givenBy_48 rfl (lv_at hl 1 rfl) ?_
          refine sx_v (As := [.int p1]) (rest := []) hx hb hml hown hts (c_X5_aAt l G h k0 k1 k2 k3 pv pn fa p1 (by omega)) 1 (sxGV (bi1 (w := Cond.methodLink RX1 71 yX5_aAt) 42 rfl) (bi1 (w := Cond.instanceMethod yX5_aAt) 43 rfl) (bi1 (w := Cond.selects RX5 yX5_aAt yX5_aAt) 44 rfl) (bi1 (w := Cond.initialized RX5) 30 rfl) (bi1 (w := Cond.code yX5_aAt cX5_aAt 2 (some .int)) 33 rfl)) rfl (by decide +kernel) ⟨Nat.le_of_ble_eq_true rfl, Nat.le_of_ble_eq_true rfl⟩ hK hP [1, 3] rfl 0 rfl rfl rfl hl rfl (Nat.le_of_ble_eq_true rfl) ⟨Nat.zero_le _, Nat.zero_le _⟩ dX1_givenBy_49 (fun r er => ?_)
          subst er
          exact sx_ret hx hb hr hlk rfl (by simp only [s_X1_givenBy, if_neg c1, if_neg c2, if_neg c3, if_pos c4]) dX1_givenBy_52
        · by_cases c5 : (s_X5_sortAt pn fs p1) = 4
          · refine lv_tableIn (off := 36) (tgt := 44) hx hb dX1_givenBy_8 (by rw [c5]; decide) (by rw [c5]; decide) (by rw [c5]; rfl) (by decide) ?_
            refine lv_aload_n hx hb dX1_givenBy_44 rfl (lv_at hl 0 rfl) ?_
            refine va_get (D := G.1) (ci := 1) (v := .ref h) (C := RX1) (T := TX1) (N := 10) hx hb hts owX1 hown hK.1 hP 0 rfl rfl 0 (by decide) (bw0 (w := Cond.fieldLink RX1 9 "DropflagMill$Deeds" "program" "LDropflagMill$Program;") hts 4 rfl) (fun _ h9 => h9) rfl dX1_givenBy_45 ?_
            refine lv_iload_n hx hb dX1_givenBy_48 rfl (lv_at hl 1 rfl) ?_
            refine sx_v (As := [.int p1]) (rest := []) hx hb hml hown hts (c_X5_aAt l G h k0 k1 k2 k3 pv pn fa p1 (by omega)) 1 (sxGV (bi1 (w := Cond.methodLink RX1 71 yX5_aAt) 42 rfl) (bi1 (w := Cond.instanceMethod yX5_aAt) 43 rfl) (bi1 (w := Cond.selects RX5 yX5_aAt yX5_aAt) 44 rfl) (bi1 (w := Cond.initialized RX5) 30 rfl) (bi1 (w := Cond.code yX5_aAt cX5_aAt 2 (some .int)) 33 rfl)) rfl (by decide +kernel) ⟨Nat.le_of_ble_eq_true rfl, Nat.le_of_ble_eq_true rfl⟩ hK hP [1, 3] rfl 0 rfl rfl rfl hl rfl (Nat.le_of_ble_eq_true rfl) ⟨Nat.zero_le _, Nat.zero_le _⟩ dX1_givenBy_49 (fun r er => ?_)
            subst er
            exact sx_ret hx hb hr hlk rfl (by simp only [s_X1_givenBy, if_neg c1, if_neg c2, if_neg c3, if_neg c4, if_pos c5]) dX1_givenBy_52
          · refine lv_tableOut (tgt := 53) hx hb dX1_givenBy_8 (by have := lv_neT (a := 0) c1 rfl; have := lv_neT (a := 1) c2 rfl; have := lv_neT (a := 2) c3 rfl; have := lv_neT (a := 3) c4 rfl; have := lv_neT (a := 4) c5 rfl; omega) (by decide) ?_
            refine lv_iconst (v := (-1)) hx hb dX1_givenBy_53 (by decide) ?_
            exact sx_ret hx hb hr hlk rfl (by simp only [s_X1_givenBy, if_neg c1, if_neg c2, if_neg c3, if_neg c4, if_neg c5]) dX1_givenBy_54

abbrev wdX1_lostBy : List Cond := Cond.code yX1_lostBy cX1_lostBy 2 (some .int) :: bwC
def s_X1_lostBy (pn : Nat) (fs : Nat → Int32) (fa : Nat → Int32) (fb : Nat → Int32) (p1 : Int32) : Int32 := if (s_X5_sortAt pn fs p1) = 1 then s_X5_bAt pn fb p1 else (if (s_X5_sortAt pn fs p1) = 7 then s_X5_aAt pn fa p1 else (-1))
set_option maxHeartbeats 4000000 in
set_option maxRecDepth 100000 in
theorem c_X1_lostBy (l : Launch) (G : sxG) (o : Nat) (h : Nat) (d1 : Nat) (d2 : Nat) (d3 : Nat) (d4 : Nat) (d5 : Nat) (d6 : Nat) (d7 : Nat) (d8 : Nat) (d9 : Nat) (k0 : Nat) (k1 : Nat) (k2 : Nat) (k3 : Nat) (pv : Nat) (pn : Nat) (fs : Nat → Int32) (fa : Nat → Int32) (fb : Nat → Int32) (p1 : Int32) (hn : pn ≤ 33) : sxM l yX1_lostBy wdX1_lostBy 2 42 G [(o, .inr (1, [.ref h, .ref d1, .ref d2, .ref d3, .ref d4, .ref d5, .ref d6, .ref d7, .ref d8, .ref d9])), (h, .inr (5, [.ref k0, .ref k1, .ref k2, .ref k3, .int (nI pv), .int (nI pn)])), (k1, .inl (G.2.1, 34, .inl fs)), (k2, .inl (G.2.1, 34, .inl fa)), (k3, .inl (G.2.1, 34, .inl fb))] [.ref o, .int p1] (fun r => r = s_X1_lostBy pn fs fa fb p1) := by
  refine sxM.of (cc := cX1_lostBy) (maxL := 2) (by decide) rfl (Nat.le_of_ble_eq_true rfl) ?_
  intro p e s m args below meth c ⟨hx, hb, hr, hml, hown, hlk, hts, hK⟩ hP ls hl
  have hl : lv_has ls 2 [(0, .ref o), (1, .int p1)] := hl
  refine lv_aload_n hx hb dX1_lostBy_0 rfl (lv_at hl 0 rfl) ?_
  refine va_get (D := G.1) (ci := 1) (v := .ref h) (C := RX1) (T := TX1) (N := 10) hx hb hts owX1 hown hK.1 hP 0 rfl rfl 0 (by decide) (bw0 (w := Cond.fieldLink RX1 9 "DropflagMill$Deeds" "program" "LDropflagMill$Program;") hts 4 rfl) (fun _ h9 => h9) rfl dX1_lostBy_1 ?_
  refine lv_iload_n hx hb dX1_lostBy_4 rfl (lv_at hl 1 rfl) ?_
  refine sx_v (As := [.int p1]) (rest := []) hx hb hml hown hts (c_X5_sortAt l G h k0 k1 k2 k3 pv pn fs p1 (by omega)) 1 (sxGV (bi1 (w := Cond.methodLink RX1 53 yX5_sortAt) 36 rfl) (bi1 (w := Cond.instanceMethod yX5_sortAt) 37 rfl) (bi1 (w := Cond.selects RX5 yX5_sortAt yX5_sortAt) 38 rfl) (bi1 (w := Cond.initialized RX5) 30 rfl) (bi1 (w := Cond.code yX5_sortAt cX5_sortAt 2 (some .int)) 25 rfl)) rfl (by decide +kernel) ⟨Nat.le_of_ble_eq_true rfl, Nat.le_of_ble_eq_true rfl⟩ hK hP [1, 2] rfl 0 rfl rfl rfl hl rfl (Nat.le_of_ble_eq_true rfl) ⟨Nat.zero_le _, Nat.zero_le _⟩ dX1_lostBy_5 (fun r er => ?_)
  subst er
  by_cases c1 : (s_X5_sortAt pn fs p1) = 1
  · refine lv_lookup (tgt := 36) hx hb dX1_lostBy_8 (by decide) (off := 28) (by show Op.lookupswitch.offset [(1, 28), (7, 37)] 46 (s_X5_sortAt pn fs p1 : Int32).toInt = 28; rw [c1]; rfl) (by decide) ?_
    refine lv_aload_n hx hb dX1_lostBy_36 rfl (lv_at hl 0 rfl) ?_
    refine va_get (D := G.1) (ci := 1) (v := .ref h) (C := RX1) (T := TX1) (N := 10) hx hb hts owX1 hown hK.1 hP 0 rfl rfl 0 (by decide) (bw0 (w := Cond.fieldLink RX1 9 "DropflagMill$Deeds" "program" "LDropflagMill$Program;") hts 4 rfl) (fun _ h9 => h9) rfl dX1_lostBy_37 ?_
    refine lv_iload_n hx hb dX1_lostBy_40 rfl (lv_at hl 1 rfl) ?_
    refine sx_v (As := [.int p1]) (rest := []) hx hb hml hown hts (c_X5_bAt l G h k0 k1 k2 k3 pv pn fb p1 (by omega)) 1 (sxGV (bi1 (w := Cond.methodLink RX1 56 yX5_bAt) 39 rfl) (bi1 (w := Cond.instanceMethod yX5_bAt) 40 rfl) (bi1 (w := Cond.selects RX5 yX5_bAt yX5_bAt) 41 rfl) (bi1 (w := Cond.initialized RX5) 30 rfl) (bi1 (w := Cond.code yX5_bAt cX5_bAt 2 (some .int)) 31 rfl)) rfl (by decide +kernel) ⟨Nat.le_of_ble_eq_true rfl, Nat.le_of_ble_eq_true rfl⟩ hK hP [1, 4] rfl 0 rfl rfl rfl hl rfl (Nat.le_of_ble_eq_true rfl) ⟨Nat.zero_le _, Nat.zero_le _⟩ dX1_lostBy_41 (fun r er => ?_)
    subst er
    exact sx_ret hx hb hr hlk rfl (by simp only [s_X1_lostBy, if_pos c1]) dX1_lostBy_44
  · by_cases c2 : (s_X5_sortAt pn fs p1) = 7
    · refine lv_lookup (tgt := 45) hx hb dX1_lostBy_8 (by decide) (off := 37) (by show Op.lookupswitch.offset [(1, 28), (7, 37)] 46 (s_X5_sortAt pn fs p1 : Int32).toInt = 37; rw [lv_osw (a := 1) c1 rfl]; rw [c2]; rfl) (by decide) ?_
      refine lv_aload_n hx hb dX1_lostBy_45 rfl (lv_at hl 0 rfl) ?_
      refine va_get (D := G.1) (ci := 1) (v := .ref h) (C := RX1) (T := TX1) (N := 10) hx hb hts owX1 hown hK.1 hP 0 rfl rfl 0 (by decide) (bw0 (w := Cond.fieldLink RX1 9 "DropflagMill$Deeds" "program" "LDropflagMill$Program;") hts 4 rfl) (fun _ h9 => h9) rfl dX1_lostBy_46 ?_
      refine lv_iload_n hx hb dX1_lostBy_49 rfl (lv_at hl 1 rfl) ?_
      refine sx_v (As := [.int p1]) (rest := []) hx hb hml hown hts (c_X5_aAt l G h k0 k1 k2 k3 pv pn fa p1 (by omega)) 1 (sxGV (bi1 (w := Cond.methodLink RX1 71 yX5_aAt) 42 rfl) (bi1 (w := Cond.instanceMethod yX5_aAt) 43 rfl) (bi1 (w := Cond.selects RX5 yX5_aAt yX5_aAt) 44 rfl) (bi1 (w := Cond.initialized RX5) 30 rfl) (bi1 (w := Cond.code yX5_aAt cX5_aAt 2 (some .int)) 33 rfl)) rfl (by decide +kernel) ⟨Nat.le_of_ble_eq_true rfl, Nat.le_of_ble_eq_true rfl⟩ hK hP [1, 3] rfl 0 rfl rfl rfl hl rfl (Nat.le_of_ble_eq_true rfl) ⟨Nat.zero_le _, Nat.zero_le _⟩ dX1_lostBy_50 (fun r er => ?_)
      subst er
      exact sx_ret hx hb hr hlk rfl (by simp only [s_X1_lostBy, if_neg c1, if_pos c2]) dX1_lostBy_53
    · refine lv_lookup (tgt := 54) hx hb dX1_lostBy_8 (by decide) (off := 46) (by show Op.lookupswitch.offset [(1, 28), (7, 37)] 46 (s_X5_sortAt pn fs p1 : Int32).toInt = 46; rw [lv_osw (a := 1) c1 rfl, lv_osw (a := 7) c2 rfl]; rfl) (by decide) ?_
      refine lv_iconst (v := (-1)) hx hb dX1_lostBy_54 (by decide) ?_
      exact sx_ret hx hb hr hlk rfl (by simp only [s_X1_lostBy, if_neg c1, if_neg c2]) dX1_lostBy_55

abbrev wdX1_borrowSet : List Cond := Cond.code yX1_borrowSet cX1_borrowSet 2 (some .int) :: bwC
def s_X1_borrowSet (pv : Nat) (fk : Nat → Int32) (p1 : Int32) : Int32 := if (s_X9_isBorrowKind (s_X5_kindAt pv fk p1)) = 0 then 0 else 1 <<< ((p1 / 3) &&& 31)
set_option maxHeartbeats 4000000 in
set_option maxRecDepth 100000 in
theorem c_X1_borrowSet (l : Launch) (G : sxG) (o : Nat) (h : Nat) (d1 : Nat) (d2 : Nat) (d3 : Nat) (d4 : Nat) (d5 : Nat) (d6 : Nat) (d7 : Nat) (d8 : Nat) (d9 : Nat) (k0 : Nat) (k1 : Nat) (k2 : Nat) (k3 : Nat) (pv : Nat) (pn : Nat) (fk : Nat → Int32) (p1 : Int32) (hv : pv ≤ 8) : sxM l yX1_borrowSet wdX1_borrowSet 1 22 G [(o, .inr (1, [.ref h, .ref d1, .ref d2, .ref d3, .ref d4, .ref d5, .ref d6, .ref d7, .ref d8, .ref d9])), (h, .inr (5, [.ref k0, .ref k1, .ref k2, .ref k3, .int (nI pv), .int (nI pn)])), (k0, .inl (G.2.1, 8, .inl fk))] [.ref o, .int p1] (fun r => r = s_X1_borrowSet pv fk p1) := by
  refine sxM.of (cc := cX1_borrowSet) (maxL := 2) (by decide) rfl (Nat.le_of_ble_eq_true rfl) ?_
  intro p e s m args below meth c ⟨hx, hb, hr, hml, hown, hlk, hts, hK⟩ hP ls hl
  have hl : lv_has ls 2 [(0, .ref o), (1, .int p1)] := hl
  refine lv_aload_n hx hb dX1_borrowSet_0 rfl (lv_at hl 0 rfl) ?_
  refine va_get (D := G.1) (ci := 1) (v := .ref h) (C := RX1) (T := TX1) (N := 10) hx hb hts owX1 hown hK.1 hP 0 rfl rfl 0 (by decide) (bw0 (w := Cond.fieldLink RX1 9 "DropflagMill$Deeds" "program" "LDropflagMill$Program;") hts 4 rfl) (fun _ h9 => h9) rfl dX1_borrowSet_1 ?_
  refine lv_iload_n hx hb dX1_borrowSet_4 rfl (lv_at hl 1 rfl) ?_
  refine sx_v (As := [.int p1]) (rest := []) hx hb hml hown hts (c_X5_kindAt l G h k0 k1 k2 k3 pv pn fk p1 (by omega)) 1 (sxGV (bi1 (w := Cond.methodLink RX1 74 yX5_kindAt) 56 rfl) (bi1 (w := Cond.instanceMethod yX5_kindAt) 51 rfl) (bi1 (w := Cond.selects RX5 yX5_kindAt yX5_kindAt) 52 rfl) (bi1 (w := Cond.initialized RX5) 30 rfl) (bi1 (w := Cond.code yX5_kindAt cX5_kindAt 3 (some .int)) 46 rfl)) rfl (by decide +kernel) ⟨Nat.le_of_ble_eq_true rfl, Nat.le_of_ble_eq_true rfl⟩ hK hP [1, 2] rfl 0 rfl rfl rfl hl rfl (Nat.le_of_ble_eq_true rfl) ⟨Nat.zero_le _, Nat.zero_le _⟩ dX1_borrowSet_5 (fun r er => ?_)
  subst er
  refine sx_sn (As := [.int (s_X5_kindAt pv fk p1)]) (rest := []) hx hb hml hown hts (c_X9_isBorrowKind l G (s_X5_kindAt pv fk p1) ) 1 (sxGC (bi1 (w := Cond.code yX9_isBorrowKind cX9_isBorrowKind 1 (some .boolean)) 54 rfl)) rfl (hK.2.at 0 rfl) (List.mem_cons_of_mem _ (bi1 (w := Cond.initialized RX9) 58 rfl)) (List.mem_cons_of_mem _ (bi1 (w := Cond.static yX9_isBorrowKind) 57 rfl)) (by decide +kernel) ⟨Nat.le_of_ble_eq_true rfl, Nat.le_of_ble_eq_true rfl⟩ hK hP [] rfl rfl hl rfl (Nat.le_of_ble_eq_true rfl) ⟨Nat.zero_le _, Nat.zero_le _⟩ dX1_borrowSet_8 (fun r er => ?_)
  subst er
  refine lv_if_eq (tgt := 22) hx hb dX1_borrowSet_11 (by decide) (fun c1 => ?_) (fun c1 => ?_)
  · refine lv_iconst (v := 0) hx hb dX1_borrowSet_22 (by decide) ?_
    exact sx_ret hx hb hr hlk rfl (by simp only [s_X1_borrowSet, if_pos c1]) dX1_borrowSet_23
  · refine lv_iconst (v := 1) hx hb dX1_borrowSet_14 (by decide) ?_
    refine lv_iload_n hx hb dX1_borrowSet_15 rfl (lv_at hl 1 rfl) ?_
    refine lv_iconst (v := 3) hx hb dX1_borrowSet_16 (by decide) ?_
    refine lv_idiv hx hb dX1_borrowSet_17 (by decide) ?_
    refine lv_ishl hx hb dX1_borrowSet_18 ?_
    refine lv_goto (tgt := 23) hx hb dX1_borrowSet_19 (by decide) ?_
    exact sx_ret hx hb hr hlk rfl (by simp only [s_X1_borrowSet, if_neg c1]) dX1_borrowSet_23
