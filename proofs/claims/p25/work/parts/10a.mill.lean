abbrev wdX9_ofLine : List Cond := Cond.code yX9_ofLine cX9_ofLine 3 (some .int) :: bwC
def x_X9_ofLine (wwr : Int32) (pn : Nat) (cr : Nat → Int32) (p1 : Int32) (p2 : Int32) : Nat := if (s_X5_isLine pn p1) = 0 then 3 else (if p2 < 0 then 1 else (if p2 ≤ 5 then (if p2 = 0 then 0 else (if p2 = 1 then 0 else (if p2 = 2 then 0 else (if p2 = 3 then 0 else (if p2 = 4 then 0 else (if (s_X0_isDead wwr pn cr p1) = 0 then 0 else 0)))))) else 1))
def s_X9_ofLine (wwr : Int32) (yf : Nat → Int32) (ys : Nat → Int32) (pn : Nat) (fs : Nat → Int32) (fa : Nat → Int32) (fb : Nat → Int32) (cr : Nat → Int32) (p1 : Int32) (p2 : Int32) : Int32 := if (s_X5_isLine pn p1) = 0 then 0 else (if p2 < 0 then 0 else (if p2 ≤ 5 then (if p2 = 0 then s_X5_sortAt pn fs p1 else (if p2 = 1 then s_X5_aAt pn fa p1 else (if p2 = 2 then s_X5_bAt pn fb p1 else (if p2 = 3 then s_X8_firstAt wwr pn yf p1 else (if p2 = 4 then s_X8_secondAt wwr pn ys p1 else (if (s_X0_isDead wwr pn cr p1) = 0 then 0 else 1)))))) else 0))
set_option maxHeartbeats 4000000 in
set_option maxRecDepth 100000 in
theorem c_X9_ofLine (l : Launch) (G : sxG) (z : Nat) (h : Nat) (r : Nat) (x : Nat) (g : Nat) (rr : Nat) (xx : Nat) (rns : Int32) (od : Nat) (ow : Nat) (ol : Nat) (oq : Nat) (r1 : Nat) (r2 : Nat) (r3 : Nat) (r4 : Nat) (r5 : Nat) (r6 : Nat) (r7 : Nat) (flg : Int32) (w1 : Nat) (w2 : Nat) (w3 : Nat) (w4 : Nat) (w5 : Nat) (w6 : Nat) (wdp : Int32) (wwr : Int32) (yf : Nat → Int32) (ys : Nat → Int32) (k0 : Nat) (k1 : Nat) (k2 : Nat) (k3 : Nat) (pv : Nat) (pn : Nat) (fs : Nat → Int32) (fa : Nat → Int32) (fb : Nat → Int32) (cr : Nat → Int32) (p1 : Int32) (p2 : Int32) (hn : pn ≤ 33) (hX : x_X9_ofLine wwr pn cr p1 p2 = 0) : sxM l yX9_ofLine wdX9_ofLine 2 42 G [(z, .inr (9, [.ref h, .ref r, .ref x, .ref g, .ref rr, .ref xx, .int rns])), (r, .inr (0, [.ref h, .ref od, .ref ow, .ref ol, .ref oq, .ref r1, .ref r2, .ref r3, .ref r4, .ref r5, .ref r6, .ref r7, .int flg])), (ow, .inr (8, [.ref h, .ref w1, .ref w2, .ref w3, .ref w4, .ref w5, .ref w6, .int wdp, .int wwr])), (w1, .inl (G.2.1, 34, .inl yf)), (w2, .inl (G.2.1, 34, .inl ys)), (h, .inr (5, [.ref k0, .ref k1, .ref k2, .ref k3, .int (nI pv), .int (nI pn)])), (k1, .inl (G.2.1, 34, .inl fs)), (k2, .inl (G.2.1, 34, .inl fa)), (k3, .inl (G.2.1, 34, .inl fb)), (r1, .inl (G.2.2, 34, .inl cr))] [.ref z, .int p1, .int p2] (fun r => r = s_X9_ofLine wwr yf ys pn fs fa fb cr p1 p2) := by
  refine sxM.of (cc := cX9_ofLine) (maxL := 3) (by decide) rfl (Nat.le_of_ble_eq_true rfl) ?_
  intro p e s m args below meth c ⟨hx, hb, hr, hml, hown, hlk, hts, hK⟩ hP ls hl
  have hl : lv_has ls 3 [(0, .ref z), (1, .int p1), (2, .int p2)] := hl
  refine lv_aload_n hx hb dX9_ofLine_0 rfl (lv_at hl 0 rfl) ?_
  refine va_get (D := G.1) (ci := 9) (v := .ref h) (C := RX9) (T := TX9) (N := 7) hx hb hts owX9 hown hK.1 hP 0 rfl rfl 0 (by decide) (bw9 (w := Cond.fieldLink RX9 12 "DropflagMill" "program" "LDropflagMill$Program;") hts 44 rfl) (fun _ h9 => h9) rfl dX9_ofLine_1 ?_
  refine lv_iload_n hx hb dX9_ofLine_4 rfl (lv_at hl 1 rfl) ?_
  refine sx_v (As := [.int p1]) (rest := []) hx hb hml hown hts (c_X5_isLine l G h k0 k1 k2 k3 pv pn p1 ) 1 (sxGV (bi10 (w := Cond.methodLink RX9 97 yX5_isLine) 29 rfl) (bi1 (w := Cond.instanceMethod yX5_isLine) 28 rfl) (bi1 (w := Cond.selects RX5 yX5_isLine yX5_isLine) 29 rfl) (bi1 (w := Cond.initialized RX5) 30 rfl) (bi1 (w := Cond.code yX5_isLine cX5_isLine 2 (some .boolean)) 23 rfl)) rfl (by decide +kernel) ⟨Nat.le_of_ble_eq_true rfl, Nat.le_of_ble_eq_true rfl⟩ hK hP [5] rfl 0 rfl rfl rfl hl rfl (Nat.le_of_ble_eq_true rfl) ⟨Nat.zero_le _, Nat.zero_le _⟩ dX9_ofLine_5 (fun r er => ?_)
  subst er
  refine lv_if_ne (tgt := 21) hx hb dX9_ofLine_8 (by decide) (fun c1 => ?_) (fun c1 => ?_)
  · refine lv_iload_n hx hb dX9_ofLine_21 rfl (lv_at hl 2 rfl) ?_
    refine lv_if_lt (tgt := 30) hx hb dX9_ofLine_22 (by decide) (fun c2 => ?_) (fun c2 => ?_)
    · exact absurd hX (by simp only [x_X9_ofLine, if_neg c1, if_pos c2]; decide)
    · refine lv_iload_n hx hb dX9_ofLine_25 rfl (lv_at hl 2 rfl) ?_
      refine lv_iconst (v := 5) hx hb dX9_ofLine_26 (by decide) ?_
      refine lv_icmp_le (tgt := 40) hx hb dX9_ofLine_27 (by decide) (fun c3 => ?_) (fun c3 => ?_)
      · refine lv_iload_n hx hb dX9_ofLine_40 rfl (lv_at hl 2 rfl) ?_
        by_cases c4 : p2 = 0
        · refine lv_tableIn (off := 35) (tgt := 76) hx hb dX9_ofLine_41 (by rw [c4]; decide) (by rw [c4]; decide) (by rw [c4]; rfl) (by decide) ?_
          refine lv_aload_n hx hb dX9_ofLine_76 rfl (lv_at hl 0 rfl) ?_
          refine va_get (D := G.1) (ci := 9) (v := .ref h) (C := RX9) (T := TX9) (N := 7) hx hb hts owX9 hown hK.1 hP 0 rfl rfl 0 (by decide) (bw9 (w := Cond.fieldLink RX9 12 "DropflagMill" "program" "LDropflagMill$Program;") hts 44 rfl) (fun _ h9 => h9) rfl dX9_ofLine_77 ?_
          refine lv_iload_n hx hb dX9_ofLine_80 rfl (lv_at hl 1 rfl) ?_
          refine sx_v (As := [.int p1]) (rest := []) hx hb hml hown hts (c_X5_sortAt l G h k0 k1 k2 k3 pv pn fs p1 (by omega)) 1 (sxGV (bi10 (w := Cond.methodLink RX9 106 yX5_sortAt) 30 rfl) (bi1 (w := Cond.instanceMethod yX5_sortAt) 37 rfl) (bi1 (w := Cond.selects RX5 yX5_sortAt yX5_sortAt) 38 rfl) (bi1 (w := Cond.initialized RX5) 30 rfl) (bi1 (w := Cond.code yX5_sortAt cX5_sortAt 2 (some .int)) 25 rfl)) rfl (by decide +kernel) ⟨Nat.le_of_ble_eq_true rfl, Nat.le_of_ble_eq_true rfl⟩ hK hP [5, 6] rfl 0 rfl rfl rfl hl rfl (Nat.le_of_ble_eq_true rfl) ⟨Nat.zero_le _, Nat.zero_le _⟩ dX9_ofLine_81 (fun r er => ?_)
          subst er
          exact sx_ret hx hb hr hlk rfl (by simp only [s_X9_ofLine, if_neg c1, if_neg c2, if_pos c3, if_pos c4]) dX9_ofLine_84
        · by_cases c5 : p2 = 1
          · refine lv_tableIn (off := 44) (tgt := 85) hx hb dX9_ofLine_41 (by rw [c5]; decide) (by rw [c5]; decide) (by rw [c5]; rfl) (by decide) ?_
            refine lv_aload_n hx hb dX9_ofLine_85 rfl (lv_at hl 0 rfl) ?_
            refine va_get (D := G.1) (ci := 9) (v := .ref h) (C := RX9) (T := TX9) (N := 7) hx hb hts owX9 hown hK.1 hP 0 rfl rfl 0 (by decide) (bw9 (w := Cond.fieldLink RX9 12 "DropflagMill" "program" "LDropflagMill$Program;") hts 44 rfl) (fun _ h9 => h9) rfl dX9_ofLine_86 ?_
            refine lv_iload_n hx hb dX9_ofLine_89 rfl (lv_at hl 1 rfl) ?_
            refine sx_v (As := [.int p1]) (rest := []) hx hb hml hown hts (c_X5_aAt l G h k0 k1 k2 k3 pv pn fa p1 (by omega)) 1 (sxGV (bi10 (w := Cond.methodLink RX9 120 yX5_aAt) 33 rfl) (bi1 (w := Cond.instanceMethod yX5_aAt) 43 rfl) (bi1 (w := Cond.selects RX5 yX5_aAt yX5_aAt) 44 rfl) (bi1 (w := Cond.initialized RX5) 30 rfl) (bi1 (w := Cond.code yX5_aAt cX5_aAt 2 (some .int)) 33 rfl)) rfl (by decide +kernel) ⟨Nat.le_of_ble_eq_true rfl, Nat.le_of_ble_eq_true rfl⟩ hK hP [5, 7] rfl 0 rfl rfl rfl hl rfl (Nat.le_of_ble_eq_true rfl) ⟨Nat.zero_le _, Nat.zero_le _⟩ dX9_ofLine_90 (fun r er => ?_)
            subst er
            exact sx_ret hx hb hr hlk rfl (by simp only [s_X9_ofLine, if_neg c1, if_neg c2, if_pos c3, if_neg c4, if_pos c5]) dX9_ofLine_93
          · by_cases c6 : p2 = 2
            · refine lv_tableIn (off := 53) (tgt := 94) hx hb dX9_ofLine_41 (by rw [c6]; decide) (by rw [c6]; decide) (by rw [c6]; rfl) (by decide) ?_
              refine lv_aload_n hx hb dX9_ofLine_94 rfl (lv_at hl 0 rfl) ?_
              refine va_get (D := G.1) (ci := 9) (v := .ref h) (C := RX9) (T := TX9) (N := 7) hx hb hts owX9 hown hK.1 hP 0 rfl rfl 0 (by decide) (bw9 (w := Cond.fieldLink RX9 12 "DropflagMill" "program" "LDropflagMill$Program;") hts 44 rfl) (fun _ h9 => h9) rfl dX9_ofLine_95 ?_
              refine lv_iload_n hx hb dX9_ofLine_98 rfl (lv_at hl 1 rfl) ?_
              refine sx_v (As := [.int p1]) (rest := []) hx hb hml hown hts (c_X5_bAt l G h k0 k1 k2 k3 pv pn fb p1 (by omega)) 1 (sxGV (bi10 (w := Cond.methodLink RX9 123 yX5_bAt) 34 rfl) (bi1 (w := Cond.instanceMethod yX5_bAt) 40 rfl) (bi1 (w := Cond.selects RX5 yX5_bAt yX5_bAt) 41 rfl) (bi1 (w := Cond.initialized RX5) 30 rfl) (bi1 (w := Cond.code yX5_bAt cX5_bAt 2 (some .int)) 31 rfl)) rfl (by decide +kernel) ⟨Nat.le_of_ble_eq_true rfl, Nat.le_of_ble_eq_true rfl⟩ hK hP [5, 8] rfl 0 rfl rfl rfl hl rfl (Nat.le_of_ble_eq_true rfl) ⟨Nat.zero_le _, Nat.zero_le _⟩ dX9_ofLine_99 (fun r er => ?_)
              subst er
              exact sx_ret hx hb hr hlk rfl (by simp only [s_X9_ofLine, if_neg c1, if_neg c2, if_pos c3, if_neg c4, if_neg c5, if_pos c6]) dX9_ofLine_102
            · by_cases c7 : p2 = 3
              · refine lv_tableIn (off := 62) (tgt := 103) hx hb dX9_ofLine_41 (by rw [c7]; decide) (by rw [c7]; decide) (by rw [c7]; rfl) (by decide) ?_
                refine lv_aload_n hx hb dX9_ofLine_103 rfl (lv_at hl 0 rfl) ?_
                refine va_get (D := G.1) (ci := 9) (v := .ref r) (C := RX9) (T := TX9) (N := 7) hx hb hts owX9 hown hK.1 hP 0 rfl rfl 1 (by decide) (bw9 (w := Cond.fieldLink RX9 21 "DropflagMill" "check" "LDropflagMill$Check;") hts 47 rfl) (fun _ h9 => h9) rfl dX9_ofLine_104 ?_
                refine va_get (D := G.1) (ci := 0) (v := .ref ow) (C := RX0) (T := TX0) (N := 13) hx hb hts owX0 hown hK.1 hP 1 rfl rfl 2 (by decide) (bw9 (w := Cond.fieldLink RX9 27 "DropflagMill$Check" "ways" "LDropflagMill$Ways;") hts 50 rfl) (fun _ h9 => h9) rfl dX9_ofLine_107 ?_
                refine lv_iload_n hx hb dX9_ofLine_110 rfl (lv_at hl 1 rfl) ?_
                refine sx_v (As := [.int p1]) (rest := []) hx hb hml hown hts (c_X8_firstAt l G ow h w1 w2 w3 w4 w5 w6 wdp wwr k0 k1 k2 k3 pv pn yf p1 (by omega)) 1 (sxGV (bi10 (w := Cond.methodLink RX9 126 yX8_firstAt) 35 rfl) (bi3 (w := Cond.instanceMethod yX8_firstAt) 12 rfl) (bi3 (w := Cond.selects RX8 yX8_firstAt yX8_firstAt) 13 rfl) (bi0 (w := Cond.initialized RX8) 50 rfl) (bi2 (w := Cond.code yX8_firstAt cX8_firstAt 2 (some .int)) 53 rfl)) rfl (by decide +kernel) ⟨Nat.le_of_ble_eq_true rfl, Nat.le_of_ble_eq_true rfl⟩ hK hP [2, 5, 3] rfl 0 rfl rfl rfl hl rfl (Nat.le_of_ble_eq_true rfl) ⟨Nat.zero_le _, Nat.zero_le _⟩ dX9_ofLine_111 (fun r er => ?_)
                subst er
                exact sx_ret hx hb hr hlk rfl (by simp only [s_X9_ofLine, if_neg c1, if_neg c2, if_pos c3, if_neg c4, if_neg c5, if_neg c6, if_pos c7]) dX9_ofLine_114
              · by_cases c8 : p2 = 4
                · refine lv_tableIn (off := 74) (tgt := 115) hx hb dX9_ofLine_41 (by rw [c8]; decide) (by rw [c8]; decide) (by rw [c8]; rfl) (by decide) ?_
                  refine lv_aload_n hx hb dX9_ofLine_115 rfl (lv_at hl 0 rfl) ?_
                  refine va_get (D := G.1) (ci := 9) (v := .ref r) (C := RX9) (T := TX9) (N := 7) hx hb hts owX9 hown hK.1 hP 0 rfl rfl 1 (by decide) (bw9 (w := Cond.fieldLink RX9 21 "DropflagMill" "check" "LDropflagMill$Check;") hts 47 rfl) (fun _ h9 => h9) rfl dX9_ofLine_116 ?_
                  refine va_get (D := G.1) (ci := 0) (v := .ref ow) (C := RX0) (T := TX0) (N := 13) hx hb hts owX0 hown hK.1 hP 1 rfl rfl 2 (by decide) (bw9 (w := Cond.fieldLink RX9 27 "DropflagMill$Check" "ways" "LDropflagMill$Ways;") hts 50 rfl) (fun _ h9 => h9) rfl dX9_ofLine_119 ?_
                  refine lv_iload_n hx hb dX9_ofLine_122 rfl (lv_at hl 1 rfl) ?_
                  refine sx_v (As := [.int p1]) (rest := []) hx hb hml hown hts (c_X8_secondAt l G ow h w1 w2 w3 w4 w5 w6 wdp wwr k0 k1 k2 k3 pv pn ys p1 (by omega)) 1 (sxGV (bi10 (w := Cond.methodLink RX9 131 yX8_secondAt) 36 rfl) (bi3 (w := Cond.instanceMethod yX8_secondAt) 18 rfl) (bi3 (w := Cond.selects RX8 yX8_secondAt yX8_secondAt) 19 rfl) (bi0 (w := Cond.initialized RX8) 50 rfl) (bi3 (w := Cond.code yX8_secondAt cX8_secondAt 2 (some .int)) 4 rfl)) rfl (by decide +kernel) ⟨Nat.le_of_ble_eq_true rfl, Nat.le_of_ble_eq_true rfl⟩ hK hP [2, 5, 4] rfl 0 rfl rfl rfl hl rfl (Nat.le_of_ble_eq_true rfl) ⟨Nat.zero_le _, Nat.zero_le _⟩ dX9_ofLine_123 (fun r er => ?_)
                  subst er
                  exact sx_ret hx hb hr hlk rfl (by simp only [s_X9_ofLine, if_neg c1, if_neg c2, if_pos c3, if_neg c4, if_neg c5, if_neg c6, if_neg c7, if_pos c8]) dX9_ofLine_126
                · refine lv_tableOut (tgt := 127) hx hb dX9_ofLine_41 (by have := lv_neT (a := 0) c4 rfl; have := lv_neT (a := 1) c5 rfl; have := lv_neT (a := 2) c6 rfl; have := lv_neT (a := 3) c7 rfl; have := lv_neT (a := 4) c8 rfl; omega) (by decide) ?_
                  refine lv_aload_n hx hb dX9_ofLine_127 rfl (lv_at hl 0 rfl) ?_
                  refine va_get (D := G.1) (ci := 9) (v := .ref r) (C := RX9) (T := TX9) (N := 7) hx hb hts owX9 hown hK.1 hP 0 rfl rfl 1 (by decide) (bw9 (w := Cond.fieldLink RX9 21 "DropflagMill" "check" "LDropflagMill$Check;") hts 47 rfl) (fun _ h9 => h9) rfl dX9_ofLine_128 ?_
                  refine lv_iload_n hx hb dX9_ofLine_131 rfl (lv_at hl 1 rfl) ?_
                  refine sx_v (As := [.int p1]) (rest := []) hx hb hml hown hts (c_X0_isDead l G r h od ow ol oq r1 r2 r3 r4 r5 r6 r7 flg w1 w2 w3 w4 w5 w6 wdp wwr k0 k1 k2 k3 pv pn cr p1 (by omega)) 1 (sxGV (bi10 (w := Cond.methodLink RX9 134 yX0_isDead) 37 rfl) (bi5 (w := Cond.instanceMethod yX0_isDead) 11 rfl) (bi5 (w := Cond.selects RX0 yX0_isDead yX0_isDead) 12 rfl) (bi2 (w := Cond.initialized RX0) 52 rfl) (bi5 (w := Cond.code yX0_isDead cX0_isDead 2 (some .boolean)) 4 rfl)) rfl (by decide +kernel) ⟨Nat.le_of_ble_eq_true rfl, Nat.le_of_ble_eq_true rfl⟩ hK hP [1, 2, 5, 9] rfl 0 rfl rfl rfl hl rfl (Nat.le_of_ble_eq_true rfl) ⟨Nat.zero_le _, Nat.zero_le _⟩ dX9_ofLine_132 (fun r er => ?_)
                  subst er
                  refine lv_if_eq (tgt := 142) hx hb dX9_ofLine_135 (by decide) (fun c9 => ?_) (fun c9 => ?_)
                  · refine lv_iconst (v := 0) hx hb dX9_ofLine_142 (by decide) ?_
                    exact sx_ret hx hb hr hlk rfl (by simp only [s_X9_ofLine, if_neg c1, if_neg c2, if_pos c3, if_neg c4, if_neg c5, if_neg c6, if_neg c7, if_neg c8, if_pos c9]) dX9_ofLine_143
                  · refine lv_iconst (v := 1) hx hb dX9_ofLine_138 (by decide) ?_
                    refine lv_goto (tgt := 143) hx hb dX9_ofLine_139 (by decide) ?_
                    exact sx_ret hx hb hr hlk rfl (by simp only [s_X9_ofLine, if_neg c1, if_neg c2, if_pos c3, if_neg c4, if_neg c5, if_neg c6, if_neg c7, if_neg c8, if_neg c9]) dX9_ofLine_143
      · exact absurd hX (by simp only [x_X9_ofLine, if_neg c1, if_neg c2, if_neg c3]; decide)
  · exact absurd hX (by simp only [x_X9_ofLine, if_pos c1]; decide)

abbrev wdX9_state : List Cond := Cond.code yX9_state cX9_state 3 (some .int) :: bwC
def x_X9_state (pv : Nat) (pn : Nat) (fk : Nat → Int32) (p1 : Int32) (p2 : Int32) : Nat := if (s_X5_isLineOrEnd pn p1) = 0 then 3 else (if (s_X5_kindAt pv fk p2) = (-1) then 3 else 0)
def s_X9_state (pv : Nat) (pn : Nat) (fk : Nat → Int32) (cr : Nat → Int32) (ch : Nat → Int32) (cl : Nat → Int32) (p1 : Int32) (p2 : Int32) : Int32 := if (s_X5_isLineOrEnd pn p1) = 0 then 0 else (if (s_X5_kindAt pv fk p2) = (-1) then 0 else s_X0_stateAt pv pn fk cr ch cl p1 p2)
set_option maxHeartbeats 4000000 in
set_option maxRecDepth 100000 in
theorem c_X9_state (l : Launch) (G : sxG) (z : Nat) (h : Nat) (r : Nat) (x : Nat) (g : Nat) (rr : Nat) (xx : Nat) (rns : Int32) (od : Nat) (ow : Nat) (ol : Nat) (oq : Nat) (r1 : Nat) (r2 : Nat) (r3 : Nat) (r4 : Nat) (r5 : Nat) (r6 : Nat) (r7 : Nat) (flg : Int32) (k0 : Nat) (k1 : Nat) (k2 : Nat) (k3 : Nat) (pv : Nat) (pn : Nat) (fk : Nat → Int32) (cr : Nat → Int32) (ch : Nat → Int32) (cl : Nat → Int32) (p1 : Int32) (p2 : Int32) (hn : pn ≤ 33) (hv : pv ≤ 8) (hX : x_X9_state pv pn fk p1 p2 = 0) : sxM l yX9_state wdX9_state 3 67 G [(z, .inr (9, [.ref h, .ref r, .ref x, .ref g, .ref rr, .ref xx, .int rns])), (r, .inr (0, [.ref h, .ref od, .ref ow, .ref ol, .ref oq, .ref r1, .ref r2, .ref r3, .ref r4, .ref r5, .ref r6, .ref r7, .int flg])), (h, .inr (5, [.ref k0, .ref k1, .ref k2, .ref k3, .int (nI pv), .int (nI pn)])), (k0, .inl (G.2.1, 8, .inl fk)), (r1, .inl (G.2.2, 34, .inl cr)), (r3, .inl (G.2.1, 34, .inl ch)), (r4, .inl (G.2.1, 34, .inl cl))] [.ref z, .int p1, .int p2] (fun r => r = s_X9_state pv pn fk cr ch cl p1 p2) := by
  refine sxM.of (cc := cX9_state) (maxL := 3) (by decide) rfl (Nat.le_of_ble_eq_true rfl) ?_
  intro p e s m args below meth c ⟨hx, hb, hr, hml, hown, hlk, hts, hK⟩ hP ls hl
  have hl : lv_has ls 3 [(0, .ref z), (1, .int p1), (2, .int p2)] := hl
  refine lv_aload_n hx hb dX9_state_0 rfl (lv_at hl 0 rfl) ?_
  refine va_get (D := G.1) (ci := 9) (v := .ref h) (C := RX9) (T := TX9) (N := 7) hx hb hts owX9 hown hK.1 hP 0 rfl rfl 0 (by decide) (bw9 (w := Cond.fieldLink RX9 12 "DropflagMill" "program" "LDropflagMill$Program;") hts 44 rfl) (fun _ h9 => h9) rfl dX9_state_1 ?_
  refine lv_iload_n hx hb dX9_state_4 rfl (lv_at hl 1 rfl) ?_
  refine sx_v (As := [.int p1]) (rest := []) hx hb hml hown hts (c_X5_isLineOrEnd l G h k0 k1 k2 k3 pv pn p1 ) 1 (sxGV (bi10 (w := Cond.methodLink RX9 137 yX5_isLineOrEnd) 39 rfl) (bi3 (w := Cond.instanceMethod yX5_isLineOrEnd) 2 rfl) (bi3 (w := Cond.selects RX5 yX5_isLineOrEnd yX5_isLineOrEnd) 3 rfl) (bi1 (w := Cond.initialized RX5) 30 rfl) (bi2 (w := Cond.code yX5_isLineOrEnd cX5_isLineOrEnd 2 (some .boolean)) 58 rfl)) rfl (by decide +kernel) ⟨Nat.le_of_ble_eq_true rfl, Nat.le_of_ble_eq_true rfl⟩ hK hP [2] rfl 0 rfl rfl rfl hl rfl (Nat.le_of_ble_eq_true rfl) ⟨Nat.zero_le _, Nat.zero_le _⟩ dX9_state_5 (fun r er => ?_)
  subst er
  refine lv_if_eq (tgt := 23) hx hb dX9_state_8 (by decide) (fun c1 => ?_) (fun c1 => ?_)
  · exact absurd hX (by simp only [x_X9_state, if_pos c1]; decide)
  · refine lv_aload_n hx hb dX9_state_11 rfl (lv_at hl 0 rfl) ?_
    refine va_get (D := G.1) (ci := 9) (v := .ref h) (C := RX9) (T := TX9) (N := 7) hx hb hts owX9 hown hK.1 hP 0 rfl rfl 0 (by decide) (bw9 (w := Cond.fieldLink RX9 12 "DropflagMill" "program" "LDropflagMill$Program;") hts 44 rfl) (fun _ h9 => h9) rfl dX9_state_12 ?_
    refine lv_iload_n hx hb dX9_state_15 rfl (lv_at hl 2 rfl) ?_
    refine sx_v (As := [.int p2]) (rest := []) hx hb hml hown hts (c_X5_kindAt l G h k0 k1 k2 k3 pv pn fk p2 (by omega)) 1 (sxGV (bi10 (w := Cond.methodLink RX9 140 yX5_kindAt) 40 rfl) (bi1 (w := Cond.instanceMethod yX5_kindAt) 51 rfl) (bi1 (w := Cond.selects RX5 yX5_kindAt yX5_kindAt) 52 rfl) (bi1 (w := Cond.initialized RX5) 30 rfl) (bi1 (w := Cond.code yX5_kindAt cX5_kindAt 3 (some .int)) 46 rfl)) rfl (by decide +kernel) ⟨Nat.le_of_ble_eq_true rfl, Nat.le_of_ble_eq_true rfl⟩ hK hP [2, 3] rfl 0 rfl rfl rfl hl rfl (Nat.le_of_ble_eq_true rfl) ⟨Nat.zero_le _, Nat.zero_le _⟩ dX9_state_16 (fun r er => ?_)
    subst er
    refine lv_iconst (v := (-1)) hx hb dX9_state_19 (by decide) ?_
    refine lv_icmp_ne (tgt := 33) hx hb dX9_state_20 (by decide) (fun c2 => ?_) (fun c2 => ?_)
    · refine lv_aload_n hx hb dX9_state_33 rfl (lv_at hl 0 rfl) ?_
      refine va_get (D := G.1) (ci := 9) (v := .ref r) (C := RX9) (T := TX9) (N := 7) hx hb hts owX9 hown hK.1 hP 0 rfl rfl 1 (by decide) (bw9 (w := Cond.fieldLink RX9 21 "DropflagMill" "check" "LDropflagMill$Check;") hts 47 rfl) (fun _ h9 => h9) rfl dX9_state_34 ?_
      refine lv_iload_n hx hb dX9_state_37 rfl (lv_at hl 1 rfl) ?_
      refine lv_iload_n hx hb dX9_state_38 rfl (lv_at hl 2 rfl) ?_
      refine sx_v (As := [.int p1, .int p2]) (rest := []) hx hb hml hown hts (c_X0_stateAt l G r h od ow ol oq r1 r2 r3 r4 r5 r6 r7 flg k0 k1 k2 k3 pv pn fk cr ch cl p1 p2 (by omega) (by omega)) 2 (sxGV (bi10 (w := Cond.methodLink RX9 145 yX0_stateAt) 41 rfl) (bi10 (w := Cond.instanceMethod yX0_stateAt) 42 rfl) (bi10 (w := Cond.selects RX0 yX0_stateAt yX0_stateAt) 43 rfl) (bi2 (w := Cond.initialized RX0) 52 rfl) (bi5 (w := Cond.code yX0_stateAt cX0_stateAt 4 (some .int)) 5 rfl)) rfl (by decide +kernel) ⟨Nat.le_of_ble_eq_true rfl, Nat.le_of_ble_eq_true rfl⟩ hK hP [1, 2, 3, 4, 5, 6] rfl 0 rfl rfl rfl hl rfl (Nat.le_of_ble_eq_true rfl) ⟨Nat.zero_le _, Nat.zero_le _⟩ dX9_state_39 (fun r er => ?_)
      subst er
      exact sx_ret hx hb hr hlk rfl (by simp only [s_X9_state, if_neg c1, if_neg c2]) dX9_state_42
    · exact absurd hX (by simp only [x_X9_state, if_neg c1, if_pos c2]; decide)

abbrev wdX9_holds : List Cond := Cond.code yX9_holds cX9_holds 3 (some .int) :: bwC
def x_X9_holds (pv : Nat) (pn : Nat) (fk : Nat → Int32) (p1 : Int32) (p2 : Int32) : Nat := if (s_X5_isLineOrEnd pn p1) = 0 then 3 else (if (s_X5_isBorrow pv fk p2) = 0 then 3 else 0)
def s_X9_holds (pv : Nat) (pn : Nat) (fk : Nat → Int32) (cd : Nat → Int32) (p1 : Int32) (p2 : Int32) : Int32 := if (s_X5_isLineOrEnd pn p1) = 0 then 0 else (if (s_X5_isBorrow pv fk p2) = 0 then 0 else s_X0_heldBy cd p1 p2)
set_option maxHeartbeats 4000000 in
set_option maxRecDepth 100000 in
theorem c_X9_holds (l : Launch) (G : sxG) (z : Nat) (h : Nat) (r : Nat) (x : Nat) (g : Nat) (rr : Nat) (xx : Nat) (rns : Int32) (od : Nat) (ow : Nat) (ol : Nat) (oq : Nat) (r1 : Nat) (r2 : Nat) (r3 : Nat) (r4 : Nat) (r5 : Nat) (r6 : Nat) (r7 : Nat) (flg : Int32) (k0 : Nat) (k1 : Nat) (k2 : Nat) (k3 : Nat) (pv : Nat) (pn : Nat) (fk : Nat → Int32) (cd : Nat → Int32) (p1 : Int32) (p2 : Int32) (hn : pn ≤ 33) (hv : pv ≤ 8) (hX : x_X9_holds pv pn fk p1 p2 = 0) : sxM l yX9_holds wdX9_holds 2 42 G [(z, .inr (9, [.ref h, .ref r, .ref x, .ref g, .ref rr, .ref xx, .int rns])), (r, .inr (0, [.ref h, .ref od, .ref ow, .ref ol, .ref oq, .ref r1, .ref r2, .ref r3, .ref r4, .ref r5, .ref r6, .ref r7, .int flg])), (h, .inr (5, [.ref k0, .ref k1, .ref k2, .ref k3, .int (nI pv), .int (nI pn)])), (k0, .inl (G.2.1, 8, .inl fk)), (r5, .inl (G.2.1, 272, .inl cd))] [.ref z, .int p1, .int p2] (fun r => r = s_X9_holds pv pn fk cd p1 p2) := by
  refine sxM.of (cc := cX9_holds) (maxL := 3) (by decide) rfl (Nat.le_of_ble_eq_true rfl) ?_
  intro p e s m args below meth c ⟨hx, hb, hr, hml, hown, hlk, hts, hK⟩ hP ls hl
  have hl : lv_has ls 3 [(0, .ref z), (1, .int p1), (2, .int p2)] := hl
  refine lv_aload_n hx hb dX9_holds_0 rfl (lv_at hl 0 rfl) ?_
  refine va_get (D := G.1) (ci := 9) (v := .ref h) (C := RX9) (T := TX9) (N := 7) hx hb hts owX9 hown hK.1 hP 0 rfl rfl 0 (by decide) (bw9 (w := Cond.fieldLink RX9 12 "DropflagMill" "program" "LDropflagMill$Program;") hts 44 rfl) (fun _ h9 => h9) rfl dX9_holds_1 ?_
  refine lv_iload_n hx hb dX9_holds_4 rfl (lv_at hl 1 rfl) ?_
  refine sx_v (As := [.int p1]) (rest := []) hx hb hml hown hts (c_X5_isLineOrEnd l G h k0 k1 k2 k3 pv pn p1 ) 1 (sxGV (bi10 (w := Cond.methodLink RX9 137 yX5_isLineOrEnd) 39 rfl) (bi3 (w := Cond.instanceMethod yX5_isLineOrEnd) 2 rfl) (bi3 (w := Cond.selects RX5 yX5_isLineOrEnd yX5_isLineOrEnd) 3 rfl) (bi1 (w := Cond.initialized RX5) 30 rfl) (bi2 (w := Cond.code yX5_isLineOrEnd cX5_isLineOrEnd 2 (some .boolean)) 58 rfl)) rfl (by decide +kernel) ⟨Nat.le_of_ble_eq_true rfl, Nat.le_of_ble_eq_true rfl⟩ hK hP [2] rfl 0 rfl rfl rfl hl rfl (Nat.le_of_ble_eq_true rfl) ⟨Nat.zero_le _, Nat.zero_le _⟩ dX9_holds_5 (fun r er => ?_)
  subst er
  refine lv_if_eq (tgt := 22) hx hb dX9_holds_8 (by decide) (fun c1 => ?_) (fun c1 => ?_)
  · exact absurd hX (by simp only [x_X9_holds, if_pos c1]; decide)
  · refine lv_aload_n hx hb dX9_holds_11 rfl (lv_at hl 0 rfl) ?_
    refine va_get (D := G.1) (ci := 9) (v := .ref h) (C := RX9) (T := TX9) (N := 7) hx hb hts owX9 hown hK.1 hP 0 rfl rfl 0 (by decide) (bw9 (w := Cond.fieldLink RX9 12 "DropflagMill" "program" "LDropflagMill$Program;") hts 44 rfl) (fun _ h9 => h9) rfl dX9_holds_12 ?_
    refine lv_iload_n hx hb dX9_holds_15 rfl (lv_at hl 2 rfl) ?_
    refine sx_v (As := [.int p2]) (rest := []) hx hb hml hown hts (c_X5_isBorrow l G h k0 k1 k2 k3 pv pn fk p2 (by omega)) 1 (sxGV (bi10 (w := Cond.methodLink RX9 149 yX5_isBorrow) 45 rfl) (bi10 (w := Cond.instanceMethod yX5_isBorrow) 46 rfl) (bi10 (w := Cond.selects RX5 yX5_isBorrow yX5_isBorrow) 47 rfl) (bi1 (w := Cond.initialized RX5) 30 rfl) (bi6 (w := Cond.code yX5_isBorrow cX5_isBorrow 2 (some .boolean)) 15 rfl)) rfl (by decide +kernel) ⟨Nat.le_of_ble_eq_true rfl, Nat.le_of_ble_eq_true rfl⟩ hK hP [2, 3] rfl 0 rfl rfl rfl hl rfl (Nat.le_of_ble_eq_true rfl) ⟨Nat.zero_le _, Nat.zero_le _⟩ dX9_holds_16 (fun r er => ?_)
    subst er
    refine lv_if_ne (tgt := 32) hx hb dX9_holds_19 (by decide) (fun c2 => ?_) (fun c2 => ?_)
    · refine lv_aload_n hx hb dX9_holds_32 rfl (lv_at hl 0 rfl) ?_
      refine va_get (D := G.1) (ci := 9) (v := .ref r) (C := RX9) (T := TX9) (N := 7) hx hb hts owX9 hown hK.1 hP 0 rfl rfl 1 (by decide) (bw9 (w := Cond.fieldLink RX9 21 "DropflagMill" "check" "LDropflagMill$Check;") hts 47 rfl) (fun _ h9 => h9) rfl dX9_holds_33 ?_
      refine lv_iload_n hx hb dX9_holds_36 rfl (lv_at hl 1 rfl) ?_
      refine lv_iload_n hx hb dX9_holds_37 rfl (lv_at hl 2 rfl) ?_
      refine sx_v (As := [.int p1, .int p2]) (rest := []) hx hb hml hown hts (c_X0_heldBy l G r h od ow ol oq r1 r2 r3 r4 r5 r6 r7 flg cd p1 p2 ) 2 (sxGV (bi10 (w := Cond.methodLink RX9 154 yX0_heldBy) 48 rfl) (bi2 (w := Cond.instanceMethod yX0_heldBy) 50 rfl) (bi2 (w := Cond.selects RX0 yX0_heldBy yX0_heldBy) 51 rfl) (bi2 (w := Cond.initialized RX0) 52 rfl) (bi2 (w := Cond.code yX0_heldBy cX0_heldBy 4 (some .int)) 44 rfl)) rfl (by decide +kernel) ⟨Nat.le_of_ble_eq_true rfl, Nat.le_of_ble_eq_true rfl⟩ hK hP [1, 4] rfl 0 rfl rfl rfl hl rfl (Nat.le_of_ble_eq_true rfl) ⟨Nat.zero_le _, Nat.zero_le _⟩ dX9_holds_38 (fun r er => ?_)
      subst er
      exact sx_ret hx hb hr hlk rfl (by simp only [s_X9_holds, if_neg c1, if_neg c2]) dX9_holds_41
    · exact absurd hX (by simp only [x_X9_holds, if_neg c1, if_pos c2]; decide)

abbrev wdX9_isWanted : List Cond := Cond.code yX9_isWanted cX9_isWanted 3 (some .boolean) :: bwC
def x_X9_isWanted (pv : Nat) (pn : Nat) (fk : Nat → Int32) (cn : Nat → Int32) (p1 : Int32) (p2 : Int32) : Nat := if (s_X5_isLineOrEnd pn p1) = 0 then 3 else (if (s_X5_isBorrow pv fk p2) = 0 then 3 else (if ((s_X0_wantedAt pn cn p1) &&& (1 <<< (p2 &&& 31))) = 0 then 0 else 0))
def s_X9_isWanted (pv : Nat) (pn : Nat) (fk : Nat → Int32) (cn : Nat → Int32) (p1 : Int32) (p2 : Int32) : Int32 := if (s_X5_isLineOrEnd pn p1) = 0 then 0 else (if (s_X5_isBorrow pv fk p2) = 0 then 0 else (if ((s_X0_wantedAt pn cn p1) &&& (1 <<< (p2 &&& 31))) = 0 then 0 else 1))
set_option maxHeartbeats 4000000 in
set_option maxRecDepth 100000 in
theorem c_X9_isWanted (l : Launch) (G : sxG) (z : Nat) (h : Nat) (r : Nat) (x : Nat) (g : Nat) (rr : Nat) (xx : Nat) (rns : Int32) (od : Nat) (ow : Nat) (ol : Nat) (oq : Nat) (r1 : Nat) (r2 : Nat) (r3 : Nat) (r4 : Nat) (r5 : Nat) (r6 : Nat) (r7 : Nat) (flg : Int32) (k0 : Nat) (k1 : Nat) (k2 : Nat) (k3 : Nat) (pv : Nat) (pn : Nat) (fk : Nat → Int32) (cn : Nat → Int32) (p1 : Int32) (p2 : Int32) (hn : pn ≤ 33) (hv : pv ≤ 8) (hX : x_X9_isWanted pv pn fk cn p1 p2 = 0) : sxM l yX9_isWanted wdX9_isWanted 2 42 G [(z, .inr (9, [.ref h, .ref r, .ref x, .ref g, .ref rr, .ref xx, .int rns])), (r, .inr (0, [.ref h, .ref od, .ref ow, .ref ol, .ref oq, .ref r1, .ref r2, .ref r3, .ref r4, .ref r5, .ref r6, .ref r7, .int flg])), (h, .inr (5, [.ref k0, .ref k1, .ref k2, .ref k3, .int (nI pv), .int (nI pn)])), (k0, .inl (G.2.1, 8, .inl fk)), (r7, .inl (G.2.1, 34, .inl cn))] [.ref z, .int p1, .int p2] (fun r => r = s_X9_isWanted pv pn fk cn p1 p2) := by
  refine sxM.of (cc := cX9_isWanted) (maxL := 3) (by decide) rfl (Nat.le_of_ble_eq_true rfl) ?_
  intro p e s m args below meth c ⟨hx, hb, hr, hml, hown, hlk, hts, hK⟩ hP ls hl
  have hl : lv_has ls 3 [(0, .ref z), (1, .int p1), (2, .int p2)] := hl
  refine lv_aload_n hx hb dX9_isWanted_0 rfl (lv_at hl 0 rfl) ?_
  refine va_get (D := G.1) (ci := 9) (v := .ref h) (C := RX9) (T := TX9) (N := 7) hx hb hts owX9 hown hK.1 hP 0 rfl rfl 0 (by decide) (bw9 (w := Cond.fieldLink RX9 12 "DropflagMill" "program" "LDropflagMill$Program;") hts 44 rfl) (fun _ h9 => h9) rfl dX9_isWanted_1 ?_
  refine lv_iload_n hx hb dX9_isWanted_4 rfl (lv_at hl 1 rfl) ?_
  refine sx_v (As := [.int p1]) (rest := []) hx hb hml hown hts (c_X5_isLineOrEnd l G h k0 k1 k2 k3 pv pn p1 ) 1 (sxGV (bi10 (w := Cond.methodLink RX9 137 yX5_isLineOrEnd) 39 rfl) (bi3 (w := Cond.instanceMethod yX5_isLineOrEnd) 2 rfl) (bi3 (w := Cond.selects RX5 yX5_isLineOrEnd yX5_isLineOrEnd) 3 rfl) (bi1 (w := Cond.initialized RX5) 30 rfl) (bi2 (w := Cond.code yX5_isLineOrEnd cX5_isLineOrEnd 2 (some .boolean)) 58 rfl)) rfl (by decide +kernel) ⟨Nat.le_of_ble_eq_true rfl, Nat.le_of_ble_eq_true rfl⟩ hK hP [2] rfl 0 rfl rfl rfl hl rfl (Nat.le_of_ble_eq_true rfl) ⟨Nat.zero_le _, Nat.zero_le _⟩ dX9_isWanted_5 (fun r er => ?_)
  subst er
  refine lv_if_eq (tgt := 22) hx hb dX9_isWanted_8 (by decide) (fun c1 => ?_) (fun c1 => ?_)
  · exact absurd hX (by simp only [x_X9_isWanted, if_pos c1]; decide)
  · refine lv_aload_n hx hb dX9_isWanted_11 rfl (lv_at hl 0 rfl) ?_
    refine va_get (D := G.1) (ci := 9) (v := .ref h) (C := RX9) (T := TX9) (N := 7) hx hb hts owX9 hown hK.1 hP 0 rfl rfl 0 (by decide) (bw9 (w := Cond.fieldLink RX9 12 "DropflagMill" "program" "LDropflagMill$Program;") hts 44 rfl) (fun _ h9 => h9) rfl dX9_isWanted_12 ?_
    refine lv_iload_n hx hb dX9_isWanted_15 rfl (lv_at hl 2 rfl) ?_
    refine sx_v (As := [.int p2]) (rest := []) hx hb hml hown hts (c_X5_isBorrow l G h k0 k1 k2 k3 pv pn fk p2 (by omega)) 1 (sxGV (bi10 (w := Cond.methodLink RX9 149 yX5_isBorrow) 45 rfl) (bi10 (w := Cond.instanceMethod yX5_isBorrow) 46 rfl) (bi10 (w := Cond.selects RX5 yX5_isBorrow yX5_isBorrow) 47 rfl) (bi1 (w := Cond.initialized RX5) 30 rfl) (bi6 (w := Cond.code yX5_isBorrow cX5_isBorrow 2 (some .boolean)) 15 rfl)) rfl (by decide +kernel) ⟨Nat.le_of_ble_eq_true rfl, Nat.le_of_ble_eq_true rfl⟩ hK hP [2, 3] rfl 0 rfl rfl rfl hl rfl (Nat.le_of_ble_eq_true rfl) ⟨Nat.zero_le _, Nat.zero_le _⟩ dX9_isWanted_16 (fun r er => ?_)
    subst er
    refine lv_if_ne (tgt := 32) hx hb dX9_isWanted_19 (by decide) (fun c2 => ?_) (fun c2 => ?_)
    · refine lv_aload_n hx hb dX9_isWanted_32 rfl (lv_at hl 0 rfl) ?_
      refine va_get (D := G.1) (ci := 9) (v := .ref r) (C := RX9) (T := TX9) (N := 7) hx hb hts owX9 hown hK.1 hP 0 rfl rfl 1 (by decide) (bw9 (w := Cond.fieldLink RX9 21 "DropflagMill" "check" "LDropflagMill$Check;") hts 47 rfl) (fun _ h9 => h9) rfl dX9_isWanted_33 ?_
      refine lv_iload_n hx hb dX9_isWanted_36 rfl (lv_at hl 1 rfl) ?_
      refine sx_v (As := [.int p1]) (rest := []) hx hb hml hown hts (c_X0_wantedAt l G r h od ow ol oq r1 r2 r3 r4 r5 r6 r7 flg k0 k1 k2 k3 pv pn cn p1 (by omega)) 1 (sxGV (bi10 (w := Cond.methodLink RX9 157 yX0_wantedAt) 50 rfl) (bi3 (w := Cond.instanceMethod yX0_wantedAt) 33 rfl) (bi3 (w := Cond.selects RX0 yX0_wantedAt yX0_wantedAt) 34 rfl) (bi2 (w := Cond.initialized RX0) 52 rfl) (bi3 (w := Cond.code yX0_wantedAt cX0_wantedAt 2 (some .int)) 30 rfl)) rfl (by decide +kernel) ⟨Nat.le_of_ble_eq_true rfl, Nat.le_of_ble_eq_true rfl⟩ hK hP [1, 2, 4] rfl 0 rfl rfl rfl hl rfl (Nat.le_of_ble_eq_true rfl) ⟨Nat.zero_le _, Nat.zero_le _⟩ dX9_isWanted_37 (fun r er => ?_)
      subst er
      refine lv_iconst (v := 1) hx hb dX9_isWanted_40 (by decide) ?_
      refine lv_iload_n hx hb dX9_isWanted_41 rfl (lv_at hl 2 rfl) ?_
      refine lv_ishl hx hb dX9_isWanted_42 ?_
      refine lv_iand hx hb dX9_isWanted_43 ?_
      refine lv_if_eq (tgt := 51) hx hb dX9_isWanted_44 (by decide) (fun c3 => ?_) (fun c3 => ?_)
      · refine lv_iconst (v := 0) hx hb dX9_isWanted_51 (by decide) ?_
        exact sx_ret hx hb hr hlk rfl (by simp only [s_X9_isWanted, if_neg c1, if_neg c2, if_pos c3]) dX9_isWanted_52
      · refine lv_iconst (v := 1) hx hb dX9_isWanted_47 (by decide) ?_
        refine lv_goto (tgt := 52) hx hb dX9_isWanted_48 (by decide) ?_
        exact sx_ret hx hb hr hlk rfl (by simp only [s_X9_isWanted, if_neg c1, if_neg c2, if_neg c3]) dX9_isWanted_52
    · exact absurd hX (by simp only [x_X9_isWanted, if_neg c1, if_pos c2]; decide)

abbrev wdX9_inTheWay : List Cond := Cond.code yX9_inTheWay cX9_inTheWay 3 (some .int) :: bwC
def x_X9_inTheWay (pv : Nat) (pn : Nat) (fk : Nat → Int32) (p1 : Int32) (p2 : Int32) : Nat := if (s_X5_isLineOrEnd pn p1) = 0 then 3 else (if (s_X5_kindAt pv fk p2) = (-1) then 3 else 0)
def s_X9_inTheWay (lc : Nat) (yp : Nat → Int32) (ye : Nat → Int32) (pv : Nat) (pn : Nat) (fk : Nat → Int32) (cd : Nat → Int32) (cn : Nat → Int32) (p1 : Int32) (p2 : Int32) : Int32 := if (s_X5_isLineOrEnd pn p1) = 0 then 0 else (if (s_X5_kindAt pv fk p2) = (-1) then 0 else s_X0_smallestLoan lc yp ye pv cd p1 p2 (s_X0_wantedAt pn cn p1) 0)
set_option maxHeartbeats 4000000 in
set_option maxRecDepth 100000 in
theorem c_X9_inTheWay (l : Launch) (G : sxG) (z : Nat) (h : Nat) (r : Nat) (x : Nat) (g : Nat) (rr : Nat) (xx : Nat) (rns : Int32) (od : Nat) (ow : Nat) (ol : Nat) (oq : Nat) (r1 : Nat) (r2 : Nat) (r3 : Nat) (r4 : Nat) (r5 : Nat) (r6 : Nat) (r7 : Nat) (flg : Int32) (l1 : Nat) (l2 : Nat) (l3 : Nat) (l4 : Nat) (lc : Nat) (yp : Nat → Int32) (ye : Nat → Int32) (k0 : Nat) (k1 : Nat) (k2 : Nat) (k3 : Nat) (pv : Nat) (pn : Nat) (fk : Nat → Int32) (cd : Nat → Int32) (cn : Nat → Int32) (p1 : Int32) (p2 : Int32) (hn : pn ≤ 33) (hv : pv ≤ 8) (hl0 : lc ≤ 16) (hX : x_X9_inTheWay pv pn fk p1 p2 = 0) : sxM l yX9_inTheWay wdX9_inTheWay 3 74 G [(z, .inr (9, [.ref h, .ref r, .ref x, .ref g, .ref rr, .ref xx, .int rns])), (r, .inr (0, [.ref h, .ref od, .ref ow, .ref ol, .ref oq, .ref r1, .ref r2, .ref r3, .ref r4, .ref r5, .ref r6, .ref r7, .int flg])), (ol, .inr (3, [.ref h, .ref l1, .ref l2, .ref l3, .ref l4, .int (nI lc)])), (l2, .inl (G.2.1, 16, .inl yp)), (l3, .inl (G.2.2, 16, .inl ye)), (h, .inr (5, [.ref k0, .ref k1, .ref k2, .ref k3, .int (nI pv), .int (nI pn)])), (k0, .inl (G.2.1, 8, .inl fk)), (r5, .inl (G.2.1, 272, .inl cd)), (r7, .inl (G.2.1, 34, .inl cn))] [.ref z, .int p1, .int p2] (fun r => r = s_X9_inTheWay lc yp ye pv pn fk cd cn p1 p2) := by
  refine sxM.of (cc := cX9_inTheWay) (maxL := 3) (by decide) rfl (Nat.le_of_ble_eq_true rfl) ?_
  intro p e s m args below meth c ⟨hx, hb, hr, hml, hown, hlk, hts, hK⟩ hP ls hl
  have hl : lv_has ls 3 [(0, .ref z), (1, .int p1), (2, .int p2)] := hl
  refine lv_aload_n hx hb dX9_inTheWay_0 rfl (lv_at hl 0 rfl) ?_
  refine va_get (D := G.1) (ci := 9) (v := .ref h) (C := RX9) (T := TX9) (N := 7) hx hb hts owX9 hown hK.1 hP 0 rfl rfl 0 (by decide) (bw9 (w := Cond.fieldLink RX9 12 "DropflagMill" "program" "LDropflagMill$Program;") hts 44 rfl) (fun _ h9 => h9) rfl dX9_inTheWay_1 ?_
  refine lv_iload_n hx hb dX9_inTheWay_4 rfl (lv_at hl 1 rfl) ?_
  refine sx_v (As := [.int p1]) (rest := []) hx hb hml hown hts (c_X5_isLineOrEnd l G h k0 k1 k2 k3 pv pn p1 ) 1 (sxGV (bi10 (w := Cond.methodLink RX9 137 yX5_isLineOrEnd) 39 rfl) (bi3 (w := Cond.instanceMethod yX5_isLineOrEnd) 2 rfl) (bi3 (w := Cond.selects RX5 yX5_isLineOrEnd yX5_isLineOrEnd) 3 rfl) (bi1 (w := Cond.initialized RX5) 30 rfl) (bi2 (w := Cond.code yX5_isLineOrEnd cX5_isLineOrEnd 2 (some .boolean)) 58 rfl)) rfl (by decide +kernel) ⟨Nat.le_of_ble_eq_true rfl, Nat.le_of_ble_eq_true rfl⟩ hK hP [5] rfl 0 rfl rfl rfl hl rfl (Nat.le_of_ble_eq_true rfl) ⟨Nat.zero_le _, Nat.zero_le _⟩ dX9_inTheWay_5 (fun r er => ?_)
  subst er
  refine lv_if_eq (tgt := 23) hx hb dX9_inTheWay_8 (by decide) (fun c1 => ?_) (fun c1 => ?_)
  · exact absurd hX (by simp only [x_X9_inTheWay, if_pos c1]; decide)
  · refine lv_aload_n hx hb dX9_inTheWay_11 rfl (lv_at hl 0 rfl) ?_
    refine va_get (D := G.1) (ci := 9) (v := .ref h) (C := RX9) (T := TX9) (N := 7) hx hb hts owX9 hown hK.1 hP 0 rfl rfl 0 (by decide) (bw9 (w := Cond.fieldLink RX9 12 "DropflagMill" "program" "LDropflagMill$Program;") hts 44 rfl) (fun _ h9 => h9) rfl dX9_inTheWay_12 ?_
    refine lv_iload_n hx hb dX9_inTheWay_15 rfl (lv_at hl 2 rfl) ?_
    refine sx_v (As := [.int p2]) (rest := []) hx hb hml hown hts (c_X5_kindAt l G h k0 k1 k2 k3 pv pn fk p2 (by omega)) 1 (sxGV (bi10 (w := Cond.methodLink RX9 140 yX5_kindAt) 40 rfl) (bi1 (w := Cond.instanceMethod yX5_kindAt) 51 rfl) (bi1 (w := Cond.selects RX5 yX5_kindAt yX5_kindAt) 52 rfl) (bi1 (w := Cond.initialized RX5) 30 rfl) (bi1 (w := Cond.code yX5_kindAt cX5_kindAt 3 (some .int)) 46 rfl)) rfl (by decide +kernel) ⟨Nat.le_of_ble_eq_true rfl, Nat.le_of_ble_eq_true rfl⟩ hK hP [5, 6] rfl 0 rfl rfl rfl hl rfl (Nat.le_of_ble_eq_true rfl) ⟨Nat.zero_le _, Nat.zero_le _⟩ dX9_inTheWay_16 (fun r er => ?_)
    subst er
    refine lv_iconst (v := (-1)) hx hb dX9_inTheWay_19 (by decide) ?_
    refine lv_icmp_ne (tgt := 33) hx hb dX9_inTheWay_20 (by decide) (fun c2 => ?_) (fun c2 => ?_)
    · refine lv_aload_n hx hb dX9_inTheWay_33 rfl (lv_at hl 0 rfl) ?_
      refine va_get (D := G.1) (ci := 9) (v := .ref r) (C := RX9) (T := TX9) (N := 7) hx hb hts owX9 hown hK.1 hP 0 rfl rfl 1 (by decide) (bw9 (w := Cond.fieldLink RX9 21 "DropflagMill" "check" "LDropflagMill$Check;") hts 47 rfl) (fun _ h9 => h9) rfl dX9_inTheWay_34 ?_
      refine lv_iload_n hx hb dX9_inTheWay_37 rfl (lv_at hl 1 rfl) ?_
      refine lv_iload_n hx hb dX9_inTheWay_38 rfl (lv_at hl 2 rfl) ?_
      refine lv_aload_n hx hb dX9_inTheWay_39 rfl (lv_at hl 0 rfl) ?_
      refine va_get (D := G.1) (ci := 9) (v := .ref r) (C := RX9) (T := TX9) (N := 7) hx hb hts owX9 hown hK.1 hP 0 rfl rfl 1 (by decide) (bw9 (w := Cond.fieldLink RX9 21 "DropflagMill" "check" "LDropflagMill$Check;") hts 47 rfl) (fun _ h9 => h9) rfl dX9_inTheWay_40 ?_
      refine lv_iload_n hx hb dX9_inTheWay_43 rfl (lv_at hl 1 rfl) ?_
      refine sx_v (As := [.int p1]) (rest := [.int p2, .int p1, .ref r]) hx hb hml hown hts (c_X0_wantedAt l G r h od ow ol oq r1 r2 r3 r4 r5 r6 r7 flg k0 k1 k2 k3 pv pn cn p1 (by omega)) 1 (sxGV (bi10 (w := Cond.methodLink RX9 157 yX0_wantedAt) 50 rfl) (bi3 (w := Cond.instanceMethod yX0_wantedAt) 33 rfl) (bi3 (w := Cond.selects RX0 yX0_wantedAt yX0_wantedAt) 34 rfl) (bi2 (w := Cond.initialized RX0) 52 rfl) (bi3 (w := Cond.code yX0_wantedAt cX0_wantedAt 2 (some .int)) 30 rfl)) rfl (by decide +kernel) ⟨Nat.le_of_ble_eq_true rfl, Nat.le_of_ble_eq_true rfl⟩ hK hP [1, 5, 8] rfl 0 rfl rfl rfl hl rfl (Nat.le_of_ble_eq_true rfl) ⟨Nat.zero_le _, Nat.zero_le _⟩ dX9_inTheWay_44 (fun r er => ?_)
      subst er
      refine lv_iconst (v := 0) hx hb dX9_inTheWay_47 (by decide) ?_
      refine sx_v (As := [.int p1, .int p2, .int (s_X0_wantedAt pn cn p1), .int 0]) (rest := []) hx hb hml hown hts (c_X0_smallestLoan l G r h od ow ol oq r1 r2 r3 r4 r5 r6 r7 flg l1 l2 l3 l4 lc yp ye k0 k1 k2 k3 pv pn cd p1 p2 (s_X0_wantedAt pn cn p1) 0 (by omega) (by omega)) 4 (sxGV (bi10 (w := Cond.methodLink RX9 160 yX0_smallestLoan) 52 rfl) (bi4 (w := Cond.instanceMethod yX0_smallestLoan) 20 rfl) (bi4 (w := Cond.selects RX0 yX0_smallestLoan yX0_smallestLoan) 21 rfl) (bi2 (w := Cond.initialized RX0) 52 rfl) (bi4 (w := Cond.code yX0_smallestLoan cX0_smallestLoan 8 (some .int)) 4 rfl)) rfl (by decide +kernel) ⟨Nat.le_of_ble_eq_true rfl, Nat.le_of_ble_eq_true rfl⟩ hK hP [1, 2, 3, 4, 5, 7] rfl 0 rfl rfl rfl hl rfl (Nat.le_of_ble_eq_true rfl) ⟨Nat.zero_le _, Nat.zero_le _⟩ dX9_inTheWay_48 (fun r er => ?_)
      subst er
      exact sx_ret hx hb hr hlk rfl (by simp only [s_X9_inTheWay, if_neg c1, if_neg c2]) dX9_inTheWay_51
    · exact absurd hX (by simp only [x_X9_inTheWay, if_neg c1, if_pos c2]; decide)

abbrev wdX9_ofLoan : List Cond := Cond.code yX9_ofLoan cX9_ofLoan 3 (some .int) :: bwC
def x_X9_ofLoan (lc : Nat) (ye : Nat → Int32) (p1 : Int32) (p2 : Int32) : Nat := if (s_X3_isLoan lc p1) = 0 then 3 else (if p2 < 0 then 1 else (if p2 ≤ 3 then (if p2 = 0 then 0 else (if p2 = 1 then 0 else (if p2 = 2 then (if (s_X3_isLent lc ye p1) = 0 then 0 else 0) else 0))) else 1))
def s_X9_ofLoan (dbu : Nat → Int32) (lc : Nat) (yl : Nat → Int32) (yp : Nat → Int32) (ye : Nat → Int32) (pv : Nat) (pn : Nat) (cd : Nat → Int32) (p1 : Int32) (p2 : Int32) : Int32 := if (s_X3_isLoan lc p1) = 0 then 0 else (if p2 < 0 then 0 else (if p2 ≤ 3 then (if p2 = 0 then s_X3_lineOf lc yl p1 else (if p2 = 1 then s_X3_placeOf lc yp p1 else (if p2 = 2 then (if (s_X3_isLent lc ye p1) = 0 then 0 else 1) else s_X0_lastUse dbu lc pv pn cd p1))) else 0))
set_option maxHeartbeats 4000000 in
set_option maxRecDepth 100000 in
theorem c_X9_ofLoan (l : Launch) (G : sxG) (z : Nat) (h : Nat) (r : Nat) (x : Nat) (g : Nat) (rr : Nat) (xx : Nat) (rns : Int32) (od : Nat) (ow : Nat) (ol : Nat) (oq : Nat) (r1 : Nat) (r2 : Nat) (r3 : Nat) (r4 : Nat) (r5 : Nat) (r6 : Nat) (r7 : Nat) (flg : Int32) (d1 : Nat) (d2 : Nat) (d3 : Nat) (d4 : Nat) (d5 : Nat) (d6 : Nat) (d7 : Nat) (d8 : Nat) (d9 : Nat) (dbu : Nat → Int32) (l1 : Nat) (l2 : Nat) (l3 : Nat) (l4 : Nat) (lc : Nat) (yl : Nat → Int32) (yp : Nat → Int32) (ye : Nat → Int32) (k0 : Nat) (k1 : Nat) (k2 : Nat) (k3 : Nat) (pv : Nat) (pn : Nat) (cd : Nat → Int32) (p1 : Int32) (p2 : Int32) (hn : pn ≤ 33) (hv : pv ≤ 8) (hl0 : lc ≤ 16) (hX : x_X9_ofLoan lc ye p1 p2 = 0) : sxM l yX9_ofLoan wdX9_ofLoan 3 70 G [(z, .inr (9, [.ref h, .ref r, .ref x, .ref g, .ref rr, .ref xx, .int rns])), (r, .inr (0, [.ref h, .ref od, .ref ow, .ref ol, .ref oq, .ref r1, .ref r2, .ref r3, .ref r4, .ref r5, .ref r6, .ref r7, .int flg])), (od, .inr (1, [.ref h, .ref d1, .ref d2, .ref d3, .ref d4, .ref d5, .ref d6, .ref d7, .ref d8, .ref d9])), (d8, .inl (G.2.1, 34, .inl dbu)), (ol, .inr (3, [.ref h, .ref l1, .ref l2, .ref l3, .ref l4, .int (nI lc)])), (l1, .inl (G.2.1, 16, .inl yl)), (l2, .inl (G.2.1, 16, .inl yp)), (l3, .inl (G.2.2, 16, .inl ye)), (h, .inr (5, [.ref k0, .ref k1, .ref k2, .ref k3, .int (nI pv), .int (nI pn)])), (r5, .inl (G.2.1, 272, .inl cd))] [.ref z, .int p1, .int p2] (fun r => r = s_X9_ofLoan dbu lc yl yp ye pv pn cd p1 p2) := by
  refine sxM.of (cc := cX9_ofLoan) (maxL := 3) (by decide) rfl (Nat.le_of_ble_eq_true rfl) ?_
  intro p e s m args below meth c ⟨hx, hb, hr, hml, hown, hlk, hts, hK⟩ hP ls hl
  have hl : lv_has ls 3 [(0, .ref z), (1, .int p1), (2, .int p2)] := hl
  refine lv_aload_n hx hb dX9_ofLoan_0 rfl (lv_at hl 0 rfl) ?_
  refine va_get (D := G.1) (ci := 9) (v := .ref r) (C := RX9) (T := TX9) (N := 7) hx hb hts owX9 hown hK.1 hP 0 rfl rfl 1 (by decide) (bw9 (w := Cond.fieldLink RX9 21 "DropflagMill" "check" "LDropflagMill$Check;") hts 47 rfl) (fun _ h9 => h9) rfl dX9_ofLoan_1 ?_
  refine va_get (D := G.1) (ci := 0) (v := .ref ol) (C := RX0) (T := TX0) (N := 13) hx hb hts owX0 hown hK.1 hP 1 rfl rfl 3 (by decide) (bw10 (w := Cond.fieldLink RX9 164 "DropflagMill$Check" "loans" "LDropflagMill$Loans;") hts 54 rfl) (fun _ h9 => h9) rfl dX9_ofLoan_4 ?_
  refine lv_iload_n hx hb dX9_ofLoan_7 rfl (lv_at hl 1 rfl) ?_
  refine sx_v (As := [.int p1]) (rest := []) hx hb hml hown hts (c_X3_isLoan l G ol h l1 l2 l3 l4 lc p1 ) 1 (sxGV (bi10 (w := Cond.methodLink RX9 168 yX3_isLoan) 55 rfl) (bi3 (w := Cond.instanceMethod yX3_isLoan) 49 rfl) (bi3 (w := Cond.selects RX3 yX3_isLoan yX3_isLoan) 50 rfl) (bi0 (w := Cond.initialized RX3) 54 rfl) (bi3 (w := Cond.code yX3_isLoan cX3_isLoan 2 (some .boolean)) 46 rfl)) rfl (by decide +kernel) ⟨Nat.le_of_ble_eq_true rfl, Nat.le_of_ble_eq_true rfl⟩ hK hP [4] rfl 0 rfl rfl rfl hl rfl (Nat.le_of_ble_eq_true rfl) ⟨Nat.zero_le _, Nat.zero_le _⟩ dX9_ofLoan_8 (fun r er => ?_)
  subst er
  refine lv_if_ne (tgt := 24) hx hb dX9_ofLoan_11 (by decide) (fun c1 => ?_) (fun c1 => ?_)
  · refine lv_iload_n hx hb dX9_ofLoan_24 rfl (lv_at hl 2 rfl) ?_
    refine lv_if_lt (tgt := 33) hx hb dX9_ofLoan_25 (by decide) (fun c2 => ?_) (fun c2 => ?_)
    · exact absurd hX (by simp only [x_X9_ofLoan, if_neg c1, if_pos c2]; decide)
    · refine lv_iload_n hx hb dX9_ofLoan_28 rfl (lv_at hl 2 rfl) ?_
      refine lv_iconst (v := 3) hx hb dX9_ofLoan_29 (by decide) ?_
      refine lv_icmp_le (tgt := 43) hx hb dX9_ofLoan_30 (by decide) (fun c3 => ?_) (fun c3 => ?_)
      · refine lv_iload_n hx hb dX9_ofLoan_43 rfl (lv_at hl 2 rfl) ?_
        by_cases c4 : p2 = 0
        · refine lv_tableIn (off := 28) (tgt := 72) hx hb dX9_ofLoan_44 (by rw [c4]; decide) (by rw [c4]; decide) (by rw [c4]; rfl) (by decide) ?_
          refine lv_aload_n hx hb dX9_ofLoan_72 rfl (lv_at hl 0 rfl) ?_
          refine va_get (D := G.1) (ci := 9) (v := .ref r) (C := RX9) (T := TX9) (N := 7) hx hb hts owX9 hown hK.1 hP 0 rfl rfl 1 (by decide) (bw9 (w := Cond.fieldLink RX9 21 "DropflagMill" "check" "LDropflagMill$Check;") hts 47 rfl) (fun _ h9 => h9) rfl dX9_ofLoan_73 ?_
          refine va_get (D := G.1) (ci := 0) (v := .ref ol) (C := RX0) (T := TX0) (N := 13) hx hb hts owX0 hown hK.1 hP 1 rfl rfl 3 (by decide) (bw10 (w := Cond.fieldLink RX9 164 "DropflagMill$Check" "loans" "LDropflagMill$Loans;") hts 54 rfl) (fun _ h9 => h9) rfl dX9_ofLoan_76 ?_
          refine lv_iload_n hx hb dX9_ofLoan_79 rfl (lv_at hl 1 rfl) ?_
          refine sx_v (As := [.int p1]) (rest := []) hx hb hml hown hts (c_X3_lineOf l G ol h l1 l2 l3 l4 lc yl p1 (by omega)) 1 (sxGV (bi10 (w := Cond.methodLink RX9 175 yX3_lineOf) 56 rfl) (bi10 (w := Cond.instanceMethod yX3_lineOf) 57 rfl) (bi10 (w := Cond.selects RX3 yX3_lineOf yX3_lineOf) 58 rfl) (bi0 (w := Cond.initialized RX3) 54 rfl) (bi5 (w := Cond.code yX3_lineOf cX3_lineOf 2 (some .int)) 35 rfl)) rfl (by decide +kernel) ⟨Nat.le_of_ble_eq_true rfl, Nat.le_of_ble_eq_true rfl⟩ hK hP [4, 5] rfl 0 rfl rfl rfl hl rfl (Nat.le_of_ble_eq_true rfl) ⟨Nat.zero_le _, Nat.zero_le _⟩ dX9_ofLoan_80 (fun r er => ?_)
          subst er
          exact sx_ret hx hb hr hlk rfl (by simp only [s_X9_ofLoan, if_neg c1, if_neg c2, if_pos c3, if_pos c4]) dX9_ofLoan_83
        · by_cases c5 : p2 = 1
          · refine lv_tableIn (off := 40) (tgt := 84) hx hb dX9_ofLoan_44 (by rw [c5]; decide) (by rw [c5]; decide) (by rw [c5]; rfl) (by decide) ?_
            refine lv_aload_n hx hb dX9_ofLoan_84 rfl (lv_at hl 0 rfl) ?_
            refine va_get (D := G.1) (ci := 9) (v := .ref r) (C := RX9) (T := TX9) (N := 7) hx hb hts owX9 hown hK.1 hP 0 rfl rfl 1 (by decide) (bw9 (w := Cond.fieldLink RX9 21 "DropflagMill" "check" "LDropflagMill$Check;") hts 47 rfl) (fun _ h9 => h9) rfl dX9_ofLoan_85 ?_
            refine va_get (D := G.1) (ci := 0) (v := .ref ol) (C := RX0) (T := TX0) (N := 13) hx hb hts owX0 hown hK.1 hP 1 rfl rfl 3 (by decide) (bw10 (w := Cond.fieldLink RX9 164 "DropflagMill$Check" "loans" "LDropflagMill$Loans;") hts 54 rfl) (fun _ h9 => h9) rfl dX9_ofLoan_88 ?_
            refine lv_iload_n hx hb dX9_ofLoan_91 rfl (lv_at hl 1 rfl) ?_
            refine sx_v (As := [.int p1]) (rest := []) hx hb hml hown hts (c_X3_placeOf l G ol h l1 l2 l3 l4 lc yp p1 (by omega)) 1 (sxGV (bi10 (w := Cond.methodLink RX9 178 yX3_placeOf) 59 rfl) (bi3 (w := Cond.instanceMethod yX3_placeOf) 58 rfl) (bi3 (w := Cond.selects RX3 yX3_placeOf yX3_placeOf) 59 rfl) (bi0 (w := Cond.initialized RX3) 54 rfl) (bi3 (w := Cond.code yX3_placeOf cX3_placeOf 2 (some .int)) 47 rfl)) rfl (by decide +kernel) ⟨Nat.le_of_ble_eq_true rfl, Nat.le_of_ble_eq_true rfl⟩ hK hP [4, 6] rfl 0 rfl rfl rfl hl rfl (Nat.le_of_ble_eq_true rfl) ⟨Nat.zero_le _, Nat.zero_le _⟩ dX9_ofLoan_92 (fun r er => ?_)
            subst er
            exact sx_ret hx hb hr hlk rfl (by simp only [s_X9_ofLoan, if_neg c1, if_neg c2, if_pos c3, if_neg c4, if_pos c5]) dX9_ofLoan_95
          · by_cases c6 : p2 = 2
            · refine lv_tableIn (off := 52) (tgt := 96) hx hb dX9_ofLoan_44 (by rw [c6]; decide) (by rw [c6]; decide) (by rw [c6]; rfl) (by decide) ?_
              refine lv_aload_n hx hb dX9_ofLoan_96 rfl (lv_at hl 0 rfl) ?_
              refine va_get (D := G.1) (ci := 9) (v := .ref r) (C := RX9) (T := TX9) (N := 7) hx hb hts owX9 hown hK.1 hP 0 rfl rfl 1 (by decide) (bw9 (w := Cond.fieldLink RX9 21 "DropflagMill" "check" "LDropflagMill$Check;") hts 47 rfl) (fun _ h9 => h9) rfl dX9_ofLoan_97 ?_
              refine va_get (D := G.1) (ci := 0) (v := .ref ol) (C := RX0) (T := TX0) (N := 13) hx hb hts owX0 hown hK.1 hP 1 rfl rfl 3 (by decide) (bw10 (w := Cond.fieldLink RX9 164 "DropflagMill$Check" "loans" "LDropflagMill$Loans;") hts 54 rfl) (fun _ h9 => h9) rfl dX9_ofLoan_100 ?_
              refine lv_iload_n hx hb dX9_ofLoan_103 rfl (lv_at hl 1 rfl) ?_
              refine sx_v (As := [.int p1]) (rest := []) hx hb hml hown hts (c_X3_isLent l G ol h l1 l2 l3 l4 lc ye p1 (by omega)) 1 (sxGV (bi11 (w := Cond.methodLink RX9 181 yX3_isLent) 0 rfl) (bi4 (w := Cond.instanceMethod yX3_isLent) 2 rfl) (bi4 (w := Cond.selects RX3 yX3_isLent yX3_isLent) 3 rfl) (bi0 (w := Cond.initialized RX3) 54 rfl) (bi3 (w := Cond.code yX3_isLent cX3_isLent 2 (some .boolean)) 52 rfl)) rfl (by decide +kernel) ⟨Nat.le_of_ble_eq_true rfl, Nat.le_of_ble_eq_true rfl⟩ hK hP [4, 7] rfl 0 rfl rfl rfl hl rfl (Nat.le_of_ble_eq_true rfl) ⟨Nat.zero_le _, Nat.zero_le _⟩ dX9_ofLoan_104 (fun r er => ?_)
              subst er
              refine lv_if_eq (tgt := 114) hx hb dX9_ofLoan_107 (by decide) (fun c7 => ?_) (fun c7 => ?_)
              · refine lv_iconst (v := 0) hx hb dX9_ofLoan_114 (by decide) ?_
                exact sx_ret hx hb hr hlk rfl (by simp only [s_X9_ofLoan, if_neg c1, if_neg c2, if_pos c3, if_neg c4, if_neg c5, if_pos c6, if_pos c7]) dX9_ofLoan_115
              · refine lv_iconst (v := 1) hx hb dX9_ofLoan_110 (by decide) ?_
                refine lv_goto (tgt := 115) hx hb dX9_ofLoan_111 (by decide) ?_
                exact sx_ret hx hb hr hlk rfl (by simp only [s_X9_ofLoan, if_neg c1, if_neg c2, if_pos c3, if_neg c4, if_neg c5, if_pos c6, if_neg c7]) dX9_ofLoan_115
            · refine lv_tableOut (tgt := 116) hx hb dX9_ofLoan_44 (by have := lv_neT (a := 0) c4 rfl; have := lv_neT (a := 1) c5 rfl; have := lv_neT (a := 2) c6 rfl; omega) (by decide) ?_
              refine lv_aload_n hx hb dX9_ofLoan_116 rfl (lv_at hl 0 rfl) ?_
              refine va_get (D := G.1) (ci := 9) (v := .ref r) (C := RX9) (T := TX9) (N := 7) hx hb hts owX9 hown hK.1 hP 0 rfl rfl 1 (by decide) (bw9 (w := Cond.fieldLink RX9 21 "DropflagMill" "check" "LDropflagMill$Check;") hts 47 rfl) (fun _ h9 => h9) rfl dX9_ofLoan_117 ?_
              refine lv_iload_n hx hb dX9_ofLoan_120 rfl (lv_at hl 1 rfl) ?_
              refine sx_v (As := [.int p1]) (rest := []) hx hb hml hown hts (c_X0_lastUse l G r h od ow ol oq r1 r2 r3 r4 r5 r6 r7 flg d1 d2 d3 d4 d5 d6 d7 d8 d9 dbu l1 l2 l3 l4 lc k0 k1 k2 k3 pv pn cd p1 (by omega) (by omega)) 1 (sxGV (bi11 (w := Cond.methodLink RX9 184 yX0_lastUse) 1 rfl) (bi11 (w := Cond.instanceMethod yX0_lastUse) 2 rfl) (bi11 (w := Cond.selects RX0 yX0_lastUse yX0_lastUse) 3 rfl) (bi2 (w := Cond.initialized RX0) 52 rfl) (bi5 (w := Cond.code yX0_lastUse cX0_lastUse 4 (some .int)) 2 rfl)) rfl (by decide +kernel) ⟨Nat.le_of_ble_eq_true rfl, Nat.le_of_ble_eq_true rfl⟩ hK hP [1, 2, 3, 4, 8, 9] rfl 0 rfl rfl rfl hl rfl (Nat.le_of_ble_eq_true rfl) ⟨Nat.zero_le _, Nat.zero_le _⟩ dX9_ofLoan_121 (fun r er => ?_)
              subst er
              exact sx_ret hx hb hr hlk rfl (by simp only [s_X9_ofLoan, if_neg c1, if_neg c2, if_pos c3, if_neg c4, if_neg c5, if_neg c6]) dX9_ofLoan_124
      · exact absurd hX (by simp only [x_X9_ofLoan, if_neg c1, if_neg c2, if_neg c3]; decide)
  · exact absurd hX (by simp only [x_X9_ofLoan, if_pos c1]; decide)

abbrev wdX9_fault : List Cond := Cond.code yX9_fault cX9_fault 3 (some .int) :: bwC
def x_X9_fault (fc : Nat) (p1 : Int32) (p2 : Int32) : Nat := if (s_X2_isFault fc p1) = 0 then 3 else (if p2 < 0 then 1 else (if p2 ≤ 4 then (if p2 = 4 then 0 else 0) else 1))
def s_X9_fault (dbu : Nat → Int32) (lc : Nat) (fc : Nat) (xn : Nat → Int32) (xl : Nat → Int32) (xp : Nat → Int32) (xo : Nat → Int32) (pv : Nat) (pn : Nat) (cd : Nat → Int32) (p1 : Int32) (p2 : Int32) : Int32 := if (s_X2_isFault fc p1) = 0 then 0 else (if p2 < 0 then 0 else (if p2 ≤ 4 then (if p2 = 4 then s_X0_lastUse dbu lc pv pn cd (s_X2_fact fc xn xl xp xo p1 3) else s_X2_fact fc xn xl xp xo p1 p2) else 0))
set_option maxHeartbeats 4000000 in
set_option maxRecDepth 100000 in
theorem c_X9_fault (l : Launch) (G : sxG) (z : Nat) (h : Nat) (r : Nat) (x : Nat) (g : Nat) (rr : Nat) (xx : Nat) (rns : Int32) (od : Nat) (ow : Nat) (ol : Nat) (oq : Nat) (r1 : Nat) (r2 : Nat) (r3 : Nat) (r4 : Nat) (r5 : Nat) (r6 : Nat) (r7 : Nat) (flg : Int32) (d1 : Nat) (d2 : Nat) (d3 : Nat) (d4 : Nat) (d5 : Nat) (d6 : Nat) (d7 : Nat) (d8 : Nat) (d9 : Nat) (dbu : Nat → Int32) (l1 : Nat) (l2 : Nat) (l3 : Nat) (l4 : Nat) (lc : Nat) (m0 : Nat) (m1 : Nat) (m2 : Nat) (m3 : Nat) (fc : Nat) (xn : Nat → Int32) (xl : Nat → Int32) (xp : Nat → Int32) (xo : Nat → Int32) (k0 : Nat) (k1 : Nat) (k2 : Nat) (k3 : Nat) (pv : Nat) (pn : Nat) (cd : Nat → Int32) (p1 : Int32) (p2 : Int32) (hn : pn ≤ 33) (hv : pv ≤ 8) (hl0 : lc ≤ 16) (hf : fc ≤ 34) (hX : x_X9_fault fc p1 p2 = 0) : sxM l yX9_fault wdX9_fault 3 70 G [(z, .inr (9, [.ref h, .ref r, .ref x, .ref g, .ref rr, .ref xx, .int rns])), (r, .inr (0, [.ref h, .ref od, .ref ow, .ref ol, .ref oq, .ref r1, .ref r2, .ref r3, .ref r4, .ref r5, .ref r6, .ref r7, .int flg])), (od, .inr (1, [.ref h, .ref d1, .ref d2, .ref d3, .ref d4, .ref d5, .ref d6, .ref d7, .ref d8, .ref d9])), (d8, .inl (G.2.1, 34, .inl dbu)), (ol, .inr (3, [.ref h, .ref l1, .ref l2, .ref l3, .ref l4, .int (nI lc)])), (oq, .inr (2, [.ref m0, .ref m1, .ref m2, .ref m3, .int (nI fc)])), (m0, .inl (G.2.1, 34, .inl xn)), (m1, .inl (G.2.1, 34, .inl xl)), (m2, .inl (G.2.1, 34, .inl xp)), (m3, .inl (G.2.1, 34, .inl xo)), (h, .inr (5, [.ref k0, .ref k1, .ref k2, .ref k3, .int (nI pv), .int (nI pn)])), (r5, .inl (G.2.1, 272, .inl cd))] [.ref z, .int p1, .int p2] (fun r => r = s_X9_fault dbu lc fc xn xl xp xo pv pn cd p1 p2) := by
  refine sxM.of (cc := cX9_fault) (maxL := 3) (by decide) rfl (Nat.le_of_ble_eq_true rfl) ?_
  intro p e s m args below meth c ⟨hx, hb, hr, hml, hown, hlk, hts, hK⟩ hP ls hl
  have hl : lv_has ls 3 [(0, .ref z), (1, .int p1), (2, .int p2)] := hl
  refine lv_aload_n hx hb dX9_fault_0 rfl (lv_at hl 0 rfl) ?_
  refine va_get (D := G.1) (ci := 9) (v := .ref r) (C := RX9) (T := TX9) (N := 7) hx hb hts owX9 hown hK.1 hP 0 rfl rfl 1 (by decide) (bw9 (w := Cond.fieldLink RX9 21 "DropflagMill" "check" "LDropflagMill$Check;") hts 47 rfl) (fun _ h9 => h9) rfl dX9_fault_1 ?_
  refine va_get (D := G.1) (ci := 0) (v := .ref oq) (C := RX0) (T := TX0) (N := 13) hx hb hts owX0 hown hK.1 hP 1 rfl rfl 4 (by decide) (bw11 (w := Cond.fieldLink RX9 187 "DropflagMill$Check" "faults" "LDropflagMill$Faults;") hts 5 rfl) (fun _ h9 => h9) rfl dX9_fault_4 ?_
  refine lv_iload_n hx hb dX9_fault_7 rfl (lv_at hl 1 rfl) ?_
  refine sx_v (As := [.int p1]) (rest := []) hx hb hml hown hts (c_X2_isFault l G oq m0 m1 m2 m3 fc p1 ) 1 (sxGV (bi11 (w := Cond.methodLink RX9 191 yX2_isFault) 6 rfl) (bi5 (w := Cond.instanceMethod yX2_isFault) 32 rfl) (bi5 (w := Cond.selects RX2 yX2_isFault yX2_isFault) 33 rfl) (bi0 (w := Cond.initialized RX2) 58 rfl) (bi5 (w := Cond.code yX2_isFault cX2_isFault 2 (some .boolean)) 29 rfl)) rfl (by decide +kernel) ⟨Nat.le_of_ble_eq_true rfl, Nat.le_of_ble_eq_true rfl⟩ hK hP [5] rfl 0 rfl rfl rfl hl rfl (Nat.le_of_ble_eq_true rfl) ⟨Nat.zero_le _, Nat.zero_le _⟩ dX9_fault_8 (fun r er => ?_)
  subst er
  refine lv_if_ne (tgt := 24) hx hb dX9_fault_11 (by decide) (fun c1 => ?_) (fun c1 => ?_)
  · refine lv_iload_n hx hb dX9_fault_24 rfl (lv_at hl 2 rfl) ?_
    refine lv_if_lt (tgt := 33) hx hb dX9_fault_25 (by decide) (fun c2 => ?_) (fun c2 => ?_)
    · exact absurd hX (by simp only [x_X9_fault, if_neg c1, if_pos c2]; decide)
    · refine lv_iload_n hx hb dX9_fault_28 rfl (lv_at hl 2 rfl) ?_
      refine lv_iconst (v := 4) hx hb dX9_fault_29 (by decide) ?_
      refine lv_icmp_le (tgt := 43) hx hb dX9_fault_30 (by decide) (fun c3 => ?_) (fun c3 => ?_)
      · refine lv_iload_n hx hb dX9_fault_43 rfl (lv_at hl 2 rfl) ?_
        refine lv_iconst (v := 4) hx hb dX9_fault_44 (by decide) ?_
        refine lv_icmp_ne (tgt := 68) hx hb dX9_fault_45 (by decide) (fun c4 => ?_) (fun c4 => ?_)
        · refine lv_aload_n hx hb dX9_fault_68 rfl (lv_at hl 0 rfl) ?_
          refine va_get (D := G.1) (ci := 9) (v := .ref r) (C := RX9) (T := TX9) (N := 7) hx hb hts owX9 hown hK.1 hP 0 rfl rfl 1 (by decide) (bw9 (w := Cond.fieldLink RX9 21 "DropflagMill" "check" "LDropflagMill$Check;") hts 47 rfl) (fun _ h9 => h9) rfl dX9_fault_69 ?_
          refine va_get (D := G.1) (ci := 0) (v := .ref oq) (C := RX0) (T := TX0) (N := 13) hx hb hts owX0 hown hK.1 hP 1 rfl rfl 4 (by decide) (bw11 (w := Cond.fieldLink RX9 187 "DropflagMill$Check" "faults" "LDropflagMill$Faults;") hts 5 rfl) (fun _ h9 => h9) rfl dX9_fault_72 ?_
          refine lv_iload_n hx hb dX9_fault_75 rfl (lv_at hl 1 rfl) ?_
          refine lv_iload_n hx hb dX9_fault_76 rfl (lv_at hl 2 rfl) ?_
          refine sx_v (As := [.int p1, .int p2]) (rest := []) hx hb hml hown hts (c_X2_fact l G oq m0 m1 m2 m3 fc xn xl xp xo p1 p2 (by omega)) 2 (sxGV (bi11 (w := Cond.methodLink RX9 198 yX2_fact) 7 rfl) (bi11 (w := Cond.instanceMethod yX2_fact) 8 rfl) (bi11 (w := Cond.selects RX2 yX2_fact yX2_fact) 9 rfl) (bi0 (w := Cond.initialized RX2) 58 rfl) (bi5 (w := Cond.code yX2_fact cX2_fact 3 (some .int)) 30 rfl)) rfl (by decide +kernel) ⟨Nat.le_of_ble_eq_true rfl, Nat.le_of_ble_eq_true rfl⟩ hK hP [5, 6, 7, 8, 9] rfl 0 rfl rfl rfl hl rfl (Nat.le_of_ble_eq_true rfl) ⟨Nat.zero_le _, Nat.zero_le _⟩ dX9_fault_77 (fun r er => ?_)
          subst er
          exact sx_ret hx hb hr hlk rfl (by simp only [s_X9_fault, if_neg c1, if_neg c2, if_pos c3, if_neg c4]) dX9_fault_80
        · refine lv_aload_n hx hb dX9_fault_48 rfl (lv_at hl 0 rfl) ?_
          refine va_get (D := G.1) (ci := 9) (v := .ref r) (C := RX9) (T := TX9) (N := 7) hx hb hts owX9 hown hK.1 hP 0 rfl rfl 1 (by decide) (bw9 (w := Cond.fieldLink RX9 21 "DropflagMill" "check" "LDropflagMill$Check;") hts 47 rfl) (fun _ h9 => h9) rfl dX9_fault_49 ?_
          refine lv_aload_n hx hb dX9_fault_52 rfl (lv_at hl 0 rfl) ?_
          refine va_get (D := G.1) (ci := 9) (v := .ref r) (C := RX9) (T := TX9) (N := 7) hx hb hts owX9 hown hK.1 hP 0 rfl rfl 1 (by decide) (bw9 (w := Cond.fieldLink RX9 21 "DropflagMill" "check" "LDropflagMill$Check;") hts 47 rfl) (fun _ h9 => h9) rfl dX9_fault_53 ?_
          refine va_get (D := G.1) (ci := 0) (v := .ref oq) (C := RX0) (T := TX0) (N := 13) hx hb hts owX0 hown hK.1 hP 1 rfl rfl 4 (by decide) (bw11 (w := Cond.fieldLink RX9 187 "DropflagMill$Check" "faults" "LDropflagMill$Faults;") hts 5 rfl) (fun _ h9 => h9) rfl dX9_fault_56 ?_
          refine lv_iload_n hx hb dX9_fault_59 rfl (lv_at hl 1 rfl) ?_
          refine lv_iconst (v := 3) hx hb dX9_fault_60 (by decide) ?_
          refine sx_v (As := [.int p1, .int 3]) (rest := [.ref r]) hx hb hml hown hts (c_X2_fact l G oq m0 m1 m2 m3 fc xn xl xp xo p1 3 (by omega)) 2 (sxGV (bi11 (w := Cond.methodLink RX9 198 yX2_fact) 7 rfl) (bi11 (w := Cond.instanceMethod yX2_fact) 8 rfl) (bi11 (w := Cond.selects RX2 yX2_fact yX2_fact) 9 rfl) (bi0 (w := Cond.initialized RX2) 58 rfl) (bi5 (w := Cond.code yX2_fact cX2_fact 3 (some .int)) 30 rfl)) rfl (by decide +kernel) ⟨Nat.le_of_ble_eq_true rfl, Nat.le_of_ble_eq_true rfl⟩ hK hP [5, 6, 7, 8, 9] rfl 0 rfl rfl rfl hl rfl (Nat.le_of_ble_eq_true rfl) ⟨Nat.zero_le _, Nat.zero_le _⟩ dX9_fault_61 (fun r er => ?_)
          subst er
          refine sx_v (As := [.int (s_X2_fact fc xn xl xp xo p1 3)]) (rest := []) hx hb hml hown hts (c_X0_lastUse l G r h od ow ol oq r1 r2 r3 r4 r5 r6 r7 flg d1 d2 d3 d4 d5 d6 d7 d8 d9 dbu l1 l2 l3 l4 lc k0 k1 k2 k3 pv pn cd (s_X2_fact fc xn xl xp xo p1 3) (by omega) (by omega)) 1 (sxGV (bi11 (w := Cond.methodLink RX9 184 yX0_lastUse) 1 rfl) (bi11 (w := Cond.instanceMethod yX0_lastUse) 2 rfl) (bi11 (w := Cond.selects RX0 yX0_lastUse yX0_lastUse) 3 rfl) (bi2 (w := Cond.initialized RX0) 52 rfl) (bi5 (w := Cond.code yX0_lastUse cX0_lastUse 4 (some .int)) 2 rfl)) rfl (by decide +kernel) ⟨Nat.le_of_ble_eq_true rfl, Nat.le_of_ble_eq_true rfl⟩ hK hP [1, 2, 3, 4, 10, 11] rfl 0 rfl rfl rfl hl rfl (Nat.le_of_ble_eq_true rfl) ⟨Nat.zero_le _, Nat.zero_le _⟩ dX9_fault_64 (fun r er => ?_)
          subst er
          exact sx_ret hx hb hr hlk rfl (by simp only [s_X9_fault, if_neg c1, if_neg c2, if_pos c3, if_pos c4]) dX9_fault_67
      · exact absurd hX (by simp only [x_X9_fault, if_neg c1, if_neg c2, if_neg c3]; decide)
  · exact absurd hX (by simp only [x_X9_fault, if_pos c1]; decide)

abbrev wdX9_ofVariable : List Cond := Cond.code yX9_ofVariable cX9_ofVariable 3 (some .int) :: bwC
def x_X9_ofVariable (pv : Nat) (p1 : Int32) (p2 : Int32) : Nat := if (s_X5_isVariable pv p1) = 0 then 3 else (if p2 < 0 then 1 else (if p2 ≤ 3 then (if p2 = 0 then 0 else (if p2 = 1 then 0 else (if p2 = 2 then 0 else 0))) else 1))
def s_X9_ofVariable (flg : Int32) (du : Nat → Int32) (dt : Nat → Int32) (dg : Nat → Int32) (pv : Nat) (pn : Nat) (fk : Nat → Int32) (p1 : Int32) (p2 : Int32) : Int32 := if (s_X5_isVariable pv p1) = 0 then 0 else (if p2 < 0 then 0 else (if p2 ≤ 3 then (if p2 = 0 then s_X5_kindAt pv fk (3 * p1) else (if p2 = 1 then s_X0_flagsOf flg pv fk p1 else (if p2 = 2 then s_X1_countUsers pn du dt p1 else s_X1_countGivers pn dg p1))) else 0))
set_option maxHeartbeats 4000000 in
set_option maxRecDepth 100000 in
theorem c_X9_ofVariable (l : Launch) (G : sxG) (z : Nat) (h : Nat) (r : Nat) (x : Nat) (g : Nat) (rr : Nat) (xx : Nat) (rns : Int32) (od : Nat) (ow : Nat) (ol : Nat) (oq : Nat) (r1 : Nat) (r2 : Nat) (r3 : Nat) (r4 : Nat) (r5 : Nat) (r6 : Nat) (r7 : Nat) (flg : Int32) (d1 : Nat) (d2 : Nat) (d3 : Nat) (d4 : Nat) (d5 : Nat) (d6 : Nat) (d7 : Nat) (d8 : Nat) (d9 : Nat) (du : Nat → Int32) (dt : Nat → Int32) (dg : Nat → Int32) (k0 : Nat) (k1 : Nat) (k2 : Nat) (k3 : Nat) (pv : Nat) (pn : Nat) (fk : Nat → Int32) (p1 : Int32) (p2 : Int32) (hn : pn ≤ 33) (hv : pv ≤ 8) (hX : x_X9_ofVariable pv p1 p2 = 0) : sxM l yX9_ofVariable wdX9_ofVariable 3 67 G [(z, .inr (9, [.ref h, .ref r, .ref x, .ref g, .ref rr, .ref xx, .int rns])), (r, .inr (0, [.ref h, .ref od, .ref ow, .ref ol, .ref oq, .ref r1, .ref r2, .ref r3, .ref r4, .ref r5, .ref r6, .ref r7, .int flg])), (od, .inr (1, [.ref h, .ref d1, .ref d2, .ref d3, .ref d4, .ref d5, .ref d6, .ref d7, .ref d8, .ref d9])), (d1, .inl (G.2.1, 34, .inl du)), (d2, .inl (G.2.1, 34, .inl dt)), (d3, .inl (G.2.1, 34, .inl dg)), (h, .inr (5, [.ref k0, .ref k1, .ref k2, .ref k3, .int (nI pv), .int (nI pn)])), (k0, .inl (G.2.1, 8, .inl fk))] [.ref z, .int p1, .int p2] (fun r => r = s_X9_ofVariable flg du dt dg pv pn fk p1 p2) := by
  refine sxM.of (cc := cX9_ofVariable) (maxL := 3) (by decide) rfl (Nat.le_of_ble_eq_true rfl) ?_
  intro p e s m args below meth c ⟨hx, hb, hr, hml, hown, hlk, hts, hK⟩ hP ls hl
  have hl : lv_has ls 3 [(0, .ref z), (1, .int p1), (2, .int p2)] := hl
  refine lv_aload_n hx hb dX9_ofVariable_0 rfl (lv_at hl 0 rfl) ?_
  refine va_get (D := G.1) (ci := 9) (v := .ref h) (C := RX9) (T := TX9) (N := 7) hx hb hts owX9 hown hK.1 hP 0 rfl rfl 0 (by decide) (bw9 (w := Cond.fieldLink RX9 12 "DropflagMill" "program" "LDropflagMill$Program;") hts 44 rfl) (fun _ h9 => h9) rfl dX9_ofVariable_1 ?_
  refine lv_iload_n hx hb dX9_ofVariable_4 rfl (lv_at hl 1 rfl) ?_
  refine sx_v (As := [.int p1]) (rest := []) hx hb hml hown hts (c_X5_isVariable l G h k0 k1 k2 k3 pv pn p1 ) 1 (sxGV (bi11 (w := Cond.methodLink RX9 201 yX5_isVariable) 12 rfl) (bi6 (w := Cond.instanceMethod yX5_isVariable) 17 rfl) (bi6 (w := Cond.selects RX5 yX5_isVariable yX5_isVariable) 18 rfl) (bi1 (w := Cond.initialized RX5) 30 rfl) (bi6 (w := Cond.code yX5_isVariable cX5_isVariable 2 (some .boolean)) 14 rfl)) rfl (by decide +kernel) ⟨Nat.le_of_ble_eq_true rfl, Nat.le_of_ble_eq_true rfl⟩ hK hP [6] rfl 0 rfl rfl rfl hl rfl (Nat.le_of_ble_eq_true rfl) ⟨Nat.zero_le _, Nat.zero_le _⟩ dX9_ofVariable_5 (fun r er => ?_)
  subst er
  refine lv_if_ne (tgt := 21) hx hb dX9_ofVariable_8 (by decide) (fun c1 => ?_) (fun c1 => ?_)
  · refine lv_iload_n hx hb dX9_ofVariable_21 rfl (lv_at hl 2 rfl) ?_
    refine lv_if_lt (tgt := 30) hx hb dX9_ofVariable_22 (by decide) (fun c2 => ?_) (fun c2 => ?_)
    · exact absurd hX (by simp only [x_X9_ofVariable, if_neg c1, if_pos c2]; decide)
    · refine lv_iload_n hx hb dX9_ofVariable_25 rfl (lv_at hl 2 rfl) ?_
      refine lv_iconst (v := 3) hx hb dX9_ofVariable_26 (by decide) ?_
      refine lv_icmp_le (tgt := 40) hx hb dX9_ofVariable_27 (by decide) (fun c3 => ?_) (fun c3 => ?_)
      · refine lv_iload_n hx hb dX9_ofVariable_40 rfl (lv_at hl 2 rfl) ?_
        by_cases c4 : p2 = 0
        · refine lv_tableIn (off := 27) (tgt := 68) hx hb dX9_ofVariable_41 (by rw [c4]; decide) (by rw [c4]; decide) (by rw [c4]; rfl) (by decide) ?_
          refine lv_aload_n hx hb dX9_ofVariable_68 rfl (lv_at hl 0 rfl) ?_
          refine va_get (D := G.1) (ci := 9) (v := .ref h) (C := RX9) (T := TX9) (N := 7) hx hb hts owX9 hown hK.1 hP 0 rfl rfl 0 (by decide) (bw9 (w := Cond.fieldLink RX9 12 "DropflagMill" "program" "LDropflagMill$Program;") hts 44 rfl) (fun _ h9 => h9) rfl dX9_ofVariable_69 ?_
          refine lv_iconst (v := 3) hx hb dX9_ofVariable_72 (by decide) ?_
          refine lv_iload_n hx hb dX9_ofVariable_73 rfl (lv_at hl 1 rfl) ?_
          refine lv_imul hx hb dX9_ofVariable_74 ?_
          refine sx_v (As := [.int (3 * p1)]) (rest := []) hx hb hml hown hts (c_X5_kindAt l G h k0 k1 k2 k3 pv pn fk (3 * p1) (by omega)) 1 (sxGV (bi10 (w := Cond.methodLink RX9 140 yX5_kindAt) 40 rfl) (bi1 (w := Cond.instanceMethod yX5_kindAt) 51 rfl) (bi1 (w := Cond.selects RX5 yX5_kindAt yX5_kindAt) 52 rfl) (bi1 (w := Cond.initialized RX5) 30 rfl) (bi1 (w := Cond.code yX5_kindAt cX5_kindAt 3 (some .int)) 46 rfl)) rfl (by decide +kernel) ⟨Nat.le_of_ble_eq_true rfl, Nat.le_of_ble_eq_true rfl⟩ hK hP [6, 7] rfl 0 rfl rfl rfl hl rfl (Nat.le_of_ble_eq_true rfl) ⟨Nat.zero_le _, Nat.zero_le _⟩ dX9_ofVariable_75 (fun r er => ?_)
          subst er
          exact sx_ret hx hb hr hlk rfl (by simp only [s_X9_ofVariable, if_neg c1, if_neg c2, if_pos c3, if_pos c4]) dX9_ofVariable_78
        · by_cases c5 : p2 = 1
          · refine lv_tableIn (off := 38) (tgt := 79) hx hb dX9_ofVariable_41 (by rw [c5]; decide) (by rw [c5]; decide) (by rw [c5]; rfl) (by decide) ?_
            refine lv_aload_n hx hb dX9_ofVariable_79 rfl (lv_at hl 0 rfl) ?_
            refine va_get (D := G.1) (ci := 9) (v := .ref r) (C := RX9) (T := TX9) (N := 7) hx hb hts owX9 hown hK.1 hP 0 rfl rfl 1 (by decide) (bw9 (w := Cond.fieldLink RX9 21 "DropflagMill" "check" "LDropflagMill$Check;") hts 47 rfl) (fun _ h9 => h9) rfl dX9_ofVariable_80 ?_
            refine lv_iload_n hx hb dX9_ofVariable_83 rfl (lv_at hl 1 rfl) ?_
            refine sx_v (As := [.int p1]) (rest := []) hx hb hml hown hts (c_X0_flagsOf l G r h od ow ol oq r1 r2 r3 r4 r5 r6 r7 flg k0 k1 k2 k3 pv pn fk p1 (by omega)) 1 (sxGV (bi11 (w := Cond.methodLink RX9 206 yX0_flagsOf) 13 rfl) (bi11 (w := Cond.instanceMethod yX0_flagsOf) 14 rfl) (bi11 (w := Cond.selects RX0 yX0_flagsOf yX0_flagsOf) 15 rfl) (bi2 (w := Cond.initialized RX0) 52 rfl) (bi5 (w := Cond.code yX0_flagsOf cX0_flagsOf 4 (some .int)) 7 rfl)) rfl (by decide +kernel) ⟨Nat.le_of_ble_eq_true rfl, Nat.le_of_ble_eq_true rfl⟩ hK hP [1, 6, 7] rfl 0 rfl rfl rfl hl rfl (Nat.le_of_ble_eq_true rfl) ⟨Nat.zero_le _, Nat.zero_le _⟩ dX9_ofVariable_84 (fun r er => ?_)
            subst er
            exact sx_ret hx hb hr hlk rfl (by simp only [s_X9_ofVariable, if_neg c1, if_neg c2, if_pos c3, if_neg c4, if_pos c5]) dX9_ofVariable_87
          · by_cases c6 : p2 = 2
            · refine lv_tableIn (off := 47) (tgt := 88) hx hb dX9_ofVariable_41 (by rw [c6]; decide) (by rw [c6]; decide) (by rw [c6]; rfl) (by decide) ?_
              refine lv_aload_n hx hb dX9_ofVariable_88 rfl (lv_at hl 0 rfl) ?_
              refine va_get (D := G.1) (ci := 9) (v := .ref r) (C := RX9) (T := TX9) (N := 7) hx hb hts owX9 hown hK.1 hP 0 rfl rfl 1 (by decide) (bw9 (w := Cond.fieldLink RX9 21 "DropflagMill" "check" "LDropflagMill$Check;") hts 47 rfl) (fun _ h9 => h9) rfl dX9_ofVariable_89 ?_
              refine va_get (D := G.1) (ci := 0) (v := .ref od) (C := RX0) (T := TX0) (N := 13) hx hb hts owX0 hown hK.1 hP 1 rfl rfl 1 (by decide) (bw11 (w := Cond.fieldLink RX9 209 "DropflagMill$Check" "deeds" "LDropflagMill$Deeds;") hts 11 rfl) (fun _ h9 => h9) rfl dX9_ofVariable_92 ?_
              refine lv_iload_n hx hb dX9_ofVariable_95 rfl (lv_at hl 1 rfl) ?_
              refine sx_v (As := [.int p1]) (rest := []) hx hb hml hown hts (c_X1_countUsers l G od h d1 d2 d3 d4 d5 d6 d7 d8 d9 k0 k1 k2 k3 pv pn du dt p1 (by omega)) 1 (sxGV (bi11 (w := Cond.methodLink RX9 213 yX1_countUsers) 16 rfl) (bi11 (w := Cond.instanceMethod yX1_countUsers) 17 rfl) (bi11 (w := Cond.selects RX1 yX1_countUsers yX1_countUsers) 18 rfl) (bi0 (w := Cond.initialized RX1) 46 rfl) (bi5 (w := Cond.code yX1_countUsers cX1_countUsers 4 (some .int)) 25 rfl)) rfl (by decide +kernel) ⟨Nat.le_of_ble_eq_true rfl, Nat.le_of_ble_eq_true rfl⟩ hK hP [2, 6, 3, 4] rfl 0 rfl rfl rfl hl rfl (Nat.le_of_ble_eq_true rfl) ⟨Nat.zero_le _, Nat.zero_le _⟩ dX9_ofVariable_96 (fun r er => ?_)
              subst er
              exact sx_ret hx hb hr hlk rfl (by simp only [s_X9_ofVariable, if_neg c1, if_neg c2, if_pos c3, if_neg c4, if_neg c5, if_pos c6]) dX9_ofVariable_99
            · refine lv_tableOut (tgt := 100) hx hb dX9_ofVariable_41 (by have := lv_neT (a := 0) c4 rfl; have := lv_neT (a := 1) c5 rfl; have := lv_neT (a := 2) c6 rfl; omega) (by decide) ?_
              refine lv_aload_n hx hb dX9_ofVariable_100 rfl (lv_at hl 0 rfl) ?_
              refine va_get (D := G.1) (ci := 9) (v := .ref r) (C := RX9) (T := TX9) (N := 7) hx hb hts owX9 hown hK.1 hP 0 rfl rfl 1 (by decide) (bw9 (w := Cond.fieldLink RX9 21 "DropflagMill" "check" "LDropflagMill$Check;") hts 47 rfl) (fun _ h9 => h9) rfl dX9_ofVariable_101 ?_
              refine va_get (D := G.1) (ci := 0) (v := .ref od) (C := RX0) (T := TX0) (N := 13) hx hb hts owX0 hown hK.1 hP 1 rfl rfl 1 (by decide) (bw11 (w := Cond.fieldLink RX9 209 "DropflagMill$Check" "deeds" "LDropflagMill$Deeds;") hts 11 rfl) (fun _ h9 => h9) rfl dX9_ofVariable_104 ?_
              refine lv_iload_n hx hb dX9_ofVariable_107 rfl (lv_at hl 1 rfl) ?_
              refine sx_v (As := [.int p1]) (rest := []) hx hb hml hown hts (c_X1_countGivers l G od h d1 d2 d3 d4 d5 d6 d7 d8 d9 k0 k1 k2 k3 pv pn dg p1 (by omega)) 1 (sxGV (bi11 (w := Cond.methodLink RX9 218 yX1_countGivers) 19 rfl) (bi11 (w := Cond.instanceMethod yX1_countGivers) 20 rfl) (bi11 (w := Cond.selects RX1 yX1_countGivers yX1_countGivers) 21 rfl) (bi0 (w := Cond.initialized RX1) 46 rfl) (bi5 (w := Cond.code yX1_countGivers cX1_countGivers 4 (some .int)) 28 rfl)) rfl (by decide +kernel) ⟨Nat.le_of_ble_eq_true rfl, Nat.le_of_ble_eq_true rfl⟩ hK hP [2, 6, 5] rfl 0 rfl rfl rfl hl rfl (Nat.le_of_ble_eq_true rfl) ⟨Nat.zero_le _, Nat.zero_le _⟩ dX9_ofVariable_108 (fun r er => ?_)
              subst er
              exact sx_ret hx hb hr hlk rfl (by simp only [s_X9_ofVariable, if_neg c1, if_neg c2, if_pos c3, if_neg c4, if_neg c5, if_neg c6]) dX9_ofVariable_111
      · exact absurd hX (by simp only [x_X9_ofVariable, if_neg c1, if_neg c2, if_neg c3]; decide)
  · exact absurd hX (by simp only [x_X9_ofVariable, if_pos c1]; decide)

abbrev wdX9_ofRun : List Cond := Cond.code yX9_ofRun cX9_ofRun 2 (some .int) :: bwC
def x_X9_ofRun (rns : Int32) (p1 : Int32) : Nat := if p1 < 0 then 1 else (if p1 ≤ 9 then (if p1 = 0 then 0 else (if p1 = 1 then 0 else (if p1 = 2 then 0 else (if p1 = 3 then 0 else (if p1 = 4 then 0 else (if p1 = 5 then 0 else (if p1 = 6 then 0 else (if p1 = 7 then 0 else (if p1 = 8 then (if rns = 0 then 0 else 0) else 0))))))))) else 1)
def s_X9_ofRun (rns : Int32) (oco : Int32) (stp : Nat) (bxm : Int32) (bxd : Int32) (pnl : Int32) (sc : Int32) (nm : Nat) (ng : Int32) (p1 : Int32) : Int32 := if p1 < 0 then 0 else (if p1 ≤ 9 then (if p1 = 0 then oco else (if p1 = 1 then nI stp else (if p1 = 2 then sc else (if p1 = 3 then bxm else (if p1 = 4 then nI nm else (if p1 = 5 then bxd else (if p1 = 6 then ng else (if p1 = 7 then s_X6_countLeaked bxm bxd nm ng else (if p1 = 8 then (if rns = 0 then 0 else pnl) else rns))))))))) else 0)
set_option maxHeartbeats 4000000 in
set_option maxRecDepth 100000 in
theorem c_X9_ofRun (l : Launch) (G : sxG) (z : Nat) (h : Nat) (r : Nat) (x : Nat) (g : Nat) (rr : Nat) (xx : Nat) (rns : Int32) (ow : Nat) (os : Nat) (on : Nat) (v1 : Nat) (v2 : Nat) (v3 : Nat) (v4 : Nat) (okd : Int32) (oct : Nat) (hre : Int32) (oco : Int32) (stp : Nat) (bxm : Int32) (bxd : Int32) (pnl : Int32) (iab : Int32) (t0 : Nat) (t1 : Nat) (t2 : Nat) (sc : Int32) (u0 : Nat) (u1 : Nat) (u2 : Nat) (u3 : Nat) (nm : Nat) (ng : Int32) (p1 : Int32) (hX : x_X9_ofRun rns p1 = 0) : sxM l yX9_ofRun wdX9_ofRun 1 20 G [(z, .inr (9, [.ref h, .ref r, .ref x, .ref g, .ref rr, .ref xx, .int rns])), (x, .inr (6, [.ref h, .ref ow, .ref os, .ref on, .ref v1, .ref v2, .ref v3, .ref v4, .int okd, .int (nI oct), .int hre, .int oco, .int (nI stp), .int bxm, .int bxd, .int pnl, .int iab])), (os, .inr (7, [.ref t0, .ref t1, .ref t2, .int sc])), (on, .inr (4, [.ref u0, .ref u1, .ref u2, .ref u3, .int (nI nm), .int ng]))] [.ref z, .int p1] (fun r => r = s_X9_ofRun rns oco stp bxm bxd pnl sc nm ng p1) := by
  refine sxM.of (cc := cX9_ofRun) (maxL := 2) (by decide) rfl (Nat.le_of_ble_eq_true rfl) ?_
  intro p e s m args below meth c ⟨hx, hb, hr, hml, hown, hlk, hts, hK⟩ hP ls hl
  have hl : lv_has ls 2 [(0, .ref z), (1, .int p1)] := hl
  refine lv_iload_n hx hb dX9_ofRun_0 rfl (lv_at hl 1 rfl) ?_
  refine lv_if_lt (tgt := 10) hx hb dX9_ofRun_1 (by decide) (fun c1 => ?_) (fun c1 => ?_)
  · exact absurd hX (by simp only [x_X9_ofRun, if_pos c1]; decide)
  · refine lv_iload_n hx hb dX9_ofRun_4 rfl (lv_at hl 1 rfl) ?_
    refine lv_bipush (v := 9) hx hb dX9_ofRun_5 (by decide) ?_
    refine lv_icmp_le (tgt := 20) hx hb dX9_ofRun_7 (by decide) (fun c2 => ?_) (fun c2 => ?_)
    · refine lv_iload_n hx hb dX9_ofRun_20 rfl (lv_at hl 1 rfl) ?_
      by_cases c3 : p1 = 0
      · refine lv_tableIn (off := 51) (tgt := 72) hx hb dX9_ofRun_21 (by rw [c3]; decide) (by rw [c3]; decide) (by rw [c3]; rfl) (by decide) ?_
        refine lv_aload_n hx hb dX9_ofRun_72 rfl (lv_at hl 0 rfl) ?_
        refine va_get (D := G.1) (ci := 9) (v := .ref x) (C := RX9) (T := TX9) (N := 7) hx hb hts owX9 hown hK.1 hP 0 rfl rfl 2 (by decide) (bw9 (w := Cond.fieldLink RX9 34 "DropflagMill" "latest" "LDropflagMill$Run;") hts 51 rfl) (fun _ h9 => h9) rfl dX9_ofRun_73 ?_
        refine va_get (D := G.1) (ci := 6) (v := .int oco) (C := RX6) (T := TX6) (N := 17) hx hb hts owX6 hown hK.1 hP 1 rfl rfl 11 (by decide) (bw11 (w := Cond.fieldLink RX9 229 "DropflagMill$Run" "outcome" "I") hts 24 rfl) (fun _ h9 => h9) rfl dX9_ofRun_76 ?_
        exact sx_ret hx hb hr hlk rfl (by simp only [s_X9_ofRun, if_neg c1, if_pos c2, if_pos c3]) dX9_ofRun_79
      · by_cases c4 : p1 = 1
        · refine lv_tableIn (off := 59) (tgt := 80) hx hb dX9_ofRun_21 (by rw [c4]; decide) (by rw [c4]; decide) (by rw [c4]; rfl) (by decide) ?_
          refine lv_aload_n hx hb dX9_ofRun_80 rfl (lv_at hl 0 rfl) ?_
          refine va_get (D := G.1) (ci := 9) (v := .ref x) (C := RX9) (T := TX9) (N := 7) hx hb hts owX9 hown hK.1 hP 0 rfl rfl 2 (by decide) (bw9 (w := Cond.fieldLink RX9 34 "DropflagMill" "latest" "LDropflagMill$Run;") hts 51 rfl) (fun _ h9 => h9) rfl dX9_ofRun_81 ?_
          refine va_get (D := G.1) (ci := 6) (v := .int (nI stp)) (C := RX6) (T := TX6) (N := 17) hx hb hts owX6 hown hK.1 hP 1 rfl rfl 12 (by decide) (bw11 (w := Cond.fieldLink RX9 232 "DropflagMill$Run" "steps" "I") hts 30 rfl) (fun _ h9 => h9) rfl dX9_ofRun_84 ?_
          exact sx_ret hx hb hr hlk rfl (by simp only [s_X9_ofRun, if_neg c1, if_pos c2, if_neg c3, if_pos c4]) dX9_ofRun_87
        · by_cases c5 : p1 = 2
          · refine lv_tableIn (off := 67) (tgt := 88) hx hb dX9_ofRun_21 (by rw [c5]; decide) (by rw [c5]; decide) (by rw [c5]; rfl) (by decide) ?_
            refine lv_aload_n hx hb dX9_ofRun_88 rfl (lv_at hl 0 rfl) ?_
            refine va_get (D := G.1) (ci := 9) (v := .ref x) (C := RX9) (T := TX9) (N := 7) hx hb hts owX9 hown hK.1 hP 0 rfl rfl 2 (by decide) (bw9 (w := Cond.fieldLink RX9 34 "DropflagMill" "latest" "LDropflagMill$Run;") hts 51 rfl) (fun _ h9 => h9) rfl dX9_ofRun_89 ?_
            refine va_get (D := G.1) (ci := 6) (v := .ref os) (C := RX6) (T := TX6) (N := 17) hx hb hts owX6 hown hK.1 hP 1 rfl rfl 2 (by decide) (bw11 (w := Cond.fieldLink RX9 235 "DropflagMill$Run" "story" "LDropflagMill$Story;") hts 31 rfl) (fun _ h9 => h9) rfl dX9_ofRun_92 ?_
            refine va_get (D := G.1) (ci := 7) (v := .int sc) (C := RX7) (T := TX7) (N := 4) hx hb hts owX7 hown hK.1 hP 2 rfl rfl 3 (by decide) (bw11 (w := Cond.fieldLink RX9 239 "DropflagMill$Story" "count" "I") hts 32 rfl) (fun _ h9 => h9) rfl dX9_ofRun_95 ?_
            exact sx_ret hx hb hr hlk rfl (by simp only [s_X9_ofRun, if_neg c1, if_pos c2, if_neg c3, if_neg c4, if_pos c5]) dX9_ofRun_98
          · by_cases c6 : p1 = 3
            · refine lv_tableIn (off := 78) (tgt := 99) hx hb dX9_ofRun_21 (by rw [c6]; decide) (by rw [c6]; decide) (by rw [c6]; rfl) (by decide) ?_
              refine lv_aload_n hx hb dX9_ofRun_99 rfl (lv_at hl 0 rfl) ?_
              refine va_get (D := G.1) (ci := 9) (v := .ref x) (C := RX9) (T := TX9) (N := 7) hx hb hts owX9 hown hK.1 hP 0 rfl rfl 2 (by decide) (bw9 (w := Cond.fieldLink RX9 34 "DropflagMill" "latest" "LDropflagMill$Run;") hts 51 rfl) (fun _ h9 => h9) rfl dX9_ofRun_100 ?_
              refine va_get (D := G.1) (ci := 6) (v := .int bxm) (C := RX6) (T := TX6) (N := 17) hx hb hts owX6 hown hK.1 hP 1 rfl rfl 13 (by decide) (bw11 (w := Cond.fieldLink RX9 242 "DropflagMill$Run" "boxesMade" "I") hts 33 rfl) (fun _ h9 => h9) rfl dX9_ofRun_103 ?_
              exact sx_ret hx hb hr hlk rfl (by simp only [s_X9_ofRun, if_neg c1, if_pos c2, if_neg c3, if_neg c4, if_neg c5, if_pos c6]) dX9_ofRun_106
            · by_cases c7 : p1 = 4
              · refine lv_tableIn (off := 86) (tgt := 107) hx hb dX9_ofRun_21 (by rw [c7]; decide) (by rw [c7]; decide) (by rw [c7]; rfl) (by decide) ?_
                refine lv_aload_n hx hb dX9_ofRun_107 rfl (lv_at hl 0 rfl) ?_
                refine va_get (D := G.1) (ci := 9) (v := .ref x) (C := RX9) (T := TX9) (N := 7) hx hb hts owX9 hown hK.1 hP 0 rfl rfl 2 (by decide) (bw9 (w := Cond.fieldLink RX9 34 "DropflagMill" "latest" "LDropflagMill$Run;") hts 51 rfl) (fun _ h9 => h9) rfl dX9_ofRun_108 ?_
                refine va_get (D := G.1) (ci := 6) (v := .ref on) (C := RX6) (T := TX6) (N := 17) hx hb hts owX6 hown hK.1 hP 1 rfl rfl 3 (by decide) (bw11 (w := Cond.fieldLink RX9 245 "DropflagMill$Run" "nodes" "LDropflagMill$Nodes;") hts 34 rfl) (fun _ h9 => h9) rfl dX9_ofRun_111 ?_
                refine va_get (D := G.1) (ci := 4) (v := .int (nI nm)) (C := RX4) (T := TX4) (N := 6) hx hb hts owX4 hown hK.1 hP 3 rfl rfl 4 (by decide) (bw11 (w := Cond.fieldLink RX9 249 "DropflagMill$Nodes" "made" "I") hts 35 rfl) (fun _ h9 => h9) rfl dX9_ofRun_114 ?_
                exact sx_ret hx hb hr hlk rfl (by simp only [s_X9_ofRun, if_neg c1, if_pos c2, if_neg c3, if_neg c4, if_neg c5, if_neg c6, if_pos c7]) dX9_ofRun_117
              · by_cases c8 : p1 = 5
                · refine lv_tableIn (off := 97) (tgt := 118) hx hb dX9_ofRun_21 (by rw [c8]; decide) (by rw [c8]; decide) (by rw [c8]; rfl) (by decide) ?_
                  refine lv_aload_n hx hb dX9_ofRun_118 rfl (lv_at hl 0 rfl) ?_
                  refine va_get (D := G.1) (ci := 9) (v := .ref x) (C := RX9) (T := TX9) (N := 7) hx hb hts owX9 hown hK.1 hP 0 rfl rfl 2 (by decide) (bw9 (w := Cond.fieldLink RX9 34 "DropflagMill" "latest" "LDropflagMill$Run;") hts 51 rfl) (fun _ h9 => h9) rfl dX9_ofRun_119 ?_
                  refine va_get (D := G.1) (ci := 6) (v := .int bxd) (C := RX6) (T := TX6) (N := 17) hx hb hts owX6 hown hK.1 hP 1 rfl rfl 14 (by decide) (bw11 (w := Cond.fieldLink RX9 254 "DropflagMill$Run" "boxesDropped" "I") hts 36 rfl) (fun _ h9 => h9) rfl dX9_ofRun_122 ?_
                  exact sx_ret hx hb hr hlk rfl (by simp only [s_X9_ofRun, if_neg c1, if_pos c2, if_neg c3, if_neg c4, if_neg c5, if_neg c6, if_neg c7, if_pos c8]) dX9_ofRun_125
                · by_cases c9 : p1 = 6
                  · refine lv_tableIn (off := 105) (tgt := 126) hx hb dX9_ofRun_21 (by rw [c9]; decide) (by rw [c9]; decide) (by rw [c9]; rfl) (by decide) ?_
                    refine lv_aload_n hx hb dX9_ofRun_126 rfl (lv_at hl 0 rfl) ?_
                    refine va_get (D := G.1) (ci := 9) (v := .ref x) (C := RX9) (T := TX9) (N := 7) hx hb hts owX9 hown hK.1 hP 0 rfl rfl 2 (by decide) (bw9 (w := Cond.fieldLink RX9 34 "DropflagMill" "latest" "LDropflagMill$Run;") hts 51 rfl) (fun _ h9 => h9) rfl dX9_ofRun_127 ?_
                    refine va_get (D := G.1) (ci := 6) (v := .ref on) (C := RX6) (T := TX6) (N := 17) hx hb hts owX6 hown hK.1 hP 1 rfl rfl 3 (by decide) (bw11 (w := Cond.fieldLink RX9 245 "DropflagMill$Run" "nodes" "LDropflagMill$Nodes;") hts 34 rfl) (fun _ h9 => h9) rfl dX9_ofRun_130 ?_
                    refine va_get (D := G.1) (ci := 4) (v := .int ng) (C := RX4) (T := TX4) (N := 6) hx hb hts owX4 hown hK.1 hP 3 rfl rfl 5 (by decide) (bw11 (w := Cond.fieldLink RX9 257 "DropflagMill$Nodes" "gone" "I") hts 37 rfl) (fun _ h9 => h9) rfl dX9_ofRun_133 ?_
                    exact sx_ret hx hb hr hlk rfl (by simp only [s_X9_ofRun, if_neg c1, if_pos c2, if_neg c3, if_neg c4, if_neg c5, if_neg c6, if_neg c7, if_neg c8, if_pos c9]) dX9_ofRun_136
                  · by_cases c10 : p1 = 7
                    · refine lv_tableIn (off := 116) (tgt := 137) hx hb dX9_ofRun_21 (by rw [c10]; decide) (by rw [c10]; decide) (by rw [c10]; rfl) (by decide) ?_
                      refine lv_aload_n hx hb dX9_ofRun_137 rfl (lv_at hl 0 rfl) ?_
                      refine va_get (D := G.1) (ci := 9) (v := .ref x) (C := RX9) (T := TX9) (N := 7) hx hb hts owX9 hown hK.1 hP 0 rfl rfl 2 (by decide) (bw9 (w := Cond.fieldLink RX9 34 "DropflagMill" "latest" "LDropflagMill$Run;") hts 51 rfl) (fun _ h9 => h9) rfl dX9_ofRun_138 ?_
                      refine sx_v (As := []) (rest := []) hx hb hml hown hts (c_X6_countLeaked l G x h ow os on v1 v2 v3 v4 okd oct hre oco stp bxm bxd pnl iab u0 u1 u2 u3 nm ng ) 0 (sxGV (bi11 (w := Cond.methodLink RX9 260 yX6_countLeaked) 39 rfl) (bi11 (w := Cond.instanceMethod yX6_countLeaked) 40 rfl) (bi11 (w := Cond.selects RX6 yX6_countLeaked yX6_countLeaked) 41 rfl) (bi7 (w := Cond.initialized RX6) 15 rfl) (bi6 (w := Cond.code yX6_countLeaked cX6_countLeaked 1 (some .int)) 59 rfl)) rfl (by decide +kernel) ⟨Nat.le_of_ble_eq_true rfl, Nat.le_of_ble_eq_true rfl⟩ hK hP [1, 3] rfl 0 rfl rfl rfl hl rfl (Nat.le_of_ble_eq_true rfl) ⟨Nat.zero_le _, Nat.zero_le _⟩ dX9_ofRun_141 (fun r er => ?_)
                      subst er
                      exact sx_ret hx hb hr hlk rfl ((((if_neg c1).trans ((if_pos c2).trans ((if_neg c3).trans ((if_neg c4).trans ((if_neg c5).trans ((if_neg c6).trans ((if_neg c7).trans ((if_neg c8).trans ((if_neg c9).trans (if_pos c10))))))))))).symm) dX9_ofRun_144
                    · by_cases c11 : p1 = 8
                      · refine lv_tableIn (off := 124) (tgt := 145) hx hb dX9_ofRun_21 (by rw [c11]; decide) (by rw [c11]; decide) (by rw [c11]; rfl) (by decide) ?_
                        refine lv_aload_n hx hb dX9_ofRun_145 rfl (lv_at hl 0 rfl) ?_
                        refine va_get (D := G.1) (ci := 9) (v := .int rns) (C := RX9) (T := TX9) (N := 7) hx hb hts owX9 hown hK.1 hP 0 rfl rfl 6 (by decide) (bw9 (w := Cond.fieldLink RX9 47 "DropflagMill" "runs" "I") hts 55 rfl) (fun _ h9 => h9) rfl dX9_ofRun_146 ?_
                        refine lv_if_ne (tgt := 156) hx hb dX9_ofRun_149 (by decide) (fun c12 => ?_) (fun c12 => ?_)
                        · refine lv_aload_n hx hb dX9_ofRun_156 rfl (lv_at hl 0 rfl) ?_
                          refine va_get (D := G.1) (ci := 9) (v := .ref x) (C := RX9) (T := TX9) (N := 7) hx hb hts owX9 hown hK.1 hP 0 rfl rfl 2 (by decide) (bw9 (w := Cond.fieldLink RX9 34 "DropflagMill" "latest" "LDropflagMill$Run;") hts 51 rfl) (fun _ h9 => h9) rfl dX9_ofRun_157 ?_
                          refine va_get (D := G.1) (ci := 6) (v := .int pnl) (C := RX6) (T := TX6) (N := 17) hx hb hts owX6 hown hK.1 hP 1 rfl rfl 15 (by decide) (bw11 (w := Cond.fieldLink RX9 263 "DropflagMill$Run" "panicLine" "I") hts 38 rfl) (fun _ h9 => h9) rfl dX9_ofRun_160 ?_
                          exact sx_ret hx hb hr hlk rfl ((((if_neg c1).trans ((if_pos c2).trans ((if_neg c3).trans ((if_neg c4).trans ((if_neg c5).trans ((if_neg c6).trans ((if_neg c7).trans ((if_neg c8).trans ((if_neg c9).trans ((if_neg c10).trans ((if_pos c11).trans (if_neg c12))))))))))))).symm) dX9_ofRun_163
                        · refine lv_iconst (v := 0) hx hb dX9_ofRun_152 (by decide) ?_
                          refine lv_goto (tgt := 163) hx hb dX9_ofRun_153 (by decide) ?_
                          exact sx_ret hx hb hr hlk rfl ((((if_neg c1).trans ((if_pos c2).trans ((if_neg c3).trans ((if_neg c4).trans ((if_neg c5).trans ((if_neg c6).trans ((if_neg c7).trans ((if_neg c8).trans ((if_neg c9).trans ((if_neg c10).trans ((if_pos c11).trans (if_pos c12))))))))))))).symm) dX9_ofRun_163
                      · refine lv_tableOut (tgt := 164) hx hb dX9_ofRun_21 (by have := lv_neT (a := 0) c3 rfl; have := lv_neT (a := 1) c4 rfl; have := lv_neT (a := 2) c5 rfl; have := lv_neT (a := 3) c6 rfl; have := lv_neT (a := 4) c7 rfl; have := lv_neT (a := 5) c8 rfl; have := lv_neT (a := 6) c9 rfl; have := lv_neT (a := 7) c10 rfl; have := lv_neT (a := 8) c11 rfl; omega) (by decide) ?_
                        refine lv_aload_n hx hb dX9_ofRun_164 rfl (lv_at hl 0 rfl) ?_
                        refine va_get (D := G.1) (ci := 9) (v := .int rns) (C := RX9) (T := TX9) (N := 7) hx hb hts owX9 hown hK.1 hP 0 rfl rfl 6 (by decide) (bw9 (w := Cond.fieldLink RX9 47 "DropflagMill" "runs" "I") hts 55 rfl) (fun _ h9 => h9) rfl dX9_ofRun_165 ?_
                        exact sx_ret hx hb hr hlk rfl ((((if_neg c1).trans ((if_pos c2).trans ((if_neg c3).trans ((if_neg c4).trans ((if_neg c5).trans ((if_neg c6).trans ((if_neg c7).trans ((if_neg c8).trans ((if_neg c9).trans ((if_neg c10).trans (if_neg c11)))))))))))).symm) dX9_ofRun_168
    · exact absurd hX (by simp only [x_X9_ofRun, if_neg c1, if_neg c2]; decide)

abbrev wdX9_told : List Cond := Cond.code yX9_told cX9_told 3 (some .int) :: bwC
def x_X9_told (sc : Int32) (p1 : Int32) (p2 : Int32) : Nat := if (s_X7_isKept sc p1) = 0 then 3 else (if p2 < 0 then 1 else (if p2 ≤ 2 then 0 else 1))
def s_X9_told (sc : Int32) (zs : Nat → Int32) (zn : Nat → Int32) (zl : Nat → Int32) (p1 : Int32) (p2 : Int32) : Int32 := if (s_X7_isKept sc p1) = 0 then 0 else (if p2 < 0 then 0 else (if p2 ≤ 2 then s_X7_fact sc zs zn zl p1 p2 else 0))
set_option maxHeartbeats 4000000 in
set_option maxRecDepth 100000 in
theorem c_X9_told (l : Launch) (G : sxG) (z : Nat) (h : Nat) (r : Nat) (x : Nat) (g : Nat) (rr : Nat) (xx : Nat) (rns : Int32) (ow : Nat) (os : Nat) (on : Nat) (v1 : Nat) (v2 : Nat) (v3 : Nat) (v4 : Nat) (okd : Int32) (oct : Nat) (hre : Int32) (oco : Int32) (stp : Nat) (bxm : Int32) (bxd : Int32) (pnl : Int32) (iab : Int32) (t0 : Nat) (t1 : Nat) (t2 : Nat) (sc : Int32) (zs : Nat → Int32) (zn : Nat → Int32) (zl : Nat → Int32) (p1 : Int32) (p2 : Int32) (hX : x_X9_told sc p1 p2 = 0) : sxM l yX9_told wdX9_told 4 84 G [(z, .inr (9, [.ref h, .ref r, .ref x, .ref g, .ref rr, .ref xx, .int rns])), (x, .inr (6, [.ref h, .ref ow, .ref os, .ref on, .ref v1, .ref v2, .ref v3, .ref v4, .int okd, .int (nI oct), .int hre, .int oco, .int (nI stp), .int bxm, .int bxd, .int pnl, .int iab])), (os, .inr (7, [.ref t0, .ref t1, .ref t2, .int sc])), (t0, .inl (G.2.1, 60, .inl zs)), (t1, .inl (G.2.1, 60, .inl zn)), (t2, .inl (G.2.1, 60, .inl zl))] [.ref z, .int p1, .int p2] (fun r => r = s_X9_told sc zs zn zl p1 p2) := by
  refine sxM.of (cc := cX9_told) (maxL := 3) (by decide) rfl (Nat.le_of_ble_eq_true rfl) ?_
  intro p e s m args below meth c ⟨hx, hb, hr, hml, hown, hlk, hts, hK⟩ hP ls hl
  have hl : lv_has ls 3 [(0, .ref z), (1, .int p1), (2, .int p2)] := hl
  refine lv_aload_n hx hb dX9_told_0 rfl (lv_at hl 0 rfl) ?_
  refine va_get (D := G.1) (ci := 9) (v := .ref x) (C := RX9) (T := TX9) (N := 7) hx hb hts owX9 hown hK.1 hP 0 rfl rfl 2 (by decide) (bw9 (w := Cond.fieldLink RX9 34 "DropflagMill" "latest" "LDropflagMill$Run;") hts 51 rfl) (fun _ h9 => h9) rfl dX9_told_1 ?_
  refine va_get (D := G.1) (ci := 6) (v := .ref os) (C := RX6) (T := TX6) (N := 17) hx hb hts owX6 hown hK.1 hP 1 rfl rfl 2 (by decide) (bw11 (w := Cond.fieldLink RX9 235 "DropflagMill$Run" "story" "LDropflagMill$Story;") hts 31 rfl) (fun _ h9 => h9) rfl dX9_told_4 ?_
  refine lv_iload_n hx hb dX9_told_7 rfl (lv_at hl 1 rfl) ?_
  refine sx_v (As := [.int p1]) (rest := []) hx hb hml hown hts (c_X7_isKept l G os t0 t1 t2 sc p1 ) 1 (sxGV (bi11 (w := Cond.methodLink RX9 266 yX7_isKept) 42 rfl) (bi9 (w := Cond.instanceMethod yX7_isKept) 39 rfl) (bi9 (w := Cond.selects RX7 yX7_isKept yX7_isKept) 40 rfl) (bi6 (w := Cond.initialized RX7) 36 rfl) (bi9 (w := Cond.code yX7_isKept cX7_isKept 2 (some .boolean)) 33 rfl)) rfl (by decide +kernel) ⟨Nat.le_of_ble_eq_true rfl, Nat.le_of_ble_eq_true rfl⟩ hK hP [2] rfl 0 rfl rfl rfl hl rfl (Nat.le_of_ble_eq_true rfl) ⟨Nat.zero_le _, Nat.zero_le _⟩ dX9_told_8 (fun r er => ?_)
  subst er
  refine lv_if_ne (tgt := 25) hx hb dX9_told_11 (by decide) (fun c1 => ?_) (fun c1 => ?_)
  · refine lv_iload_n hx hb dX9_told_25 rfl (lv_at hl 2 rfl) ?_
    refine lv_if_lt (tgt := 34) hx hb dX9_told_26 (by decide) (fun c2 => ?_) (fun c2 => ?_)
    · exact absurd hX (by simp only [x_X9_told, if_neg c1, if_pos c2]; decide)
    · refine lv_iload_n hx hb dX9_told_29 rfl (lv_at hl 2 rfl) ?_
      refine lv_iconst (v := 2) hx hb dX9_told_30 (by decide) ?_
      refine lv_icmp_le (tgt := 44) hx hb dX9_told_31 (by decide) (fun c3 => ?_) (fun c3 => ?_)
      · refine lv_aload_n hx hb dX9_told_44 rfl (lv_at hl 0 rfl) ?_
        refine va_get (D := G.1) (ci := 9) (v := .ref x) (C := RX9) (T := TX9) (N := 7) hx hb hts owX9 hown hK.1 hP 0 rfl rfl 2 (by decide) (bw9 (w := Cond.fieldLink RX9 34 "DropflagMill" "latest" "LDropflagMill$Run;") hts 51 rfl) (fun _ h9 => h9) rfl dX9_told_45 ?_
        refine va_get (D := G.1) (ci := 6) (v := .ref os) (C := RX6) (T := TX6) (N := 17) hx hb hts owX6 hown hK.1 hP 1 rfl rfl 2 (by decide) (bw11 (w := Cond.fieldLink RX9 235 "DropflagMill$Run" "story" "LDropflagMill$Story;") hts 31 rfl) (fun _ h9 => h9) rfl dX9_told_48 ?_
        refine lv_iload_n hx hb dX9_told_51 rfl (lv_at hl 1 rfl) ?_
        refine lv_iload_n hx hb dX9_told_52 rfl (lv_at hl 2 rfl) ?_
        refine sx_v (As := [.int p1, .int p2]) (rest := []) hx hb hml hown hts (c_X7_fact l G os t0 t1 t2 sc zs zn zl p1 p2 ) 2 (sxGV (bi11 (w := Cond.methodLink RX9 271 yX7_fact) 43 rfl) (bi11 (w := Cond.instanceMethod yX7_fact) 44 rfl) (bi11 (w := Cond.selects RX7 yX7_fact yX7_fact) 45 rfl) (bi6 (w := Cond.initialized RX7) 36 rfl) (bi9 (w := Cond.code yX7_fact cX7_fact 3 (some .int)) 37 rfl)) rfl (by decide +kernel) ⟨Nat.le_of_ble_eq_true rfl, Nat.le_of_ble_eq_true rfl⟩ hK hP [2, 3, 4, 5] rfl 0 rfl rfl rfl hl rfl (Nat.le_of_ble_eq_true rfl) ⟨Nat.zero_le _, Nat.zero_le _⟩ dX9_told_53 (fun r er => ?_)
        subst er
        exact sx_ret hx hb hr hlk rfl (by simp only [s_X9_told, if_neg c1, if_neg c2, if_pos c3]) dX9_told_56
      · exact absurd hX (by simp only [x_X9_told, if_neg c1, if_neg c2, if_neg c3]; decide)
  · exact absurd hX (by simp only [x_X9_told, if_pos c1]; decide)

abbrev wdX9_many : List Cond := Cond.code yX9_many cX9_many 2 (some .int) :: bwC
def x_X9_many (p1 : Int32) : Nat := if p1 < 0 then 1 else (if p1 ≤ 6 then (if p1 = 0 then 0 else (if p1 = 1 then 0 else (if p1 = 2 then 0 else (if p1 = 3 then 0 else (if p1 = 4 then 0 else (if p1 = 5 then 0 else 0)))))) else 1)
def s_X9_many (flg : Int32) (wwr : Int32) (lc : Nat) (fc : Nat) (pv : Nat) (pn : Nat) (cr : Nat → Int32) (cn : Nat → Int32) (p1 : Int32) : Int32 := if p1 < 0 then 0 else (if p1 ≤ 6 then (if p1 = 0 then nI pv else (if p1 = 1 then nI pn else (if p1 = 2 then nI fc else (if p1 = 3 then nI lc else (if p1 = 4 then s_J6_bitCount_0f7a4 flg else (if p1 = 5 then s_X0_countDead wwr pn cr else s_X0_mostWanted pn cn)))))) else 0)
set_option maxHeartbeats 4000000 in
set_option maxRecDepth 100000 in
theorem c_X9_many (l : Launch) (G : sxG) (z : Nat) (h : Nat) (r : Nat) (x : Nat) (g : Nat) (rr : Nat) (xx : Nat) (rns : Int32) (od : Nat) (ow : Nat) (ol : Nat) (oq : Nat) (r1 : Nat) (r2 : Nat) (r3 : Nat) (r4 : Nat) (r5 : Nat) (r6 : Nat) (r7 : Nat) (flg : Int32) (w1 : Nat) (w2 : Nat) (w3 : Nat) (w4 : Nat) (w5 : Nat) (w6 : Nat) (wdp : Int32) (wwr : Int32) (l1 : Nat) (l2 : Nat) (l3 : Nat) (l4 : Nat) (lc : Nat) (m0 : Nat) (m1 : Nat) (m2 : Nat) (m3 : Nat) (fc : Nat) (k0 : Nat) (k1 : Nat) (k2 : Nat) (k3 : Nat) (pv : Nat) (pn : Nat) (cr : Nat → Int32) (cn : Nat → Int32) (p1 : Int32) (hn : pn ≤ 33) (hX : x_X9_many p1 = 0) : sxM l yX9_many wdX9_many 3 64 G [(z, .inr (9, [.ref h, .ref r, .ref x, .ref g, .ref rr, .ref xx, .int rns])), (r, .inr (0, [.ref h, .ref od, .ref ow, .ref ol, .ref oq, .ref r1, .ref r2, .ref r3, .ref r4, .ref r5, .ref r6, .ref r7, .int flg])), (ow, .inr (8, [.ref h, .ref w1, .ref w2, .ref w3, .ref w4, .ref w5, .ref w6, .int wdp, .int wwr])), (ol, .inr (3, [.ref h, .ref l1, .ref l2, .ref l3, .ref l4, .int (nI lc)])), (oq, .inr (2, [.ref m0, .ref m1, .ref m2, .ref m3, .int (nI fc)])), (h, .inr (5, [.ref k0, .ref k1, .ref k2, .ref k3, .int (nI pv), .int (nI pn)])), (r1, .inl (G.2.2, 34, .inl cr)), (r7, .inl (G.2.1, 34, .inl cn))] [.ref z, .int p1] (fun r => r = s_X9_many flg wwr lc fc pv pn cr cn p1) := by
  refine sxM.of (cc := cX9_many) (maxL := 2) (by decide) rfl (Nat.le_of_ble_eq_true rfl) ?_
  intro p e s m args below meth c ⟨hx, hb, hr, hml, hown, hlk, hts, hK⟩ hP ls hl
  have hl : lv_has ls 2 [(0, .ref z), (1, .int p1)] := hl
  refine lv_iload_n hx hb dX9_many_0 rfl (lv_at hl 1 rfl) ?_
  refine lv_if_lt (tgt := 10) hx hb dX9_many_1 (by decide) (fun c1 => ?_) (fun c1 => ?_)
  · exact absurd hX (by simp only [x_X9_many, if_pos c1]; decide)
  · refine lv_iload_n hx hb dX9_many_4 rfl (lv_at hl 1 rfl) ?_
    refine lv_bipush (v := 6) hx hb dX9_many_5 (by decide) ?_
    refine lv_icmp_le (tgt := 20) hx hb dX9_many_7 (by decide) (fun c2 => ?_) (fun c2 => ?_)
    · refine lv_iload_n hx hb dX9_many_20 rfl (lv_at hl 1 rfl) ?_
      by_cases c3 : p1 = 0
      · refine lv_tableIn (off := 39) (tgt := 60) hx hb dX9_many_21 (by rw [c3]; decide) (by rw [c3]; decide) (by rw [c3]; rfl) (by decide) ?_
        refine lv_aload_n hx hb dX9_many_60 rfl (lv_at hl 0 rfl) ?_
        refine va_get (D := G.1) (ci := 9) (v := .ref h) (C := RX9) (T := TX9) (N := 7) hx hb hts owX9 hown hK.1 hP 0 rfl rfl 0 (by decide) (bw9 (w := Cond.fieldLink RX9 12 "DropflagMill" "program" "LDropflagMill$Program;") hts 44 rfl) (fun _ h9 => h9) rfl dX9_many_61 ?_
        refine va_get (D := G.1) (ci := 5) (v := .int (nI pv)) (C := RX5) (T := TX5) (N := 6) hx hb hts owX5 hown hK.1 hP 5 rfl rfl 4 (by decide) (bw10 (w := Cond.fieldLink RX9 61 "DropflagMill$Program" "variables" "I") hts 10 rfl) (fun _ h9 => h9) rfl dX9_many_64 ?_
        exact sx_ret hx hb hr hlk rfl (by simp only [s_X9_many, if_neg c1, if_pos c2, if_pos c3]) dX9_many_67
      · by_cases c4 : p1 = 1
        · refine lv_tableIn (off := 47) (tgt := 68) hx hb dX9_many_21 (by rw [c4]; decide) (by rw [c4]; decide) (by rw [c4]; rfl) (by decide) ?_
          refine lv_aload_n hx hb dX9_many_68 rfl (lv_at hl 0 rfl) ?_
          refine va_get (D := G.1) (ci := 9) (v := .ref h) (C := RX9) (T := TX9) (N := 7) hx hb hts owX9 hown hK.1 hP 0 rfl rfl 0 (by decide) (bw9 (w := Cond.fieldLink RX9 12 "DropflagMill" "program" "LDropflagMill$Program;") hts 44 rfl) (fun _ h9 => h9) rfl dX9_many_69 ?_
          refine va_get (D := G.1) (ci := 5) (v := .int (nI pn)) (C := RX5) (T := TX5) (N := 6) hx hb hts owX5 hown hK.1 hP 5 rfl rfl 5 (by decide) (bw10 (w := Cond.fieldLink RX9 79 "DropflagMill$Program" "lines" "I") hts 15 rfl) (fun _ h9 => h9) rfl dX9_many_72 ?_
          exact sx_ret hx hb hr hlk rfl (by simp only [s_X9_many, if_neg c1, if_pos c2, if_neg c3, if_pos c4]) dX9_many_75
        · by_cases c5 : p1 = 2
          · refine lv_tableIn (off := 55) (tgt := 76) hx hb dX9_many_21 (by rw [c5]; decide) (by rw [c5]; decide) (by rw [c5]; rfl) (by decide) ?_
            refine lv_aload_n hx hb dX9_many_76 rfl (lv_at hl 0 rfl) ?_
            refine va_get (D := G.1) (ci := 9) (v := .ref r) (C := RX9) (T := TX9) (N := 7) hx hb hts owX9 hown hK.1 hP 0 rfl rfl 1 (by decide) (bw9 (w := Cond.fieldLink RX9 21 "DropflagMill" "check" "LDropflagMill$Check;") hts 47 rfl) (fun _ h9 => h9) rfl dX9_many_77 ?_
            refine va_get (D := G.1) (ci := 0) (v := .ref oq) (C := RX0) (T := TX0) (N := 13) hx hb hts owX0 hown hK.1 hP 1 rfl rfl 4 (by decide) (bw11 (w := Cond.fieldLink RX9 187 "DropflagMill$Check" "faults" "LDropflagMill$Faults;") hts 5 rfl) (fun _ h9 => h9) rfl dX9_many_80 ?_
            refine va_get (D := G.1) (ci := 2) (v := .int (nI fc)) (C := RX2) (T := TX2) (N := 5) hx hb hts owX2 hown hK.1 hP 4 rfl rfl 4 (by decide) (bw11 (w := Cond.fieldLink RX9 221 "DropflagMill$Faults" "count" "I") hts 23 rfl) (fun _ h9 => h9) rfl dX9_many_83 ?_
            exact sx_ret hx hb hr hlk rfl (by simp only [s_X9_many, if_neg c1, if_pos c2, if_neg c3, if_neg c4, if_pos c5]) dX9_many_86
          · by_cases c6 : p1 = 3
            · refine lv_tableIn (off := 66) (tgt := 87) hx hb dX9_many_21 (by rw [c6]; decide) (by rw [c6]; decide) (by rw [c6]; rfl) (by decide) ?_
              refine lv_aload_n hx hb dX9_many_87 rfl (lv_at hl 0 rfl) ?_
              refine va_get (D := G.1) (ci := 9) (v := .ref r) (C := RX9) (T := TX9) (N := 7) hx hb hts owX9 hown hK.1 hP 0 rfl rfl 1 (by decide) (bw9 (w := Cond.fieldLink RX9 21 "DropflagMill" "check" "LDropflagMill$Check;") hts 47 rfl) (fun _ h9 => h9) rfl dX9_many_88 ?_
              refine va_get (D := G.1) (ci := 0) (v := .ref ol) (C := RX0) (T := TX0) (N := 13) hx hb hts owX0 hown hK.1 hP 1 rfl rfl 3 (by decide) (bw10 (w := Cond.fieldLink RX9 164 "DropflagMill$Check" "loans" "LDropflagMill$Loans;") hts 54 rfl) (fun _ h9 => h9) rfl dX9_many_91 ?_
              refine va_get (D := G.1) (ci := 3) (v := .int (nI lc)) (C := RX3) (T := TX3) (N := 6) hx hb hts owX3 hown hK.1 hP 3 rfl rfl 5 (by decide) (bw11 (w := Cond.fieldLink RX9 272 "DropflagMill$Loans" "count" "I") hts 47 rfl) (fun _ h9 => h9) rfl dX9_many_94 ?_
              exact sx_ret hx hb hr hlk rfl (by simp only [s_X9_many, if_neg c1, if_pos c2, if_neg c3, if_neg c4, if_neg c5, if_pos c6]) dX9_many_97
            · by_cases c7 : p1 = 4
              · refine lv_tableIn (off := 77) (tgt := 98) hx hb dX9_many_21 (by rw [c7]; decide) (by rw [c7]; decide) (by rw [c7]; rfl) (by decide) ?_
                refine lv_aload_n hx hb dX9_many_98 rfl (lv_at hl 0 rfl) ?_
                refine va_get (D := G.1) (ci := 9) (v := .ref r) (C := RX9) (T := TX9) (N := 7) hx hb hts owX9 hown hK.1 hP 0 rfl rfl 1 (by decide) (bw9 (w := Cond.fieldLink RX9 21 "DropflagMill" "check" "LDropflagMill$Check;") hts 47 rfl) (fun _ h9 => h9) rfl dX9_many_99 ?_
                refine va_get (D := G.1) (ci := 0) (v := .int flg) (C := RX0) (T := TX0) (N := 13) hx hb hts owX0 hown hK.1 hP 1 rfl rfl 12 (by decide) (bw11 (w := Cond.fieldLink RX9 273 "DropflagMill$Check" "flags" "I") hts 48 rfl) (fun _ h9 => h9) rfl dX9_many_102 ?_
                refine sx_s (As := [.int flg]) (rest := []) hx hb hml hown hts (c_J6_bitCount_0f7a4 l G flg ) 1 (sxGS (bi11 (w := Cond.methodLink RX9 276 yJ6_bitCount_0f7a4) 49 rfl) (bi5 (w := Cond.static yJ6_bitCount_0f7a4) 23 rfl) (bi4 (w := Cond.initialized RJ6) 9 rfl) (bi5 (w := Cond.code yJ6_bitCount_0f7a4 cJ6_bitCount_0f7a4 1 (some .int)) 13 rfl)) rfl (by decide +kernel) ⟨Nat.le_of_ble_eq_true rfl, Nat.le_of_ble_eq_true rfl⟩ hK hP [] rfl rfl hl rfl (Nat.le_of_ble_eq_true rfl) ⟨Nat.zero_le _, Nat.zero_le _⟩ dX9_many_105 (fun r er => ?_)
                subst er
                exact sx_ret hx hb hr hlk rfl (by simp only [s_X9_many, if_neg c1, if_pos c2, if_neg c3, if_neg c4, if_neg c5, if_neg c6, if_pos c7]) dX9_many_108
              · by_cases c8 : p1 = 5
                · refine lv_tableIn (off := 88) (tgt := 109) hx hb dX9_many_21 (by rw [c8]; decide) (by rw [c8]; decide) (by rw [c8]; rfl) (by decide) ?_
                  refine lv_aload_n hx hb dX9_many_109 rfl (lv_at hl 0 rfl) ?_
                  refine va_get (D := G.1) (ci := 9) (v := .ref r) (C := RX9) (T := TX9) (N := 7) hx hb hts owX9 hown hK.1 hP 0 rfl rfl 1 (by decide) (bw9 (w := Cond.fieldLink RX9 21 "DropflagMill" "check" "LDropflagMill$Check;") hts 47 rfl) (fun _ h9 => h9) rfl dX9_many_110 ?_
                  refine sx_v (As := []) (rest := []) hx hb hml hown hts (c_X0_countDead l G r h od ow ol oq r1 r2 r3 r4 r5 r6 r7 flg w1 w2 w3 w4 w5 w6 wdp wwr k0 k1 k2 k3 pv pn cr (by omega)) 0 (sxGV (bi11 (w := Cond.methodLink RX9 281 yX0_countDead) 50 rfl) (bi11 (w := Cond.instanceMethod yX0_countDead) 51 rfl) (bi11 (w := Cond.selects RX0 yX0_countDead yX0_countDead) 52 rfl) (bi2 (w := Cond.initialized RX0) 52 rfl) (bi5 (w := Cond.code yX0_countDead cX0_countDead 3 (some .int)) 9 rfl)) rfl (by decide +kernel) ⟨Nat.le_of_ble_eq_true rfl, Nat.le_of_ble_eq_true rfl⟩ hK hP [1, 2, 5, 6] rfl 0 rfl rfl rfl hl rfl (Nat.le_of_ble_eq_true rfl) ⟨Nat.zero_le _, Nat.zero_le _⟩ dX9_many_113 (fun r er => ?_)
                  subst er
                  exact sx_ret hx hb hr hlk rfl (by simp only [s_X9_many, if_neg c1, if_pos c2, if_neg c3, if_neg c4, if_neg c5, if_neg c6, if_neg c7, if_pos c8]) dX9_many_116
                · refine lv_tableOut (tgt := 117) hx hb dX9_many_21 (by have := lv_neT (a := 0) c3 rfl; have := lv_neT (a := 1) c4 rfl; have := lv_neT (a := 2) c5 rfl; have := lv_neT (a := 3) c6 rfl; have := lv_neT (a := 4) c7 rfl; have := lv_neT (a := 5) c8 rfl; omega) (by decide) ?_
                  refine lv_aload_n hx hb dX9_many_117 rfl (lv_at hl 0 rfl) ?_
                  refine va_get (D := G.1) (ci := 9) (v := .ref r) (C := RX9) (T := TX9) (N := 7) hx hb hts owX9 hown hK.1 hP 0 rfl rfl 1 (by decide) (bw9 (w := Cond.fieldLink RX9 21 "DropflagMill" "check" "LDropflagMill$Check;") hts 47 rfl) (fun _ h9 => h9) rfl dX9_many_118 ?_
                  refine sx_v (As := []) (rest := []) hx hb hml hown hts (c_X0_mostWanted l G r h od ow ol oq r1 r2 r3 r4 r5 r6 r7 flg k0 k1 k2 k3 pv pn cn (by omega)) 0 (sxGV (bi11 (w := Cond.methodLink RX9 284 yX0_mostWanted) 53 rfl) (bi11 (w := Cond.instanceMethod yX0_mostWanted) 54 rfl) (bi11 (w := Cond.selects RX0 yX0_mostWanted yX0_mostWanted) 55 rfl) (bi2 (w := Cond.initialized RX0) 52 rfl) (bi5 (w := Cond.code yX0_mostWanted cX0_mostWanted 3 (some .int)) 17 rfl)) rfl (by decide +kernel) ⟨Nat.le_of_ble_eq_true rfl, Nat.le_of_ble_eq_true rfl⟩ hK hP [1, 5, 7] rfl 0 rfl rfl rfl hl rfl (Nat.le_of_ble_eq_true rfl) ⟨Nat.zero_le _, Nat.zero_le _⟩ dX9_many_121 (fun r er => ?_)
                  subst er
                  exact sx_ret hx hb hr hlk rfl (by simp only [s_X9_many, if_neg c1, if_pos c2, if_neg c3, if_neg c4, if_neg c5, if_neg c6, if_neg c7, if_neg c8]) dX9_many_124
    · exact absurd hX (by simp only [x_X9_many, if_neg c1, if_neg c2]; decide)
