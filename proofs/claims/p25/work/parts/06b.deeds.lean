abbrev wdX1_takenAt : List Cond := Cond.code yX1_takenAt cX1_takenAt 7 (some .int) :: bwC
def s_X1_takenAt (pv : Nat) (pn : Nat) (fk : Nat → Int32) (fs : Nat → Int32) (fa : Nat → Int32) (fb : Nat → Int32) (p1 : Int32) (p2 : Int32) : Int32 := if p2 = 0 then (if (s_X5_sortAt pn fs p1) = 0 then s_X5_aAt pn fa p1 else (if (s_X5_sortAt pn fs p1) = 1 then (if (s_X9_isBorrowKind (s_X5_kindAt pv fk (s_X5_aAt pn fa p1))) = 0 then s_X5_aAt pn fa p1 else (-1)) else (if (s_X5_sortAt pn fs p1) = 2 then (if (s_X5_kindAt pv fk (s_X5_aAt pn fa p1)) = 0 then s_X5_bAt pn fb p1 else (-1)) else (if (s_X5_sortAt pn fs p1) = 3 then s_X5_bAt pn fb p1 else (if (s_X5_sortAt pn fs p1) = 4 then s_X5_bAt pn fb p1 else (if (s_X5_sortAt pn fs p1) = 5 then (if (s_X9_isBorrowKind (s_X5_kindAt pv fk (s_X5_aAt pn fa p1))) = 0 then s_X5_aAt pn fa p1 else (-1)) else (if (s_X5_sortAt pn fs p1) = 6 then (if (s_X9_isBorrowKind (s_X5_kindAt pv fk (s_X5_aAt pn fa p1))) = 0 then s_X5_aAt pn fa p1 else (-1)) else (if (s_X5_sortAt pn fs p1) = 7 then s_X5_aAt pn fa p1 else (if (s_X5_sortAt pn fs p1) = 8 then s_X5_aAt pn fa p1 else (if (s_X5_sortAt pn fs p1) = 9 then (-1) else (if (s_X5_sortAt pn fs p1) = 10 then (-1) else (if (s_X5_sortAt pn fs p1) = 11 then (-1) else (if (s_X5_sortAt pn fs p1) = 12 then (-1) else (if (s_X5_sortAt pn fs p1) = 13 then (-1) else (if (s_X5_sortAt pn fs p1) = 14 then (-1) else (if (s_X5_sortAt pn fs p1) = 15 then (-1) else (if (s_X5_sortAt pn fs p1) = 16 then s_X5_aAt pn fa p1 else (-1)))))))))))))))))) else (if (s_X5_sortAt pn fs p1) = 0 then (-1) else (if (s_X5_sortAt pn fs p1) = 1 then (if (s_X9_isBorrowKind (s_X5_kindAt pv fk (s_X5_aAt pn fa p1))) = 0 then s_X5_bAt pn fb p1 else (-1)) else (if (s_X5_sortAt pn fs p1) = 2 then (if (s_X5_kindAt pv fk (s_X5_aAt pn fa p1)) = 0 then s_X5_aAt pn fa p1 else (-1)) else (if (s_X5_sortAt pn fs p1) = 3 then (-1) else (if (s_X5_sortAt pn fs p1) = 4 then (-1) else (if (s_X5_sortAt pn fs p1) = 5 then (-1) else (if (s_X5_sortAt pn fs p1) = 6 then (-1) else (if (s_X5_sortAt pn fs p1) = 7 then (-1) else (if (s_X5_sortAt pn fs p1) = 8 then (-1) else (if (s_X5_sortAt pn fs p1) = 9 then (-1) else (if (s_X5_sortAt pn fs p1) = 10 then (-1) else (if (s_X5_sortAt pn fs p1) = 11 then (-1) else (if (s_X5_sortAt pn fs p1) = 12 then (-1) else (if (s_X5_sortAt pn fs p1) = 13 then (-1) else (if (s_X5_sortAt pn fs p1) = 14 then (-1) else (if (s_X5_sortAt pn fs p1) = 15 then (-1) else (if (s_X5_sortAt pn fs p1) = 16 then (-1) else (-1))))))))))))))))))
set_option maxHeartbeats 4000000 in
set_option maxRecDepth 100000 in
theorem c_X1_takenAt (l : Launch) (G : sxG) (o : Nat) (h : Nat) (d1 : Nat) (d2 : Nat) (d3 : Nat) (d4 : Nat) (d5 : Nat) (d6 : Nat) (d7 : Nat) (d8 : Nat) (d9 : Nat) (k0 : Nat) (k1 : Nat) (k2 : Nat) (k3 : Nat) (pv : Nat) (pn : Nat) (fk : Nat → Int32) (fs : Nat → Int32) (fa : Nat → Int32) (fb : Nat → Int32) (p1 : Int32) (p2 : Int32) (hn : pn ≤ 33) (hv : pv ≤ 8) : sxM l yX1_takenAt wdX1_takenAt 2 42 G [(o, .inr (1, [.ref h, .ref d1, .ref d2, .ref d3, .ref d4, .ref d5, .ref d6, .ref d7, .ref d8, .ref d9])), (h, .inr (5, [.ref k0, .ref k1, .ref k2, .ref k3, .int (nI pv), .int (nI pn)])), (k0, .inl (G.2.1, 8, .inl fk)), (k1, .inl (G.2.1, 34, .inl fs)), (k2, .inl (G.2.1, 34, .inl fa)), (k3, .inl (G.2.1, 34, .inl fb))] [.ref o, .int p1, .int p2] (fun r => r = s_X1_takenAt pv pn fk fs fa fb p1 p2) := by
  refine sxM.of (cc := cX1_takenAt) (maxL := 7) (by decide) rfl (Nat.le_of_ble_eq_true rfl) ?_
  intro p e s m args below meth c ⟨hx, hb, hr, hml, hown, hlk, hts, hK⟩ hP ls hl
  have hl : lv_has ls 7 [(0, .ref o), (1, .int p1), (2, .int p2)] := hl
  refine lv_aload_n hx hb dX1_takenAt_0 rfl (lv_at hl 0 rfl) ?_
  refine va_get (D := G.1) (ci := 1) (v := .ref h) (C := RX1) (T := TX1) (N := 10) hx hb hts owX1 hown hK.1 hP 0 rfl rfl 0 (by decide) (bw0 (w := Cond.fieldLink RX1 9 "DropflagMill$Deeds" "program" "LDropflagMill$Program;") hts 4 rfl) (fun _ h9 => h9) rfl dX1_takenAt_1 ?_
  refine lv_iload_n hx hb dX1_takenAt_4 rfl (lv_at hl 1 rfl) ?_
  refine sx_v (As := [.int p1]) (rest := []) hx hb hml hown hts (c_X5_aAt l G h k0 k1 k2 k3 pv pn fa p1 (by omega)) 1 (sxGV (bi1 (w := Cond.methodLink RX1 71 yX5_aAt) 42 rfl) (bi1 (w := Cond.instanceMethod yX5_aAt) 43 rfl) (bi1 (w := Cond.selects RX5 yX5_aAt yX5_aAt) 44 rfl) (bi1 (w := Cond.initialized RX5) 30 rfl) (bi1 (w := Cond.code yX5_aAt cX5_aAt 2 (some .int)) 33 rfl)) rfl (by decide +kernel) ⟨Nat.le_of_ble_eq_true rfl, Nat.le_of_ble_eq_true rfl⟩ hK hP [1, 4] rfl 0 rfl rfl rfl hl rfl (Nat.le_of_ble_eq_true rfl) ⟨Nat.zero_le _, Nat.zero_le _⟩ dX1_takenAt_5 (fun r er => ?_)
  subst er
  refine lv_istore_n (lv' := [(3, .int (s_X5_aAt pn fa p1)), (0, .ref o), (1, .int p1), (2, .int p2)]) hx hb dX1_takenAt_8 rfl hl (by decide) rfl (fun ls hl => ?_)
  refine lv_aload_n hx hb dX1_takenAt_9 rfl (lv_at hl 1 rfl) ?_
  refine va_get (D := G.1) (ci := 1) (v := .ref h) (C := RX1) (T := TX1) (N := 10) hx hb hts owX1 hown hK.1 hP 0 rfl rfl 0 (by decide) (bw0 (w := Cond.fieldLink RX1 9 "DropflagMill$Deeds" "program" "LDropflagMill$Program;") hts 4 rfl) (fun _ h9 => h9) rfl dX1_takenAt_10 ?_
  refine lv_iload_n hx hb dX1_takenAt_13 rfl (lv_at hl 2 rfl) ?_
  refine sx_v (As := [.int p1]) (rest := []) hx hb hml hown hts (c_X5_bAt l G h k0 k1 k2 k3 pv pn fb p1 (by omega)) 1 (sxGV (bi1 (w := Cond.methodLink RX1 56 yX5_bAt) 39 rfl) (bi1 (w := Cond.instanceMethod yX5_bAt) 40 rfl) (bi1 (w := Cond.selects RX5 yX5_bAt yX5_bAt) 41 rfl) (bi1 (w := Cond.initialized RX5) 30 rfl) (bi1 (w := Cond.code yX5_bAt cX5_bAt 2 (some .int)) 31 rfl)) rfl (by decide +kernel) ⟨Nat.le_of_ble_eq_true rfl, Nat.le_of_ble_eq_true rfl⟩ hK hP [1, 5] rfl 0 rfl rfl rfl hl rfl (Nat.le_of_ble_eq_true rfl) ⟨Nat.zero_le _, Nat.zero_le _⟩ dX1_takenAt_14 (fun r er => ?_)
  subst er
  refine lv_istore (lv' := [(4, .int (s_X5_bAt pn fb p1)), (3, .int (s_X5_aAt pn fa p1)), (0, .ref o), (1, .int p1), (2, .int p2)]) hx hb dX1_takenAt_17 hl (by decide) rfl (fun ls hl => ?_)
  refine lv_iload_n hx hb dX1_takenAt_19 rfl (lv_at hl 4 rfl) ?_
  refine lv_if_ne (tgt := 27) hx hb dX1_takenAt_20 (by decide) (fun c1 => ?_) (fun c1 => ?_)
  · refine lv_iconst (v := 0) hx hb dX1_takenAt_27 (by decide) ?_
    refine lv_istore (lv' := [(5, .int 0), (4, .int (s_X5_bAt pn fb p1)), (3, .int (s_X5_aAt pn fa p1)), (0, .ref o), (1, .int p1), (2, .int p2)]) hx hb dX1_takenAt_28 hl (by decide) rfl (fun ls hl => ?_)
    refine lv_aload_n hx hb dX1_takenAt_30 rfl (lv_at hl 3 rfl) ?_
    refine va_get (D := G.1) (ci := 1) (v := .ref h) (C := RX1) (T := TX1) (N := 10) hx hb hts owX1 hown hK.1 hP 0 rfl rfl 0 (by decide) (bw0 (w := Cond.fieldLink RX1 9 "DropflagMill$Deeds" "program" "LDropflagMill$Program;") hts 4 rfl) (fun _ h9 => h9) rfl dX1_takenAt_31 ?_
    refine lv_iload_n hx hb dX1_takenAt_34 rfl (lv_at hl 2 rfl) ?_
    refine sx_v (As := [.int (s_X5_aAt pn fa p1)]) (rest := []) hx hb hml hown hts (c_X5_kindAt l G h k0 k1 k2 k3 pv pn fk (s_X5_aAt pn fa p1) (by omega)) 1 (sxGV (bi1 (w := Cond.methodLink RX1 74 yX5_kindAt) 56 rfl) (bi1 (w := Cond.instanceMethod yX5_kindAt) 51 rfl) (bi1 (w := Cond.selects RX5 yX5_kindAt yX5_kindAt) 52 rfl) (bi1 (w := Cond.initialized RX5) 30 rfl) (bi1 (w := Cond.code yX5_kindAt cX5_kindAt 3 (some .int)) 46 rfl)) rfl (by decide +kernel) ⟨Nat.le_of_ble_eq_true rfl, Nat.le_of_ble_eq_true rfl⟩ hK hP [1, 2] rfl 0 rfl rfl rfl hl rfl (Nat.le_of_ble_eq_true rfl) ⟨Nat.zero_le _, Nat.zero_le _⟩ dX1_takenAt_35 (fun r er => ?_)
    subst er
    refine lv_istore (lv' := [(6, .int (s_X5_kindAt pv fk (s_X5_aAt pn fa p1))), (5, .int 0), (4, .int (s_X5_bAt pn fb p1)), (3, .int (s_X5_aAt pn fa p1)), (0, .ref o), (1, .int p1), (2, .int p2)]) hx hb dX1_takenAt_38 hl (by decide) rfl (fun ls hl => ?_)
    refine lv_aload_n hx hb dX1_takenAt_40 rfl (lv_at hl 4 rfl) ?_
    refine va_get (D := G.1) (ci := 1) (v := .ref h) (C := RX1) (T := TX1) (N := 10) hx hb hts owX1 hown hK.1 hP 0 rfl rfl 0 (by decide) (bw0 (w := Cond.fieldLink RX1 9 "DropflagMill$Deeds" "program" "LDropflagMill$Program;") hts 4 rfl) (fun _ h9 => h9) rfl dX1_takenAt_41 ?_
    refine lv_iload_n hx hb dX1_takenAt_44 rfl (lv_at hl 5 rfl) ?_
    refine sx_v (As := [.int p1]) (rest := []) hx hb hml hown hts (c_X5_sortAt l G h k0 k1 k2 k3 pv pn fs p1 (by omega)) 1 (sxGV (bi1 (w := Cond.methodLink RX1 53 yX5_sortAt) 36 rfl) (bi1 (w := Cond.instanceMethod yX5_sortAt) 37 rfl) (bi1 (w := Cond.selects RX5 yX5_sortAt yX5_sortAt) 38 rfl) (bi1 (w := Cond.initialized RX5) 30 rfl) (bi1 (w := Cond.code yX5_sortAt cX5_sortAt 2 (some .int)) 25 rfl)) rfl (by decide +kernel) ⟨Nat.le_of_ble_eq_true rfl, Nat.le_of_ble_eq_true rfl⟩ hK hP [1, 3] rfl 0 rfl rfl rfl hl rfl (Nat.le_of_ble_eq_true rfl) ⟨Nat.zero_le _, Nat.zero_le _⟩ dX1_takenAt_45 (fun r er => ?_)
    subst er
    by_cases c2 : (s_X5_sortAt pn fs p1) = 0
    · refine lv_tableIn (off := 156) (tgt := 204) hx hb dX1_takenAt_48 (by rw [c2]; decide) (by rw [c2]; decide) (by rw [c2]; rfl) (by decide) ?_
      refine lv_iload hx hb dX1_takenAt_204 (lv_at hl 1 rfl) ?_
      refine lv_if_eq (tgt := 213) hx hb dX1_takenAt_206 (by decide) (fun c3 => ?_) (fun c3 => absurd c3 (by decide))
      refine lv_iconst (v := (-1)) hx hb dX1_takenAt_213 (by decide) ?_
      exact sx_ret hx hb hr hlk rfl (by simp only [s_X1_takenAt, if_neg c1, if_pos c2]) dX1_takenAt_214
    · by_cases c4 : (s_X5_sortAt pn fs p1) = 1
      · refine lv_tableIn (off := 103) (tgt := 151) hx hb dX1_takenAt_48 (by rw [c4]; decide) (by rw [c4]; decide) (by rw [c4]; rfl) (by decide) ?_
        refine lv_iload hx hb dX1_takenAt_151 (lv_at hl 0 rfl) ?_
        refine sx_sn (As := [.int (s_X5_kindAt pv fk (s_X5_aAt pn fa p1))]) (rest := []) hx hb hml hown hts (c_X9_isBorrowKind l G (s_X5_kindAt pv fk (s_X5_aAt pn fa p1)) ) 1 (sxGC (bi1 (w := Cond.code yX9_isBorrowKind cX9_isBorrowKind 1 (some .boolean)) 54 rfl)) rfl (hK.2.at 0 rfl) (List.mem_cons_of_mem _ (bi1 (w := Cond.initialized RX9) 58 rfl)) (List.mem_cons_of_mem _ (bi1 (w := Cond.static yX9_isBorrowKind) 57 rfl)) (by decide +kernel) ⟨Nat.le_of_ble_eq_true rfl, Nat.le_of_ble_eq_true rfl⟩ hK hP [] rfl rfl hl rfl (Nat.le_of_ble_eq_true rfl) ⟨Nat.zero_le _, Nat.zero_le _⟩ dX1_takenAt_153 (fun r er => ?_)
        subst er
        refine lv_if_eq (tgt := 161) hx hb dX1_takenAt_156 (by decide) (fun c5 => ?_) (fun c5 => ?_)
        · refine lv_iload hx hb dX1_takenAt_161 (lv_at hl 1 rfl) ?_
          refine lv_if_eq (tgt := 170) hx hb dX1_takenAt_163 (by decide) (fun c6 => ?_) (fun c6 => absurd c6 (by decide))
          refine lv_iload hx hb dX1_takenAt_170 (lv_at hl 2 rfl) ?_
          exact sx_ret hx hb hr hlk rfl (by simp only [s_X1_takenAt, if_neg c1, if_neg c2, if_pos c4, if_pos c5]) dX1_takenAt_172
        · refine lv_iconst (v := (-1)) hx hb dX1_takenAt_159 (by decide) ?_
          exact sx_ret hx hb hr hlk rfl (by simp only [s_X1_takenAt, if_neg c1, if_neg c2, if_pos c4, if_neg c5]) dX1_takenAt_160
      · by_cases c7 : (s_X5_sortAt pn fs p1) = 2
        · refine lv_tableIn (off := 84) (tgt := 132) hx hb dX1_takenAt_48 (by rw [c7]; decide) (by rw [c7]; decide) (by rw [c7]; rfl) (by decide) ?_
          refine lv_iload hx hb dX1_takenAt_132 (lv_at hl 0 rfl) ?_
          refine lv_if_eq (tgt := 139) hx hb dX1_takenAt_134 (by decide) (fun c8 => ?_) (fun c8 => ?_)
          · refine lv_iload hx hb dX1_takenAt_139 (lv_at hl 1 rfl) ?_
            refine lv_if_eq (tgt := 149) hx hb dX1_takenAt_141 (by decide) (fun c9 => ?_) (fun c9 => absurd c9 (by decide))
            refine lv_iload_n hx hb dX1_takenAt_149 rfl (lv_at hl 3 rfl) ?_
            exact sx_ret hx hb hr hlk rfl (by simp only [s_X1_takenAt, if_neg c1, if_neg c2, if_neg c4, if_pos c7, if_pos c8]) dX1_takenAt_150
          · refine lv_iconst (v := (-1)) hx hb dX1_takenAt_137 (by decide) ?_
            exact sx_ret hx hb hr hlk rfl (by simp only [s_X1_takenAt, if_neg c1, if_neg c2, if_neg c4, if_pos c7, if_neg c8]) dX1_takenAt_138
        · by_cases c10 : (s_X5_sortAt pn fs p1) = 3
          · refine lv_tableIn (off := 125) (tgt := 173) hx hb dX1_takenAt_48 (by rw [c10]; decide) (by rw [c10]; decide) (by rw [c10]; rfl) (by decide) ?_
            refine lv_iload hx hb dX1_takenAt_173 (lv_at hl 1 rfl) ?_
            refine lv_if_eq (tgt := 183) hx hb dX1_takenAt_175 (by decide) (fun c11 => ?_) (fun c11 => absurd c11 (by decide))
            refine lv_iconst (v := (-1)) hx hb dX1_takenAt_183 (by decide) ?_
            exact sx_ret hx hb hr hlk rfl (by simp only [s_X1_takenAt, if_neg c1, if_neg c2, if_neg c4, if_neg c7, if_pos c10]) dX1_takenAt_184
          · by_cases c12 : (s_X5_sortAt pn fs p1) = 4
            · refine lv_tableIn (off := 125) (tgt := 173) hx hb dX1_takenAt_48 (by rw [c12]; decide) (by rw [c12]; decide) (by rw [c12]; rfl) (by decide) ?_
              refine lv_iload hx hb dX1_takenAt_173 (lv_at hl 1 rfl) ?_
              refine lv_if_eq (tgt := 183) hx hb dX1_takenAt_175 (by decide) (fun c13 => ?_) (fun c13 => absurd c13 (by decide))
              refine lv_iconst (v := (-1)) hx hb dX1_takenAt_183 (by decide) ?_
              exact sx_ret hx hb hr hlk rfl (by simp only [s_X1_takenAt, if_neg c1, if_neg c2, if_neg c4, if_neg c7, if_neg c10, if_pos c12]) dX1_takenAt_184
            · by_cases c14 : (s_X5_sortAt pn fs p1) = 5
              · refine lv_tableIn (off := 137) (tgt := 185) hx hb dX1_takenAt_48 (by rw [c14]; decide) (by rw [c14]; decide) (by rw [c14]; rfl) (by decide) ?_
                refine lv_iload hx hb dX1_takenAt_185 (lv_at hl 1 rfl) ?_
                refine lv_if_eq (tgt := 202) hx hb dX1_takenAt_187 (by decide) (fun c15 => ?_) (fun c15 => absurd c15 (by decide))
                refine lv_iconst (v := (-1)) hx hb dX1_takenAt_202 (by decide) ?_
                exact sx_ret hx hb hr hlk rfl (by simp only [s_X1_takenAt, if_neg c1, if_neg c2, if_neg c4, if_neg c7, if_neg c10, if_neg c12, if_pos c14]) dX1_takenAt_203
              · by_cases c16 : (s_X5_sortAt pn fs p1) = 6
                · refine lv_tableIn (off := 137) (tgt := 185) hx hb dX1_takenAt_48 (by rw [c16]; decide) (by rw [c16]; decide) (by rw [c16]; rfl) (by decide) ?_
                  refine lv_iload hx hb dX1_takenAt_185 (lv_at hl 1 rfl) ?_
                  refine lv_if_eq (tgt := 202) hx hb dX1_takenAt_187 (by decide) (fun c17 => ?_) (fun c17 => absurd c17 (by decide))
                  refine lv_iconst (v := (-1)) hx hb dX1_takenAt_202 (by decide) ?_
                  exact sx_ret hx hb hr hlk rfl (by simp only [s_X1_takenAt, if_neg c1, if_neg c2, if_neg c4, if_neg c7, if_neg c10, if_neg c12, if_neg c14, if_pos c16]) dX1_takenAt_203
                · by_cases c18 : (s_X5_sortAt pn fs p1) = 7
                  · refine lv_tableIn (off := 156) (tgt := 204) hx hb dX1_takenAt_48 (by rw [c18]; decide) (by rw [c18]; decide) (by rw [c18]; rfl) (by decide) ?_
                    refine lv_iload hx hb dX1_takenAt_204 (lv_at hl 1 rfl) ?_
                    refine lv_if_eq (tgt := 213) hx hb dX1_takenAt_206 (by decide) (fun c19 => ?_) (fun c19 => absurd c19 (by decide))
                    refine lv_iconst (v := (-1)) hx hb dX1_takenAt_213 (by decide) ?_
                    exact sx_ret hx hb hr hlk rfl (by simp only [s_X1_takenAt, if_neg c1, if_neg c2, if_neg c4, if_neg c7, if_neg c10, if_neg c12, if_neg c14, if_neg c16, if_pos c18]) dX1_takenAt_214
                  · by_cases c20 : (s_X5_sortAt pn fs p1) = 8
                    · refine lv_tableIn (off := 156) (tgt := 204) hx hb dX1_takenAt_48 (by rw [c20]; decide) (by rw [c20]; decide) (by rw [c20]; rfl) (by decide) ?_
                      refine lv_iload hx hb dX1_takenAt_204 (lv_at hl 1 rfl) ?_
                      refine lv_if_eq (tgt := 213) hx hb dX1_takenAt_206 (by decide) (fun c21 => ?_) (fun c21 => absurd c21 (by decide))
                      refine lv_iconst (v := (-1)) hx hb dX1_takenAt_213 (by decide) ?_
                      exact sx_ret hx hb hr hlk rfl ((((if_neg c1).trans ((if_neg c2).trans ((if_neg c4).trans ((if_neg c7).trans ((if_neg c10).trans ((if_neg c12).trans ((if_neg c14).trans ((if_neg c16).trans ((if_neg c18).trans (if_pos c20))))))))))).symm) dX1_takenAt_214
                    · by_cases c22 : (s_X5_sortAt pn fs p1) = 9
                      · refine lv_tableIn (off := 167) (tgt := 215) hx hb dX1_takenAt_48 (by rw [c22]; decide) (by rw [c22]; decide) (by rw [c22]; rfl) (by decide) ?_
                        refine lv_iconst (v := (-1)) hx hb dX1_takenAt_215 (by decide) ?_
                        exact sx_ret hx hb hr hlk rfl ((((if_neg c1).trans ((if_neg c2).trans ((if_neg c4).trans ((if_neg c7).trans ((if_neg c10).trans ((if_neg c12).trans ((if_neg c14).trans ((if_neg c16).trans ((if_neg c18).trans ((if_neg c20).trans (if_pos c22)))))))))))).symm) dX1_takenAt_216
                      · by_cases c23 : (s_X5_sortAt pn fs p1) = 10
                        · refine lv_tableIn (off := 167) (tgt := 215) hx hb dX1_takenAt_48 (by rw [c23]; decide) (by rw [c23]; decide) (by rw [c23]; rfl) (by decide) ?_
                          refine lv_iconst (v := (-1)) hx hb dX1_takenAt_215 (by decide) ?_
                          exact sx_ret hx hb hr hlk rfl ((((if_neg c1).trans ((if_neg c2).trans ((if_neg c4).trans ((if_neg c7).trans ((if_neg c10).trans ((if_neg c12).trans ((if_neg c14).trans ((if_neg c16).trans ((if_neg c18).trans ((if_neg c20).trans ((if_neg c22).trans (if_pos c23))))))))))))).symm) dX1_takenAt_216
                        · by_cases c24 : (s_X5_sortAt pn fs p1) = 11
                          · refine lv_tableIn (off := 167) (tgt := 215) hx hb dX1_takenAt_48 (by rw [c24]; decide) (by rw [c24]; decide) (by rw [c24]; rfl) (by decide) ?_
                            refine lv_iconst (v := (-1)) hx hb dX1_takenAt_215 (by decide) ?_
                            exact sx_ret hx hb hr hlk rfl ((((if_neg c1).trans ((if_neg c2).trans ((if_neg c4).trans ((if_neg c7).trans ((if_neg c10).trans ((if_neg c12).trans ((if_neg c14).trans ((if_neg c16).trans ((if_neg c18).trans ((if_neg c20).trans ((if_neg c22).trans ((if_neg c23).trans (if_pos c24)))))))))))))).symm) dX1_takenAt_216
                          · by_cases c25 : (s_X5_sortAt pn fs p1) = 12
                            · refine lv_tableIn (off := 167) (tgt := 215) hx hb dX1_takenAt_48 (by rw [c25]; decide) (by rw [c25]; decide) (by rw [c25]; rfl) (by decide) ?_
                              refine lv_iconst (v := (-1)) hx hb dX1_takenAt_215 (by decide) ?_
                              exact sx_ret hx hb hr hlk rfl ((((if_neg c1).trans ((if_neg c2).trans ((if_neg c4).trans ((if_neg c7).trans ((if_neg c10).trans ((if_neg c12).trans ((if_neg c14).trans ((if_neg c16).trans ((if_neg c18).trans ((if_neg c20).trans ((if_neg c22).trans ((if_neg c23).trans ((if_neg c24).trans (if_pos c25))))))))))))))).symm) dX1_takenAt_216
                            · by_cases c26 : (s_X5_sortAt pn fs p1) = 13
                              · refine lv_tableIn (off := 167) (tgt := 215) hx hb dX1_takenAt_48 (by rw [c26]; decide) (by rw [c26]; decide) (by rw [c26]; rfl) (by decide) ?_
                                refine lv_iconst (v := (-1)) hx hb dX1_takenAt_215 (by decide) ?_
                                exact sx_ret hx hb hr hlk rfl ((((if_neg c1).trans ((if_neg c2).trans ((if_neg c4).trans ((if_neg c7).trans ((if_neg c10).trans ((if_neg c12).trans ((if_neg c14).trans ((if_neg c16).trans ((if_neg c18).trans ((if_neg c20).trans ((if_neg c22).trans ((if_neg c23).trans ((if_neg c24).trans ((if_neg c25).trans (if_pos c26)))))))))))))))).symm) dX1_takenAt_216
                              · by_cases c27 : (s_X5_sortAt pn fs p1) = 14
                                · refine lv_tableIn (off := 167) (tgt := 215) hx hb dX1_takenAt_48 (by rw [c27]; decide) (by rw [c27]; decide) (by rw [c27]; rfl) (by decide) ?_
                                  refine lv_iconst (v := (-1)) hx hb dX1_takenAt_215 (by decide) ?_
                                  exact sx_ret hx hb hr hlk rfl ((((if_neg c1).trans ((if_neg c2).trans ((if_neg c4).trans ((if_neg c7).trans ((if_neg c10).trans ((if_neg c12).trans ((if_neg c14).trans ((if_neg c16).trans ((if_neg c18).trans ((if_neg c20).trans ((if_neg c22).trans ((if_neg c23).trans ((if_neg c24).trans ((if_neg c25).trans ((if_neg c26).trans (if_pos c27))))))))))))))))).symm) dX1_takenAt_216
                                · by_cases c28 : (s_X5_sortAt pn fs p1) = 15
                                  · refine lv_tableIn (off := 167) (tgt := 215) hx hb dX1_takenAt_48 (by rw [c28]; decide) (by rw [c28]; decide) (by rw [c28]; rfl) (by decide) ?_
                                    refine lv_iconst (v := (-1)) hx hb dX1_takenAt_215 (by decide) ?_
                                    exact sx_ret hx hb hr hlk rfl ((((if_neg c1).trans ((if_neg c2).trans ((if_neg c4).trans ((if_neg c7).trans ((if_neg c10).trans ((if_neg c12).trans ((if_neg c14).trans ((if_neg c16).trans ((if_neg c18).trans ((if_neg c20).trans ((if_neg c22).trans ((if_neg c23).trans ((if_neg c24).trans ((if_neg c25).trans ((if_neg c26).trans ((if_neg c27).trans (if_pos c28)))))))))))))))))).symm) dX1_takenAt_216
                                  · by_cases c29 : (s_X5_sortAt pn fs p1) = 16
                                    · refine lv_tableIn (off := 156) (tgt := 204) hx hb dX1_takenAt_48 (by rw [c29]; decide) (by rw [c29]; decide) (by rw [c29]; rfl) (by decide) ?_
                                      refine lv_iload hx hb dX1_takenAt_204 (lv_at hl 1 rfl) ?_
                                      refine lv_if_eq (tgt := 213) hx hb dX1_takenAt_206 (by decide) (fun c30 => ?_) (fun c30 => absurd c30 (by decide))
                                      refine lv_iconst (v := (-1)) hx hb dX1_takenAt_213 (by decide) ?_
                                      exact sx_ret hx hb hr hlk rfl ((((if_neg c1).trans ((if_neg c2).trans ((if_neg c4).trans ((if_neg c7).trans ((if_neg c10).trans ((if_neg c12).trans ((if_neg c14).trans ((if_neg c16).trans ((if_neg c18).trans ((if_neg c20).trans ((if_neg c22).trans ((if_neg c23).trans ((if_neg c24).trans ((if_neg c25).trans ((if_neg c26).trans ((if_neg c27).trans ((if_neg c28).trans (if_pos c29))))))))))))))))))).symm) dX1_takenAt_214
                                    · refine lv_tableOut (tgt := 215) hx hb dX1_takenAt_48 (by have := lv_neT (a := 0) c2 rfl; have := lv_neT (a := 1) c4 rfl; have := lv_neT (a := 2) c7 rfl; have := lv_neT (a := 3) c10 rfl; have := lv_neT (a := 4) c12 rfl; have := lv_neT (a := 5) c14 rfl; have := lv_neT (a := 6) c16 rfl; have := lv_neT (a := 7) c18 rfl; have := lv_neT (a := 8) c20 rfl; have := lv_neT (a := 9) c22 rfl; have := lv_neT (a := 10) c23 rfl; have := lv_neT (a := 11) c24 rfl; have := lv_neT (a := 12) c25 rfl; have := lv_neT (a := 13) c26 rfl; have := lv_neT (a := 14) c27 rfl; have := lv_neT (a := 15) c28 rfl; have := lv_neT (a := 16) c29 rfl; omega) (by decide) ?_
                                      refine lv_iconst (v := (-1)) hx hb dX1_takenAt_215 (by decide) ?_
                                      exact sx_ret hx hb hr hlk rfl ((((if_neg c1).trans ((if_neg c2).trans ((if_neg c4).trans ((if_neg c7).trans ((if_neg c10).trans ((if_neg c12).trans ((if_neg c14).trans ((if_neg c16).trans ((if_neg c18).trans ((if_neg c20).trans ((if_neg c22).trans ((if_neg c23).trans ((if_neg c24).trans ((if_neg c25).trans ((if_neg c26).trans ((if_neg c27).trans ((if_neg c28).trans (if_neg c29))))))))))))))))))).symm) dX1_takenAt_216
  · refine lv_iconst (v := 1) hx hb dX1_takenAt_23 (by decide) ?_
    refine lv_goto (tgt := 28) hx hb dX1_takenAt_24 (by decide) ?_
    refine lv_istore (lv' := [(5, .int 1), (4, .int (s_X5_bAt pn fb p1)), (3, .int (s_X5_aAt pn fa p1)), (0, .ref o), (1, .int p1), (2, .int p2)]) hx hb dX1_takenAt_28 hl (by decide) rfl (fun ls hl => ?_)
    refine lv_aload_n hx hb dX1_takenAt_30 rfl (lv_at hl 3 rfl) ?_
    refine va_get (D := G.1) (ci := 1) (v := .ref h) (C := RX1) (T := TX1) (N := 10) hx hb hts owX1 hown hK.1 hP 0 rfl rfl 0 (by decide) (bw0 (w := Cond.fieldLink RX1 9 "DropflagMill$Deeds" "program" "LDropflagMill$Program;") hts 4 rfl) (fun _ h9 => h9) rfl dX1_takenAt_31 ?_
    refine lv_iload_n hx hb dX1_takenAt_34 rfl (lv_at hl 2 rfl) ?_
    refine sx_v (As := [.int (s_X5_aAt pn fa p1)]) (rest := []) hx hb hml hown hts (c_X5_kindAt l G h k0 k1 k2 k3 pv pn fk (s_X5_aAt pn fa p1) (by omega)) 1 (sxGV (bi1 (w := Cond.methodLink RX1 74 yX5_kindAt) 56 rfl) (bi1 (w := Cond.instanceMethod yX5_kindAt) 51 rfl) (bi1 (w := Cond.selects RX5 yX5_kindAt yX5_kindAt) 52 rfl) (bi1 (w := Cond.initialized RX5) 30 rfl) (bi1 (w := Cond.code yX5_kindAt cX5_kindAt 3 (some .int)) 46 rfl)) rfl (by decide +kernel) ⟨Nat.le_of_ble_eq_true rfl, Nat.le_of_ble_eq_true rfl⟩ hK hP [1, 2] rfl 0 rfl rfl rfl hl rfl (Nat.le_of_ble_eq_true rfl) ⟨Nat.zero_le _, Nat.zero_le _⟩ dX1_takenAt_35 (fun r er => ?_)
    subst er
    refine lv_istore (lv' := [(6, .int (s_X5_kindAt pv fk (s_X5_aAt pn fa p1))), (5, .int 1), (4, .int (s_X5_bAt pn fb p1)), (3, .int (s_X5_aAt pn fa p1)), (0, .ref o), (1, .int p1), (2, .int p2)]) hx hb dX1_takenAt_38 hl (by decide) rfl (fun ls hl => ?_)
    refine lv_aload_n hx hb dX1_takenAt_40 rfl (lv_at hl 4 rfl) ?_
    refine va_get (D := G.1) (ci := 1) (v := .ref h) (C := RX1) (T := TX1) (N := 10) hx hb hts owX1 hown hK.1 hP 0 rfl rfl 0 (by decide) (bw0 (w := Cond.fieldLink RX1 9 "DropflagMill$Deeds" "program" "LDropflagMill$Program;") hts 4 rfl) (fun _ h9 => h9) rfl dX1_takenAt_41 ?_
    refine lv_iload_n hx hb dX1_takenAt_44 rfl (lv_at hl 5 rfl) ?_
    refine sx_v (As := [.int p1]) (rest := []) hx hb hml hown hts (c_X5_sortAt l G h k0 k1 k2 k3 pv pn fs p1 (by omega)) 1 (sxGV (bi1 (w := Cond.methodLink RX1 53 yX5_sortAt) 36 rfl) (bi1 (w := Cond.instanceMethod yX5_sortAt) 37 rfl) (bi1 (w := Cond.selects RX5 yX5_sortAt yX5_sortAt) 38 rfl) (bi1 (w := Cond.initialized RX5) 30 rfl) (bi1 (w := Cond.code yX5_sortAt cX5_sortAt 2 (some .int)) 25 rfl)) rfl (by decide +kernel) ⟨Nat.le_of_ble_eq_true rfl, Nat.le_of_ble_eq_true rfl⟩ hK hP [1, 3] rfl 0 rfl rfl rfl hl rfl (Nat.le_of_ble_eq_true rfl) ⟨Nat.zero_le _, Nat.zero_le _⟩ dX1_takenAt_45 (fun r er => ?_)
    subst er
    by_cases c31 : (s_X5_sortAt pn fs p1) = 0
    · refine lv_tableIn (off := 156) (tgt := 204) hx hb dX1_takenAt_48 (by rw [c31]; decide) (by rw [c31]; decide) (by rw [c31]; rfl) (by decide) ?_
      refine lv_iload hx hb dX1_takenAt_204 (lv_at hl 1 rfl) ?_
      refine lv_if_eq (tgt := 213) hx hb dX1_takenAt_206 (by decide) (fun c32 => absurd c32 (by decide)) (fun c32 => ?_)
      refine lv_iload_n hx hb dX1_takenAt_209 rfl (lv_at hl 3 rfl) ?_
      refine lv_goto (tgt := 214) hx hb dX1_takenAt_210 (by decide) ?_
      exact sx_ret hx hb hr hlk rfl (by simp only [s_X1_takenAt, if_pos c1, if_pos c31]) dX1_takenAt_214
    · by_cases c33 : (s_X5_sortAt pn fs p1) = 1
      · refine lv_tableIn (off := 103) (tgt := 151) hx hb dX1_takenAt_48 (by rw [c33]; decide) (by rw [c33]; decide) (by rw [c33]; rfl) (by decide) ?_
        refine lv_iload hx hb dX1_takenAt_151 (lv_at hl 0 rfl) ?_
        refine sx_sn (As := [.int (s_X5_kindAt pv fk (s_X5_aAt pn fa p1))]) (rest := []) hx hb hml hown hts (c_X9_isBorrowKind l G (s_X5_kindAt pv fk (s_X5_aAt pn fa p1)) ) 1 (sxGC (bi1 (w := Cond.code yX9_isBorrowKind cX9_isBorrowKind 1 (some .boolean)) 54 rfl)) rfl (hK.2.at 0 rfl) (List.mem_cons_of_mem _ (bi1 (w := Cond.initialized RX9) 58 rfl)) (List.mem_cons_of_mem _ (bi1 (w := Cond.static yX9_isBorrowKind) 57 rfl)) (by decide +kernel) ⟨Nat.le_of_ble_eq_true rfl, Nat.le_of_ble_eq_true rfl⟩ hK hP [] rfl rfl hl rfl (Nat.le_of_ble_eq_true rfl) ⟨Nat.zero_le _, Nat.zero_le _⟩ dX1_takenAt_153 (fun r er => ?_)
        subst er
        refine lv_if_eq (tgt := 161) hx hb dX1_takenAt_156 (by decide) (fun c34 => ?_) (fun c34 => ?_)
        · refine lv_iload hx hb dX1_takenAt_161 (lv_at hl 1 rfl) ?_
          refine lv_if_eq (tgt := 170) hx hb dX1_takenAt_163 (by decide) (fun c35 => absurd c35 (by decide)) (fun c35 => ?_)
          refine lv_iload_n hx hb dX1_takenAt_166 rfl (lv_at hl 3 rfl) ?_
          refine lv_goto (tgt := 172) hx hb dX1_takenAt_167 (by decide) ?_
          exact sx_ret hx hb hr hlk rfl (by simp only [s_X1_takenAt, if_pos c1, if_neg c31, if_pos c33, if_pos c34]) dX1_takenAt_172
        · refine lv_iconst (v := (-1)) hx hb dX1_takenAt_159 (by decide) ?_
          exact sx_ret hx hb hr hlk rfl (by simp only [s_X1_takenAt, if_pos c1, if_neg c31, if_pos c33, if_neg c34]) dX1_takenAt_160
      · by_cases c36 : (s_X5_sortAt pn fs p1) = 2
        · refine lv_tableIn (off := 84) (tgt := 132) hx hb dX1_takenAt_48 (by rw [c36]; decide) (by rw [c36]; decide) (by rw [c36]; rfl) (by decide) ?_
          refine lv_iload hx hb dX1_takenAt_132 (lv_at hl 0 rfl) ?_
          refine lv_if_eq (tgt := 139) hx hb dX1_takenAt_134 (by decide) (fun c37 => ?_) (fun c37 => ?_)
          · refine lv_iload hx hb dX1_takenAt_139 (lv_at hl 1 rfl) ?_
            refine lv_if_eq (tgt := 149) hx hb dX1_takenAt_141 (by decide) (fun c38 => absurd c38 (by decide)) (fun c38 => ?_)
            refine lv_iload hx hb dX1_takenAt_144 (lv_at hl 2 rfl) ?_
            refine lv_goto (tgt := 150) hx hb dX1_takenAt_146 (by decide) ?_
            exact sx_ret hx hb hr hlk rfl (by simp only [s_X1_takenAt, if_pos c1, if_neg c31, if_neg c33, if_pos c36, if_pos c37]) dX1_takenAt_150
          · refine lv_iconst (v := (-1)) hx hb dX1_takenAt_137 (by decide) ?_
            exact sx_ret hx hb hr hlk rfl (by simp only [s_X1_takenAt, if_pos c1, if_neg c31, if_neg c33, if_pos c36, if_neg c37]) dX1_takenAt_138
        · by_cases c39 : (s_X5_sortAt pn fs p1) = 3
          · refine lv_tableIn (off := 125) (tgt := 173) hx hb dX1_takenAt_48 (by rw [c39]; decide) (by rw [c39]; decide) (by rw [c39]; rfl) (by decide) ?_
            refine lv_iload hx hb dX1_takenAt_173 (lv_at hl 1 rfl) ?_
            refine lv_if_eq (tgt := 183) hx hb dX1_takenAt_175 (by decide) (fun c40 => absurd c40 (by decide)) (fun c40 => ?_)
            refine lv_iload hx hb dX1_takenAt_178 (lv_at hl 2 rfl) ?_
            refine lv_goto (tgt := 184) hx hb dX1_takenAt_180 (by decide) ?_
            exact sx_ret hx hb hr hlk rfl (by simp only [s_X1_takenAt, if_pos c1, if_neg c31, if_neg c33, if_neg c36, if_pos c39]) dX1_takenAt_184
          · by_cases c41 : (s_X5_sortAt pn fs p1) = 4
            · refine lv_tableIn (off := 125) (tgt := 173) hx hb dX1_takenAt_48 (by rw [c41]; decide) (by rw [c41]; decide) (by rw [c41]; rfl) (by decide) ?_
              refine lv_iload hx hb dX1_takenAt_173 (lv_at hl 1 rfl) ?_
              refine lv_if_eq (tgt := 183) hx hb dX1_takenAt_175 (by decide) (fun c42 => absurd c42 (by decide)) (fun c42 => ?_)
              refine lv_iload hx hb dX1_takenAt_178 (lv_at hl 2 rfl) ?_
              refine lv_goto (tgt := 184) hx hb dX1_takenAt_180 (by decide) ?_
              exact sx_ret hx hb hr hlk rfl (by simp only [s_X1_takenAt, if_pos c1, if_neg c31, if_neg c33, if_neg c36, if_neg c39, if_pos c41]) dX1_takenAt_184
            · by_cases c43 : (s_X5_sortAt pn fs p1) = 5
              · refine lv_tableIn (off := 137) (tgt := 185) hx hb dX1_takenAt_48 (by rw [c43]; decide) (by rw [c43]; decide) (by rw [c43]; rfl) (by decide) ?_
                refine lv_iload hx hb dX1_takenAt_185 (lv_at hl 1 rfl) ?_
                refine lv_if_eq (tgt := 202) hx hb dX1_takenAt_187 (by decide) (fun c44 => absurd c44 (by decide)) (fun c44 => ?_)
                refine lv_iload hx hb dX1_takenAt_190 (lv_at hl 0 rfl) ?_
                refine sx_sn (As := [.int (s_X5_kindAt pv fk (s_X5_aAt pn fa p1))]) (rest := []) hx hb hml hown hts (c_X9_isBorrowKind l G (s_X5_kindAt pv fk (s_X5_aAt pn fa p1)) ) 1 (sxGC (bi1 (w := Cond.code yX9_isBorrowKind cX9_isBorrowKind 1 (some .boolean)) 54 rfl)) rfl (hK.2.at 0 rfl) (List.mem_cons_of_mem _ (bi1 (w := Cond.initialized RX9) 58 rfl)) (List.mem_cons_of_mem _ (bi1 (w := Cond.static yX9_isBorrowKind) 57 rfl)) (by decide +kernel) ⟨Nat.le_of_ble_eq_true rfl, Nat.le_of_ble_eq_true rfl⟩ hK hP [] rfl rfl hl rfl (Nat.le_of_ble_eq_true rfl) ⟨Nat.zero_le _, Nat.zero_le _⟩ dX1_takenAt_192 (fun r er => ?_)
                subst er
                refine lv_if_ne (tgt := 202) hx hb dX1_takenAt_195 (by decide) (fun c45 => ?_) (fun c45 => ?_)
                · refine lv_iconst (v := (-1)) hx hb dX1_takenAt_202 (by decide) ?_
                  exact sx_ret hx hb hr hlk rfl (by simp only [s_X1_takenAt, if_pos c1, if_neg c31, if_neg c33, if_neg c36, if_neg c39, if_neg c41, if_pos c43, if_neg c45]) dX1_takenAt_203
                · refine lv_iload_n hx hb dX1_takenAt_198 rfl (lv_at hl 3 rfl) ?_
                  refine lv_goto (tgt := 203) hx hb dX1_takenAt_199 (by decide) ?_
                  exact sx_ret hx hb hr hlk rfl (by simp only [s_X1_takenAt, if_pos c1, if_neg c31, if_neg c33, if_neg c36, if_neg c39, if_neg c41, if_pos c43, if_pos c45]) dX1_takenAt_203
              · by_cases c46 : (s_X5_sortAt pn fs p1) = 6
                · refine lv_tableIn (off := 137) (tgt := 185) hx hb dX1_takenAt_48 (by rw [c46]; decide) (by rw [c46]; decide) (by rw [c46]; rfl) (by decide) ?_
                  refine lv_iload hx hb dX1_takenAt_185 (lv_at hl 1 rfl) ?_
                  refine lv_if_eq (tgt := 202) hx hb dX1_takenAt_187 (by decide) (fun c47 => absurd c47 (by decide)) (fun c47 => ?_)
                  refine lv_iload hx hb dX1_takenAt_190 (lv_at hl 0 rfl) ?_
                  refine sx_sn (As := [.int (s_X5_kindAt pv fk (s_X5_aAt pn fa p1))]) (rest := []) hx hb hml hown hts (c_X9_isBorrowKind l G (s_X5_kindAt pv fk (s_X5_aAt pn fa p1)) ) 1 (sxGC (bi1 (w := Cond.code yX9_isBorrowKind cX9_isBorrowKind 1 (some .boolean)) 54 rfl)) rfl (hK.2.at 0 rfl) (List.mem_cons_of_mem _ (bi1 (w := Cond.initialized RX9) 58 rfl)) (List.mem_cons_of_mem _ (bi1 (w := Cond.static yX9_isBorrowKind) 57 rfl)) (by decide +kernel) ⟨Nat.le_of_ble_eq_true rfl, Nat.le_of_ble_eq_true rfl⟩ hK hP [] rfl rfl hl rfl (Nat.le_of_ble_eq_true rfl) ⟨Nat.zero_le _, Nat.zero_le _⟩ dX1_takenAt_192 (fun r er => ?_)
                  subst er
                  refine lv_if_ne (tgt := 202) hx hb dX1_takenAt_195 (by decide) (fun c48 => ?_) (fun c48 => ?_)
                  · refine lv_iconst (v := (-1)) hx hb dX1_takenAt_202 (by decide) ?_
                    exact sx_ret hx hb hr hlk rfl (by simp only [s_X1_takenAt, if_pos c1, if_neg c31, if_neg c33, if_neg c36, if_neg c39, if_neg c41, if_neg c43, if_pos c46, if_neg c48]) dX1_takenAt_203
                  · refine lv_iload_n hx hb dX1_takenAt_198 rfl (lv_at hl 3 rfl) ?_
                    refine lv_goto (tgt := 203) hx hb dX1_takenAt_199 (by decide) ?_
                    exact sx_ret hx hb hr hlk rfl (by simp only [s_X1_takenAt, if_pos c1, if_neg c31, if_neg c33, if_neg c36, if_neg c39, if_neg c41, if_neg c43, if_pos c46, if_pos c48]) dX1_takenAt_203
                · by_cases c49 : (s_X5_sortAt pn fs p1) = 7
                  · refine lv_tableIn (off := 156) (tgt := 204) hx hb dX1_takenAt_48 (by rw [c49]; decide) (by rw [c49]; decide) (by rw [c49]; rfl) (by decide) ?_
                    refine lv_iload hx hb dX1_takenAt_204 (lv_at hl 1 rfl) ?_
                    refine lv_if_eq (tgt := 213) hx hb dX1_takenAt_206 (by decide) (fun c50 => absurd c50 (by decide)) (fun c50 => ?_)
                    refine lv_iload_n hx hb dX1_takenAt_209 rfl (lv_at hl 3 rfl) ?_
                    refine lv_goto (tgt := 214) hx hb dX1_takenAt_210 (by decide) ?_
                    exact sx_ret hx hb hr hlk rfl (by simp only [s_X1_takenAt, if_pos c1, if_neg c31, if_neg c33, if_neg c36, if_neg c39, if_neg c41, if_neg c43, if_neg c46, if_pos c49]) dX1_takenAt_214
                  · by_cases c51 : (s_X5_sortAt pn fs p1) = 8
                    · refine lv_tableIn (off := 156) (tgt := 204) hx hb dX1_takenAt_48 (by rw [c51]; decide) (by rw [c51]; decide) (by rw [c51]; rfl) (by decide) ?_
                      refine lv_iload hx hb dX1_takenAt_204 (lv_at hl 1 rfl) ?_
                      refine lv_if_eq (tgt := 213) hx hb dX1_takenAt_206 (by decide) (fun c52 => absurd c52 (by decide)) (fun c52 => ?_)
                      refine lv_iload_n hx hb dX1_takenAt_209 rfl (lv_at hl 3 rfl) ?_
                      refine lv_goto (tgt := 214) hx hb dX1_takenAt_210 (by decide) ?_
                      exact sx_ret hx hb hr hlk rfl ((((if_pos c1).trans ((if_neg c31).trans ((if_neg c33).trans ((if_neg c36).trans ((if_neg c39).trans ((if_neg c41).trans ((if_neg c43).trans ((if_neg c46).trans ((if_neg c49).trans (if_pos c51))))))))))).symm) dX1_takenAt_214
                    · by_cases c53 : (s_X5_sortAt pn fs p1) = 9
                      · refine lv_tableIn (off := 167) (tgt := 215) hx hb dX1_takenAt_48 (by rw [c53]; decide) (by rw [c53]; decide) (by rw [c53]; rfl) (by decide) ?_
                        refine lv_iconst (v := (-1)) hx hb dX1_takenAt_215 (by decide) ?_
                        exact sx_ret hx hb hr hlk rfl ((((if_pos c1).trans ((if_neg c31).trans ((if_neg c33).trans ((if_neg c36).trans ((if_neg c39).trans ((if_neg c41).trans ((if_neg c43).trans ((if_neg c46).trans ((if_neg c49).trans ((if_neg c51).trans (if_pos c53)))))))))))).symm) dX1_takenAt_216
                      · by_cases c54 : (s_X5_sortAt pn fs p1) = 10
                        · refine lv_tableIn (off := 167) (tgt := 215) hx hb dX1_takenAt_48 (by rw [c54]; decide) (by rw [c54]; decide) (by rw [c54]; rfl) (by decide) ?_
                          refine lv_iconst (v := (-1)) hx hb dX1_takenAt_215 (by decide) ?_
                          exact sx_ret hx hb hr hlk rfl ((((if_pos c1).trans ((if_neg c31).trans ((if_neg c33).trans ((if_neg c36).trans ((if_neg c39).trans ((if_neg c41).trans ((if_neg c43).trans ((if_neg c46).trans ((if_neg c49).trans ((if_neg c51).trans ((if_neg c53).trans (if_pos c54))))))))))))).symm) dX1_takenAt_216
                        · by_cases c55 : (s_X5_sortAt pn fs p1) = 11
                          · refine lv_tableIn (off := 167) (tgt := 215) hx hb dX1_takenAt_48 (by rw [c55]; decide) (by rw [c55]; decide) (by rw [c55]; rfl) (by decide) ?_
                            refine lv_iconst (v := (-1)) hx hb dX1_takenAt_215 (by decide) ?_
                            exact sx_ret hx hb hr hlk rfl ((((if_pos c1).trans ((if_neg c31).trans ((if_neg c33).trans ((if_neg c36).trans ((if_neg c39).trans ((if_neg c41).trans ((if_neg c43).trans ((if_neg c46).trans ((if_neg c49).trans ((if_neg c51).trans ((if_neg c53).trans ((if_neg c54).trans (if_pos c55)))))))))))))).symm) dX1_takenAt_216
                          · by_cases c56 : (s_X5_sortAt pn fs p1) = 12
                            · refine lv_tableIn (off := 167) (tgt := 215) hx hb dX1_takenAt_48 (by rw [c56]; decide) (by rw [c56]; decide) (by rw [c56]; rfl) (by decide) ?_
                              refine lv_iconst (v := (-1)) hx hb dX1_takenAt_215 (by decide) ?_
                              exact sx_ret hx hb hr hlk rfl ((((if_pos c1).trans ((if_neg c31).trans ((if_neg c33).trans ((if_neg c36).trans ((if_neg c39).trans ((if_neg c41).trans ((if_neg c43).trans ((if_neg c46).trans ((if_neg c49).trans ((if_neg c51).trans ((if_neg c53).trans ((if_neg c54).trans ((if_neg c55).trans (if_pos c56))))))))))))))).symm) dX1_takenAt_216
                            · by_cases c57 : (s_X5_sortAt pn fs p1) = 13
                              · refine lv_tableIn (off := 167) (tgt := 215) hx hb dX1_takenAt_48 (by rw [c57]; decide) (by rw [c57]; decide) (by rw [c57]; rfl) (by decide) ?_
                                refine lv_iconst (v := (-1)) hx hb dX1_takenAt_215 (by decide) ?_
                                exact sx_ret hx hb hr hlk rfl ((((if_pos c1).trans ((if_neg c31).trans ((if_neg c33).trans ((if_neg c36).trans ((if_neg c39).trans ((if_neg c41).trans ((if_neg c43).trans ((if_neg c46).trans ((if_neg c49).trans ((if_neg c51).trans ((if_neg c53).trans ((if_neg c54).trans ((if_neg c55).trans ((if_neg c56).trans (if_pos c57)))))))))))))))).symm) dX1_takenAt_216
                              · by_cases c58 : (s_X5_sortAt pn fs p1) = 14
                                · refine lv_tableIn (off := 167) (tgt := 215) hx hb dX1_takenAt_48 (by rw [c58]; decide) (by rw [c58]; decide) (by rw [c58]; rfl) (by decide) ?_
                                  refine lv_iconst (v := (-1)) hx hb dX1_takenAt_215 (by decide) ?_
                                  exact sx_ret hx hb hr hlk rfl ((((if_pos c1).trans ((if_neg c31).trans ((if_neg c33).trans ((if_neg c36).trans ((if_neg c39).trans ((if_neg c41).trans ((if_neg c43).trans ((if_neg c46).trans ((if_neg c49).trans ((if_neg c51).trans ((if_neg c53).trans ((if_neg c54).trans ((if_neg c55).trans ((if_neg c56).trans ((if_neg c57).trans (if_pos c58))))))))))))))))).symm) dX1_takenAt_216
                                · by_cases c59 : (s_X5_sortAt pn fs p1) = 15
                                  · refine lv_tableIn (off := 167) (tgt := 215) hx hb dX1_takenAt_48 (by rw [c59]; decide) (by rw [c59]; decide) (by rw [c59]; rfl) (by decide) ?_
                                    refine lv_iconst (v := (-1)) hx hb dX1_takenAt_215 (by decide) ?_
                                    exact sx_ret hx hb hr hlk rfl ((((if_pos c1).trans ((if_neg c31).trans ((if_neg c33).trans ((if_neg c36).trans ((if_neg c39).trans ((if_neg c41).trans ((if_neg c43).trans ((if_neg c46).trans ((if_neg c49).trans ((if_neg c51).trans ((if_neg c53).trans ((if_neg c54).trans ((if_neg c55).trans ((if_neg c56).trans ((if_neg c57).trans ((if_neg c58).trans (if_pos c59)))))))))))))))))).symm) dX1_takenAt_216
                                  · by_cases c60 : (s_X5_sortAt pn fs p1) = 16
                                    · refine lv_tableIn (off := 156) (tgt := 204) hx hb dX1_takenAt_48 (by rw [c60]; decide) (by rw [c60]; decide) (by rw [c60]; rfl) (by decide) ?_
                                      refine lv_iload hx hb dX1_takenAt_204 (lv_at hl 1 rfl) ?_
                                      refine lv_if_eq (tgt := 213) hx hb dX1_takenAt_206 (by decide) (fun c61 => absurd c61 (by decide)) (fun c61 => ?_)
                                      refine lv_iload_n hx hb dX1_takenAt_209 rfl (lv_at hl 3 rfl) ?_
                                      refine lv_goto (tgt := 214) hx hb dX1_takenAt_210 (by decide) ?_
                                      exact sx_ret hx hb hr hlk rfl ((((if_pos c1).trans ((if_neg c31).trans ((if_neg c33).trans ((if_neg c36).trans ((if_neg c39).trans ((if_neg c41).trans ((if_neg c43).trans ((if_neg c46).trans ((if_neg c49).trans ((if_neg c51).trans ((if_neg c53).trans ((if_neg c54).trans ((if_neg c55).trans ((if_neg c56).trans ((if_neg c57).trans ((if_neg c58).trans ((if_neg c59).trans (if_pos c60))))))))))))))))))).symm) dX1_takenAt_214
                                    · refine lv_tableOut (tgt := 215) hx hb dX1_takenAt_48 (by have := lv_neT (a := 0) c31 rfl; have := lv_neT (a := 1) c33 rfl; have := lv_neT (a := 2) c36 rfl; have := lv_neT (a := 3) c39 rfl; have := lv_neT (a := 4) c41 rfl; have := lv_neT (a := 5) c43 rfl; have := lv_neT (a := 6) c46 rfl; have := lv_neT (a := 7) c49 rfl; have := lv_neT (a := 8) c51 rfl; have := lv_neT (a := 9) c53 rfl; have := lv_neT (a := 10) c54 rfl; have := lv_neT (a := 11) c55 rfl; have := lv_neT (a := 12) c56 rfl; have := lv_neT (a := 13) c57 rfl; have := lv_neT (a := 14) c58 rfl; have := lv_neT (a := 15) c59 rfl; have := lv_neT (a := 16) c60 rfl; omega) (by decide) ?_
                                      refine lv_iconst (v := (-1)) hx hb dX1_takenAt_215 (by decide) ?_
                                      exact sx_ret hx hb hr hlk rfl ((((if_pos c1).trans ((if_neg c31).trans ((if_neg c33).trans ((if_neg c36).trans ((if_neg c39).trans ((if_neg c41).trans ((if_neg c43).trans ((if_neg c46).trans ((if_neg c49).trans ((if_neg c51).trans ((if_neg c53).trans ((if_neg c54).trans ((if_neg c55).trans ((if_neg c56).trans ((if_neg c57).trans ((if_neg c58).trans ((if_neg c59).trans (if_neg c60))))))))))))))))))).symm) dX1_takenAt_216

abbrev wdX1_isTakenToRead : List Cond := Cond.code yX1_isTakenToRead cX1_isTakenToRead 4 (some .boolean) :: bwC
def s_X1_isTakenToRead (pn : Nat) (fs : Nat → Int32) (p1 : Int32) (p2 : Int32) : Int32 := if (s_X5_sortAt pn fs p1) = 3 then 1 else (if (s_X5_sortAt pn fs p1) = 8 then 1 else (if (s_X5_sortAt pn fs p1) = 5 then 1 else (if (s_X5_sortAt pn fs p1) = 2 then (if p2 = 0 then 1 else 0) else 0)))
set_option maxHeartbeats 4000000 in
set_option maxRecDepth 100000 in
theorem c_X1_isTakenToRead (l : Launch) (G : sxG) (o : Nat) (h : Nat) (d1 : Nat) (d2 : Nat) (d3 : Nat) (d4 : Nat) (d5 : Nat) (d6 : Nat) (d7 : Nat) (d8 : Nat) (d9 : Nat) (k0 : Nat) (k1 : Nat) (k2 : Nat) (k3 : Nat) (pv : Nat) (pn : Nat) (fs : Nat → Int32) (p1 : Int32) (p2 : Int32) (hn : pn ≤ 33) : sxM l yX1_isTakenToRead wdX1_isTakenToRead 2 42 G [(o, .inr (1, [.ref h, .ref d1, .ref d2, .ref d3, .ref d4, .ref d5, .ref d6, .ref d7, .ref d8, .ref d9])), (h, .inr (5, [.ref k0, .ref k1, .ref k2, .ref k3, .int (nI pv), .int (nI pn)])), (k1, .inl (G.2.1, 34, .inl fs))] [.ref o, .int p1, .int p2] (fun r => r = s_X1_isTakenToRead pn fs p1 p2) := by
  refine sxM.of (cc := cX1_isTakenToRead) (maxL := 4) (by decide) rfl (Nat.le_of_ble_eq_true rfl) ?_
  intro p e s m args below meth c ⟨hx, hb, hr, hml, hown, hlk, hts, hK⟩ hP ls hl
  have hl : lv_has ls 4 [(0, .ref o), (1, .int p1), (2, .int p2)] := hl
  refine lv_aload_n hx hb dX1_isTakenToRead_0 rfl (lv_at hl 0 rfl) ?_
  refine va_get (D := G.1) (ci := 1) (v := .ref h) (C := RX1) (T := TX1) (N := 10) hx hb hts owX1 hown hK.1 hP 0 rfl rfl 0 (by decide) (bw0 (w := Cond.fieldLink RX1 9 "DropflagMill$Deeds" "program" "LDropflagMill$Program;") hts 4 rfl) (fun _ h9 => h9) rfl dX1_isTakenToRead_1 ?_
  refine lv_iload_n hx hb dX1_isTakenToRead_4 rfl (lv_at hl 1 rfl) ?_
  refine sx_v (As := [.int p1]) (rest := []) hx hb hml hown hts (c_X5_sortAt l G h k0 k1 k2 k3 pv pn fs p1 (by omega)) 1 (sxGV (bi1 (w := Cond.methodLink RX1 53 yX5_sortAt) 36 rfl) (bi1 (w := Cond.instanceMethod yX5_sortAt) 37 rfl) (bi1 (w := Cond.selects RX5 yX5_sortAt yX5_sortAt) 38 rfl) (bi1 (w := Cond.initialized RX5) 30 rfl) (bi1 (w := Cond.code yX5_sortAt cX5_sortAt 2 (some .int)) 25 rfl)) rfl (by decide +kernel) ⟨Nat.le_of_ble_eq_true rfl, Nat.le_of_ble_eq_true rfl⟩ hK hP [1, 2] rfl 0 rfl rfl rfl hl rfl (Nat.le_of_ble_eq_true rfl) ⟨Nat.zero_le _, Nat.zero_le _⟩ dX1_isTakenToRead_5 (fun r er => ?_)
  subst er
  refine lv_istore_n (lv' := [(3, .int (s_X5_sortAt pn fs p1)), (0, .ref o), (1, .int p1), (2, .int p2)]) hx hb dX1_isTakenToRead_8 rfl hl (by decide) rfl (fun ls hl => ?_)
  refine lv_iload_n hx hb dX1_isTakenToRead_9 rfl (lv_at hl 0 rfl) ?_
  refine lv_iconst (v := 3) hx hb dX1_isTakenToRead_10 (by decide) ?_
  refine lv_icmp_eq (tgt := 34) hx hb dX1_isTakenToRead_11 (by decide) (fun c1 => ?_) (fun c1 => ?_)
  · refine lv_iconst (v := 1) hx hb dX1_isTakenToRead_34 (by decide) ?_
    refine lv_goto (tgt := 39) hx hb dX1_isTakenToRead_35 (by decide) ?_
    exact sx_ret hx hb hr hlk rfl (by simp only [s_X1_isTakenToRead, if_pos c1]) dX1_isTakenToRead_39
  · refine lv_iload_n hx hb dX1_isTakenToRead_14 rfl (lv_at hl 0 rfl) ?_
    refine lv_bipush (v := 8) hx hb dX1_isTakenToRead_15 (by decide) ?_
    refine lv_icmp_eq (tgt := 34) hx hb dX1_isTakenToRead_17 (by decide) (fun c2 => ?_) (fun c2 => ?_)
    · refine lv_iconst (v := 1) hx hb dX1_isTakenToRead_34 (by decide) ?_
      refine lv_goto (tgt := 39) hx hb dX1_isTakenToRead_35 (by decide) ?_
      exact sx_ret hx hb hr hlk rfl (by simp only [s_X1_isTakenToRead, if_neg c1, if_pos c2]) dX1_isTakenToRead_39
    · refine lv_iload_n hx hb dX1_isTakenToRead_20 rfl (lv_at hl 0 rfl) ?_
      refine lv_iconst (v := 5) hx hb dX1_isTakenToRead_21 (by decide) ?_
      refine lv_icmp_eq (tgt := 34) hx hb dX1_isTakenToRead_22 (by decide) (fun c3 => ?_) (fun c3 => ?_)
      · refine lv_iconst (v := 1) hx hb dX1_isTakenToRead_34 (by decide) ?_
        refine lv_goto (tgt := 39) hx hb dX1_isTakenToRead_35 (by decide) ?_
        exact sx_ret hx hb hr hlk rfl (by simp only [s_X1_isTakenToRead, if_neg c1, if_neg c2, if_pos c3]) dX1_isTakenToRead_39
      · refine lv_iload_n hx hb dX1_isTakenToRead_25 rfl (lv_at hl 0 rfl) ?_
        refine lv_iconst (v := 2) hx hb dX1_isTakenToRead_26 (by decide) ?_
        refine lv_icmp_ne (tgt := 38) hx hb dX1_isTakenToRead_27 (by decide) (fun c4 => ?_) (fun c4 => ?_)
        · refine lv_iconst (v := 0) hx hb dX1_isTakenToRead_38 (by decide) ?_
          exact sx_ret hx hb hr hlk rfl (by simp only [s_X1_isTakenToRead, if_neg c1, if_neg c2, if_neg c3, if_neg c4]) dX1_isTakenToRead_39
        · refine lv_iload_n hx hb dX1_isTakenToRead_30 rfl (lv_at hl 3 rfl) ?_
          refine lv_if_ne (tgt := 38) hx hb dX1_isTakenToRead_31 (by decide) (fun c5 => ?_) (fun c5 => ?_)
          · refine lv_iconst (v := 0) hx hb dX1_isTakenToRead_38 (by decide) ?_
            exact sx_ret hx hb hr hlk rfl (by simp only [s_X1_isTakenToRead, if_neg c1, if_neg c2, if_neg c3, if_pos c4, if_neg c5]) dX1_isTakenToRead_39
          · refine lv_iconst (v := 1) hx hb dX1_isTakenToRead_34 (by decide) ?_
            refine lv_goto (tgt := 39) hx hb dX1_isTakenToRead_35 (by decide) ?_
            exact sx_ret hx hb hr hlk rfl (by simp only [s_X1_isTakenToRead, if_neg c1, if_neg c2, if_neg c3, if_pos c4, if_pos c5]) dX1_isTakenToRead_39

abbrev wdX1_countUsers : List Cond := Cond.code yX1_countUsers cX1_countUsers 4 (some .int) :: bwC
def sl_X1_countUsers_L4 (pn : Nat) (du : Nat → Int32) (dt : Nat → Int32) (p1 : Int32)  : Nat → (Int32) → (Nat) → Int32
  | 0, _, _ => 0
  | k + 1, va, i => if (nI pn) ≤ (nI i) then va else (if (s_X1_isOf p1 (du i)) = 0 then (if (s_X1_isOf p1 (dt i)) = 0 then sl_X1_countUsers_L4 pn du dt p1 k va (i + 1) else sl_X1_countUsers_L4 pn du dt p1 k (va + 1) (i + 1)) else sl_X1_countUsers_L4 pn du dt p1 k (va + 1) (i + 1))
set_option maxHeartbeats 4000000 in
set_option maxRecDepth 100000 in
theorem l_X1_countUsers_L4 (l : Launch) (G : sxG) (o : Nat) (h : Nat) (d1 : Nat) (d2 : Nat) (d3 : Nat) (d4 : Nat) (d5 : Nat) (d6 : Nat) (d7 : Nat) (d8 : Nat) (d9 : Nat) (k0 : Nat) (k1 : Nat) (k2 : Nat) (k3 : Nat) (pv : Nat) (pn : Nat) (du : Nat → Int32) (dt : Nat → Int32) (p1 : Int32) (hn : pn ≤ 33)   {p : Program} {e : Env} {s : State} {m : MethodId} {args : Array Value} {below : List Frame} {meth : Method} {c : Code} (hB : sxB G yX1_countUsers wdX1_countUsers cX1_countUsers 4 (.int) p s m args meth c) (hP : va_P G.1 vwCl [(o, .inr (1, [.ref h, .ref d1, .ref d2, .ref d3, .ref d4, .ref d5, .ref d6, .ref d7, .ref d8, .ref d9])), (h, .inr (5, [.ref k0, .ref k1, .ref k2, .ref k3, .int (nI pv), .int (nI pn)])), (d1, .inl (G.2.1, 34, .inl du)), (d2, .inl (G.2.1, 34, .inl dt))] s.heap) (S0 : Int32) : ∀ (k : Nat) (va : Int32) (i : Nat), i ≤ pn → 34 - i < k → S0 = sl_X1_countUsers_L4 pn du dt p1 k va i → ∀ ls : Array Slot, lv_has ls 4 [(0, .ref o), (1, .int p1), (2, .int va), (3, .int (nI i))] → W p l e ({ frames := 1, cells := 0, slots := 0, locals := 21 }) s m args below meth c s.heap [] 0 0 (MQ below (vp_Si (fun r => r = S0)) args s 0 0 (fun _ => False)) (F0 m 4 ls []) := by
  obtain ⟨hx, hb, hr, hml, hown, hlk, hts, hK⟩ := id hB
  intro k
  induction k with
  | zero =>
    intro va i _ hm
    exact absurd hm (Nat.not_lt_zero _)
  | succ k ih =>
    intro va i hi hm hE ls hl
    refine lv_iload_n hx hb dX1_countUsers_4 rfl (lv_at hl 3 rfl) ?_
    refine lv_aload_n hx hb dX1_countUsers_5 rfl (lv_at hl 0 rfl) ?_
    refine va_get (D := G.1) (ci := 1) (v := .ref h) (C := RX1) (T := TX1) (N := 10) hx hb hts owX1 hown hK.1 hP 0 rfl rfl 0 (by decide) (bw0 (w := Cond.fieldLink RX1 9 "DropflagMill$Deeds" "program" "LDropflagMill$Program;") hts 4 rfl) (fun _ h9 => h9) rfl dX1_countUsers_6 ?_
    refine va_get (D := G.1) (ci := 5) (v := .int (nI pn)) (C := RX5) (T := TX5) (N := 6) hx hb hts owX5 hown hK.1 hP 1 rfl rfl 5 (by decide) (bw1 (w := Cond.fieldLink RX1 43 "DropflagMill$Program" "lines" "I") hts 59 rfl) (fun _ h9 => h9) rfl dX1_countUsers_9 ?_
    refine lv_icmp_ge (tgt := 50) hx hb dX1_countUsers_12 (by decide) (fun c1 => ?_) (fun c1 => ?_)
    · have nc1 := (nI_leI (a := pn) (b := i) (by omega) (by omega)).mp c1
      refine lv_iload_n hx hb dX1_countUsers_50 rfl (lv_at hl 2 rfl) ?_
      exact sx_ret hx hb hr hlk rfl (by rw [hE]; simp only [sl_X1_countUsers_L4, if_pos c1]) dX1_countUsers_51
    · have nc1 := (not_congr (nI_leI (a := pn) (b := i) (by omega) (by omega))).mp c1
      refine lv_iload_n hx hb dX1_countUsers_15 rfl (lv_at hl 1 rfl) ?_
      refine lv_aload_n hx hb dX1_countUsers_16 rfl (lv_at hl 0 rfl) ?_
      refine va_get (D := G.1) (ci := 1) (v := .ref d1) (C := RX1) (T := TX1) (N := 10) hx hb hts owX1 hown hK.1 hP 0 rfl rfl 1 (by decide) (bw0 (w := Cond.fieldLink RX1 15 "DropflagMill$Deeds" "used" "[I") hts 6 rfl) (fun _ h9 => h9) rfl dX1_countUsers_17 ?_
      refine lv_iload_n hx hb dX1_countUsers_20 rfl (lv_at hl 3 rfl) ?_
      refine va_iald hx hb hK.1 hP 2 0 rfl rfl (i := nI i) (vp_in_nI (n := i) (by omega) (by omega)) dX1_countUsers_21 ?_
      rw [show (nI i : Int32).toNatClampNeg = i from nI_clamp (n := i) (by omega)]
      refine sx_s (As := [.int p1, .int (du i)]) (rest := []) hx hb hml hown hts (c_X1_isOf l G p1 (du i) ) 2 (sxGS (bi5 (w := Cond.methodLink RX1 81 yX1_isOf) 26 rfl) (bi5 (w := Cond.static yX1_isOf) 27 rfl) (bi0 (w := Cond.initialized RX1) 46 rfl) (bi5 (w := Cond.code yX1_isOf cX1_isOf 2 (some .boolean)) 24 rfl)) rfl (by decide +kernel) ⟨Nat.le_of_ble_eq_true rfl, Nat.le_of_ble_eq_true rfl⟩ hK hP [] rfl rfl hl rfl (Nat.le_of_ble_eq_true rfl) ⟨Nat.zero_le _, Nat.zero_le _⟩ dX1_countUsers_22 (fun r er => ?_)
      subst er
      refine lv_if_ne (tgt := 41) hx hb dX1_countUsers_25 (by decide) (fun c2 => ?_) (fun c2 => ?_)
      · refine lv_iinc (v := va + 1) (lv' := [(2, .int (va + 1)), (0, .ref o), (1, .int p1), (3, .int (nI i))]) hx hb dX1_countUsers_41 hl (k := 2) rfl (rfl) (by decide) rfl (fun ls hl => ?_)
        refine lv_iinc (v := nI (i + 1)) (lv' := [(3, .int (nI (i + 1))), (2, .int (va + 1)), (0, .ref o), (1, .int p1)]) hx hb dX1_countUsers_44 hl (k := 3) rfl (nI_1 i) (by decide) rfl (fun ls hl => ?_)
        refine lv_goto (tgt := 4) hx hb dX1_countUsers_47 (by decide) ?_
        exact ih (va + 1) (i + 1) (by omega) (by omega) (by rw [hE]; simp only [sl_X1_countUsers_L4, if_neg c1, if_neg c2]) ls (lv_sub hl [2, 3, 1, 0] rfl)
      · refine lv_iload_n hx hb dX1_countUsers_28 rfl (lv_at hl 1 rfl) ?_
        refine lv_aload_n hx hb dX1_countUsers_29 rfl (lv_at hl 0 rfl) ?_
        refine va_get (D := G.1) (ci := 1) (v := .ref d2) (C := RX1) (T := TX1) (N := 10) hx hb hts owX1 hown hK.1 hP 0 rfl rfl 2 (by decide) (bw0 (w := Cond.fieldLink RX1 19 "DropflagMill$Deeds" "usedThen" "[I") hts 7 rfl) (fun _ h9 => h9) rfl dX1_countUsers_30 ?_
        refine lv_iload_n hx hb dX1_countUsers_33 rfl (lv_at hl 3 rfl) ?_
        refine va_iald hx hb hK.1 hP 3 0 rfl rfl (i := nI i) (vp_in_nI (n := i) (by omega) (by omega)) dX1_countUsers_34 ?_
        rw [show (nI i : Int32).toNatClampNeg = i from nI_clamp (n := i) (by omega)]
        refine sx_s (As := [.int p1, .int (dt i)]) (rest := []) hx hb hml hown hts (c_X1_isOf l G p1 (dt i) ) 2 (sxGS (bi5 (w := Cond.methodLink RX1 81 yX1_isOf) 26 rfl) (bi5 (w := Cond.static yX1_isOf) 27 rfl) (bi0 (w := Cond.initialized RX1) 46 rfl) (bi5 (w := Cond.code yX1_isOf cX1_isOf 2 (some .boolean)) 24 rfl)) rfl (by decide +kernel) ⟨Nat.le_of_ble_eq_true rfl, Nat.le_of_ble_eq_true rfl⟩ hK hP [] rfl rfl hl rfl (Nat.le_of_ble_eq_true rfl) ⟨Nat.zero_le _, Nat.zero_le _⟩ dX1_countUsers_35 (fun r er => ?_)
        subst er
        refine lv_if_eq (tgt := 44) hx hb dX1_countUsers_38 (by decide) (fun c3 => ?_) (fun c3 => ?_)
        · refine lv_iinc (v := nI (i + 1)) (lv' := [(3, .int (nI (i + 1))), (0, .ref o), (1, .int p1), (2, .int va)]) hx hb dX1_countUsers_44 hl (k := 3) rfl (nI_1 i) (by decide) rfl (fun ls hl => ?_)
          refine lv_goto (tgt := 4) hx hb dX1_countUsers_47 (by decide) ?_
          exact ih va (i + 1) (by omega) (by omega) (by rw [hE]; simp only [sl_X1_countUsers_L4, if_neg c1, if_pos c2, if_pos c3]) ls (lv_sub hl [1, 2, 3, 0] rfl)
        · refine lv_iinc (v := va + 1) (lv' := [(2, .int (va + 1)), (0, .ref o), (1, .int p1), (3, .int (nI i))]) hx hb dX1_countUsers_41 hl (k := 2) rfl (rfl) (by decide) rfl (fun ls hl => ?_)
          refine lv_iinc (v := nI (i + 1)) (lv' := [(3, .int (nI (i + 1))), (2, .int (va + 1)), (0, .ref o), (1, .int p1)]) hx hb dX1_countUsers_44 hl (k := 3) rfl (nI_1 i) (by decide) rfl (fun ls hl => ?_)
          refine lv_goto (tgt := 4) hx hb dX1_countUsers_47 (by decide) ?_
          exact ih (va + 1) (i + 1) (by omega) (by omega) (by rw [hE]; simp only [sl_X1_countUsers_L4, if_neg c1, if_pos c2, if_neg c3]) ls (lv_sub hl [2, 3, 1, 0] rfl)
def s_X1_countUsers (pn : Nat) (du : Nat → Int32) (dt : Nat → Int32) (p1 : Int32) : Int32 := sl_X1_countUsers_L4 pn du dt p1  35 0 0
set_option maxHeartbeats 4000000 in
set_option maxRecDepth 100000 in
theorem c_X1_countUsers (l : Launch) (G : sxG) (o : Nat) (h : Nat) (d1 : Nat) (d2 : Nat) (d3 : Nat) (d4 : Nat) (d5 : Nat) (d6 : Nat) (d7 : Nat) (d8 : Nat) (d9 : Nat) (k0 : Nat) (k1 : Nat) (k2 : Nat) (k3 : Nat) (pv : Nat) (pn : Nat) (du : Nat → Int32) (dt : Nat → Int32) (p1 : Int32) (hn : pn ≤ 33) : sxM l yX1_countUsers wdX1_countUsers 1 21 G [(o, .inr (1, [.ref h, .ref d1, .ref d2, .ref d3, .ref d4, .ref d5, .ref d6, .ref d7, .ref d8, .ref d9])), (h, .inr (5, [.ref k0, .ref k1, .ref k2, .ref k3, .int (nI pv), .int (nI pn)])), (d1, .inl (G.2.1, 34, .inl du)), (d2, .inl (G.2.1, 34, .inl dt))] [.ref o, .int p1] (fun r => r = s_X1_countUsers pn du dt p1) := by
  refine sxM.of (cc := cX1_countUsers) (maxL := 4) (by decide) rfl (Nat.le_of_ble_eq_true rfl) ?_
  intro p e s m args below meth c ⟨hx, hb, hr, hml, hown, hlk, hts, hK⟩ hP ls hl
  have hl : lv_has ls 4 [(0, .ref o), (1, .int p1)] := hl
  refine lv_iconst (v := 0) hx hb dX1_countUsers_0 (by decide) ?_
  refine lv_istore_n (lv' := [(2, .int 0), (0, .ref o), (1, .int p1)]) hx hb dX1_countUsers_1 rfl hl (by decide) rfl (fun ls hl => ?_)
  refine lv_iconst (v := 0) hx hb dX1_countUsers_2 (by decide) ?_
  refine lv_istore_n (lv' := [(3, .int 0), (2, .int 0), (0, .ref o), (1, .int p1)]) hx hb dX1_countUsers_3 rfl hl (by decide) rfl (fun ls hl => ?_)
  have hB0 : sxB G yX1_countUsers wdX1_countUsers cX1_countUsers 4 (.int) p s m args meth c := ⟨hx, hb, hr, hml, hown, hlk, hts, hK⟩
  exact l_X1_countUsers_L4 l G o h d1 d2 d3 d4 d5 d6 d7 d8 d9 k0 k1 k2 k3 pv pn du dt p1 hn   hB0 hP _  35 0 0 (Nat.zero_le _) (by omega) (by simp only [s_X1_countUsers]) ls (lv_sub hl [2, 3, 1, 0] rfl)

abbrev wdX1_countGivers : List Cond := Cond.code yX1_countGivers cX1_countGivers 4 (some .int) :: bwC
def sl_X1_countGivers_L4 (pn : Nat) (dg : Nat → Int32) (p1 : Int32)  : Nat → (Int32) → (Nat) → Int32
  | 0, _, _ => 0
  | k + 1, va, i => if (nI pn) ≤ (nI i) then va else (if (s_X1_isOf p1 (dg i)) = 0 then sl_X1_countGivers_L4 pn dg p1 k va (i + 1) else sl_X1_countGivers_L4 pn dg p1 k (va + 1) (i + 1))
set_option maxHeartbeats 4000000 in
set_option maxRecDepth 100000 in
theorem l_X1_countGivers_L4 (l : Launch) (G : sxG) (o : Nat) (h : Nat) (d1 : Nat) (d2 : Nat) (d3 : Nat) (d4 : Nat) (d5 : Nat) (d6 : Nat) (d7 : Nat) (d8 : Nat) (d9 : Nat) (k0 : Nat) (k1 : Nat) (k2 : Nat) (k3 : Nat) (pv : Nat) (pn : Nat) (dg : Nat → Int32) (p1 : Int32) (hn : pn ≤ 33)   {p : Program} {e : Env} {s : State} {m : MethodId} {args : Array Value} {below : List Frame} {meth : Method} {c : Code} (hB : sxB G yX1_countGivers wdX1_countGivers cX1_countGivers 4 (.int) p s m args meth c) (hP : va_P G.1 vwCl [(o, .inr (1, [.ref h, .ref d1, .ref d2, .ref d3, .ref d4, .ref d5, .ref d6, .ref d7, .ref d8, .ref d9])), (h, .inr (5, [.ref k0, .ref k1, .ref k2, .ref k3, .int (nI pv), .int (nI pn)])), (d3, .inl (G.2.1, 34, .inl dg))] s.heap) (S0 : Int32) : ∀ (k : Nat) (va : Int32) (i : Nat), i ≤ pn → 34 - i < k → S0 = sl_X1_countGivers_L4 pn dg p1 k va i → ∀ ls : Array Slot, lv_has ls 4 [(0, .ref o), (1, .int p1), (2, .int va), (3, .int (nI i))] → W p l e ({ frames := 1, cells := 0, slots := 0, locals := 21 }) s m args below meth c s.heap [] 0 0 (MQ below (vp_Si (fun r => r = S0)) args s 0 0 (fun _ => False)) (F0 m 4 ls []) := by
  obtain ⟨hx, hb, hr, hml, hown, hlk, hts, hK⟩ := id hB
  intro k
  induction k with
  | zero =>
    intro va i _ hm
    exact absurd hm (Nat.not_lt_zero _)
  | succ k ih =>
    intro va i hi hm hE ls hl
    refine lv_iload_n hx hb dX1_countGivers_4 rfl (lv_at hl 3 rfl) ?_
    refine lv_aload_n hx hb dX1_countGivers_5 rfl (lv_at hl 0 rfl) ?_
    refine va_get (D := G.1) (ci := 1) (v := .ref h) (C := RX1) (T := TX1) (N := 10) hx hb hts owX1 hown hK.1 hP 0 rfl rfl 0 (by decide) (bw0 (w := Cond.fieldLink RX1 9 "DropflagMill$Deeds" "program" "LDropflagMill$Program;") hts 4 rfl) (fun _ h9 => h9) rfl dX1_countGivers_6 ?_
    refine va_get (D := G.1) (ci := 5) (v := .int (nI pn)) (C := RX5) (T := TX5) (N := 6) hx hb hts owX5 hown hK.1 hP 1 rfl rfl 5 (by decide) (bw1 (w := Cond.fieldLink RX1 43 "DropflagMill$Program" "lines" "I") hts 59 rfl) (fun _ h9 => h9) rfl dX1_countGivers_9 ?_
    refine lv_icmp_ge (tgt := 37) hx hb dX1_countGivers_12 (by decide) (fun c1 => ?_) (fun c1 => ?_)
    · have nc1 := (nI_leI (a := pn) (b := i) (by omega) (by omega)).mp c1
      refine lv_iload_n hx hb dX1_countGivers_37 rfl (lv_at hl 2 rfl) ?_
      exact sx_ret hx hb hr hlk rfl (by rw [hE]; simp only [sl_X1_countGivers_L4, if_pos c1]) dX1_countGivers_38
    · have nc1 := (not_congr (nI_leI (a := pn) (b := i) (by omega) (by omega))).mp c1
      refine lv_iload_n hx hb dX1_countGivers_15 rfl (lv_at hl 1 rfl) ?_
      refine lv_aload_n hx hb dX1_countGivers_16 rfl (lv_at hl 0 rfl) ?_
      refine va_get (D := G.1) (ci := 1) (v := .ref d3) (C := RX1) (T := TX1) (N := 10) hx hb hts owX1 hown hK.1 hP 0 rfl rfl 3 (by decide) (bw0 (w := Cond.fieldLink RX1 22 "DropflagMill$Deeds" "given" "[I") hts 8 rfl) (fun _ h9 => h9) rfl dX1_countGivers_17 ?_
      refine lv_iload_n hx hb dX1_countGivers_20 rfl (lv_at hl 3 rfl) ?_
      refine va_iald hx hb hK.1 hP 2 0 rfl rfl (i := nI i) (vp_in_nI (n := i) (by omega) (by omega)) dX1_countGivers_21 ?_
      rw [show (nI i : Int32).toNatClampNeg = i from nI_clamp (n := i) (by omega)]
      refine sx_s (As := [.int p1, .int (dg i)]) (rest := []) hx hb hml hown hts (c_X1_isOf l G p1 (dg i) ) 2 (sxGS (bi5 (w := Cond.methodLink RX1 81 yX1_isOf) 26 rfl) (bi5 (w := Cond.static yX1_isOf) 27 rfl) (bi0 (w := Cond.initialized RX1) 46 rfl) (bi5 (w := Cond.code yX1_isOf cX1_isOf 2 (some .boolean)) 24 rfl)) rfl (by decide +kernel) ⟨Nat.le_of_ble_eq_true rfl, Nat.le_of_ble_eq_true rfl⟩ hK hP [] rfl rfl hl rfl (Nat.le_of_ble_eq_true rfl) ⟨Nat.zero_le _, Nat.zero_le _⟩ dX1_countGivers_22 (fun r er => ?_)
      subst er
      refine lv_if_eq (tgt := 31) hx hb dX1_countGivers_25 (by decide) (fun c2 => ?_) (fun c2 => ?_)
      · refine lv_iinc (v := nI (i + 1)) (lv' := [(3, .int (nI (i + 1))), (0, .ref o), (1, .int p1), (2, .int va)]) hx hb dX1_countGivers_31 hl (k := 3) rfl (nI_1 i) (by decide) rfl (fun ls hl => ?_)
        refine lv_goto (tgt := 4) hx hb dX1_countGivers_34 (by decide) ?_
        exact ih va (i + 1) (by omega) (by omega) (by rw [hE]; simp only [sl_X1_countGivers_L4, if_neg c1, if_pos c2]) ls (lv_sub hl [1, 2, 3, 0] rfl)
      · refine lv_iinc (v := va + 1) (lv' := [(2, .int (va + 1)), (0, .ref o), (1, .int p1), (3, .int (nI i))]) hx hb dX1_countGivers_28 hl (k := 2) rfl (rfl) (by decide) rfl (fun ls hl => ?_)
        refine lv_iinc (v := nI (i + 1)) (lv' := [(3, .int (nI (i + 1))), (2, .int (va + 1)), (0, .ref o), (1, .int p1)]) hx hb dX1_countGivers_31 hl (k := 3) rfl (nI_1 i) (by decide) rfl (fun ls hl => ?_)
        refine lv_goto (tgt := 4) hx hb dX1_countGivers_34 (by decide) ?_
        exact ih (va + 1) (i + 1) (by omega) (by omega) (by rw [hE]; simp only [sl_X1_countGivers_L4, if_neg c1, if_neg c2]) ls (lv_sub hl [2, 3, 1, 0] rfl)
def s_X1_countGivers (pn : Nat) (dg : Nat → Int32) (p1 : Int32) : Int32 := sl_X1_countGivers_L4 pn dg p1  35 0 0
set_option maxHeartbeats 4000000 in
set_option maxRecDepth 100000 in
theorem c_X1_countGivers (l : Launch) (G : sxG) (o : Nat) (h : Nat) (d1 : Nat) (d2 : Nat) (d3 : Nat) (d4 : Nat) (d5 : Nat) (d6 : Nat) (d7 : Nat) (d8 : Nat) (d9 : Nat) (k0 : Nat) (k1 : Nat) (k2 : Nat) (k3 : Nat) (pv : Nat) (pn : Nat) (dg : Nat → Int32) (p1 : Int32) (hn : pn ≤ 33) : sxM l yX1_countGivers wdX1_countGivers 1 21 G [(o, .inr (1, [.ref h, .ref d1, .ref d2, .ref d3, .ref d4, .ref d5, .ref d6, .ref d7, .ref d8, .ref d9])), (h, .inr (5, [.ref k0, .ref k1, .ref k2, .ref k3, .int (nI pv), .int (nI pn)])), (d3, .inl (G.2.1, 34, .inl dg))] [.ref o, .int p1] (fun r => r = s_X1_countGivers pn dg p1) := by
  refine sxM.of (cc := cX1_countGivers) (maxL := 4) (by decide) rfl (Nat.le_of_ble_eq_true rfl) ?_
  intro p e s m args below meth c ⟨hx, hb, hr, hml, hown, hlk, hts, hK⟩ hP ls hl
  have hl : lv_has ls 4 [(0, .ref o), (1, .int p1)] := hl
  refine lv_iconst (v := 0) hx hb dX1_countGivers_0 (by decide) ?_
  refine lv_istore_n (lv' := [(2, .int 0), (0, .ref o), (1, .int p1)]) hx hb dX1_countGivers_1 rfl hl (by decide) rfl (fun ls hl => ?_)
  refine lv_iconst (v := 0) hx hb dX1_countGivers_2 (by decide) ?_
  refine lv_istore_n (lv' := [(3, .int 0), (2, .int 0), (0, .ref o), (1, .int p1)]) hx hb dX1_countGivers_3 rfl hl (by decide) rfl (fun ls hl => ?_)
  have hB0 : sxB G yX1_countGivers wdX1_countGivers cX1_countGivers 4 (.int) p s m args meth c := ⟨hx, hb, hr, hml, hown, hlk, hts, hK⟩
  exact l_X1_countGivers_L4 l G o h d1 d2 d3 d4 d5 d6 d7 d8 d9 k0 k1 k2 k3 pv pn dg p1 hn   hB0 hP _  35 0 0 (Nat.zero_le _) (by omega) (by simp only [s_X1_countGivers]) ls (lv_sub hl [2, 3, 1, 0] rfl)
