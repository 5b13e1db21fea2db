/-- isIndexOf(row, i) -/
def s_isIndexOf (n i : Int32) : Int32 := if i < 0 then 0 else if n ≤ i then 0 else 1
set_option maxHeartbeats 4000000 in
set_option maxRecDepth 100000 in
theorem c_X9_isIndexOf (l : Launch) (G : sxG) (h0 n0 : Nat) (f0 : Nat → Int32) (p1 : Int32) : sxM l yX9_isIndexOf wsX9_isIndexOf 0 0 G [(h0, .inl (G.2.1, n0, .inl f0))] [.ref h0, .int p1] (fun r => r = s_isIndexOf (Int32.ofNat n0) p1) := by
  refine sxM.of (cc := cX9_isIndexOf) (maxL := 2) (by decide) rfl (Nat.le_of_ble_eq_true rfl) ?_
  intro p e s m args below meth c ⟨hx, hb, hr, hml, hown, hlk, hts, hK⟩ hP ls hl
  have hl : lv_has ls 2 [(0, .ref h0), (1, .int p1)] := hl
  refine lv_iload_n hx hb dX9_isIndexOf_0 rfl (lv_at hl 1 rfl) ?_
  refine lv_if_lt (tgt := 14) hx hb dX9_isIndexOf_1 (by decide) (fun c1 => ?_) (fun c1 => ?_)
  · refine lv_iconst (v := 0) hx hb dX9_isIndexOf_14 (by decide) ?_
    exact sx_ret hx hb hr hlk rfl (by simp only [s_isIndexOf, if_pos c1]) dX9_isIndexOf_15
  · refine lv_iload_n hx hb dX9_isIndexOf_4 rfl (lv_at hl 1 rfl) ?_
    refine lv_aload_n hx hb dX9_isIndexOf_5 rfl (lv_at hl 0 rfl) ?_
    refine va_alen hx hb hK.1 hP 0 0 rfl rfl rfl dX9_isIndexOf_6 ?_
    refine lv_icmp_ge (tgt := 14) hx hb dX9_isIndexOf_7 (by decide) (fun c2 => ?_) (fun c2 => ?_)
    · refine lv_iconst (v := 0) hx hb dX9_isIndexOf_14 (by decide) ?_
      exact sx_ret hx hb hr hlk rfl (by simp only [s_isIndexOf, if_neg c1, if_pos c2]) dX9_isIndexOf_15
    · refine lv_iconst (v := 1) hx hb dX9_isIndexOf_10 (by decide) ?_
      refine lv_goto (tgt := 15) hx hb dX9_isIndexOf_11 (by decide) ?_
      exact sx_ret hx hb hr hlk rfl (by simp only [s_isIndexOf, if_neg c1, if_neg c2]) dX9_isIndexOf_15
