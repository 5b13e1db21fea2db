abbrev wdX9_isIndexOf : List Cond := Cond.code yX9_isIndexOf cX9_isIndexOf 2 (some .boolean) :: bwC
/-- isIndexOf(row, i) -/
def s_X9_isIndexOf (n0 : Nat) (p1 : Int32) : Int32 := if p1 < 0 then 0 else (if (nI n0) ≤ p1 then 0 else 1)
set_option maxHeartbeats 4000000 in
set_option maxRecDepth 100000 in
theorem c_X9_isIndexOf (l : Launch) (G : sxG) (h0 : Nat) (n0 : Nat) (f0 : Nat → Int32) (p1 : Int32)  : sxM l yX9_isIndexOf wdX9_isIndexOf 0 0 G [(h0, .inl (G.2.1, n0, .inl f0))] [.ref h0, .int p1] (fun r => r = s_X9_isIndexOf n0 p1) := by
  refine sxM.of (cc := cX9_isIndexOf) (maxL := 2) (by decide) rfl (Nat.le_of_ble_eq_true rfl) ?_
  intro p e s m args below meth c ⟨hx, hb, hr, hml, hown, hlk, hts, hK⟩ hP ls hl
  have hl : lv_has ls 2 [(0, .ref h0), (1, .int p1)] := hl
  refine lv_iload_n hx hb dX9_isIndexOf_0 rfl (lv_at hl 1 rfl) ?_
  refine lv_if_lt (tgt := 14) hx hb dX9_isIndexOf_1 (by decide) (fun c1 => ?_) (fun c1 => ?_)
  · refine lv_iconst (v := 0) hx hb dX9_isIndexOf_14 (by decide) ?_
    exact sx_ret hx hb hr hlk rfl (by simp only [s_X9_isIndexOf, if_pos c1]) dX9_isIndexOf_15
  · refine lv_iload_n hx hb dX9_isIndexOf_4 rfl (lv_at hl 1 rfl) ?_
    refine lv_aload_n hx hb dX9_isIndexOf_5 rfl (lv_at hl 0 rfl) ?_
    refine va_alen (v := nI n0) hx hb hK.1 hP 0 0 rfl rfl rfl dX9_isIndexOf_6 ?_
    refine lv_icmp_ge (tgt := 14) hx hb dX9_isIndexOf_7 (by decide) (fun c2 => ?_) (fun c2 => ?_)
    · refine lv_iconst (v := 0) hx hb dX9_isIndexOf_14 (by decide) ?_
      exact sx_ret hx hb hr hlk rfl (by simp only [s_X9_isIndexOf, if_neg c1, if_pos c2]) dX9_isIndexOf_15
    · refine lv_iconst (v := 1) hx hb dX9_isIndexOf_10 (by decide) ?_
      refine lv_goto (tgt := 15) hx hb dX9_isIndexOf_11 (by decide) ?_
      exact sx_ret hx hb hr hlk rfl (by simp only [s_X9_isIndexOf, if_neg c1, if_neg c2]) dX9_isIndexOf_15

abbrev wdX9_isSmall : List Cond := Cond.code yX9_isSmall cX9_isSmall 1 (some .boolean) :: bwC
def s_X9_isSmall (p0 : Int32) : Int32 := if p0 < (-99) then 0 else (if 99 < p0 then 0 else 1)
set_option maxHeartbeats 4000000 in
set_option maxRecDepth 100000 in
theorem c_X9_isSmall (l : Launch) (G : sxG) (p0 : Int32)  : sxM l yX9_isSmall wdX9_isSmall 0 0 G [] [.int p0] (fun r => r = s_X9_isSmall p0) := by
  refine sxM.of (cc := cX9_isSmall) (maxL := 1) (by decide) rfl (Nat.le_of_ble_eq_true rfl) ?_
  intro p e s m args below meth c ⟨hx, hb, hr, hml, hown, hlk, hts, hK⟩ hP ls hl
  have hl : lv_has ls 1 [(0, .int p0)] := hl
  refine lv_iload_n hx hb dX9_isSmall_0 rfl (lv_at hl 0 rfl) ?_
  refine lv_bipush (v := (-99)) hx hb dX9_isSmall_1 (by decide) ?_
  refine lv_icmp_lt (tgt := 16) hx hb dX9_isSmall_3 (by decide) (fun c1 => ?_) (fun c1 => ?_)
  · refine lv_iconst (v := 0) hx hb dX9_isSmall_16 (by decide) ?_
    exact sx_ret hx hb hr hlk rfl (by simp only [s_X9_isSmall, if_pos c1]) dX9_isSmall_17
  · refine lv_iload_n hx hb dX9_isSmall_6 rfl (lv_at hl 0 rfl) ?_
    refine lv_bipush (v := 99) hx hb dX9_isSmall_7 (by decide) ?_
    refine lv_icmp_gt (tgt := 16) hx hb dX9_isSmall_9 (by decide) (fun c2 => ?_) (fun c2 => ?_)
    · refine lv_iconst (v := 0) hx hb dX9_isSmall_16 (by decide) ?_
      exact sx_ret hx hb hr hlk rfl (by simp only [s_X9_isSmall, if_neg c1, if_pos c2]) dX9_isSmall_17
    · refine lv_iconst (v := 1) hx hb dX9_isSmall_12 (by decide) ?_
      refine lv_goto (tgt := 17) hx hb dX9_isSmall_13 (by decide) ?_
      exact sx_ret hx hb hr hlk rfl (by simp only [s_X9_isSmall, if_neg c1, if_neg c2]) dX9_isSmall_17

abbrev wdX9_isOwned : List Cond := Cond.code yX9_isOwned cX9_isOwned 1 (some .boolean) :: bwC
def s_X9_isOwned (p0 : Int32) : Int32 := if p0 = 1 then 1 else (if p0 = 2 then 1 else (if p0 = 5 then 1 else 0))
set_option maxHeartbeats 4000000 in
set_option maxRecDepth 100000 in
theorem c_X9_isOwned (l : Launch) (G : sxG) (p0 : Int32)  : sxM l yX9_isOwned wdX9_isOwned 0 0 G [] [.int p0] (fun r => r = s_X9_isOwned p0) := by
  refine sxM.of (cc := cX9_isOwned) (maxL := 1) (by decide) rfl (Nat.le_of_ble_eq_true rfl) ?_
  intro p e s m args below meth c ⟨hx, hb, hr, hml, hown, hlk, hts, hK⟩ hP ls hl
  have hl : lv_has ls 1 [(0, .int p0)] := hl
  refine lv_iload_n hx hb dX9_isOwned_0 rfl (lv_at hl 0 rfl) ?_
  refine lv_iconst (v := 1) hx hb dX9_isOwned_1 (by decide) ?_
  refine lv_icmp_eq (tgt := 15) hx hb dX9_isOwned_2 (by decide) (fun c1 => ?_) (fun c1 => ?_)
  · refine lv_iconst (v := 1) hx hb dX9_isOwned_15 (by decide) ?_
    refine lv_goto (tgt := 20) hx hb dX9_isOwned_16 (by decide) ?_
    exact sx_ret hx hb hr hlk rfl (by simp only [s_X9_isOwned, if_pos c1]) dX9_isOwned_20
  · refine lv_iload_n hx hb dX9_isOwned_5 rfl (lv_at hl 0 rfl) ?_
    refine lv_iconst (v := 2) hx hb dX9_isOwned_6 (by decide) ?_
    refine lv_icmp_eq (tgt := 15) hx hb dX9_isOwned_7 (by decide) (fun c2 => ?_) (fun c2 => ?_)
    · refine lv_iconst (v := 1) hx hb dX9_isOwned_15 (by decide) ?_
      refine lv_goto (tgt := 20) hx hb dX9_isOwned_16 (by decide) ?_
      exact sx_ret hx hb hr hlk rfl (by simp only [s_X9_isOwned, if_neg c1, if_pos c2]) dX9_isOwned_20
    · refine lv_iload_n hx hb dX9_isOwned_10 rfl (lv_at hl 0 rfl) ?_
      refine lv_iconst (v := 5) hx hb dX9_isOwned_11 (by decide) ?_
      refine lv_icmp_ne (tgt := 19) hx hb dX9_isOwned_12 (by decide) (fun c3 => ?_) (fun c3 => ?_)
      · refine lv_iconst (v := 0) hx hb dX9_isOwned_19 (by decide) ?_
        exact sx_ret hx hb hr hlk rfl (by simp only [s_X9_isOwned, if_neg c1, if_neg c2, if_neg c3]) dX9_isOwned_20
      · refine lv_iconst (v := 1) hx hb dX9_isOwned_15 (by decide) ?_
        refine lv_goto (tgt := 20) hx hb dX9_isOwned_16 (by decide) ?_
        exact sx_ret hx hb hr hlk rfl (by simp only [s_X9_isOwned, if_neg c1, if_neg c2, if_pos c3]) dX9_isOwned_20

abbrev wdX9_isBorrowKind : List Cond := Cond.code yX9_isBorrowKind cX9_isBorrowKind 1 (some .boolean) :: bwC
def s_X9_isBorrowKind (p0 : Int32) : Int32 := if p0 = 3 then 1 else (if p0 = 4 then 1 else 0)
set_option maxHeartbeats 4000000 in
set_option maxRecDepth 100000 in
theorem c_X9_isBorrowKind (l : Launch) (G : sxG) (p0 : Int32)  : sxM l yX9_isBorrowKind wdX9_isBorrowKind 0 0 G [] [.int p0] (fun r => r = s_X9_isBorrowKind p0) := by
  refine sxM.of (cc := cX9_isBorrowKind) (maxL := 1) (by decide) rfl (Nat.le_of_ble_eq_true rfl) ?_
  intro p e s m args below meth c ⟨hx, hb, hr, hml, hown, hlk, hts, hK⟩ hP ls hl
  have hl : lv_has ls 1 [(0, .int p0)] := hl
  refine lv_iload_n hx hb dX9_isBorrowKind_0 rfl (lv_at hl 0 rfl) ?_
  refine lv_iconst (v := 3) hx hb dX9_isBorrowKind_1 (by decide) ?_
  refine lv_icmp_eq (tgt := 10) hx hb dX9_isBorrowKind_2 (by decide) (fun c1 => ?_) (fun c1 => ?_)
  · refine lv_iconst (v := 1) hx hb dX9_isBorrowKind_10 (by decide) ?_
    refine lv_goto (tgt := 15) hx hb dX9_isBorrowKind_11 (by decide) ?_
    exact sx_ret hx hb hr hlk rfl (by simp only [s_X9_isBorrowKind, if_pos c1]) dX9_isBorrowKind_15
  · refine lv_iload_n hx hb dX9_isBorrowKind_5 rfl (lv_at hl 0 rfl) ?_
    refine lv_iconst (v := 4) hx hb dX9_isBorrowKind_6 (by decide) ?_
    refine lv_icmp_ne (tgt := 14) hx hb dX9_isBorrowKind_7 (by decide) (fun c2 => ?_) (fun c2 => ?_)
    · refine lv_iconst (v := 0) hx hb dX9_isBorrowKind_14 (by decide) ?_
      exact sx_ret hx hb hr hlk rfl (by simp only [s_X9_isBorrowKind, if_neg c1, if_neg c2]) dX9_isBorrowKind_15
    · refine lv_iconst (v := 1) hx hb dX9_isBorrowKind_10 (by decide) ?_
      refine lv_goto (tgt := 15) hx hb dX9_isBorrowKind_11 (by decide) ?_
      exact sx_ret hx hb hr hlk rfl (by simp only [s_X9_isBorrowKind, if_neg c1, if_pos c2]) dX9_isBorrowKind_15

abbrev wdX9_canBeLent : List Cond := Cond.code yX9_canBeLent cX9_canBeLent 1 (some .boolean) :: bwC
def s_X9_canBeLent (p0 : Int32) : Int32 := if p0 = 0 then 1 else (if p0 = 1 then 1 else (if p0 = 2 then 1 else 0))
set_option maxHeartbeats 4000000 in
set_option maxRecDepth 100000 in
theorem c_X9_canBeLent (l : Launch) (G : sxG) (p0 : Int32)  : sxM l yX9_canBeLent wdX9_canBeLent 0 0 G [] [.int p0] (fun r => r = s_X9_canBeLent p0) := by
  refine sxM.of (cc := cX9_canBeLent) (maxL := 1) (by decide) rfl (Nat.le_of_ble_eq_true rfl) ?_
  intro p e s m args below meth c ⟨hx, hb, hr, hml, hown, hlk, hts, hK⟩ hP ls hl
  have hl : lv_has ls 1 [(0, .int p0)] := hl
  refine lv_iload_n hx hb dX9_canBeLent_0 rfl (lv_at hl 0 rfl) ?_
  refine lv_if_eq (tgt := 14) hx hb dX9_canBeLent_1 (by decide) (fun c1 => ?_) (fun c1 => ?_)
  · refine lv_iconst (v := 1) hx hb dX9_canBeLent_14 (by decide) ?_
    refine lv_goto (tgt := 19) hx hb dX9_canBeLent_15 (by decide) ?_
    exact sx_ret hx hb hr hlk rfl (by simp only [s_X9_canBeLent, if_pos c1]) dX9_canBeLent_19
  · refine lv_iload_n hx hb dX9_canBeLent_4 rfl (lv_at hl 0 rfl) ?_
    refine lv_iconst (v := 1) hx hb dX9_canBeLent_5 (by decide) ?_
    refine lv_icmp_eq (tgt := 14) hx hb dX9_canBeLent_6 (by decide) (fun c2 => ?_) (fun c2 => ?_)
    · refine lv_iconst (v := 1) hx hb dX9_canBeLent_14 (by decide) ?_
      refine lv_goto (tgt := 19) hx hb dX9_canBeLent_15 (by decide) ?_
      exact sx_ret hx hb hr hlk rfl (by simp only [s_X9_canBeLent, if_neg c1, if_pos c2]) dX9_canBeLent_19
    · refine lv_iload_n hx hb dX9_canBeLent_9 rfl (lv_at hl 0 rfl) ?_
      refine lv_iconst (v := 2) hx hb dX9_canBeLent_10 (by decide) ?_
      refine lv_icmp_ne (tgt := 18) hx hb dX9_canBeLent_11 (by decide) (fun c3 => ?_) (fun c3 => ?_)
      · refine lv_iconst (v := 0) hx hb dX9_canBeLent_18 (by decide) ?_
        exact sx_ret hx hb hr hlk rfl (by simp only [s_X9_canBeLent, if_neg c1, if_neg c2, if_neg c3]) dX9_canBeLent_19
      · refine lv_iconst (v := 1) hx hb dX9_canBeLent_14 (by decide) ?_
        refine lv_goto (tgt := 19) hx hb dX9_canBeLent_15 (by decide) ?_
        exact sx_ret hx hb hr hlk rfl (by simp only [s_X9_canBeLent, if_neg c1, if_neg c2, if_pos c3]) dX9_canBeLent_19

abbrev wdX9_loansOf : List Cond := Cond.code yX9_loansOf cX9_loansOf 1 (some .int) :: bwC
def s_X9_loansOf (p0 : Int32) : Int32 := if p0 = 3 then 1 else (if p0 = 4 then 1 else 0)
set_option maxHeartbeats 4000000 in
set_option maxRecDepth 100000 in
theorem c_X9_loansOf (l : Launch) (G : sxG) (p0 : Int32)  : sxM l yX9_loansOf wdX9_loansOf 0 0 G [] [.int p0] (fun r => r = s_X9_loansOf p0) := by
  refine sxM.of (cc := cX9_loansOf) (maxL := 1) (by decide) rfl (Nat.le_of_ble_eq_true rfl) ?_
  intro p e s m args below meth c ⟨hx, hb, hr, hml, hown, hlk, hts, hK⟩ hP ls hl
  have hl : lv_has ls 1 [(0, .int p0)] := hl
  refine lv_iload_n hx hb dX9_loansOf_0 rfl (lv_at hl 0 rfl) ?_
  refine lv_iconst (v := 3) hx hb dX9_loansOf_1 (by decide) ?_
  refine lv_icmp_eq (tgt := 10) hx hb dX9_loansOf_2 (by decide) (fun c1 => ?_) (fun c1 => ?_)
  · refine lv_iconst (v := 1) hx hb dX9_loansOf_10 (by decide) ?_
    refine lv_goto (tgt := 15) hx hb dX9_loansOf_11 (by decide) ?_
    exact sx_ret hx hb hr hlk rfl (by simp only [s_X9_loansOf, if_pos c1]) dX9_loansOf_15
  · refine lv_iload_n hx hb dX9_loansOf_5 rfl (lv_at hl 0 rfl) ?_
    refine lv_iconst (v := 4) hx hb dX9_loansOf_6 (by decide) ?_
    refine lv_icmp_ne (tgt := 14) hx hb dX9_loansOf_7 (by decide) (fun c2 => ?_) (fun c2 => ?_)
    · refine lv_iconst (v := 0) hx hb dX9_loansOf_14 (by decide) ?_
      exact sx_ret hx hb hr hlk rfl (by simp only [s_X9_loansOf, if_neg c1, if_neg c2]) dX9_loansOf_15
    · refine lv_iconst (v := 1) hx hb dX9_loansOf_10 (by decide) ?_
      refine lv_goto (tgt := 15) hx hb dX9_loansOf_11 (by decide) ?_
      exact sx_ret hx hb hr hlk rfl (by simp only [s_X9_loansOf, if_neg c1, if_pos c2]) dX9_loansOf_15

abbrev wdX9_meets : List Cond := Cond.code yX9_meets cX9_meets 3 (some .boolean) :: bwC
def s_X9_meets (p0 : Int32) (p1 : Int32) : Int32 := if p0 = p1 then 1 else (if (p0 - p0 / 3 * 3) = 0 then (if (p0 / 3) = (p1 / 3) then 1 else 0) else (if (p1 - p1 / 3 * 3) = 0 then (if (p0 / 3) = (p1 / 3) then 1 else 0) else 0))
set_option maxHeartbeats 4000000 in
set_option maxRecDepth 100000 in
theorem c_X9_meets (l : Launch) (G : sxG) (p0 : Int32) (p1 : Int32)  : sxM l yX9_meets wdX9_meets 0 0 G [] [.int p0, .int p1] (fun r => r = s_X9_meets p0 p1) := by
  refine sxM.of (cc := cX9_meets) (maxL := 3) (by decide) rfl (Nat.le_of_ble_eq_true rfl) ?_
  intro p e s m args below meth c ⟨hx, hb, hr, hml, hown, hlk, hts, hK⟩ hP ls hl
  have hl : lv_has ls 3 [(0, .int p0), (1, .int p1)] := hl
  refine lv_iload_n hx hb dX9_meets_0 rfl (lv_at hl 0 rfl) ?_
  refine lv_iload_n hx hb dX9_meets_1 rfl (lv_at hl 1 rfl) ?_
  refine lv_icmp_ne (tgt := 7) hx hb dX9_meets_2 (by decide) (fun c1 => ?_) (fun c1 => ?_)
  · refine lv_iload_n hx hb dX9_meets_7 rfl (lv_at hl 0 rfl) ?_
    refine lv_iconst (v := 3) hx hb dX9_meets_8 (by decide) ?_
    refine lv_irem hx hb dX9_meets_9 (by decide) ?_
    refine lv_if_eq (tgt := 19) hx hb dX9_meets_10 (by decide) (fun c2 => ?_) (fun c2 => ?_)
    · refine lv_iconst (v := 1) hx hb dX9_meets_19 (by decide) ?_
      refine lv_goto (tgt := 24) hx hb dX9_meets_20 (by decide) ?_
      refine lv_istore_n (lv' := [(2, .int 1), (0, .int p0), (1, .int p1)]) hx hb dX9_meets_24 rfl hl (by decide) rfl (fun ls hl => ?_)
      refine lv_iload_n hx hb dX9_meets_25 rfl (lv_at hl 0 rfl) ?_
      refine lv_if_eq (tgt := 42) hx hb dX9_meets_26 (by decide) (fun c3 => absurd c3 (by decide)) (fun c3 => ?_)
      refine lv_iload_n hx hb dX9_meets_29 rfl (lv_at hl 1 rfl) ?_
      refine lv_iconst (v := 3) hx hb dX9_meets_30 (by decide) ?_
      refine lv_idiv hx hb dX9_meets_31 (by decide) ?_
      refine lv_iload_n hx hb dX9_meets_32 rfl (lv_at hl 2 rfl) ?_
      refine lv_iconst (v := 3) hx hb dX9_meets_33 (by decide) ?_
      refine lv_idiv hx hb dX9_meets_34 (by decide) ?_
      refine lv_icmp_ne (tgt := 42) hx hb dX9_meets_35 (by decide) (fun c4 => ?_) (fun c4 => ?_)
      · refine lv_iconst (v := 0) hx hb dX9_meets_42 (by decide) ?_
        exact sx_ret hx hb hr hlk rfl (by simp only [s_X9_meets, if_neg c1, if_pos c2, if_neg c4]) dX9_meets_43
      · refine lv_iconst (v := 1) hx hb dX9_meets_38 (by decide) ?_
        refine lv_goto (tgt := 43) hx hb dX9_meets_39 (by decide) ?_
        exact sx_ret hx hb hr hlk rfl (by simp only [s_X9_meets, if_neg c1, if_pos c2, if_pos c4]) dX9_meets_43
    · refine lv_iload_n hx hb dX9_meets_13 rfl (lv_at hl 1 rfl) ?_
      refine lv_iconst (v := 3) hx hb dX9_meets_14 (by decide) ?_
      refine lv_irem hx hb dX9_meets_15 (by decide) ?_
      refine lv_if_ne (tgt := 23) hx hb dX9_meets_16 (by decide) (fun c5 => ?_) (fun c5 => ?_)
      · refine lv_iconst (v := 0) hx hb dX9_meets_23 (by decide) ?_
        refine lv_istore_n (lv' := [(2, .int 0), (0, .int p0), (1, .int p1)]) hx hb dX9_meets_24 rfl hl (by decide) rfl (fun ls hl => ?_)
        refine lv_iload_n hx hb dX9_meets_25 rfl (lv_at hl 0 rfl) ?_
        refine lv_if_eq (tgt := 42) hx hb dX9_meets_26 (by decide) (fun c6 => ?_) (fun c6 => absurd c6 (by decide))
        refine lv_iconst (v := 0) hx hb dX9_meets_42 (by decide) ?_
        exact sx_ret hx hb hr hlk rfl (by simp only [s_X9_meets, if_neg c1, if_neg c2, if_neg c5]) dX9_meets_43
      · refine lv_iconst (v := 1) hx hb dX9_meets_19 (by decide) ?_
        refine lv_goto (tgt := 24) hx hb dX9_meets_20 (by decide) ?_
        refine lv_istore_n (lv' := [(2, .int 1), (0, .int p0), (1, .int p1)]) hx hb dX9_meets_24 rfl hl (by decide) rfl (fun ls hl => ?_)
        refine lv_iload_n hx hb dX9_meets_25 rfl (lv_at hl 0 rfl) ?_
        refine lv_if_eq (tgt := 42) hx hb dX9_meets_26 (by decide) (fun c7 => absurd c7 (by decide)) (fun c7 => ?_)
        refine lv_iload_n hx hb dX9_meets_29 rfl (lv_at hl 1 rfl) ?_
        refine lv_iconst (v := 3) hx hb dX9_meets_30 (by decide) ?_
        refine lv_idiv hx hb dX9_meets_31 (by decide) ?_
        refine lv_iload_n hx hb dX9_meets_32 rfl (lv_at hl 2 rfl) ?_
        refine lv_iconst (v := 3) hx hb dX9_meets_33 (by decide) ?_
        refine lv_idiv hx hb dX9_meets_34 (by decide) ?_
        refine lv_icmp_ne (tgt := 42) hx hb dX9_meets_35 (by decide) (fun c8 => ?_) (fun c8 => ?_)
        · refine lv_iconst (v := 0) hx hb dX9_meets_42 (by decide) ?_
          exact sx_ret hx hb hr hlk rfl (by simp only [s_X9_meets, if_neg c1, if_neg c2, if_pos c5, if_neg c8]) dX9_meets_43
        · refine lv_iconst (v := 1) hx hb dX9_meets_38 (by decide) ?_
          refine lv_goto (tgt := 43) hx hb dX9_meets_39 (by decide) ?_
          exact sx_ret hx hb hr hlk rfl (by simp only [s_X9_meets, if_neg c1, if_neg c2, if_pos c5, if_pos c8]) dX9_meets_43
  · refine lv_iconst (v := 1) hx hb dX9_meets_5 (by decide) ?_
    exact sx_ret hx hb hr hlk rfl (by simp only [s_X9_meets, if_pos c1]) dX9_meets_6

abbrev wdX1_isOf : List Cond := Cond.code yX1_isOf cX1_isOf 2 (some .boolean) :: bwC
def s_X1_isOf (p0 : Int32) (p1 : Int32) : Int32 := if p1 < 0 then 0 else (if (p1 / 3) = p0 then 1 else 0)
set_option maxHeartbeats 4000000 in
set_option maxRecDepth 100000 in
theorem c_X1_isOf (l : Launch) (G : sxG) (p0 : Int32) (p1 : Int32)  : sxM l yX1_isOf wdX1_isOf 0 0 G [] [.int p0, .int p1] (fun r => r = s_X1_isOf p0 p1) := by
  refine sxM.of (cc := cX1_isOf) (maxL := 2) (by decide) rfl (Nat.le_of_ble_eq_true rfl) ?_
  intro p e s m args below meth c ⟨hx, hb, hr, hml, hown, hlk, hts, hK⟩ hP ls hl
  have hl : lv_has ls 2 [(0, .int p0), (1, .int p1)] := hl
  refine lv_iload_n hx hb dX1_isOf_0 rfl (lv_at hl 1 rfl) ?_
  refine lv_if_lt (tgt := 15) hx hb dX1_isOf_1 (by decide) (fun c1 => ?_) (fun c1 => ?_)
  · refine lv_iconst (v := 0) hx hb dX1_isOf_15 (by decide) ?_
    exact sx_ret hx hb hr hlk rfl (by simp only [s_X1_isOf, if_pos c1]) dX1_isOf_16
  · refine lv_iload_n hx hb dX1_isOf_4 rfl (lv_at hl 1 rfl) ?_
    refine lv_iconst (v := 3) hx hb dX1_isOf_5 (by decide) ?_
    refine lv_idiv hx hb dX1_isOf_6 (by decide) ?_
    refine lv_iload_n hx hb dX1_isOf_7 rfl (lv_at hl 0 rfl) ?_
    refine lv_icmp_ne (tgt := 15) hx hb dX1_isOf_8 (by decide) (fun c2 => ?_) (fun c2 => ?_)
    · refine lv_iconst (v := 0) hx hb dX1_isOf_15 (by decide) ?_
      exact sx_ret hx hb hr hlk rfl (by simp only [s_X1_isOf, if_neg c1, if_neg c2]) dX1_isOf_16
    · refine lv_iconst (v := 1) hx hb dX1_isOf_11 (by decide) ?_
      refine lv_goto (tgt := 16) hx hb dX1_isOf_12 (by decide) ?_
      exact sx_ret hx hb hr hlk rfl (by simp only [s_X1_isOf, if_neg c1, if_pos c2]) dX1_isOf_16
