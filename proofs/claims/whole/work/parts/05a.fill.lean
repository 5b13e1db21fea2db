abbrev wdJ7_fill_53178 : List Cond := Cond.code yJ7_fill_53178 cJ7_fill_53178 4 none :: bwC
def sl_J7_fill_53178_L5 (n0 : Nat) (p1 : Int32)  : Nat → (Nat) → (Nat → Int32) → (Nat → Int32)
  | 0, _, f0 => f0
  | k + 1, i, f0 => if (nI n0) ≤ (nI i) then f0 else sl_J7_fill_53178_L5 n0 p1 k (i + 1) (upd f0 i p1)
set_option maxHeartbeats 4000000 in
set_option maxRecDepth 100000 in
theorem l_J7_fill_53178_L5 (l : Launch) (G : sxG) (q : Nat) (n0 : Nat) (p1 : Int32) (hn0 : n0 < 100000)   {p : Program} {e : Env} {s : State} {m : MethodId} {args : Array Value} {below : List Frame} {meth : Method} {c : Code} (hB : sxBv G yJ7_fill_53178 wdJ7_fill_53178 cJ7_fill_53178 4  p s m args meth c) (A : Nat → Prop) (hA : ∀ q : Nat, s.heap.size ≤ q → A q) (S0 : (Nat → Int32)) : ∀ (k : Nat) (i : Nat) (f0 : Nat → Int32), i ≤ n0 → n0 - i < k → S0 = sl_J7_fill_53178_L5 n0 p1 k i f0 → ∀ (H : Heap) (locs : List Loc), va_P G.1 vwCl [(q, .inl (G.2.1, n0, .inl f0))] H → va_D A [(q, .inl (G.2.1, n0, .inl f0))] → va_S A s.heap H locs → ∀ ls : Array Slot, lv_has ls 4 [(0, .ref q), (1, .int p1), (2, .int (nI i)), (3, .int (nI n0))] → W p l e ({ frames := 0, cells := 0, slots := 0, locals := 0 }) s m args below meth c H locs 0 0 (sxZv G args s below A (fun u : (Nat → Int32) => ([(q, .inl (G.2.1, n0, .inl u))] : va_W)) S0) (F0 m 5 ls []) := by
  obtain ⟨hx, hb, hr, hml, hown, hlk, hts, hK⟩ := id hB
  intro k
  induction k with
  | zero =>
    intro i f0 _ hm
    exact absurd hm (Nat.not_lt_zero _)
  | succ k ih =>
    intro i f0 hi hm hE H locs hP hD hS ls hl
    refine lv_iload_n hx hb dJ7_fill_53178_5 rfl (lv_at hl 2 rfl) ?_
    refine lv_iload_n hx hb dJ7_fill_53178_6 rfl (lv_at hl 3 rfl) ?_
    refine lv_icmp_ge (tgt := 20) hx hb dJ7_fill_53178_7 (by decide) (fun c1 => ?_) (fun c1 => ?_)
    · have nc1 := (nI_leI (a := n0) (b := i) (by omega) (by omega)).mp c1
      exact sx_retV (u := f0) hx hb hr hlk hK hP hD hS (by rw [hE]; simp only [sl_J7_fill_53178_L5, if_pos c1]) dJ7_fill_53178_20
    · have nc1 := (not_congr (nI_leI (a := n0) (b := i) (by omega) (by omega))).mp c1
      refine lv_aload_n hx hb dJ7_fill_53178_10 rfl (lv_at hl 0 rfl) ?_
      refine lv_iload_n hx hb dJ7_fill_53178_11 rfl (lv_at hl 2 rfl) ?_
      refine lv_iload_n hx hb dJ7_fill_53178_12 rfl (lv_at hl 1 rfl) ?_
      refine va_iast hx hb hK.1 hP hD hS 0 0 rfl rfl (i := nI i) (vp_in_nI (by omega) (by omega)) dJ7_fill_53178_13 (fun H locs hP hD hS => ?_)
      rw [show (nI i : Int32).toNatClampNeg = i from nI_clamp (by omega)] at hP hD
      have hP : va_P G.1 vwCl [(q, .inl (G.2.1, n0, .inl (upd f0 i p1)))] H := hP
      have hD : va_D A [(q, .inl (G.2.1, n0, .inl (upd f0 i p1)))] := hD
      refine lv_iinc (v := nI (i + 1)) (lv' := [(2, .int (nI (i + 1))), (0, .ref q), (1, .int p1), (3, .int (nI n0))]) hx hb dJ7_fill_53178_14 hl (k := 2) rfl (nI_1 i) (by decide) rfl (fun ls hl => ?_)
      refine lv_goto (tgt := 5) hx hb dJ7_fill_53178_17 (by decide) ?_
      exact ih (i + 1) (upd f0 i p1) (by omega) (by omega) (by rw [hE]; simp only [sl_J7_fill_53178_L5, if_neg c1]) _ _ hP hD hS ls (lv_sub hl [1, 2, 0, 3] rfl)
def s_J7_fill_53178 (n0 : Nat) (f0 : Nat → Int32) (p1 : Int32) : (Nat → Int32) := sl_J7_fill_53178_L5 n0 p1  (n0 + 1) 0 f0
set_option maxHeartbeats 4000000 in
set_option maxRecDepth 100000 in
theorem c_J7_fill_53178 (l : Launch) (G : sxG) (q : Nat) (n0 : Nat) (f0 : Nat → Int32) (p1 : Int32) (hn0 : n0 < 100000) : sxV l yJ7_fill_53178 wdJ7_fill_53178 0 0 G [(q, .inl (G.2.1, n0, .inl f0))] [.ref q, .int p1] (fun u : (Nat → Int32) => ([(q, .inl (G.2.1, n0, .inl u))] : va_W)) (s_J7_fill_53178 n0 f0 p1) := by
  refine sxV.of (cc := cJ7_fill_53178) (maxL := 4) (by decide) rfl (Nat.le_of_ble_eq_true rfl) ?_
  intro p e s m args below meth c ⟨hx, hb, hr, hml, hown, hlk, hts, hK⟩ A hA hP hD hS ls hl
  have hl : lv_has ls 4 [(0, .ref q), (1, .int p1)] := hl
  refine lv_iconst (v := 0) hx hb dJ7_fill_53178_0 (by decide) ?_
  refine lv_istore_n (lv' := [(2, .int 0), (0, .ref q), (1, .int p1)]) hx hb dJ7_fill_53178_1 rfl hl (by decide) rfl (fun ls hl => ?_)
  refine lv_aload_n hx hb dJ7_fill_53178_2 rfl (lv_at hl 1 rfl) ?_
  refine va_alen (v := nI n0) hx hb hK.1 hP 0 0 rfl rfl rfl dJ7_fill_53178_3 ?_
  refine lv_istore_n (lv' := [(3, .int (nI n0)), (2, .int 0), (0, .ref q), (1, .int p1)]) hx hb dJ7_fill_53178_4 rfl hl (by decide) rfl (fun ls hl => ?_)
  have hB0 : sxBv G yJ7_fill_53178 wdJ7_fill_53178 cJ7_fill_53178 4  p s m args meth c := ⟨hx, hb, hr, hml, hown, hlk, hts, hK⟩
  exact l_J7_fill_53178_L5 l G q n0 p1 hn0   hB0 A hA _  (n0 + 1) 0 f0 (Nat.zero_le _) (by omega) (by simp only [s_J7_fill_53178]) _ _ hP hD hS ls (lv_sub hl [2, 3, 1, 0] rfl)
