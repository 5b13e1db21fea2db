/-! THE DIGEST'S VALUES, by what the mill knows -/
def dgI (g : Nat → Int64 → Int64) (d : Int64) : Nat → Int64
  | 0 => d
  | i + 1 => g i (dgI g d i)
theorem dgI_0 {g g' : Nat → Int64 → Int64} {d d0 : Int64} {v m : Nat} (h : d = dgI g d0 v) (e : v = m) : d = dgI g' (dgI g d0 m) 0 := by
  subst e
  exact h
theorem dgI_S {g : Nat → Int64 → Int64} {d0 d d' : Int64} {i : Nat} (h : d = dgI g d0 i) (e : d' = g i d) : d' = dgI g d0 (i + 1) := by
  rw [e, h]
  rfl
abbrev dgMany (T : qk_T) (n : Nat) (x : Int32) : Int32 := s_X9_many (qk_flg T) (qk_wwr T) (qk_lc T) (qk_fc T) 8 n (qk_cr T) (qk_cn T) x
abbrev dgVar (T : qk_T) (n : Nat) (fk : Nat → Int32) (x y : Int32) : Int32 := s_X9_ofVariable (qk_flg T) (qk_du T) (qk_dt T) (qk_dg T) 8 n fk x y
abbrev dgLine (T : qk_T) (n : Nat) (fs fa fb : Nat → Int32) (x y : Int32) : Int32 := s_X9_ofLine (qk_wwr T) (qk_yf T) (qk_ys T) n fs fa fb (qk_cr T) x y
abbrev dgState (T : qk_T) (n : Nat) (fk : Nat → Int32) (x y : Int32) : Int32 := s_X9_state 8 n fk (qk_cr T) (qk_ch T) (qk_cl T) x y
abbrev dgWay (T : qk_T) (n : Nat) (fk : Nat → Int32) (x y : Int32) : Int32 := s_X9_inTheWay (qk_lc T) (qk_yp T) (qk_ye T) 8 n fk (qk_cd T) (qk_cn T) x y
abbrev dgHolds (T : qk_T) (n : Nat) (fk : Nat → Int32) (x y : Int32) : Int32 := s_X9_holds 8 n fk (qk_cd T) x y
abbrev dgWant (T : qk_T) (n : Nat) (fk : Nat → Int32) (x y : Int32) : Int32 := s_X9_isWanted 8 n fk (qk_cn T) x y
abbrev dgA (T : qk_T) (n : Nat) (r : Int32) (d : Int64) : Int64 := (s_X9_withLoansAndFaults r (qk_dbu T) (qk_lc T) (qk_yl T) (qk_yp T) (qk_ye T) 8 n (qk_cd T) (qk_fc T) (qk_xn T) (qk_xl T) (qk_xp T) (qk_xo T) d).2
abbrev dgB (Y : qr_Y) (r : Int32) (d : Int64) : Int64 := (s_X9_withLatestRun r (qr_yoco Y) (qr_ystp Y) (qr_ybxm Y) (qr_ybxd Y) (qr_ypnl Y) (qr_ysc Y) (qr_ynm Y) (qr_yng Y) (qr_yzs Y) (qr_yzn Y) (qr_yzl Y) d).2
/-- of a variable ahead of a line -/
def dgV2 (T : qk_T) (n : Nat) (fk : Nat → Int32) (i v : Nat) (d : Int64) : Int64 := (d * 31 + (dgState T n fk (nI i) (nI (3 * v))).toInt64) * 31 + (dgWay T n fk (nI i) (nI (3 * v))).toInt64
def dgV4 (T : qk_T) (n : Nat) (fk : Nat → Int32) (i v : Nat) (d : Int64) : Int64 := (d * 31 + (dgHolds T n fk (nI i) (nI v)).toInt64) * 31 + (if dgWant T n fk (nI i) (nI v) = 0 then (0 : Int32).toInt64 else (1 : Int32).toInt64)
def dgV (T : qk_T) (n : Nat) (fk : Nat → Int32) (i v : Nat) (d : Int64) : Int64 := if s_X5_isBorrow 8 fk (nI v) = 0 then dgV2 T n fk i v d else dgV4 T n fk i v (dgV2 T n fk i v d)
def dgW (T : qk_T) (n : Nat) (fs fa fb : Nat → Int32) (i w : Nat) (d : Int64) : Int64 := d * 31 + (dgLine T n fs fa fb (nI i) (nI (w + 3))).toInt64
noncomputable def dgL (T : qk_T) (n : Nat) (fk fs fa fb : Nat → Int32) (i : Nat) (d : Int64) : Int64 := dgI (dgV T n fk i) (dgI (dgW T n fs fa fb i) d 3) 8 * 31 + (nI (fwN fk n fs fa fb i)).toInt64
def dgM (T : qk_T) (n w : Nat) (d : Int64) : Int64 := d * 31 + (dgMany T n (nI w)).toInt64
def dgX (T : qk_T) (n : Nat) (fk : Nat → Int32) (v w : Nat) (d : Int64) : Int64 := d * 31 + (dgVar T n fk (nI v) (nI w)).toInt64
def dgY (T : qk_T) (n : Nat) (fk : Nat → Int32) (v : Nat) (d : Int64) : Int64 := dgI (dgX T n fk v) d 4
noncomputable def dgD (T : qk_T) (Y : qr_Y) (r : Int32) (n : Nat) (fk fs fa fb : Nat → Int32) : Int64 := dgB Y r (dgA T n r (dgI (dgL T n fk fs fa fb) (dgI (dgY T n fk) (dgI (dgM T n) 58135 7) 8) n)) * 31 + (lkN n fk fs fa fb (n - 1)).toInt64
/-! the runs are kept -/
theorem dg_b3 {sc : Int32} {zs zn zl : Nat → Int32} {i2 : Nat} {K : Nat → Int64 → Int32 × Int64} : ∀ (k w : Nat) (x : Int64), w ≤ 3 → 3 - w < k → ∃ y, sl_X9_withLatestRun_L57_3 sc zs zn zl i2 K k w x = K (i2 + 1) y
  | 0, w, x, h, hk => by omega
  | k + 1, w, x, h, hk => by
    rw [sl_X9_withLatestRun_L57_3]
    by_cases c : w ≤ 2
    · rw [if_neg (show ¬ (2 : Int32) < nI w from fun z => absurd ((nI_ltI (a := 2) (by omega) (by omega)).mp z) (by omega))]
      exact dg_b3 k (w + 1) _ (by omega) (by omega)
    · rw [if_pos (show (2 : Int32) < nI w from (nI_ltI (a := 2) (by omega) (by omega)).mpr (by omega))]
      exact ⟨x, rfl⟩
theorem dg_b2 {rns sc : Int32} {zs zn zl : Nat → Int32} : ∀ (k i2 : Nat) (x : Int64), i2 ≤ 60 → 60 - i2 < k → (sl_X9_withLatestRun_L47_2 rns sc zs zn zl k i2 x).1 = rns
  | 0, i2, x, h, hk => by omega
  | k + 1, i2, x, h, hk => by
    rw [sl_X9_withLatestRun_L47_2]
    split
    · rfl
    · rename_i c
      have := sx_kept60 (show i2 < 2 ^ 31 by omega) c
      obtain ⟨y, e⟩ := dg_b3 (sc := sc) (zs := zs) (zn := zn) (zl := zl) (i2 := i2) (K := sl_X9_withLatestRun_L47_2 rns sc zs zn zl k) 4 0 x (by omega) (by omega)
      rw [e]
      exact dg_b2 k (i2 + 1) y (by omega) (by omega)
theorem dg_b1 {rns oco bxm bxd pnl sc ng : Int32} {stp nm : Nat} {zs zn zl : Nat → Int32} : ∀ (k i : Nat) (x : Int64), i ≤ 10 → 10 - i < k → (sl_X9_withLatestRun_L5 rns oco stp bxm bxd pnl sc nm ng zs zn zl k i x).1 = rns
  | 0, i, x, h, hk => by omega
  | k + 1, i, x, h, hk => by
    rw [sl_X9_withLatestRun_L5]
    by_cases c : i ≤ 9
    · rw [if_neg (show ¬ (9 : Int32) < nI i from fun z => absurd ((nI_ltI (a := 9) (by omega) (by omega)).mp z) (by omega))]
      exact dg_b1 k (i + 1) _ (by omega) (by omega)
    · rw [if_pos (show (9 : Int32) < nI i from (nI_ltI (a := 9) (by omega) (by omega)).mpr (by omega))]
      exact dg_b2 62 0 x (by omega) (by omega)
theorem dg_a4 {dbu xn xl xp xo cd : Nat → Int32} {lc pv pn fc i2 : Nat} {K : Nat → Int64 → Int32 × Int64} : ∀ (k w : Nat) (x : Int64), w ≤ 5 → 5 - w < k → ∃ y, sl_X9_withLoansAndFaults_L78_3 dbu lc pv pn cd fc xn xl xp xo i2 K k w x = K (i2 + 1) y
  | 0, w, x, h, hk => by omega
  | k + 1, w, x, h, hk => by
    rw [sl_X9_withLoansAndFaults_L78_3]
    by_cases c : w ≤ 4
    · rw [if_neg (show ¬ (4 : Int32) < nI w from fun z => absurd ((nI_ltI (a := 4) (by omega) (by omega)).mp z) (by omega))]
      exact dg_a4 k (w + 1) _ (by omega) (by omega)
    · rw [if_pos (show (4 : Int32) < nI w from (nI_ltI (a := 4) (by omega) (by omega)).mpr (by omega))]
      exact ⟨x, rfl⟩
theorem dg_a3 {rns : Int32} {dbu xn xl xp xo cd : Nat → Int32} {lc pv pn fc : Nat} (hf : fc ≤ 34) : ∀ (k i2 : Nat) (x : Int64), i2 ≤ fc → fc - i2 < k → (sl_X9_withLoansAndFaults_L60_2 rns dbu lc pv pn cd fc xn xl xp xo k i2 x).1 = rns
  | 0, i2, x, h, hk => by omega
  | k + 1, i2, x, h, hk => by
    rw [sl_X9_withLoansAndFaults_L60_2]
    split
    · rfl
    · rename_i c
      rw [qb_le (by omega) (by omega)] at c
      obtain ⟨y, e⟩ := dg_a4 (dbu := dbu) (lc := lc) (pv := pv) (pn := pn) (cd := cd) (fc := fc) (xn := xn) (xl := xl) (xp := xp) (xo := xo) (i2 := i2) (K := sl_X9_withLoansAndFaults_L60_2 rns dbu lc pv pn cd fc xn xl xp xo k) 6 0 x (by omega) (by omega)
      rw [e]
      exact dg_a3 hf k (i2 + 1) y (by omega) (by omega)
theorem dg_a2 {dbu yl yp ye cd : Nat → Int32} {lc pv pn i : Nat} {K : Nat → Int64 → Int32 × Int64} : ∀ (k w : Nat) (x : Int64), w ≤ 4 → 4 - w < k → ∃ y, sl_X9_withLoansAndFaults_L23_4 dbu lc yl yp ye pv pn cd i K k w x = K (i + 1) y
  | 0, w, x, h, hk => by omega
  | k + 1, w, x, h, hk => by
    rw [sl_X9_withLoansAndFaults_L23_4]
    by_cases c : w ≤ 3
    · rw [if_neg (show ¬ (3 : Int32) < nI w from fun z => absurd ((nI_ltI (a := 3) (by omega) (by omega)).mp z) (by omega))]
      exact dg_a2 k (w + 1) _ (by omega) (by omega)
    · rw [if_pos (show (3 : Int32) < nI w from (nI_ltI (a := 3) (by omega) (by omega)).mpr (by omega))]
      exact ⟨x, rfl⟩
theorem dg_a1 {rns : Int32} {dbu yl yp ye xn xl xp xo cd : Nat → Int32} {lc pv pn fc : Nat} (hf : fc ≤ 34) (hl : lc ≤ 16) : ∀ (k i : Nat) (x : Int64), i ≤ lc → lc - i < k → (sl_X9_withLoansAndFaults_L5 rns dbu lc yl yp ye pv pn cd fc xn xl xp xo k i x).1 = rns
  | 0, i, x, h, hk => by omega
  | k + 1, i, x, h, hk => by
    rw [sl_X9_withLoansAndFaults_L5]
    split
    · exact dg_a3 hf 35 0 x (by omega) (by omega)
    · rename_i c
      rw [qb_le (by omega) (by omega)] at c
      obtain ⟨y, e⟩ := dg_a2 (dbu := dbu) (lc := lc) (yl := yl) (yp := yp) (ye := ye) (pv := pv) (pn := pn) (cd := cd) (i := i) (K := sl_X9_withLoansAndFaults_L5 rns dbu lc yl yp ye pv pn cd fc xn xl xp xo k) 5 0 x (by omega) (by omega)
      rw [e]
      exact dg_a1 hf hl k (i + 1) y (by omega) (by omega)
