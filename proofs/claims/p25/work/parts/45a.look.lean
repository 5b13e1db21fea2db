/-! A LOOK AS A WHOLE -/
abbrev qk_T : Type := (Nat → Int32) × (Nat → Int32) × (Nat → Int32) × (Nat → Int32) × (Nat → Int32) × (Nat → Int32) × (Nat → Int32) × (Nat → Int32) × (Nat → Int32) × (Nat → Int32) × (Nat → Int32) × (Nat → Int32) × (Nat → Int32) × Nat × (Nat → Int32) × (Nat → Int32) × (Nat → Int32) × (Nat → Int32) × (Nat → Int32) × (Nat → Int32) × Int32 × Int32 × (Nat → Int32) × (Nat → Int32) × (Nat → Int32) × (Nat → Int32) × Nat × (Nat → Int32) × (Nat → Int32) × (Nat → Int32) × (Nat → Int32) × (Nat → Int32) × (Nat → Int32) × (Nat → Int32) × Int32
def qk_du (T : qk_T) : Nat → Int32 := T.1
def qk_dt (T : qk_T) : Nat → Int32 := T.2.1
def qk_dg (T : qk_T) : Nat → Int32 := T.2.2.1
def qk_dul (T : qk_T) : Nat → Int32 := T.2.2.2.1
def qk_dtl (T : qk_T) : Nat → Int32 := T.2.2.2.2.1
def qk_dgl (T : qk_T) : Nat → Int32 := T.2.2.2.2.2.1
def qk_dll (T : qk_T) : Nat → Int32 := T.2.2.2.2.2.2.1
def qk_dbu (T : qk_T) : Nat → Int32 := T.2.2.2.2.2.2.2.1
def qk_dbg (T : qk_T) : Nat → Int32 := T.2.2.2.2.2.2.2.2.1
def qk_yl (T : qk_T) : Nat → Int32 := T.2.2.2.2.2.2.2.2.2.1
def qk_yp (T : qk_T) : Nat → Int32 := T.2.2.2.2.2.2.2.2.2.2.1
def qk_ye (T : qk_T) : Nat → Int32 := T.2.2.2.2.2.2.2.2.2.2.2.1
def qk_yo (T : qk_T) : Nat → Int32 := T.2.2.2.2.2.2.2.2.2.2.2.2.1
def qk_lc (T : qk_T) : Nat := T.2.2.2.2.2.2.2.2.2.2.2.2.2.1
def qk_yf (T : qk_T) : Nat → Int32 := T.2.2.2.2.2.2.2.2.2.2.2.2.2.2.1
def qk_ys (T : qk_T) : Nat → Int32 := T.2.2.2.2.2.2.2.2.2.2.2.2.2.2.2.1
def qk_yop (T : qk_T) : Nat → Int32 := T.2.2.2.2.2.2.2.2.2.2.2.2.2.2.2.2.1
def qk_yel (T : qk_T) : Nat → Int32 := T.2.2.2.2.2.2.2.2.2.2.2.2.2.2.2.2.2.1
def qk_yen (T : qk_T) : Nat → Int32 := T.2.2.2.2.2.2.2.2.2.2.2.2.2.2.2.2.2.2.1
def qk_yst (T : qk_T) : Nat → Int32 := T.2.2.2.2.2.2.2.2.2.2.2.2.2.2.2.2.2.2.2.1
def qk_wdp (T : qk_T) : Int32 := T.2.2.2.2.2.2.2.2.2.2.2.2.2.2.2.2.2.2.2.2.1
def qk_wwr (T : qk_T) : Int32 := T.2.2.2.2.2.2.2.2.2.2.2.2.2.2.2.2.2.2.2.2.2.1
def qk_xn (T : qk_T) : Nat → Int32 := T.2.2.2.2.2.2.2.2.2.2.2.2.2.2.2.2.2.2.2.2.2.2.1
def qk_xl (T : qk_T) : Nat → Int32 := T.2.2.2.2.2.2.2.2.2.2.2.2.2.2.2.2.2.2.2.2.2.2.2.1
def qk_xp (T : qk_T) : Nat → Int32 := T.2.2.2.2.2.2.2.2.2.2.2.2.2.2.2.2.2.2.2.2.2.2.2.2.1
def qk_xo (T : qk_T) : Nat → Int32 := T.2.2.2.2.2.2.2.2.2.2.2.2.2.2.2.2.2.2.2.2.2.2.2.2.2.1
def qk_fc (T : qk_T) : Nat := T.2.2.2.2.2.2.2.2.2.2.2.2.2.2.2.2.2.2.2.2.2.2.2.2.2.2.1
def qk_cr (T : qk_T) : Nat → Int32 := T.2.2.2.2.2.2.2.2.2.2.2.2.2.2.2.2.2.2.2.2.2.2.2.2.2.2.2.1
def qk_cw (T : qk_T) : Nat → Int32 := T.2.2.2.2.2.2.2.2.2.2.2.2.2.2.2.2.2.2.2.2.2.2.2.2.2.2.2.2.1
def qk_ch (T : qk_T) : Nat → Int32 := T.2.2.2.2.2.2.2.2.2.2.2.2.2.2.2.2.2.2.2.2.2.2.2.2.2.2.2.2.2.1
def qk_cl (T : qk_T) : Nat → Int32 := T.2.2.2.2.2.2.2.2.2.2.2.2.2.2.2.2.2.2.2.2.2.2.2.2.2.2.2.2.2.2.1
def qk_cd (T : qk_T) : Nat → Int32 := T.2.2.2.2.2.2.2.2.2.2.2.2.2.2.2.2.2.2.2.2.2.2.2.2.2.2.2.2.2.2.2.1
def qk_cb (T : qk_T) : Nat → Int32 := T.2.2.2.2.2.2.2.2.2.2.2.2.2.2.2.2.2.2.2.2.2.2.2.2.2.2.2.2.2.2.2.2.1
def qk_cn (T : qk_T) : Nat → Int32 := T.2.2.2.2.2.2.2.2.2.2.2.2.2.2.2.2.2.2.2.2.2.2.2.2.2.2.2.2.2.2.2.2.2.1
def qk_flg (T : qk_T) : Int32 := T.2.2.2.2.2.2.2.2.2.2.2.2.2.2.2.2.2.2.2.2.2.2.2.2.2.2.2.2.2.2.2.2.2.2
def qk_al (pv : Nat) (fk : Nat → Int32) : Int32 := s_X5_allLeaves pv fk
def qk_X (T : qk_T) : qf_X := (qk_cr T, qk_cw T, qk_ch T, qk_cl T, qk_cd T)
/-- a line that is at fault, and comes to be -/
def qk_bad (pv pn : Nat) (fk fs fa fb : Nat → Int32) (T : qk_T) (j : Nat) : Prop := ¬ qk_cr T j = 0 ∧ qx_bad (qk_dul T) (qk_dtl T) (qk_dbg T) (qk_yf T) (qk_ys T) (qk_yp T) (qk_ye T) fk fs fa fb (qk_cl T) (qk_cd T) (qk_cn T) (qk_lc T) pv pn j
def qk_no (pv pn : Nat) (fk fs fa fb : Nat → Int32) (T : qk_T) (j : Nat) : Int32 := qx_no (qk_dul T) (qk_dtl T) (qk_dbg T) (qk_yf T) (qk_ys T) (qk_yp T) (qk_ye T) fk fs fa fb (qk_ch T) (qk_cl T) (qk_cd T) (qk_cn T) (qk_lc T) pv pn j
/-- what a look gives, whatever its rows held -/
def qk_L (pv pn : Nat) (fk fs fa fb : Nat → Int32) (T : qk_T) : Prop :=
  (∀ j, j < pn → qd_at pv fk fs fa fb (qk_du T, qk_dt T, qk_dg T, qk_dul T, qk_dtl T, qk_dgl T, qk_dll T, qk_dbu T, qk_dbg T) j) ∧
  ql_fin fs fb pn (qk_yl T, qk_yp T, qk_ye T, qk_yo T, qk_lc T) ∧
  qw_fin fs pn (qk_yf T, qk_ys T, qk_yop T, qk_yel T, qk_yen T, qk_yst T, qk_wdp T, qk_wwr T) ∧
  (¬ qw_stk fs pn = some [] → qk_fc T = 1) ∧
  (qw_stk fs pn = some [] →
    ((∀ j, j < pn → ¬ qk_cr T j = 0 → qf_done (qk_dgl T) (qk_dll T) (qk_dbg T) (qk_dg T) (qk_du T) (qk_yo T) (qk_yf T) (qk_ys T) pv pn (qk_X T) j) ∧ qf_cov pn (qk_al pv fk) (qk_X T) ∧ ¬ qk_cr T 0 = 0 ∧ qb_sub (qk_al pv fk) (qk_cl T 0)) ∧
    (∀ (R : Nat → Prop) (Hv Lk : Nat → Nat → Prop) (Hd : Nat → Nat → Nat → Prop), qf_fam (qk_dgl T) (qk_dll T) (qk_dbg T) (qk_dg T) (qk_du T) (qk_yo T) (qk_yf T) (qk_ys T) pv pn (qk_al pv fk) R Hv Lk Hd → qf_in pv pn R Hv Lk Hd (qk_X T)) ∧
    qg_fix (qk_dbg T) (qk_dbu T) (qk_yf T) (qk_ys T) pn (qk_cn T) ∧
    (∀ Wn : Nat → Nat → Prop, qg_fam (qk_dbg T) (qk_dbu T) (qk_yf T) (qk_ys T) pn Wn → ∀ j x, j < pn → qb_t (qk_cn T j) x = true → Wn j x) ∧
    qk_fc T = qx_n (qk_bad pv pn fk fs fa fb T) pn ∧
    (∀ j, j < pn → qk_bad pv pn fk fs fa fb T j → qk_xl T (qx_n (qk_bad pv pn fk fs fa fb T) j) = nI j ∧ qk_xn T (qx_n (qk_bad pv pn fk fs fa fb T) j) = qk_no pv pn fk fs fa fb T j))

theorem qk_loop {du dt dg dul dtl dgl dll dbu dbg yl yp ye yo yf ys yop yel yen yst cr cw ch cl cd cb cn fk fs fa fb : Nat → Int32} {lc pv pn : Nat} {wdp : Int32} (hn : pn ≤ 34) : ∀ (k i : Nat) (xn xl xp xo : Nat → Int32) (fc : Nat) (flg : Int32), i ≤ pn → pn - i < k → fc = qx_n (fun j => ¬ cr j = 0 ∧ qx_bad dul dtl dbg yf ys yp ye fk fs fa fb cl cd cn lc pv pn j) i →
    (∀ j, j < i → (fun j => ¬ cr j = 0 ∧ qx_bad dul dtl dbg yf ys yp ye fk fs fa fb cl cd cn lc pv pn j) j → xl (qx_n (fun j => ¬ cr j = 0 ∧ qx_bad dul dtl dbg yf ys yp ye fk fs fa fb cl cd cn lc pv pn j) j) = nI j ∧ xn (qx_n (fun j => ¬ cr j = 0 ∧ qx_bad dul dtl dbg yf ys yp ye fk fs fa fb cl cd cn lc pv pn j) j) = qx_no dul dtl dbg yf ys yp ye fk fs fa fb ch cl cd cn lc pv pn j) →
    ∃ (xn' xl' xp' xo' : Nat → Int32) (flg' : Int32), sl_X0_look_L63 pv pn fk fs fa fb k i du dt dg dul dtl dgl dll dbu dbg yl yp ye yo lc yf ys yop yel yen yst wdp (-1) xn xl xp xo fc cr cw ch cl cd cb cn flg = (du, dt, dg, dul, dtl, dgl, dll, dbu, dbg, yl, yp, ye, yo, lc, yf, ys, yop, yel, yen, yst, wdp, -1, xn', xl', xp', xo', qx_n (fun j => ¬ cr j = 0 ∧ qx_bad dul dtl dbg yf ys yp ye fk fs fa fb cl cd cn lc pv pn j) pn, cr, cw, ch, cl, cd, cb, cn, flg') ∧
      (∀ j, j < pn → (fun j => ¬ cr j = 0 ∧ qx_bad dul dtl dbg yf ys yp ye fk fs fa fb cl cd cn lc pv pn j) j → xl' (qx_n (fun j => ¬ cr j = 0 ∧ qx_bad dul dtl dbg yf ys yp ye fk fs fa fb cl cd cn lc pv pn j) j) = nI j ∧ xn' (qx_n (fun j => ¬ cr j = 0 ∧ qx_bad dul dtl dbg yf ys yp ye fk fs fa fb cl cd cn lc pv pn j) j) = qx_no dul dtl dbg yf ys yp ye fk fs fa fb ch cl cd cn lc pv pn j)
  | 0, i, xn, xl, xp, xo, fc, flg, hi, hk, hf, hx => by omega
  | k + 1, i, xn, xl, xp, xo, fc, flg, hi, hk, hf, hx => by
    rw [sl_X0_look_L63]
    by_cases q : pn ≤ i
    · have hi : i = pn := by omega
      subst hi
      rw [if_pos (nI_le q (by omega))]
      exact ⟨xn, xl, xp, xo, _, by rw [← hf], hx⟩
    · rw [if_neg (by rw [qb_le (by omega) (by omega)]; exact q)]
      by_cases c : cr i = 0
      · rw [if_pos c]
        have nb : ¬ (fun j => ¬ cr j = 0 ∧ qx_bad dul dtl dbg yf ys yp ye fk fs fa fb cl cd cn lc pv pn j) i := fun z => z.1 c
        refine qk_loop hn k (i + 1) xn xl xp xo fc flg (by omega) (by omega) (by rw [qx_n_k nb]; exact hf) (fun j hj hb => ?_)
        by_cases z : j = i
        · rw [z] at hb; exact absurd hb nb
        · exact hx j (by omega) hb
      · rw [if_neg c]
        have hfl : fc < 34 := by
          have := qx_n_le (P := (fun j => ¬ cr j = 0 ∧ qx_bad dul dtl dbg yf ys yp ye fk fs fa fb cl cd cn lc pv pn j)) i
          omega
        obtain ⟨f1, f2⟩ := qx_find (dul := dul) (dtl := dtl) (dbg := dbg) (yf := yf) (ys := ys) (yp := yp) (ye := ye) (fk := fk) (fs := fs) (fa := fa) (fb := fb) (ch := ch) (cl := cl) (cd := cd) (cn := cn) (lc := lc) (pv := pv) (pn := pn) (j := i) (xn := xn) (xl := xl) (xp := xp) (xo := xo) hfl
        by_cases d : qx_bad dul dtl dbg yf ys yp ye fk fs fa fb cl cd cn lc pv pn i
        · obtain ⟨a, b, e⟩ := f2 d
          rw [e]
          have yb : (fun j => ¬ cr j = 0 ∧ qx_bad dul dtl dbg yf ys yp ye fk fs fa fb cl cd cn lc pv pn j) i := ⟨c, d⟩
          refine qk_loop hn k (i + 1) _ _ _ _ _ flg (by omega) (by omega) (by rw [qx_n_s yb, ← hf]) (fun j hj hb => ?_)
          by_cases z : j = i
          · rw [z, ← hf]
            exact ⟨qb_us _ _ _, qb_us _ _ _⟩
          · have hlt := qx_n_lt (P := (fun j => ¬ cr j = 0 ∧ qx_bad dul dtl dbg yf ys yp ye fk fs fa fb cl cd cn lc pv pn j)) (show j < i by omega) hb
            obtain ⟨g1, g2⟩ := hx j (by omega) hb
            refine ⟨?_, ?_⟩
            · show upd xl fc _ _ = _
              rw [qb_un (by omega)]; exact g1
            · show upd xn fc _ _ = _
              rw [qb_un (by omega)]; exact g2
        · rw [f1 d]
          have nb : ¬ (fun j => ¬ cr j = 0 ∧ qx_bad dul dtl dbg yf ys yp ye fk fs fa fb cl cd cn lc pv pn j) i := fun z => d z.2
          refine qk_loop hn k (i + 1) xn xl xp xo fc flg (by omega) (by omega) (by rw [qx_n_k nb]; exact hf) (fun j hj hb => ?_)
          by_cases z : j = i
          · rw [z] at hb; exact absurd hb nb
          · exact hx j (by omega) hb
