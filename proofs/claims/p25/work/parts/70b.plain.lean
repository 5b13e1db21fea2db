/-! THE ANSWERS OF THE MILL'S METHODS, in plain words -/

set_option maxHeartbeats 4000000 in
set_option maxRecDepth 100000 in
theorem e_couldDrop {pv : Nat} {pn : Nat} {fk : Nat → Int32} {fs : Nat → Int32} {fa : Nat → Int32} {fb : Nat → Int32} {du_ : Nat → Int32} {dt_ : Nat → Int32} {dg_ : Nat → Int32} {dul_ : Nat → Int32} {dtl_ : Nat → Int32} {dgl_ : Nat → Int32} {dll_ : Nat → Int32} {dbu_ : Nat → Int32} {dbg_ : Nat → Int32} {yl_ : Nat → Int32} {yp_ : Nat → Int32} {ye_ : Nat → Int32} {yo_ : Nat → Int32} {yf_ : Nat → Int32} {ys_ : Nat → Int32} {yop_ : Nat → Int32} {yel_ : Nat → Int32} {yen_ : Nat → Int32} {yst_ : Nat → Int32} {xn_ : Nat → Int32} {xl_ : Nat → Int32} {xp_ : Nat → Int32} {xo_ : Nat → Int32} {fk_ : Nat → Int32} {fs_ : Nat → Int32} {fa_ : Nat → Int32} {fb_ : Nat → Int32} {cr_ : Nat → Int32} {cw_ : Nat → Int32} {ch_ : Nat → Int32} {cl_ : Nat → Int32} {cd_ : Nat → Int32} {cb_ : Nat → Int32} {cn_ : Nat → Int32} {p1 : Int32} {p2 : Int32} (hk : va_cpy fk fk_ 0 0 8 = fk) (hcs : va_cpy fs fs_ 0 0 34 = fs) (hca : va_cpy fa fa_ 0 0 34 = fa) (hcb : va_cpy fb fb_ 0 0 34 = fb) {L p : Nat} (h0 : L ≤ pn) (hn : pn ≤ 32) (hp : p < 2 ^ 31) (hv : pv ≤ 8) (ho : ¬ s_X9_isOwned (qp_kd pv fk p) = 0) {hs ha hb : Nat → Int32} (e1 : s_X5_insertLine pn fs fa fb (nI L) 7 (nI p) 0 = (hs, ha, hb, pn + 1)) {T1 : qk_T} (hT : (s_X0_look du_ dt_ dg_ dul_ dtl_ dgl_ dll_ dbu_ dbg_ yl_ yp_ ye_ yo_ yf_ ys_ yop_ yel_ yen_ yst_ xn_ xl_ xp_ xo_ pv (pn + 1) fk hs ha hb cr_ cw_ ch_ cl_ cd_ cb_ cn_) = T1) (hw : ¬ s_X8_isWhole (qk_wwr T1) = 0) (e0 : p1 = nI L) (e2 : p2 = nI p) : s_X9_couldDrop pv pn fk fs fa fb du_ dt_ dg_ dul_ dtl_ dgl_ dll_ dbu_ dbg_ yl_ yp_ ye_ yo_ yf_ ys_ yop_ yel_ yen_ yst_ xn_ xl_ xp_ xo_ fk_ fs_ fa_ fb_ cr_ cw_ ch_ cl_ cd_ cb_ cn_ p1 p2 = ((fk, hs, ha, hb, pv, pn + 1, T1), s_X2_numberOfLine (qk_fc T1) (qk_xn T1) (qk_xl T1) (nI L)) := by
  have ec : s_X5_copyOf fk_ fs_ fa_ fb_ pv pn fk fs fa fb = (fk, fs, fa, fb, pv, pn) := by
    unfold s_X5_copyOf
    rw [hk, hcs, hca, hcb]
  subst e0; subst e2
  refine (if_neg (by rw [qp_isEnd (by omega) (by omega), if_pos h0]; decide)).trans ((if_neg (by rw [qp_kindAt hp (by omega)]; exact ho)).trans ?_)
  rw [ec, e1, hT]
  exact if_neg hw
