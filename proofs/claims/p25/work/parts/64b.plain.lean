/-! THE ANSWERS OF THE MILL'S METHODS, in plain words -/

set_option maxHeartbeats 4000000 in
set_option maxRecDepth 100000 in
theorem e_variable {du : Nat → Int32} {dt : Nat → Int32} {dg : Nat → Int32} {dul : Nat → Int32} {dtl : Nat → Int32} {dgl : Nat → Int32} {dll : Nat → Int32} {dbu : Nat → Int32} {dbg : Nat → Int32} {yl : Nat → Int32} {yp : Nat → Int32} {ye : Nat → Int32} {yo : Nat → Int32} {yf : Nat → Int32} {ys : Nat → Int32} {yop : Nat → Int32} {yel : Nat → Int32} {yen : Nat → Int32} {yst : Nat → Int32} {xn : Nat → Int32} {xl : Nat → Int32} {xp : Nat → Int32} {xo : Nat → Int32} {pv : Nat} {pn : Nat} {fk : Nat → Int32} {fs : Nat → Int32} {fa : Nat → Int32} {fb : Nat → Int32} {cr : Nat → Int32} {cw : Nat → Int32} {ch : Nat → Int32} {cl : Nat → Int32} {cd : Nat → Int32} {cb : Nat → Int32} {cn : Nat → Int32} {p1 : Int32} (h0 : ¬ p1 < 0) (h5 : p1 ≤ 5) (h8 : pv < 8) : s_X9_variable du dt dg dul dtl dgl dll dbu dbg yl yp ye yo yf ys yop yel yen yst xn xl xp xo pv pn fk fs fa fb cr cw ch cl cd cb cn p1 = ((upd fk pv p1, pv + 1, (s_X0_look du dt dg dul dtl dgl dll dbu dbg yl yp ye yo yf ys yop yel yen yst xn xl xp xo (pv + 1) pn (upd fk pv p1) fs fa fb cr cw ch cl cd cb cn)), nI pv) := by
  have e : s_X5_newVariable pv fk p1 = ((upd fk pv p1, pv + 1), nI pv) := by
    unfold s_X5_newVariable
    rw [if_neg (qp_ix1 h8 (by omega)), pk_m1]
  refine (if_neg h0).trans ((if_pos h5).trans ((if_pos (show nI pv < nI 8 from (nI_ltI (by omega) (by omega)).mpr h8)).trans ?_))
  rw [e]

set_option maxHeartbeats 4000000 in
set_option maxRecDepth 100000 in
theorem e_add {du : Nat → Int32} {dt : Nat → Int32} {dg : Nat → Int32} {dul : Nat → Int32} {dtl : Nat → Int32} {dgl : Nat → Int32} {dll : Nat → Int32} {dbu : Nat → Int32} {dbg : Nat → Int32} {yl : Nat → Int32} {yp : Nat → Int32} {ye : Nat → Int32} {yo : Nat → Int32} {yf : Nat → Int32} {ys : Nat → Int32} {yop : Nat → Int32} {yel : Nat → Int32} {yen : Nat → Int32} {yst : Nat → Int32} {xn : Nat → Int32} {xl : Nat → Int32} {xp : Nat → Int32} {xo : Nat → Int32} {pv : Nat} {pn : Nat} {fk : Nat → Int32} {fs : Nat → Int32} {fa : Nat → Int32} {fb : Nat → Int32} {cr : Nat → Int32} {cw : Nat → Int32} {ch : Nat → Int32} {cl : Nat → Int32} {cd : Nat → Int32} {cb : Nat → Int32} {cn : Nat → Int32} {p1 : Int32} {p2 : Int32} {p3 : Int32} (h1 : ¬ s_X5_fits pv fk p1 p2 p3 = 0) (h2 : pn < 32) (h3 : s_X5_countLoans pn fs + s_X9_loansOf p1 ≤ 16) : s_X9_add du dt dg dul dtl dgl dll dbu dbg yl yp ye yo yf ys yop yel yen yst xn xl xp xo pv pn fk fs fa fb cr cw ch cl cd cb cn p1 p2 p3 = ((upd fs pn p1, upd fa pn p2, upd fb pn p3, pn + 1, (s_X0_look du dt dg dul dtl dgl dll dbu dbg yl yp ye yo yf ys yop yel yen yst xn xl xp xo pv (pn + 1) fk (upd fs pn p1) (upd fa pn p2) (upd fb pn p3) cr cw ch cl cd cb cn)), nI pn) := by
  refine (if_neg h1).trans ((if_pos (show nI pn < nI 32 from (nI_ltI (by omega) (by omega)).mpr h2)).trans ((if_pos h3).trans ?_))
  rw [qv_add (show pn ≤ 32 by omega)]
  show (_, nI (pn + 1) + (-1)) = _
  rw [pk_m1]

set_option maxHeartbeats 4000000 in
set_option maxRecDepth 100000 in
theorem e_put {du : Nat → Int32} {dt : Nat → Int32} {dg : Nat → Int32} {dul : Nat → Int32} {dtl : Nat → Int32} {dgl : Nat → Int32} {dll : Nat → Int32} {dbu : Nat → Int32} {dbg : Nat → Int32} {yl : Nat → Int32} {yp : Nat → Int32} {ye : Nat → Int32} {yo : Nat → Int32} {yf : Nat → Int32} {ys : Nat → Int32} {yop : Nat → Int32} {yel : Nat → Int32} {yen : Nat → Int32} {yst : Nat → Int32} {xn : Nat → Int32} {xl : Nat → Int32} {xp : Nat → Int32} {xo : Nat → Int32} {pv : Nat} {pn : Nat} {fk : Nat → Int32} {fs : Nat → Int32} {fa : Nat → Int32} {fb : Nat → Int32} {cr : Nat → Int32} {cw : Nat → Int32} {ch : Nat → Int32} {cl : Nat → Int32} {cd : Nat → Int32} {cb : Nat → Int32} {cn : Nat → Int32} {p1 : Int32} {p2 : Int32} {p3 : Int32} {p4 : Int32} {L : Nat} (h0 : L < pn) (hn : pn ≤ 32) (h1 : ¬ s_X5_fits pv fk p2 p3 p4 = 0) (h3 : s_X5_countLoans pn fs - s_X9_loansOf (fs L) + s_X9_loansOf p2 ≤ 16) (e0 : p1 = nI L) : s_X9_put du dt dg dul dtl dgl dll dbu dbg yl yp ye yo yf ys yop yel yen yst xn xl xp xo pv pn fk fs fa fb cr cw ch cl cd cb cn p1 p2 p3 p4 = ((upd fs L p2, upd fa L p3, upd fb L p4, (s_X0_look du dt dg dul dtl dgl dll dbu dbg yl yp ye yo yf ys yop yel yen yst xn xl xp xo pv pn fk (upd fs L p2) (upd fa L p3) (upd fb L p4) cr cw ch cl cd cb cn)), fs L) := by
  subst e0
  refine (if_neg (qp_isLine1 h0 (by omega))).trans ((if_neg h1).trans ((if_pos (by rw [qp_sortAt h0 (by omega)]; exact h3)).trans ?_))
  rw [qv_set h0 (by omega), qp_sortAt h0 (by omega)]

set_option maxHeartbeats 4000000 in
set_option maxRecDepth 100000 in
theorem e_run {rns : Int32} {fc : Nat} {okd : Int32} {oco : Int32} {wwr : Int32} {yf : Nat → Int32} {ys : Nat → Int32} {yop : Nat → Int32} {pv : Nat} {pn : Nat} {fk : Nat → Int32} {fs : Nat → Int32} {fa : Nat → Int32} {fb : Nat → Int32} {bh : Nat → Int32} {bv : Nat → Int32} {br : Nat → Int32} {bo : Nat → Int32} {vn : Nat → Int32} {vc : Nat → Int32} {vl : Nat → Int32} {vh : Nat → Int32} {zs : Nat → Int32} {zn : Nat → Int32} {zl : Nat → Int32} (h : fc = 0) : s_X9_run rns fc okd oco wwr yf ys yop pv pn fk fs fa fb bh bv br bo vn vc vl vh zs zn zl = ((rns + 1, (s_X6_go okd oco wwr yf ys yop pv pn fk fs fa fb bh bv br bo vn vc vl vh zs zn zl)), qr_yoco (s_X6_go okd oco wwr yf ys yop pv pn fk fs fa fb bh bv br bo vn vc vl vh zs zn zl)) := by
  subst h
  exact if_pos (Int32.le_refl _)
