set_option maxHeartbeats 2000000 in
theorem b_X6_doLine_4 (okd : Int32) (oct : Nat) (hre : Int32) (bxm : Int32) (pnl : Int32) (iab : Int32) (pv : Nat) (fk : Nat → Int32) (bh : Nat → Int32) (bv : Nat → Int32) (bo : Nat → Int32) (nm : Nat) (vn : Nat → Int32) (vc : Nat → Int32) (vl : Nat → Int32) (vh : Nat → Int32) (sc : Int32) (zs : Nat → Int32) (zn : Nat → Int32) (zl : Nat → Int32) (p1 : Int32) (p2 : Int32) (p3 : Int32) (b_oct : oct ≤ 2) (b_nm : nm ≤ 500) : (s_X6_doLine okd oct hre bxm pnl iab pv fk bh bv bo nm vn vc vl vh sc zs zn zl p1 p2 p3).2.2.2.2.1 ≤ 2 := by
  rw [s_X6_doLine]
  by_cases c1 : p1 = 0
  · rw [if_pos c1]
    show ((s_X6_make okd oct bxm pv fk bh bv bo nm vn vc vl vh p2 p3).2.2.2.2.1) ≤ 2
    exact b_X6_make_4 okd oct bxm pv fk bh bv bo nm vn vc vl vh p2 p3 (by omega) (by omega)
  · rw [if_neg c1]
    by_cases c2 : p1 = 1
    · rw [if_pos c2]
      show ((s_X6_move okd oct pv fk bh bv bo p2 p3).2.2.2.2) ≤ 2
      exact b_X6_move_4 okd oct pv fk bh bv bo p2 p3 (by omega)
    · rw [if_neg c2]
      by_cases c3 : p1 = 2
      · rw [if_pos c3]
        show ((s_X6_copy okd oct pv fk bh bv bo nm vc p2 p3).2.2.2.2.1) ≤ 2
        exact b_X6_copy_4 okd oct pv fk bh bv bo nm vc p2 p3 (by omega) (by omega)
      · rw [if_neg c3]
        by_cases c4 : p1 = 3
        · rw [if_pos c4]
          show ((s_X6_give okd oct pv fk bh bv bo p2 p3 0).2.2.2.2) ≤ 2
          exact b_X6_give_4 okd oct pv fk bh bv bo p2 p3 0 (by omega)
        · rw [if_neg c4]
          by_cases c5 : p1 = 4
          · rw [if_pos c5]
            show ((s_X6_give okd oct pv fk bh bv bo p2 p3 0).2.2.2.2) ≤ 2
            exact b_X6_give_4 okd oct pv fk bh bv bo p2 p3 0 (by omega)
          · rw [if_neg c5]
            by_cases c6 : p1 = 5
            · rw [if_pos c6]
              show oct ≤ 2
              exact by omega
            · rw [if_neg c6]
              by_cases c7 : p1 = 6
              · rw [if_pos c7]
                show oct ≤ 2
                exact by omega
              · rw [if_neg c7]
                by_cases c8 : p1 = 7
                · rw [if_pos c8]
                  show ((s_X6_drop okd oct pv fk bh bv bo p2).2.2.2) ≤ 2
                  exact b_X6_drop_3 okd oct pv fk bh bv bo p2 (by omega)
                · rw [if_neg c8]
                  by_cases c9 : p1 = 8
                  · rw [if_pos c9]
                    show oct ≤ 2
                    exact by omega
                  · rw [if_neg c9]
                    by_cases c10 : p1 = 9
                    · rw [if_pos c10]
                      show oct ≤ 2
                      exact by omega
                    · rw [if_neg c10]
                      by_cases c11 : p1 = 10
                      · rw [if_pos c11]
                        show oct ≤ 2
                        exact by omega
                      · rw [if_neg c11]
                        by_cases c12 : p1 = 11
                        · rw [if_pos c12]
                          show oct ≤ 2
                          exact by omega
                        · rw [if_neg c12]
                          by_cases c13 : p1 = 12
                          · rw [if_pos c13]
                            show ((s_X6_link okd oct bo nm vc vl (s_X6_valueAt bv p2) (s_X6_valueAt bv p3)).2.2.1) ≤ 2
                            exact b_X6_link_2 okd oct bo nm vc vl (s_X6_valueAt bv p2) (s_X6_valueAt bv p3) (by omega) (by omega)
                          · rw [if_neg c13]
                            by_cases c14 : p1 = 13
                            · rw [if_pos c14]
                              show oct ≤ 2
                              exact by omega
                            · rw [if_neg c14]
                              by_cases c15 : p1 = 14
                              · rw [if_pos c15]
                                show oct ≤ 2
                                exact by omega
                              · rw [if_neg c15]
                                by_cases c16 : p1 = 15
                                · rw [if_pos c16]
                                  show oct ≤ 2
                                  exact by omega
                                · rw [if_neg c16]
                                  by_cases c17 : p1 = 16
                                  · rw [if_pos c17]
                                    show oct ≤ 2
                                    exact by omega
                                  · rw [if_neg c17]
                                    show oct ≤ 2
                                    exact by omega

set_option maxHeartbeats 2000000 in
theorem b_X6_doLine_9 (okd : Int32) (oct : Nat) (hre : Int32) (bxm : Int32) (pnl : Int32) (iab : Int32) (pv : Nat) (fk : Nat → Int32) (bh : Nat → Int32) (bv : Nat → Int32) (bo : Nat → Int32) (nm : Nat) (vn : Nat → Int32) (vc : Nat → Int32) (vl : Nat → Int32) (vh : Nat → Int32) (sc : Int32) (zs : Nat → Int32) (zn : Nat → Int32) (zl : Nat → Int32) (p1 : Int32) (p2 : Int32) (p3 : Int32) (b_oct : oct ≤ 2) (b_nm : nm ≤ 500) : (s_X6_doLine okd oct hre bxm pnl iab pv fk bh bv bo nm vn vc vl vh sc zs zn zl p1 p2 p3).2.2.2.2.2.2.2.2.2.1 ≤ 500 := by
  rw [s_X6_doLine]
  by_cases c1 : p1 = 0
  · rw [if_pos c1]
    show ((s_X6_make okd oct bxm pv fk bh bv bo nm vn vc vl vh p2 p3).2.2.2.2.2.2.2.2.2.1) ≤ 500
    exact b_X6_make_9 okd oct bxm pv fk bh bv bo nm vn vc vl vh p2 p3 (by omega) (by omega)
  · rw [if_neg c1]
    by_cases c2 : p1 = 1
    · rw [if_pos c2]
      show nm ≤ 500
      exact by omega
    · rw [if_neg c2]
      by_cases c3 : p1 = 2
      · rw [if_pos c3]
        show nm ≤ 500
        exact by omega
      · rw [if_neg c3]
        by_cases c4 : p1 = 3
        · rw [if_pos c4]
          show nm ≤ 500
          exact by omega
        · rw [if_neg c4]
          by_cases c5 : p1 = 4
          · rw [if_pos c5]
            show nm ≤ 500
            exact by omega
          · rw [if_neg c5]
            by_cases c6 : p1 = 5
            · rw [if_pos c6]
              show nm ≤ 500
              exact by omega
            · rw [if_neg c6]
              by_cases c7 : p1 = 6
              · rw [if_pos c7]
                show nm ≤ 500
                exact by omega
              · rw [if_neg c7]
                by_cases c8 : p1 = 7
                · rw [if_pos c8]
                  show nm ≤ 500
                  exact by omega
                · rw [if_neg c8]
                  by_cases c9 : p1 = 8
                  · rw [if_pos c9]
                    show nm ≤ 500
                    exact by omega
                  · rw [if_neg c9]
                    by_cases c10 : p1 = 9
                    · rw [if_pos c10]
                      show nm ≤ 500
                      exact by omega
                    · rw [if_neg c10]
                      by_cases c11 : p1 = 10
                      · rw [if_pos c11]
                        show nm ≤ 500
                        exact by omega
                      · rw [if_neg c11]
                        by_cases c12 : p1 = 11
                        · rw [if_pos c12]
                          show nm ≤ 500
                          exact by omega
                        · rw [if_neg c12]
                          by_cases c13 : p1 = 12
                          · rw [if_pos c13]
                            show nm ≤ 500
                            exact by omega
                          · rw [if_neg c13]
                            by_cases c14 : p1 = 13
                            · rw [if_pos c14]
                              show nm ≤ 500
                              exact by omega
                            · rw [if_neg c14]
                              by_cases c15 : p1 = 14
                              · rw [if_pos c15]
                                show nm ≤ 500
                                exact by omega
                              · rw [if_neg c15]
                                by_cases c16 : p1 = 15
                                · rw [if_pos c16]
                                  show nm ≤ 500
                                  exact by omega
                                · rw [if_neg c16]
                                  by_cases c17 : p1 = 16
                                  · rw [if_pos c17]
                                    show nm ≤ 500
                                    exact by omega
                                  · rw [if_neg c17]
                                    show nm ≤ 500
                                    exact by omega
