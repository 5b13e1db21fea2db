set_option maxHeartbeats 8000000 in
set_option maxRecDepth 100000 in
theorem lw_first {p : Program} {e : Env} {s : State} {m : MethodId} {below : List Frame} {meth : Method} {c : Code} (l : Launch) (hfl : l.stackTraces = false) {G : sxG} {k : pxC} {b : Nat} {xs : Nat → Int32} (C0 : lwB p s m meth c b 5 xs G k) {H : Heap} {locs : List Loc} {ls : Array Slot} {z : Nat} {h : Nat} {r : Nat} {x : Nat} {g : Nat} {rr : Nat} {xx : Nat} {k0 : Nat} {k1 : Nat} {k2 : Nat} {k3 : Nat} {fk : Nat → Int32} {fs : Nat → Int32} {fa : Nat → Int32} {fb : Nat → Int32} {od : Nat} {ow : Nat} {ol : Nat} {oq : Nat} {r1 : Nat} {r2 : Nat} {r3 : Nat} {r4 : Nat} {r5 : Nat} {r6 : Nat} {r7 : Nat} {d1 : Nat} {d2 : Nat} {d3 : Nat} {d4 : Nat} {d5 : Nat} {d6 : Nat} {d7 : Nat} {d8 : Nat} {d9 : Nat} {du : Nat → Int32} {dt : Nat → Int32} {dg : Nat → Int32} {dul : Nat → Int32} {dtl : Nat → Int32} {dgl : Nat → Int32} {dll : Nat → Int32} {dbu : Nat → Int32} {dbg : Nat → Int32} {w1 : Nat} {w2 : Nat} {w3 : Nat} {w4 : Nat} {w5 : Nat} {w6 : Nat} {wdp : Int32} {wwr : Int32} {yf : Nat → Int32} {ys : Nat → Int32} {yop : Nat → Int32} {yel : Nat → Int32} {yen : Nat → Int32} {yst : Nat → Int32} {l1 : Nat} {l2 : Nat} {l3 : Nat} {l4 : Nat} {yl : Nat → Int32} {yp : Nat → Int32} {ye : Nat → Int32} {yo : Nat → Int32} {m0 : Nat} {m1 : Nat} {m2 : Nat} {m3 : Nat} {xn : Nat → Int32} {xl : Nat → Int32} {xp : Nat → Int32} {xo : Nat → Int32} {cr : Nat → Int32} {cw : Nat → Int32} {ch : Nat → Int32} {cl : Nat → Int32} {cd : Nat → Int32} {cb : Nat → Int32} {cn : Nat → Int32} {os : Nat} {on : Nat} {v1 : Nat} {v2 : Nat} {v3 : Nat} {v4 : Nat} {t0 : Nat} {t1 : Nat} {t2 : Nat} {zs : Nat → Int32} {zn : Nat → Int32} {zl : Nat → Int32} {u0 : Nat} {u1 : Nat} {u2 : Nat} {u3 : Nat} {vn : Nat → Int32} {vc : Nat → Int32} {vl : Nat → Int32} {vh : Nat → Int32} {bh : Nat → Int32} {bv : Nat → Int32} {br : Nat → Int32} {bo : Nat → Int32} {mz : Nat} {mp : Nat} {mk : Nat} {ml : Nat} {ou : Nat}  (hP : va_P G.1 vwCl [(z, .inr (14, [.ref h, .ref r, .ref x, .ref g, .ref rr, .ref xx, .int 0])), (h, .inr (10, [.ref k0, .ref k1, .ref k2, .ref k3, .int 0, .int 0])), (k0, .inl (G.2.1, 8, .inl fk)), (k1, .inl (G.2.1, 34, .inl fs)), (k2, .inl (G.2.1, 34, .inl fa)), (k3, .inl (G.2.1, 34, .inl fb)), (r, .inr (5, [.ref h, .ref od, .ref ow, .ref ol, .ref oq, .ref r1, .ref r2, .ref r3, .ref r4, .ref r5, .ref r6, .ref r7, .int 0])), (od, .inr (6, [.ref h, .ref d1, .ref d2, .ref d3, .ref d4, .ref d5, .ref d6, .ref d7, .ref d8, .ref d9])), (d1, .inl (G.2.1, 34, .inl du)), (d2, .inl (G.2.1, 34, .inl dt)), (d3, .inl (G.2.1, 34, .inl dg)), (d4, .inl (G.2.1, 34, .inl dul)), (d5, .inl (G.2.1, 34, .inl dtl)), (d6, .inl (G.2.1, 34, .inl dgl)), (d7, .inl (G.2.1, 34, .inl dll)), (d8, .inl (G.2.1, 34, .inl dbu)), (d9, .inl (G.2.1, 34, .inl dbg)), (ow, .inr (13, [.ref h, .ref w1, .ref w2, .ref w3, .ref w4, .ref w5, .ref w6, .int wdp, .int wwr])), (w1, .inl (G.2.1, 34, .inl yf)), (w2, .inl (G.2.1, 34, .inl ys)), (w3, .inl (G.2.1, 34, .inl yop)), (w4, .inl (G.2.1, 34, .inl yel)), (w5, .inl (G.2.1, 34, .inl yen)), (w6, .inl (G.2.1, 34, .inl yst)), (ol, .inr (8, [.ref h, .ref l1, .ref l2, .ref l3, .ref l4, .int 0])), (l1, .inl (G.2.1, 16, .inl yl)), (l2, .inl (G.2.1, 16, .inl yp)), (l3, .inl (G.2.2, 16, .inl ye)), (l4, .inl (G.2.1, 34, .inl yo)), (oq, .inr (7, [.ref m0, .ref m1, .ref m2, .ref m3, .int 0])), (m0, .inl (G.2.1, 34, .inl xn)), (m1, .inl (G.2.1, 34, .inl xl)), (m2, .inl (G.2.1, 34, .inl xp)), (m3, .inl (G.2.1, 34, .inl xo)), (r1, .inl (G.2.2, 34, .inl cr)), (r2, .inl (G.2.2, 34, .inl cw)), (r3, .inl (G.2.1, 34, .inl ch)), (r4, .inl (G.2.1, 34, .inl cl)), (r5, .inl (G.2.1, 272, .inl cd)), (r6, .inl (G.2.1, 8, .inl cb)), (r7, .inl (G.2.1, 34, .inl cn)), (x, .inr (11, [.ref h, .ref ow, .ref os, .ref on, .ref v1, .ref v2, .ref v3, .ref v4, .int (-1), .int 0, .int 0, .int 0, .int 0, .int 0, .int 0, .int (-1), .int 0])), (os, .inr (12, [.ref t0, .ref t1, .ref t2, .int 0])), (t0, .inl (G.2.1, 60, .inl zs)), (t1, .inl (G.2.1, 60, .inl zn)), (t2, .inl (G.2.1, 60, .inl zl)), (on, .inr (9, [.ref u0, .ref u1, .ref u2, .ref u3, .int 0, .int 0])), (u0, .inl (G.2.1, 500, .inl vn)), (u1, .inl (G.2.1, 500, .inl vc)), (u2, .inl (G.2.1, 500, .inl vl)), (u3, .inl (G.2.2, 500, .inl vh)), (v1, .inl (G.2.2, 24, .inl bh)), (v2, .inl (G.2.1, 24, .inl bv)), (v3, .inl (G.2.1, 34, .inl br)), (v4, .inl (G.2.1, 2, .inl bo)), (mz, .inr (21, [.int 0, .ref mp, .null, .int 0])), (mp, .inr (19, [.ref mk, .ref ml])), (mk, .inr (4, [.int 0, .ref k.1, .int 0])), (ml, .inr (4, [.int 0, .ref k.1, .int 0])), (ou, .inl (k.2.2.2.2.2.2, 1, .inr (.inl (fun _ => 0))))] H) (hD : va_D (lwS s) [(z, .inr (14, [.ref h, .ref r, .ref x, .ref g, .ref rr, .ref xx, .int 0])), (h, .inr (10, [.ref k0, .ref k1, .ref k2, .ref k3, .int 0, .int 0])), (k0, .inl (G.2.1, 8, .inl fk)), (k1, .inl (G.2.1, 34, .inl fs)), (k2, .inl (G.2.1, 34, .inl fa)), (k3, .inl (G.2.1, 34, .inl fb)), (r, .inr (5, [.ref h, .ref od, .ref ow, .ref ol, .ref oq, .ref r1, .ref r2, .ref r3, .ref r4, .ref r5, .ref r6, .ref r7, .int 0])), (od, .inr (6, [.ref h, .ref d1, .ref d2, .ref d3, .ref d4, .ref d5, .ref d6, .ref d7, .ref d8, .ref d9])), (d1, .inl (G.2.1, 34, .inl du)), (d2, .inl (G.2.1, 34, .inl dt)), (d3, .inl (G.2.1, 34, .inl dg)), (d4, .inl (G.2.1, 34, .inl dul)), (d5, .inl (G.2.1, 34, .inl dtl)), (d6, .inl (G.2.1, 34, .inl dgl)), (d7, .inl (G.2.1, 34, .inl dll)), (d8, .inl (G.2.1, 34, .inl dbu)), (d9, .inl (G.2.1, 34, .inl dbg)), (ow, .inr (13, [.ref h, .ref w1, .ref w2, .ref w3, .ref w4, .ref w5, .ref w6, .int wdp, .int wwr])), (w1, .inl (G.2.1, 34, .inl yf)), (w2, .inl (G.2.1, 34, .inl ys)), (w3, .inl (G.2.1, 34, .inl yop)), (w4, .inl (G.2.1, 34, .inl yel)), (w5, .inl (G.2.1, 34, .inl yen)), (w6, .inl (G.2.1, 34, .inl yst)), (ol, .inr (8, [.ref h, .ref l1, .ref l2, .ref l3, .ref l4, .int 0])), (l1, .inl (G.2.1, 16, .inl yl)), (l2, .inl (G.2.1, 16, .inl yp)), (l3, .inl (G.2.2, 16, .inl ye)), (l4, .inl (G.2.1, 34, .inl yo)), (oq, .inr (7, [.ref m0, .ref m1, .ref m2, .ref m3, .int 0])), (m0, .inl (G.2.1, 34, .inl xn)), (m1, .inl (G.2.1, 34, .inl xl)), (m2, .inl (G.2.1, 34, .inl xp)), (m3, .inl (G.2.1, 34, .inl xo)), (r1, .inl (G.2.2, 34, .inl cr)), (r2, .inl (G.2.2, 34, .inl cw)), (r3, .inl (G.2.1, 34, .inl ch)), (r4, .inl (G.2.1, 34, .inl cl)), (r5, .inl (G.2.1, 272, .inl cd)), (r6, .inl (G.2.1, 8, .inl cb)), (r7, .inl (G.2.1, 34, .inl cn)), (x, .inr (11, [.ref h, .ref ow, .ref os, .ref on, .ref v1, .ref v2, .ref v3, .ref v4, .int (-1), .int 0, .int 0, .int 0, .int 0, .int 0, .int 0, .int (-1), .int 0])), (os, .inr (12, [.ref t0, .ref t1, .ref t2, .int 0])), (t0, .inl (G.2.1, 60, .inl zs)), (t1, .inl (G.2.1, 60, .inl zn)), (t2, .inl (G.2.1, 60, .inl zl)), (on, .inr (9, [.ref u0, .ref u1, .ref u2, .ref u3, .int 0, .int 0])), (u0, .inl (G.2.1, 500, .inl vn)), (u1, .inl (G.2.1, 500, .inl vc)), (u2, .inl (G.2.1, 500, .inl vl)), (u3, .inl (G.2.2, 500, .inl vh)), (v1, .inl (G.2.2, 24, .inl bh)), (v2, .inl (G.2.1, 24, .inl bv)), (v3, .inl (G.2.1, 34, .inl br)), (v4, .inl (G.2.1, 2, .inl bo)), (mz, .inr (21, [.int 0, .ref mp, .null, .int 0])), (mp, .inr (19, [.ref mk, .ref ml])), (mk, .inr (4, [.int 0, .ref k.1, .int 0])), (ml, .inr (4, [.int 0, .ref k.1, .int 0])), (ou, .inl (k.2.2.2.2.2.2, 1, .inr (.inl (fun _ => 0))))]) (hS : va_S (lwS s) s.heap H locs) (hl : lv_has ls 9 [(4, .int 0), (3, .ref ou), (2, .ref mz), (1, .ref z), (0, .ref b)]) : W p l e room_1 s m #[Value.ref b] below meth c H locs 114 7276 (lw_Z below #[Value.ref b] s) (F0 m 32 ls []) := by
  obtain ⟨hx, hb, hr, hml, hown, hts, hX, hbl, hlk, hK, hE⟩ := id C0
  have hA : ∀ q : Nat, s.heap.size ≤ q → lwS s q := fun _ h9 => h9
  have hbA : ¬ lwS s b := Nat.not_le.mpr hbl
  refine lv_aload_n hx hb dL_law_32 rfl (lv_at hl 4 rfl) ?_
  refine lv_iload hx hb dL_law_33 (lv_at hl 0 rfl) ?_
  refine va_sld hx hb hX hbl hbA hS (i := 0) (by unfold vp_in; decide) dL_law_35 ?_
  rw [show xs (0 : Int32).toNatClampNeg = xs 0 from rfl]
  refine lv_bipush (v := 31) hx hb dL_law_36 (by decide) ?_
  refine lv_iand hx hb dL_law_38 ?_
  by_cases c1 : ((xs 0) &&& 31) = 0
  · refine lv_tableIn (off := 101) (tgt := 140) hx hb dL_law_39 (by rw [c1]; decide) (by rw [c1]; decide) (by rw [c1]; rfl) (by decide) ?_
    rcases fr_isIn01 (xs 1) 0 5 with hF | hT
    · exact lw_variableF l hfl C0 hF hP hD hS hl
    · exact lw_variableT l hfl C0 hT hP hD hS hl
  · by_cases c2 : ((xs 0) &&& 31) = 1
    · refine lv_tableIn (off := 157) (tgt := 196) hx hb dL_law_39 (by rw [c2]; decide) (by rw [c2]; decide) (by rw [c2]; rfl) (by decide) ?_
      rcases fr_line01 (xs 1) (xs 2) (xs 3) with hF | hT
      · exact lw_addF l hfl C0 hF hP hD hS hl
      · exact lw_addT l hfl C0 hT hP hD hS hl
    · by_cases c3 : ((xs 0) &&& 31) = 2
      · refine lv_tableIn (off := 237) (tgt := 276) hx hb dL_law_39 (by rw [c3]; decide) (by rw [c3]; decide) (by rw [c3]; rfl) (by decide) ?_
        exact lw_put l hfl C0 hP hD hS hl
      · by_cases c4 : ((xs 0) &&& 31) = 3
        · refine lv_tableIn (off := 329) (tgt := 368) hx hb dL_law_39 (by rw [c4]; decide) (by rw [c4]; decide) (by rw [c4]; rfl) (by decide) ?_
          exact lw_cut l hfl C0 hP hD hS hl
        · by_cases c5 : ((xs 0) &&& 31) = 4
          · refine lv_tableIn (off := 373) (tgt := 412) hx hb dL_law_39 (by rw [c5]; decide) (by rw [c5]; decide) (by rw [c5]; rfl) (by decide) ?_
            exact lw_ofLine l hfl C0 hP hD hS hl
          · by_cases c6 : ((xs 0) &&& 31) = 5
            · refine lv_tableIn (off := 441) (tgt := 480) hx hb dL_law_39 (by rw [c6]; decide) (by rw [c6]; decide) (by rw [c6]; rfl) (by decide) ?_
              exact lw_state l hfl C0 hP hD hS hl
            · by_cases c7 : ((xs 0) &&& 31) = 6
              · refine lv_tableIn (off := 509) (tgt := 548) hx hb dL_law_39 (by rw [c7]; decide) (by rw [c7]; decide) (by rw [c7]; rfl) (by decide) ?_
                exact lw_holds l hfl C0 hP hD hS hl
              · by_cases c8 : ((xs 0) &&& 31) = 7
                · refine lv_tableIn (off := 577) (tgt := 616) hx hb dL_law_39 (by rw [c8]; decide) (by rw [c8]; decide) (by rw [c8]; rfl) (by decide) ?_
                  exact lw_isWanted l hfl C0 hP hD hS hl
                · by_cases c9 : ((xs 0) &&& 31) = 8
                  · refine lv_tableIn (off := 652) (tgt := 691) hx hb dL_law_39 (by rw [c9]; decide) (by rw [c9]; decide) (by rw [c9]; rfl) (by decide) ?_
                    exact lw_inTheWay l hfl C0 hP hD hS hl
                  · by_cases c10 : ((xs 0) &&& 31) = 9
                    · refine lv_tableIn (off := 720) (tgt := 759) hx hb dL_law_39 (by rw [c10]; decide) (by rw [c10]; decide) (by rw [c10]; rfl) (by decide) ?_
                      exact lw_ofLoan l hfl C0 hP hD hS hl
                    · by_cases c11 : ((xs 0) &&& 31) = 10
                      · refine lv_tableIn (off := 788) (tgt := 827) hx hb dL_law_39 (by rw [c11]; decide) (by rw [c11]; decide) (by rw [c11]; rfl) (by decide) ?_
                        exact lw_fault l hfl C0 hP hD hS hl
                      · by_cases c12 : ((xs 0) &&& 31) = 11
                        · refine lv_tableIn (off := 856) (tgt := 895) hx hb dL_law_39 (by rw [c12]; decide) (by rw [c12]; decide) (by rw [c12]; rfl) (by decide) ?_
                          exact lw_ofVariable l hfl C0 hP hD hS hl
                        · by_cases c13 : ((xs 0) &&& 31) = 12
                          · refine lv_tableIn (off := 924) (tgt := 963) hx hb dL_law_39 (by rw [c13]; decide) (by rw [c13]; decide) (by rw [c13]; rfl) (by decide) ?_
                            exact lw_run l hfl C0 hP hD hS hl
                          · by_cases c14 : ((xs 0) &&& 31) = 13
                            · refine lv_tableIn (off := 968) (tgt := 1007) hx hb dL_law_39 (by rw [c14]; decide) (by rw [c14]; decide) (by rw [c14]; rfl) (by decide) ?_
                              rcases fr_isIn01 (xs 1) 0 9 with hF | hT
                              · exact lw_ofRunF l hfl C0 hF hP hD hS hl
                              · exact lw_ofRunT l hfl C0 hT hP hD hS hl
                            · by_cases c15 : ((xs 0) &&& 31) = 14
                              · refine lv_tableIn (off := 1024) (tgt := 1063) hx hb dL_law_39 (by rw [c15]; decide) (by rw [c15]; decide) (by rw [c15]; rfl) (by decide) ?_
                                exact lw_told l hfl C0 hP hD hS hl
                              · by_cases c16 : ((xs 0) &&& 31) = 15
                                · refine lv_tableIn (off := 1092) (tgt := 1131) hx hb dL_law_39 (by rw [c16]; decide) (by rw [c16]; decide) (by rw [c16]; rfl) (by decide) ?_
                                  rcases fr_isIn01 (xs 1) 0 6 with hF | hT
                                  · exact lw_manyF l hfl C0 hF hP hD hS hl
                                  · exact lw_manyT l hfl C0 hT hP hD hS hl
                                · by_cases c17 : ((xs 0) &&& 31) = 16
                                  · refine lv_tableIn (off := 1148) (tgt := 1187) hx hb dL_law_39 (by rw [c17]; decide) (by rw [c17]; decide) (by rw [c17]; rfl) (by decide) ?_
                                    exact lw_meanRead l hfl C0 hP hD hS hl
                                  · by_cases c18 : ((xs 0) &&& 31) = 17
                                    · refine lv_tableIn (off := 1189) (tgt := 1228) hx hb dL_law_39 (by rw [c18]; decide) (by rw [c18]; decide) (by rw [c18]; rfl) (by decide) ?_
                                      exact lw_faultsWithout l hfl C0 hP hD hS hl
                                    · by_cases c19 : ((xs 0) &&& 31) = 18
                                      · refine lv_tableIn (off := 1245) (tgt := 1284) hx hb dL_law_39 (by rw [c19]; decide) (by rw [c19]; decide) (by rw [c19]; rfl) (by decide) ?_
                                        exact lw_couldDrop l hfl C0 hP hD hS hl
                                      · by_cases c20 : ((xs 0) &&& 31) = 19
                                        · refine lv_tableIn (off := 1313) (tgt := 1352) hx hb dL_law_39 (by rw [c20]; decide) (by rw [c20]; decide) (by rw [c20]; rfl) (by decide) ?_
                                          exact lw_leakedBy l hfl C0 hP hD hS hl
                                        · by_cases c21 : ((xs 0) &&& 31) = 20
                                          · refine lv_tableIn (off := 1369) (tgt := 1408) hx hb dL_law_39 (by rw [c21]; decide) (by rw [c21]; decide) (by rw [c21]; rfl) (by decide) ?_
                                            exact lw_outcomeWith l hfl C0 hP hD hS hl
                                          · by_cases c22 : ((xs 0) &&& 31) = 21
                                            · refine lv_tableIn (off := 1437) (tgt := 1476) hx hb dL_law_39 (by rw [c22]; decide) (by rw [c22]; decide) (by rw [c22]; rfl) (by decide) ?_
                                              exact lw_digest l hfl C0 hP hD hS hl
                                            · refine lv_tableOut (tgt := 1490) hx hb dL_law_39 (by have := lv_neT (a := 0) c1 rfl; have := lv_neT (a := 1) c2 rfl; have := lv_neT (a := 2) c3 rfl; have := lv_neT (a := 3) c4 rfl; have := lv_neT (a := 4) c5 rfl; have := lv_neT (a := 5) c6 rfl; have := lv_neT (a := 6) c7 rfl; have := lv_neT (a := 7) c8 rfl; have := lv_neT (a := 8) c9 rfl; have := lv_neT (a := 9) c10 rfl; have := lv_neT (a := 10) c11 rfl; have := lv_neT (a := 11) c12 rfl; have := lv_neT (a := 12) c13 rfl; have := lv_neT (a := 13) c14 rfl; have := lv_neT (a := 14) c15 rfl; have := lv_neT (a := 15) c16 rfl; have := lv_neT (a := 16) c17 rfl; have := lv_neT (a := 17) c18 rfl; have := lv_neT (a := 18) c19 rfl; have := lv_neT (a := 19) c20 rfl; have := lv_neT (a := 20) c21 rfl; have := lv_neT (a := 21) c22 rfl; omega) (by decide) ?_
                                              exact lw_tail l C0 hS hl (lv_at hl 4 rfl) (lv_at hl 0 rfl) (Nat.le_of_ble_eq_true rfl) (Nat.le_of_ble_eq_true rfl)
