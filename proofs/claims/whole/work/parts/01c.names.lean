theorem dX0_heldBy_30 : decode cX0_heldBy 30 = .ok (.aload_n 0, 1) := by decide +kernel
theorem dX0_heldBy_31 : decode cX0_heldBy 31 = .ok (.getfield 59, 3) := by decide +kernel
theorem dX0_heldBy_34 : decode cX0_heldBy 34 = .ok (.iload_n 1, 1) := by decide +kernel
theorem dX0_heldBy_35 : decode cX0_heldBy 35 = .ok (.bipush 8, 2) := by decide +kernel
theorem dX0_heldBy_37 : decode cX0_heldBy 37 = .ok (.imul, 1) := by decide +kernel
theorem dX0_heldBy_38 : decode cX0_heldBy 38 = .ok (.iload_n 2, 1) := by decide +kernel
theorem dX0_heldBy_39 : decode cX0_heldBy 39 = .ok (.iadd, 1) := by decide +kernel
theorem dX0_heldBy_40 : decode cX0_heldBy 40 = .ok (.iaload, 1) := by decide +kernel
theorem dX0_heldBy_41 : decode cX0_heldBy 41 = .ok (.goto 4, 3) := by decide +kernel
theorem dX0_heldBy_44 : decode cX0_heldBy 44 = .ok (.iconst 0, 1) := by decide +kernel
theorem dX0_heldBy_45 : decode cX0_heldBy 45 = .ok (.ireturn, 1) := by decide +kernel
set_option maxRecDepth 20000 in
theorem ggX0_lastUse_X3_isLoan : GoodIn wsX0_lastUse wsX3_isLoan := goodIn_r _ [10, 11, 52, 53, 54, 55, 56, 57] (by decide +kernel) (by decide +kernel)
set_option maxRecDepth 20000 in
theorem gX0_lastUse_X3_isLoan : GoodIn wsX0_lastUse (wsV RX0 220 RX3 yX3_isLoan wsX3_isLoan) := goodIn_app (goodIn_of _ (by decide +kernel)) ggX0_lastUse_X3_isLoan
set_option maxRecDepth 20000 in
theorem ggX0_lastUse_X0_heldByAny : GoodIn wsX0_lastUse wsX0_heldByAny := goodIn_r _ [16, 2, 17, 18, 19, 20, 15, 21, 22, 23, 24, 25, 26, 27, 28, 29, 30, 31, 32, 33, 34, 35, 36, 37, 38, 39, 40, 41] (by decide +kernel) (by decide +kernel)
set_option maxRecDepth 20000 in
theorem gX0_lastUse_X0_heldByAny : GoodIn wsX0_lastUse (wsV RX0 207 RX0 yX0_heldByAny wsX0_heldByAny) := goodIn_app (goodIn_of _ (by decide +kernel)) ggX0_lastUse_X0_heldByAny
theorem dX0_lastUse_0 : decode cX0_lastUse 0 = .ok (.aload_n 0, 1) := by decide +kernel
theorem dX0_lastUse_1 : decode cX0_lastUse 1 = .ok (.getfield 34, 3) := by decide +kernel
theorem dX0_lastUse_4 : decode cX0_lastUse 4 = .ok (.iload_n 1, 1) := by decide +kernel
theorem dX0_lastUse_5 : decode cX0_lastUse 5 = .ok (.invokevirtual 220, 3) := by decide +kernel
theorem dX0_lastUse_8 : decode cX0_lastUse 8 = .ok (.ifCond .ne 5, 3) := by decide +kernel
theorem dX0_lastUse_11 : decode cX0_lastUse 11 = .ok (.iconst (-1), 1) := by decide +kernel
theorem dX0_lastUse_12 : decode cX0_lastUse 12 = .ok (.ireturn, 1) := by decide +kernel
theorem dX0_lastUse_13 : decode cX0_lastUse 13 = .ok (.aload_n 0, 1) := by decide +kernel
theorem dX0_lastUse_14 : decode cX0_lastUse 14 = .ok (.getfield 9, 3) := by decide +kernel
theorem dX0_lastUse_17 : decode cX0_lastUse 17 = .ok (.getfield 97, 3) := by decide +kernel
theorem dX0_lastUse_20 : decode cX0_lastUse 20 = .ok (.iconst 1, 1) := by decide +kernel
theorem dX0_lastUse_21 : decode cX0_lastUse 21 = .ok (.isub, 1) := by decide +kernel
theorem dX0_lastUse_22 : decode cX0_lastUse 22 = .ok (.istore_n 2, 1) := by decide +kernel
theorem dX0_lastUse_23 : decode cX0_lastUse 23 = .ok (.iload_n 2, 1) := by decide +kernel
theorem dX0_lastUse_24 : decode cX0_lastUse 24 = .ok (.ifCond .lt 34, 3) := by decide +kernel
theorem dX0_lastUse_27 : decode cX0_lastUse 27 = .ok (.aload_n 0, 1) := by decide +kernel
theorem dX0_lastUse_28 : decode cX0_lastUse 28 = .ok (.iload_n 2, 1) := by decide +kernel
theorem dX0_lastUse_29 : decode cX0_lastUse 29 = .ok (.aload_n 0, 1) := by decide +kernel
theorem dX0_lastUse_30 : decode cX0_lastUse 30 = .ok (.getfield 20, 3) := by decide +kernel
theorem dX0_lastUse_33 : decode cX0_lastUse 33 = .ok (.getfield 176, 3) := by decide +kernel
theorem dX0_lastUse_36 : decode cX0_lastUse 36 = .ok (.iload_n 2, 1) := by decide +kernel
theorem dX0_lastUse_37 : decode cX0_lastUse 37 = .ok (.iaload, 1) := by decide +kernel
theorem dX0_lastUse_38 : decode cX0_lastUse 38 = .ok (.invokevirtual 207, 3) := by decide +kernel
theorem dX0_lastUse_41 : decode cX0_lastUse 41 = .ok (.istore_n 3, 1) := by decide +kernel
theorem dX0_lastUse_42 : decode cX0_lastUse 42 = .ok (.iload_n 3, 1) := by decide +kernel
theorem dX0_lastUse_43 : decode cX0_lastUse 43 = .ok (.iconst 1, 1) := by decide +kernel
theorem dX0_lastUse_44 : decode cX0_lastUse 44 = .ok (.iload_n 1, 1) := by decide +kernel
theorem dX0_lastUse_45 : decode cX0_lastUse 45 = .ok (.ishl, 1) := by decide +kernel
theorem dX0_lastUse_46 : decode cX0_lastUse 46 = .ok (.iand, 1) := by decide +kernel
theorem dX0_lastUse_47 : decode cX0_lastUse 47 = .ok (.ifCond .eq 5, 3) := by decide +kernel
theorem dX0_lastUse_50 : decode cX0_lastUse 50 = .ok (.iload_n 2, 1) := by decide +kernel
theorem dX0_lastUse_51 : decode cX0_lastUse 51 = .ok (.ireturn, 1) := by decide +kernel
theorem dX0_lastUse_52 : decode cX0_lastUse 52 = .ok (.iinc 2 (-1), 3) := by decide +kernel
theorem dX0_lastUse_55 : decode cX0_lastUse 55 = .ok (.goto (-32), 3) := by decide +kernel
theorem dX0_lastUse_58 : decode cX0_lastUse 58 = .ok (.iconst (-1), 1) := by decide +kernel
theorem dX0_lastUse_59 : decode cX0_lastUse 59 = .ok (.ireturn, 1) := by decide +kernel
set_option maxRecDepth 20000 in
theorem ggX0_findFlags_X5_sortAt : GoodIn wsX0_findFlags wsX5_sortAt := goodIn_r _ [10, 11, 12, 13, 14, 9, 15, 16, 58, 59, 60, 61, 62, 63] (by decide +kernel) (by decide +kernel)
set_option maxRecDepth 20000 in
theorem gX0_findFlags_X5_sortAt : GoodIn wsX0_findFlags (wsV RX0 223 RX5 yX5_sortAt wsX5_sortAt) := goodIn_app (goodIn_of _ (by decide +kernel)) ggX0_findFlags_X5_sortAt
set_option maxRecDepth 20000 in
theorem ggX0_findFlags_X0_unsureAt : GoodIn wsX0_findFlags wsX0_unsureAt := goodIn_r _ [21, 1, 22, 23, 24, 25, 26, 9, 27, 16, 45, 46, 47, 48, 49, 50, 51, 52, 53, 54, 55, 56, 57, 58, 59, 60, 61, 62, 63] (by decide +kernel) (by decide +kernel)
set_option maxRecDepth 20000 in
theorem gX0_findFlags_X0_unsureAt : GoodIn wsX0_findFlags (wsV RX0 226 RX0 yX0_unsureAt wsX0_unsureAt) := goodIn_app (goodIn_of _ (by decide +kernel)) ggX0_findFlags_X0_unsureAt
set_option maxRecDepth 20000 in
theorem ggX0_findFlags_X5_ownedLeaves : GoodIn wsX0_findFlags wsX5_ownedLeaves := goodIn_r _ [31, 32, 33, 34, 35, 9, 36, 37, 38, 39, 40, 41, 42, 43, 44, 58, 59, 60, 61, 62, 63] (by decide +kernel) (by decide +kernel)
set_option maxRecDepth 20000 in
theorem gX0_findFlags_X5_ownedLeaves : GoodIn wsX0_findFlags (wsV RX0 229 RX5 yX5_ownedLeaves wsX5_ownedLeaves) := goodIn_app (goodIn_of _ (by decide +kernel)) ggX0_findFlags_X5_ownedLeaves
theorem dX0_findFlags_0 : decode cX0_findFlags 0 = .ok (.iconst 0, 1) := by decide +kernel
theorem dX0_findFlags_1 : decode cX0_findFlags 1 = .ok (.istore_n 1, 1) := by decide +kernel
theorem dX0_findFlags_2 : decode cX0_findFlags 2 = .ok (.iload_n 1, 1) := by decide +kernel
theorem dX0_findFlags_3 : decode cX0_findFlags 3 = .ok (.aload_n 0, 1) := by decide +kernel
theorem dX0_findFlags_4 : decode cX0_findFlags 4 = .ok (.getfield 9, 3) := by decide +kernel
theorem dX0_findFlags_7 : decode cX0_findFlags 7 = .ok (.getfield 97, 3) := by decide +kernel
theorem dX0_findFlags_10 : decode cX0_findFlags 10 = .ok (.if_icmp .ge 112, 3) := by decide +kernel
theorem dX0_findFlags_13 : decode cX0_findFlags 13 = .ok (.aload_n 0, 1) := by decide +kernel
theorem dX0_findFlags_14 : decode cX0_findFlags 14 = .ok (.getfield 9, 3) := by decide +kernel
theorem dX0_findFlags_17 : decode cX0_findFlags 17 = .ok (.iload_n 1, 1) := by decide +kernel
theorem dX0_findFlags_18 : decode cX0_findFlags 18 = .ok (.invokevirtual 223, 3) := by decide +kernel
theorem dX0_findFlags_21 : decode cX0_findFlags 21 = .ok (.lookupswitch 95 #[(0, 51), (1, 51), (2, 51), (13, 78), (15, 78)], 51) := by decide +kernel
theorem dX0_findFlags_72 : decode cX0_findFlags 72 = .ok (.aload_n 0, 1) := by decide +kernel
theorem dX0_findFlags_73 : decode cX0_findFlags 73 = .ok (.dup, 1) := by decide +kernel
theorem dX0_findFlags_74 : decode cX0_findFlags 74 = .ok (.getfield 68, 3) := by decide +kernel
theorem dX0_findFlags_77 : decode cX0_findFlags 77 = .ok (.aload_n 0, 1) := by decide +kernel
theorem dX0_findFlags_78 : decode cX0_findFlags 78 = .ok (.iload_n 1, 1) := by decide +kernel
theorem dX0_findFlags_79 : decode cX0_findFlags 79 = .ok (.invokevirtual 226, 3) := by decide +kernel
theorem dX0_findFlags_82 : decode cX0_findFlags 82 = .ok (.aload_n 0, 1) := by decide +kernel
theorem dX0_findFlags_83 : decode cX0_findFlags 83 = .ok (.getfield 20, 3) := by decide +kernel
theorem dX0_findFlags_86 : decode cX0_findFlags 86 = .ok (.getfield 126, 3) := by decide +kernel
theorem dX0_findFlags_89 : decode cX0_findFlags 89 = .ok (.iload_n 1, 1) := by decide +kernel
theorem dX0_findFlags_90 : decode cX0_findFlags 90 = .ok (.iaload, 1) := by decide +kernel
theorem dX0_findFlags_91 : decode cX0_findFlags 91 = .ok (.iand, 1) := by decide +kernel
theorem dX0_findFlags_92 : decode cX0_findFlags 92 = .ok (.ior, 1) := by decide +kernel
theorem dX0_findFlags_93 : decode cX0_findFlags 93 = .ok (.putfield 68, 3) := by decide +kernel
theorem dX0_findFlags_96 : decode cX0_findFlags 96 = .ok (.goto 20, 3) := by decide +kernel
theorem dX0_findFlags_99 : decode cX0_findFlags 99 = .ok (.aload_n 0, 1) := by decide +kernel
theorem dX0_findFlags_100 : decode cX0_findFlags 100 = .ok (.dup, 1) := by decide +kernel
theorem dX0_findFlags_101 : decode cX0_findFlags 101 = .ok (.getfield 68, 3) := by decide +kernel
theorem dX0_findFlags_104 : decode cX0_findFlags 104 = .ok (.aload_n 0, 1) := by decide +kernel
theorem dX0_findFlags_105 : decode cX0_findFlags 105 = .ok (.iload_n 1, 1) := by decide +kernel
theorem dX0_findFlags_106 : decode cX0_findFlags 106 = .ok (.invokevirtual 226, 3) := by decide +kernel
theorem dX0_findFlags_109 : decode cX0_findFlags 109 = .ok (.ior, 1) := by decide +kernel
theorem dX0_findFlags_110 : decode cX0_findFlags 110 = .ok (.putfield 68, 3) := by decide +kernel
theorem dX0_findFlags_113 : decode cX0_findFlags 113 = .ok (.goto 3, 3) := by decide +kernel
theorem dX0_findFlags_116 : decode cX0_findFlags 116 = .ok (.iinc 1 1, 3) := by decide +kernel
theorem dX0_findFlags_119 : decode cX0_findFlags 119 = .ok (.goto (-117), 3) := by decide +kernel
theorem dX0_findFlags_122 : decode cX0_findFlags 122 = .ok (.aload_n 0, 1) := by decide +kernel
theorem dX0_findFlags_123 : decode cX0_findFlags 123 = .ok (.dup, 1) := by decide +kernel
theorem dX0_findFlags_124 : decode cX0_findFlags 124 = .ok (.getfield 68, 3) := by decide +kernel
theorem dX0_findFlags_127 : decode cX0_findFlags 127 = .ok (.aload_n 0, 1) := by decide +kernel
theorem dX0_findFlags_128 : decode cX0_findFlags 128 = .ok (.aload_n 0, 1) := by decide +kernel
theorem dX0_findFlags_129 : decode cX0_findFlags 129 = .ok (.getfield 9, 3) := by decide +kernel
theorem dX0_findFlags_132 : decode cX0_findFlags 132 = .ok (.getfield 97, 3) := by decide +kernel
theorem dX0_findFlags_135 : decode cX0_findFlags 135 = .ok (.invokevirtual 226, 3) := by decide +kernel
theorem dX0_findFlags_138 : decode cX0_findFlags 138 = .ok (.ior, 1) := by decide +kernel
theorem dX0_findFlags_139 : decode cX0_findFlags 139 = .ok (.putfield 68, 3) := by decide +kernel
theorem dX0_findFlags_142 : decode cX0_findFlags 142 = .ok (.aload_n 0, 1) := by decide +kernel
theorem dX0_findFlags_143 : decode cX0_findFlags 143 = .ok (.dup, 1) := by decide +kernel
theorem dX0_findFlags_144 : decode cX0_findFlags 144 = .ok (.getfield 68, 3) := by decide +kernel
theorem dX0_findFlags_147 : decode cX0_findFlags 147 = .ok (.aload_n 0, 1) := by decide +kernel
theorem dX0_findFlags_148 : decode cX0_findFlags 148 = .ok (.getfield 9, 3) := by decide +kernel
theorem dX0_findFlags_151 : decode cX0_findFlags 151 = .ok (.invokevirtual 229, 3) := by decide +kernel
theorem dX0_findFlags_154 : decode cX0_findFlags 154 = .ok (.iand, 1) := by decide +kernel
theorem dX0_findFlags_155 : decode cX0_findFlags 155 = .ok (.putfield 68, 3) := by decide +kernel
theorem dX0_findFlags_158 : decode cX0_findFlags 158 = .ok (.return_, 1) := by decide +kernel
set_option maxRecDepth 20000 in
theorem ggX0_unsureAt_X5_isLineOrEnd : GoodIn wsX0_unsureAt wsX5_isLineOrEnd := goodIn_r _ [8, 9, 23, 24, 25, 26, 27, 28] (by decide +kernel) (by decide +kernel)
set_option maxRecDepth 20000 in
theorem gX0_unsureAt_X5_isLineOrEnd : GoodIn wsX0_unsureAt (wsV RX0 169 RX5 yX5_isLineOrEnd wsX5_isLineOrEnd) := goodIn_app (goodIn_of _ (by decide +kernel)) ggX0_unsureAt_X5_isLineOrEnd
theorem dX0_unsureAt_0 : decode cX0_unsureAt 0 = .ok (.aload_n 0, 1) := by decide +kernel
theorem dX0_unsureAt_1 : decode cX0_unsureAt 1 = .ok (.getfield 9, 3) := by decide +kernel
theorem dX0_unsureAt_4 : decode cX0_unsureAt 4 = .ok (.iload_n 1, 1) := by decide +kernel
theorem dX0_unsureAt_5 : decode cX0_unsureAt 5 = .ok (.invokevirtual 169, 3) := by decide +kernel
theorem dX0_unsureAt_8 : decode cX0_unsureAt 8 = .ok (.ifCond .eq 19, 3) := by decide +kernel
theorem dX0_unsureAt_11 : decode cX0_unsureAt 11 = .ok (.aload_n 0, 1) := by decide +kernel
theorem dX0_unsureAt_12 : decode cX0_unsureAt 12 = .ok (.getfield 52, 3) := by decide +kernel
theorem dX0_unsureAt_15 : decode cX0_unsureAt 15 = .ok (.iload_n 1, 1) := by decide +kernel
theorem dX0_unsureAt_16 : decode cX0_unsureAt 16 = .ok (.iaload, 1) := by decide +kernel
theorem dX0_unsureAt_17 : decode cX0_unsureAt 17 = .ok (.aload_n 0, 1) := by decide +kernel
theorem dX0_unsureAt_18 : decode cX0_unsureAt 18 = .ok (.getfield 56, 3) := by decide +kernel
theorem dX0_unsureAt_21 : decode cX0_unsureAt 21 = .ok (.iload_n 1, 1) := by decide +kernel
theorem dX0_unsureAt_22 : decode cX0_unsureAt 22 = .ok (.iaload, 1) := by decide +kernel
theorem dX0_unsureAt_23 : decode cX0_unsureAt 23 = .ok (.iand, 1) := by decide +kernel
theorem dX0_unsureAt_24 : decode cX0_unsureAt 24 = .ok (.goto 4, 3) := by decide +kernel
theorem dX0_unsureAt_27 : decode cX0_unsureAt 27 = .ok (.iconst 0, 1) := by decide +kernel
theorem dX0_unsureAt_28 : decode cX0_unsureAt 28 = .ok (.ireturn, 1) := by decide +kernel
set_option maxRecDepth 20000 in
theorem ggX0_isDead_X8_isWhole : GoodIn wsX0_isDead wsX8_isWhole := goodIn_r _ [8, 9, 29, 30, 31, 32, 33, 34, 35, 36, 37] (by decide +kernel) (by decide +kernel)
set_option maxRecDepth 20000 in
theorem gX0_isDead_X8_isWhole : GoodIn wsX0_isDead (wsV RX0 80 RX8 yX8_isWhole wsX8_isWhole) := goodIn_app (goodIn_of _ (by decide +kernel)) ggX0_isDead_X8_isWhole
set_option maxRecDepth 20000 in
theorem ggX0_isDead_X5_isLine : GoodIn wsX0_isDead wsX5_isLine := goodIn_r _ [14, 15, 38, 39, 40, 41, 42, 43] (by decide +kernel) (by decide +kernel)
set_option maxRecDepth 20000 in
theorem gX0_isDead_X5_isLine : GoodIn wsX0_isDead (wsV RX0 182 RX5 yX5_isLine wsX5_isLine) := goodIn_app (goodIn_of _ (by decide +kernel)) ggX0_isDead_X5_isLine
theorem dX0_isDead_0 : decode cX0_isDead 0 = .ok (.aload_n 0, 1) := by decide +kernel
theorem dX0_isDead_1 : decode cX0_isDead 1 = .ok (.getfield 27, 3) := by decide +kernel
theorem dX0_isDead_4 : decode cX0_isDead 4 = .ok (.invokevirtual 80, 3) := by decide +kernel
theorem dX0_isDead_7 : decode cX0_isDead 7 = .ok (.ifCond .eq 27, 3) := by decide +kernel
theorem dX0_isDead_10 : decode cX0_isDead 10 = .ok (.aload_n 0, 1) := by decide +kernel
theorem dX0_isDead_11 : decode cX0_isDead 11 = .ok (.getfield 9, 3) := by decide +kernel
theorem dX0_isDead_14 : decode cX0_isDead 14 = .ok (.iload_n 1, 1) := by decide +kernel
theorem dX0_isDead_15 : decode cX0_isDead 15 = .ok (.invokevirtual 182, 3) := by decide +kernel
theorem dX0_isDead_18 : decode cX0_isDead 18 = .ok (.ifCond .eq 16, 3) := by decide +kernel
theorem dX0_isDead_21 : decode cX0_isDead 21 = .ok (.aload_n 0, 1) := by decide +kernel
theorem dX0_isDead_22 : decode cX0_isDead 22 = .ok (.getfield 45, 3) := by decide +kernel
theorem dX0_isDead_25 : decode cX0_isDead 25 = .ok (.iload_n 1, 1) := by decide +kernel
theorem dX0_isDead_26 : decode cX0_isDead 26 = .ok (.baload, 1) := by decide +kernel
theorem dX0_isDead_27 : decode cX0_isDead 27 = .ok (.ifCond .ne 7, 3) := by decide +kernel
theorem dX0_isDead_30 : decode cX0_isDead 30 = .ok (.iconst 1, 1) := by decide +kernel
theorem dX0_isDead_31 : decode cX0_isDead 31 = .ok (.goto 4, 3) := by decide +kernel
theorem dX0_isDead_34 : decode cX0_isDead 34 = .ok (.iconst 0, 1) := by decide +kernel
theorem dX0_isDead_35 : decode cX0_isDead 35 = .ok (.ireturn, 1) := by decide +kernel
set_option maxRecDepth 20000 in
theorem ggX0_stateAt_X5_isLineOrEnd : GoodIn wsX0_stateAt wsX5_isLineOrEnd := goodIn_r _ [9, 10, 34, 35, 36, 37, 38, 39] (by decide +kernel) (by decide +kernel)
set_option maxRecDepth 20000 in
theorem gX0_stateAt_X5_isLineOrEnd : GoodIn wsX0_stateAt (wsV RX0 169 RX5 yX5_isLineOrEnd wsX5_isLineOrEnd) := goodIn_app (goodIn_of _ (by decide +kernel)) ggX0_stateAt_X5_isLineOrEnd
set_option maxRecDepth 20000 in
theorem ggX0_stateAt_X5_leavesOf : GoodIn wsX0_stateAt wsX5_leavesOf := goodIn_r _ [14, 15, 16, 17, 8, 18, 19, 20, 34, 35, 36, 37, 38, 39] (by decide +kernel) (by decide +kernel)
set_option maxRecDepth 20000 in
theorem gX0_stateAt_X5_leavesOf : GoodIn wsX0_stateAt (wsV RX0 232 RX5 yX5_leavesOf wsX5_leavesOf) := goodIn_app (goodIn_of _ (by decide +kernel)) ggX0_stateAt_X5_leavesOf
theorem dX0_stateAt_0 : decode cX0_stateAt 0 = .ok (.aload_n 0, 1) := by decide +kernel
theorem dX0_stateAt_1 : decode cX0_stateAt 1 = .ok (.getfield 9, 3) := by decide +kernel
theorem dX0_stateAt_4 : decode cX0_stateAt 4 = .ok (.iload_n 1, 1) := by decide +kernel
theorem dX0_stateAt_5 : decode cX0_stateAt 5 = .ok (.invokevirtual 169, 3) := by decide +kernel
theorem dX0_stateAt_8 : decode cX0_stateAt 8 = .ok (.ifCond .eq 12, 3) := by decide +kernel
theorem dX0_stateAt_11 : decode cX0_stateAt 11 = .ok (.aload_n 0, 1) := by decide +kernel
theorem dX0_stateAt_12 : decode cX0_stateAt 12 = .ok (.getfield 45, 3) := by decide +kernel
theorem dX0_stateAt_15 : decode cX0_stateAt 15 = .ok (.iload_n 1, 1) := by decide +kernel
theorem dX0_stateAt_16 : decode cX0_stateAt 16 = .ok (.baload, 1) := by decide +kernel
theorem dX0_stateAt_17 : decode cX0_stateAt 17 = .ok (.ifCond .ne 5, 3) := by decide +kernel
theorem dX0_stateAt_20 : decode cX0_stateAt 20 = .ok (.iconst 0, 1) := by decide +kernel
theorem dX0_stateAt_21 : decode cX0_stateAt 21 = .ok (.ireturn, 1) := by decide +kernel
theorem dX0_stateAt_22 : decode cX0_stateAt 22 = .ok (.aload_n 0, 1) := by decide +kernel
theorem dX0_stateAt_23 : decode cX0_stateAt 23 = .ok (.getfield 9, 3) := by decide +kernel
theorem dX0_stateAt_26 : decode cX0_stateAt 26 = .ok (.iload_n 2, 1) := by decide +kernel
theorem dX0_stateAt_27 : decode cX0_stateAt 27 = .ok (.invokevirtual 232, 3) := by decide +kernel
theorem dX0_stateAt_30 : decode cX0_stateAt 30 = .ok (.istore_n 3, 1) := by decide +kernel
theorem dX0_stateAt_31 : decode cX0_stateAt 31 = .ok (.aload_n 0, 1) := by decide +kernel
theorem dX0_stateAt_32 : decode cX0_stateAt 32 = .ok (.getfield 52, 3) := by decide +kernel
theorem dX0_stateAt_35 : decode cX0_stateAt 35 = .ok (.iload_n 1, 1) := by decide +kernel
theorem dX0_stateAt_36 : decode cX0_stateAt 36 = .ok (.iaload, 1) := by decide +kernel
theorem dX0_stateAt_37 : decode cX0_stateAt 37 = .ok (.iload_n 3, 1) := by decide +kernel
theorem dX0_stateAt_38 : decode cX0_stateAt 38 = .ok (.iand, 1) := by decide +kernel
theorem dX0_stateAt_39 : decode cX0_stateAt 39 = .ok (.iload_n 3, 1) := by decide +kernel
theorem dX0_stateAt_40 : decode cX0_stateAt 40 = .ok (.if_icmp .eq 5, 3) := by decide +kernel
theorem dX0_stateAt_43 : decode cX0_stateAt 43 = .ok (.iconst 2, 1) := by decide +kernel
theorem dX0_stateAt_44 : decode cX0_stateAt 44 = .ok (.ireturn, 1) := by decide +kernel
theorem dX0_stateAt_45 : decode cX0_stateAt 45 = .ok (.aload_n 0, 1) := by decide +kernel
theorem dX0_stateAt_46 : decode cX0_stateAt 46 = .ok (.getfield 56, 3) := by decide +kernel
theorem dX0_stateAt_49 : decode cX0_stateAt 49 = .ok (.iload_n 1, 1) := by decide +kernel
theorem dX0_stateAt_50 : decode cX0_stateAt 50 = .ok (.iaload, 1) := by decide +kernel
theorem dX0_stateAt_51 : decode cX0_stateAt 51 = .ok (.iload_n 3, 1) := by decide +kernel
theorem dX0_stateAt_52 : decode cX0_stateAt 52 = .ok (.iand, 1) := by decide +kernel
theorem dX0_stateAt_53 : decode cX0_stateAt 53 = .ok (.ifCond .ne 7, 3) := by decide +kernel
theorem dX0_stateAt_56 : decode cX0_stateAt 56 = .ok (.iconst 1, 1) := by decide +kernel
theorem dX0_stateAt_57 : decode cX0_stateAt 57 = .ok (.goto 4, 3) := by decide +kernel
theorem dX0_stateAt_60 : decode cX0_stateAt 60 = .ok (.iconst 3, 1) := by decide +kernel
theorem dX0_stateAt_61 : decode cX0_stateAt 61 = .ok (.ireturn, 1) := by decide +kernel
set_option maxRecDepth 20000 in
theorem ggX0_flagsOf_X5_leavesOf : GoodIn wsX0_flagsOf wsX5_leavesOf := goodIn_r _ [7, 8, 9, 10, 6, 11, 12, 13, 28, 29, 30, 31, 32, 33] (by decide +kernel) (by decide +kernel)
set_option maxRecDepth 20000 in
theorem gX0_flagsOf_X5_leavesOf : GoodIn wsX0_flagsOf (wsV RX0 232 RX5 yX5_leavesOf wsX5_leavesOf) := goodIn_app (goodIn_of _ (by decide +kernel)) ggX0_flagsOf_X5_leavesOf
set_option maxRecDepth 20000 in
theorem ggX0_flagsOf_X5_kindAt : GoodIn wsX0_flagsOf wsX5_kindAt := goodIn_r _ [11, 12, 13, 28, 29, 30, 31, 32, 33] (by decide +kernel) (by decide +kernel)
set_option maxRecDepth 20000 in
theorem gX0_flagsOf_X5_kindAt : GoodIn wsX0_flagsOf (wsV RX0 235 RX5 yX5_kindAt wsX5_kindAt) := goodIn_app (goodIn_of _ (by decide +kernel)) ggX0_flagsOf_X5_kindAt
theorem dX0_flagsOf_0 : decode cX0_flagsOf 0 = .ok (.iconst 3, 1) := by decide +kernel
theorem dX0_flagsOf_1 : decode cX0_flagsOf 1 = .ok (.iload_n 1, 1) := by decide +kernel
theorem dX0_flagsOf_2 : decode cX0_flagsOf 2 = .ok (.imul, 1) := by decide +kernel
theorem dX0_flagsOf_3 : decode cX0_flagsOf 3 = .ok (.istore_n 2, 1) := by decide +kernel
theorem dX0_flagsOf_4 : decode cX0_flagsOf 4 = .ok (.aload_n 0, 1) := by decide +kernel
theorem dX0_flagsOf_5 : decode cX0_flagsOf 5 = .ok (.getfield 68, 3) := by decide +kernel
theorem dX0_flagsOf_8 : decode cX0_flagsOf 8 = .ok (.aload_n 0, 1) := by decide +kernel
theorem dX0_flagsOf_9 : decode cX0_flagsOf 9 = .ok (.getfield 9, 3) := by decide +kernel
theorem dX0_flagsOf_12 : decode cX0_flagsOf 12 = .ok (.iload_n 2, 1) := by decide +kernel
theorem dX0_flagsOf_13 : decode cX0_flagsOf 13 = .ok (.invokevirtual 232, 3) := by decide +kernel
theorem dX0_flagsOf_16 : decode cX0_flagsOf 16 = .ok (.iand, 1) := by decide +kernel
theorem dX0_flagsOf_17 : decode cX0_flagsOf 17 = .ok (.istore_n 3, 1) := by decide +kernel
theorem dX0_flagsOf_18 : decode cX0_flagsOf 18 = .ok (.aload_n 0, 1) := by decide +kernel
theorem dX0_flagsOf_19 : decode cX0_flagsOf 19 = .ok (.getfield 9, 3) := by decide +kernel
theorem dX0_flagsOf_22 : decode cX0_flagsOf 22 = .ok (.iload_n 2, 1) := by decide +kernel
theorem dX0_flagsOf_23 : decode cX0_flagsOf 23 = .ok (.invokevirtual 235, 3) := by decide +kernel
theorem dX0_flagsOf_26 : decode cX0_flagsOf 26 = .ok (.iconst 2, 1) := by decide +kernel
theorem dX0_flagsOf_27 : decode cX0_flagsOf 27 = .ok (.if_icmp .ne 11, 3) := by decide +kernel
theorem dX0_flagsOf_30 : decode cX0_flagsOf 30 = .ok (.iload_n 3, 1) := by decide +kernel
theorem dX0_flagsOf_31 : decode cX0_flagsOf 31 = .ok (.iload_n 2, 1) := by decide +kernel
theorem dX0_flagsOf_32 : decode cX0_flagsOf 32 = .ok (.iconst 1, 1) := by decide +kernel
theorem dX0_flagsOf_33 : decode cX0_flagsOf 33 = .ok (.iadd, 1) := by decide +kernel
theorem dX0_flagsOf_34 : decode cX0_flagsOf 34 = .ok (.iushr, 1) := by decide +kernel
theorem dX0_flagsOf_35 : decode cX0_flagsOf 35 = .ok (.goto 6, 3) := by decide +kernel
theorem dX0_flagsOf_38 : decode cX0_flagsOf 38 = .ok (.iload_n 3, 1) := by decide +kernel
theorem dX0_flagsOf_39 : decode cX0_flagsOf 39 = .ok (.iload_n 2, 1) := by decide +kernel
theorem dX0_flagsOf_40 : decode cX0_flagsOf 40 = .ok (.iushr, 1) := by decide +kernel
theorem dX0_flagsOf_41 : decode cX0_flagsOf 41 = .ok (.ireturn, 1) := by decide +kernel
set_option maxRecDepth 20000 in
theorem ggX0_countDead_X0_isDead : GoodIn wsX0_countDead wsX0_isDead := goodIn_r _ [7, 8, 1, 9, 10, 11, 12, 13, 14, 15, 16, 17, 18, 19, 20, 21, 22, 23, 24, 25, 26, 27, 28, 29, 30, 31, 32, 33, 34, 41, 42, 43, 44, 45, 46, 47, 48, 49, 35, 36, 37, 38, 39, 40] (by decide +kernel) (by decide +kernel)
set_option maxRecDepth 20000 in
theorem gX0_countDead_X0_isDead : GoodIn wsX0_countDead (wsV RX0 238 RX0 yX0_isDead wsX0_isDead) := goodIn_app (goodIn_of _ (by decide +kernel)) ggX0_countDead_X0_isDead
theorem dX0_countDead_0 : decode cX0_countDead 0 = .ok (.iconst 0, 1) := by decide +kernel
theorem dX0_countDead_1 : decode cX0_countDead 1 = .ok (.istore_n 1, 1) := by decide +kernel
theorem dX0_countDead_2 : decode cX0_countDead 2 = .ok (.iconst 0, 1) := by decide +kernel
theorem dX0_countDead_3 : decode cX0_countDead 3 = .ok (.istore_n 2, 1) := by decide +kernel
theorem dX0_countDead_4 : decode cX0_countDead 4 = .ok (.iload_n 2, 1) := by decide +kernel
theorem dX0_countDead_5 : decode cX0_countDead 5 = .ok (.aload_n 0, 1) := by decide +kernel
theorem dX0_countDead_6 : decode cX0_countDead 6 = .ok (.getfield 9, 3) := by decide +kernel
theorem dX0_countDead_9 : decode cX0_countDead 9 = .ok (.getfield 97, 3) := by decide +kernel
theorem dX0_countDead_12 : decode cX0_countDead 12 = .ok (.if_icmp .ge 20, 3) := by decide +kernel
theorem dX0_countDead_15 : decode cX0_countDead 15 = .ok (.aload_n 0, 1) := by decide +kernel
theorem dX0_countDead_16 : decode cX0_countDead 16 = .ok (.iload_n 2, 1) := by decide +kernel
theorem dX0_countDead_17 : decode cX0_countDead 17 = .ok (.invokevirtual 238, 3) := by decide +kernel
theorem dX0_countDead_20 : decode cX0_countDead 20 = .ok (.ifCond .eq 6, 3) := by decide +kernel
theorem dX0_countDead_23 : decode cX0_countDead 23 = .ok (.iinc 1 1, 3) := by decide +kernel
theorem dX0_countDead_26 : decode cX0_countDead 26 = .ok (.iinc 2 1, 3) := by decide +kernel
theorem dX0_countDead_29 : decode cX0_countDead 29 = .ok (.goto (-25), 3) := by decide +kernel
theorem dX0_countDead_32 : decode cX0_countDead 32 = .ok (.iload_n 1, 1) := by decide +kernel
theorem dX0_countDead_33 : decode cX0_countDead 33 = .ok (.ireturn, 1) := by decide +kernel
set_option maxRecDepth 20000 in
theorem ggX0_mostWanted_J6_bitCount_0f7a4 : GoodIn wsX0_mostWanted wsJ6_bitCount_0f7a4 := goodIn_r _ [11, 12, 13, 14] (by decide +kernel) (by decide +kernel)
set_option maxRecDepth 20000 in
theorem gX0_mostWanted_J6_bitCount_0f7a4 : GoodIn wsX0_mostWanted (va_wsS RX0 241 yJ6_bitCount_0f7a4 wsJ6_bitCount_0f7a4) := goodIn_app (goodIn_of _ (by decide +kernel)) ggX0_mostWanted_J6_bitCount_0f7a4
theorem dX0_mostWanted_0 : decode cX0_mostWanted 0 = .ok (.iconst 0, 1) := by decide +kernel
theorem dX0_mostWanted_1 : decode cX0_mostWanted 1 = .ok (.istore_n 1, 1) := by decide +kernel
theorem dX0_mostWanted_2 : decode cX0_mostWanted 2 = .ok (.iconst 0, 1) := by decide +kernel
theorem dX0_mostWanted_3 : decode cX0_mostWanted 3 = .ok (.istore_n 2, 1) := by decide +kernel
theorem dX0_mostWanted_4 : decode cX0_mostWanted 4 = .ok (.iload_n 2, 1) := by decide +kernel
theorem dX0_mostWanted_5 : decode cX0_mostWanted 5 = .ok (.aload_n 0, 1) := by decide +kernel
theorem dX0_mostWanted_6 : decode cX0_mostWanted 6 = .ok (.getfield 9, 3) := by decide +kernel
theorem dX0_mostWanted_9 : decode cX0_mostWanted 9 = .ok (.getfield 97, 3) := by decide +kernel
theorem dX0_mostWanted_12 : decode cX0_mostWanted 12 = .ok (.if_icmp .ge 23, 3) := by decide +kernel
theorem dX0_mostWanted_15 : decode cX0_mostWanted 15 = .ok (.iload_n 1, 1) := by decide +kernel
theorem dX0_mostWanted_16 : decode cX0_mostWanted 16 = .ok (.aload_n 0, 1) := by decide +kernel
theorem dX0_mostWanted_17 : decode cX0_mostWanted 17 = .ok (.getfield 65, 3) := by decide +kernel
theorem dX0_mostWanted_20 : decode cX0_mostWanted 20 = .ok (.iload_n 2, 1) := by decide +kernel
theorem dX0_mostWanted_21 : decode cX0_mostWanted 21 = .ok (.iaload, 1) := by decide +kernel
theorem dX0_mostWanted_22 : decode cX0_mostWanted 22 = .ok (.invokestatic 241, 3) := by decide +kernel
theorem dX0_mostWanted_25 : decode cX0_mostWanted 25 = .ok (.invokestatic 244, 3) := by decide +kernel
theorem dX0_mostWanted_28 : decode cX0_mostWanted 28 = .ok (.istore_n 1, 1) := by decide +kernel
theorem dX0_mostWanted_29 : decode cX0_mostWanted 29 = .ok (.iinc 2 1, 3) := by decide +kernel
theorem dX0_mostWanted_32 : decode cX0_mostWanted 32 = .ok (.goto (-28), 3) := by decide +kernel
theorem dX0_mostWanted_35 : decode cX0_mostWanted 35 = .ok (.iload_n 1, 1) := by decide +kernel
theorem dX0_mostWanted_36 : decode cX0_mostWanted 36 = .ok (.ireturn, 1) := by decide +kernel
theorem dX1_init_0 : decode cX1_init 0 = .ok (.aload_n 0, 1) := by decide +kernel
theorem dX1_init_1 : decode cX1_init 1 = .ok (.invokespecial 3, 3) := by decide +kernel
theorem dX1_init_4 : decode cX1_init 4 = .ok (.aload_n 0, 1) := by decide +kernel
theorem dX1_init_5 : decode cX1_init 5 = .ok (.aload_n 1, 1) := by decide +kernel
theorem dX1_init_6 : decode cX1_init 6 = .ok (.putfield 9, 3) := by decide +kernel
theorem dX1_init_9 : decode cX1_init 9 = .ok (.aload_n 0, 1) := by decide +kernel
theorem dX1_init_10 : decode cX1_init 10 = .ok (.bipush 34, 2) := by decide +kernel
theorem dX1_init_12 : decode cX1_init 12 = .ok (.newarray .int, 2) := by decide +kernel
theorem dX1_init_14 : decode cX1_init 14 = .ok (.putfield 15, 3) := by decide +kernel
theorem dX1_init_17 : decode cX1_init 17 = .ok (.aload_n 0, 1) := by decide +kernel
theorem dX1_init_18 : decode cX1_init 18 = .ok (.bipush 34, 2) := by decide +kernel
theorem dX1_init_20 : decode cX1_init 20 = .ok (.newarray .int, 2) := by decide +kernel
theorem dX1_init_22 : decode cX1_init 22 = .ok (.putfield 19, 3) := by decide +kernel
theorem dX1_init_25 : decode cX1_init 25 = .ok (.aload_n 0, 1) := by decide +kernel
theorem dX1_init_26 : decode cX1_init 26 = .ok (.bipush 34, 2) := by decide +kernel
theorem dX1_init_28 : decode cX1_init 28 = .ok (.newarray .int, 2) := by decide +kernel
theorem dX1_init_30 : decode cX1_init 30 = .ok (.putfield 22, 3) := by decide +kernel
theorem dX1_init_33 : decode cX1_init 33 = .ok (.aload_n 0, 1) := by decide +kernel
theorem dX1_init_34 : decode cX1_init 34 = .ok (.bipush 34, 2) := by decide +kernel
theorem dX1_init_36 : decode cX1_init 36 = .ok (.newarray .int, 2) := by decide +kernel
theorem dX1_init_38 : decode cX1_init 38 = .ok (.putfield 25, 3) := by decide +kernel
theorem dX1_init_41 : decode cX1_init 41 = .ok (.aload_n 0, 1) := by decide +kernel
theorem dX1_init_42 : decode cX1_init 42 = .ok (.bipush 34, 2) := by decide +kernel
theorem dX1_init_44 : decode cX1_init 44 = .ok (.newarray .int, 2) := by decide +kernel
theorem dX1_init_46 : decode cX1_init 46 = .ok (.putfield 28, 3) := by decide +kernel
theorem dX1_init_49 : decode cX1_init 49 = .ok (.aload_n 0, 1) := by decide +kernel
theorem dX1_init_50 : decode cX1_init 50 = .ok (.bipush 34, 2) := by decide +kernel
theorem dX1_init_52 : decode cX1_init 52 = .ok (.newarray .int, 2) := by decide +kernel
theorem dX1_init_54 : decode cX1_init 54 = .ok (.putfield 31, 3) := by decide +kernel
theorem dX1_init_57 : decode cX1_init 57 = .ok (.aload_n 0, 1) := by decide +kernel
theorem dX1_init_58 : decode cX1_init 58 = .ok (.bipush 34, 2) := by decide +kernel
theorem dX1_init_60 : decode cX1_init 60 = .ok (.newarray .int, 2) := by decide +kernel
theorem dX1_init_62 : decode cX1_init 62 = .ok (.putfield 34, 3) := by decide +kernel
theorem dX1_init_65 : decode cX1_init 65 = .ok (.aload_n 0, 1) := by decide +kernel
theorem dX1_init_66 : decode cX1_init 66 = .ok (.bipush 34, 2) := by decide +kernel
theorem dX1_init_68 : decode cX1_init 68 = .ok (.newarray .int, 2) := by decide +kernel
theorem dX1_init_70 : decode cX1_init 70 = .ok (.putfield 37, 3) := by decide +kernel
theorem dX1_init_73 : decode cX1_init 73 = .ok (.aload_n 0, 1) := by decide +kernel
theorem dX1_init_74 : decode cX1_init 74 = .ok (.bipush 34, 2) := by decide +kernel
theorem dX1_init_76 : decode cX1_init 76 = .ok (.newarray .int, 2) := by decide +kernel
theorem dX1_init_78 : decode cX1_init 78 = .ok (.putfield 40, 3) := by decide +kernel
theorem dX1_init_81 : decode cX1_init 81 = .ok (.return_, 1) := by decide +kernel
set_option maxRecDepth 20000 in
theorem ggX1_look_X1_usedFirst : GoodIn wsX1_look wsX1_usedFirst := goodIn_r _ [16, 1, 17, 18, 19, 20, 21, 22, 23, 24, 25, 26, 27, 28, 29, 30, 31, 32, 33, 34, 35, 36, 37, 64, 65, 66, 67, 68, 69, 70, 71, 72, 73, 74, 75, 76, 77, 78, 79] (by decide +kernel) (by decide +kernel)
set_option maxRecDepth 20000 in
theorem gX1_look_X1_usedFirst : GoodIn wsX1_look (wsV RX1 49 RX1 yX1_usedFirst wsX1_usedFirst) := goodIn_app (goodIn_of _ (by decide +kernel)) ggX1_look_X1_usedFirst
set_option maxRecDepth 20000 in
theorem ggX1_look_X5_sortAt : GoodIn wsX1_look wsX5_sortAt := goodIn_r _ [21, 22, 23, 24, 25, 20, 26, 27, 74, 75, 76, 77, 78, 79] (by decide +kernel) (by decide +kernel)
set_option maxRecDepth 20000 in
theorem gX1_look_X5_sortAt : GoodIn wsX1_look (wsV RX1 53 RX5 yX5_sortAt wsX5_sortAt) := goodIn_app (goodIn_of _ (by decide +kernel)) ggX1_look_X5_sortAt
set_option maxRecDepth 20000 in
theorem ggX1_look_X5_bAt : GoodIn wsX1_look wsX5_bAt := goodIn_r _ [31, 32, 23, 24, 25, 20, 26, 27, 74, 75, 76, 77, 78, 79] (by decide +kernel) (by decide +kernel)
set_option maxRecDepth 20000 in
theorem gX1_look_X5_bAt : GoodIn wsX1_look (wsV RX1 56 RX5 yX5_bAt wsX5_bAt) := goodIn_app (goodIn_of _ (by decide +kernel)) ggX1_look_X5_bAt
set_option maxRecDepth 20000 in
theorem ggX1_look_X1_givenBy : GoodIn wsX1_look wsX1_givenBy := goodIn_r _ [41, 1, 17, 18, 19, 20, 21, 22, 23, 24, 25, 26, 27, 33, 34, 35, 36, 37, 64, 65, 66, 67, 68, 69, 70, 71, 72, 73, 74, 75, 76, 77, 78, 79] (by decide +kernel) (by decide +kernel)
set_option maxRecDepth 20000 in
theorem gX1_look_X1_givenBy : GoodIn wsX1_look (wsV RX1 59 RX1 yX1_givenBy wsX1_givenBy) := goodIn_app (goodIn_of _ (by decide +kernel)) ggX1_look_X1_givenBy
set_option maxRecDepth 20000 in
theorem ggX1_look_X5_leavesOf : GoodIn wsX1_look wsX5_leavesOf := goodIn_r _ [45, 46, 47, 48, 20, 49, 50, 51, 74, 75, 76, 77, 78, 79] (by decide +kernel) (by decide +kernel)
set_option maxRecDepth 20000 in
theorem gX1_look_X5_leavesOf : GoodIn wsX1_look (wsV RX1 62 RX5 yX5_leavesOf wsX5_leavesOf) := goodIn_app (goodIn_of _ (by decide +kernel)) ggX1_look_X5_leavesOf
set_option maxRecDepth 20000 in
theorem ggX1_look_X1_lostBy : GoodIn wsX1_look wsX1_lostBy := goodIn_r _ [55, 1, 17, 18, 19, 20, 21, 22, 23, 24, 25, 26, 27, 28, 29, 30, 31, 32, 33, 34, 35, 36, 37, 64, 65, 66, 67, 68, 69, 70, 71, 72, 73, 74, 75, 76, 77, 78, 79] (by decide +kernel) (by decide +kernel)
set_option maxRecDepth 20000 in
theorem gX1_look_X1_lostBy : GoodIn wsX1_look (wsV RX1 65 RX1 yX1_lostBy wsX1_lostBy) := goodIn_app (goodIn_of _ (by decide +kernel)) ggX1_look_X1_lostBy
set_option maxRecDepth 20000 in
theorem ggX1_look_X1_borrowSet : GoodIn wsX1_look wsX1_borrowSet := goodIn_r _ [59, 1, 60, 47, 48, 20, 49, 50, 51, 61, 62, 63, 64, 65, 66, 67, 68, 69, 70, 71, 72, 73, 74, 75, 76, 77, 78, 79] (by decide +kernel) (by decide +kernel)
set_option maxRecDepth 20000 in
theorem gX1_look_X1_borrowSet : GoodIn wsX1_look (wsV RX1 68 RX1 yX1_borrowSet wsX1_borrowSet) := goodIn_app (goodIn_of _ (by decide +kernel)) ggX1_look_X1_borrowSet
theorem dX1_look_0 : decode cX1_look 0 = .ok (.iconst 0, 1) := by decide +kernel
theorem dX1_look_1 : decode cX1_look 1 = .ok (.istore_n 1, 1) := by decide +kernel
theorem dX1_look_2 : decode cX1_look 2 = .ok (.iload_n 1, 1) := by decide +kernel
theorem dX1_look_3 : decode cX1_look 3 = .ok (.aload_n 0, 1) := by decide +kernel
theorem dX1_look_4 : decode cX1_look 4 = .ok (.getfield 9, 3) := by decide +kernel
theorem dX1_look_7 : decode cX1_look 7 = .ok (.getfield 43, 3) := by decide +kernel
theorem dX1_look_10 : decode cX1_look 10 = .ok (.if_icmp .ge 169, 3) := by decide +kernel
theorem dX1_look_13 : decode cX1_look 13 = .ok (.aload_n 0, 1) := by decide +kernel
theorem dX1_look_14 : decode cX1_look 14 = .ok (.getfield 15, 3) := by decide +kernel
theorem dX1_look_17 : decode cX1_look 17 = .ok (.iload_n 1, 1) := by decide +kernel
theorem dX1_look_18 : decode cX1_look 18 = .ok (.aload_n 0, 1) := by decide +kernel
theorem dX1_look_19 : decode cX1_look 19 = .ok (.iload_n 1, 1) := by decide +kernel
theorem dX1_look_20 : decode cX1_look 20 = .ok (.invokevirtual 49, 3) := by decide +kernel
theorem dX1_look_23 : decode cX1_look 23 = .ok (.iastore, 1) := by decide +kernel
theorem dX1_look_24 : decode cX1_look 24 = .ok (.aload_n 0, 1) := by decide +kernel
theorem dX1_look_25 : decode cX1_look 25 = .ok (.getfield 19, 3) := by decide +kernel
theorem dX1_look_28 : decode cX1_look 28 = .ok (.iload_n 1, 1) := by decide +kernel
theorem dX1_look_29 : decode cX1_look 29 = .ok (.aload_n 0, 1) := by decide +kernel
theorem dX1_look_30 : decode cX1_look 30 = .ok (.getfield 9, 3) := by decide +kernel
theorem dX1_look_33 : decode cX1_look 33 = .ok (.iload_n 1, 1) := by decide +kernel
theorem dX1_look_34 : decode cX1_look 34 = .ok (.invokevirtual 53, 3) := by decide +kernel
theorem dX1_look_37 : decode cX1_look 37 = .ok (.bipush 12, 2) := by decide +kernel
theorem dX1_look_39 : decode cX1_look 39 = .ok (.if_icmp .ne 14, 3) := by decide +kernel
theorem dX1_look_42 : decode cX1_look 42 = .ok (.aload_n 0, 1) := by decide +kernel
theorem dX1_look_43 : decode cX1_look 43 = .ok (.getfield 9, 3) := by decide +kernel
theorem dX1_look_46 : decode cX1_look 46 = .ok (.iload_n 1, 1) := by decide +kernel
theorem dX1_look_47 : decode cX1_look 47 = .ok (.invokevirtual 56, 3) := by decide +kernel
theorem dX1_look_50 : decode cX1_look 50 = .ok (.goto 4, 3) := by decide +kernel
theorem dX1_look_53 : decode cX1_look 53 = .ok (.iconst (-1), 1) := by decide +kernel
theorem dX1_look_54 : decode cX1_look 54 = .ok (.iastore, 1) := by decide +kernel
theorem dX1_look_55 : decode cX1_look 55 = .ok (.aload_n 0, 1) := by decide +kernel
theorem dX1_look_56 : decode cX1_look 56 = .ok (.getfield 22, 3) := by decide +kernel
theorem dX1_look_59 : decode cX1_look 59 = .ok (.iload_n 1, 1) := by decide +kernel
theorem dX1_look_60 : decode cX1_look 60 = .ok (.aload_n 0, 1) := by decide +kernel
theorem dX1_look_61 : decode cX1_look 61 = .ok (.iload_n 1, 1) := by decide +kernel
theorem dX1_look_62 : decode cX1_look 62 = .ok (.invokevirtual 59, 3) := by decide +kernel
theorem dX1_look_65 : decode cX1_look 65 = .ok (.iastore, 1) := by decide +kernel
theorem dX1_look_66 : decode cX1_look 66 = .ok (.aload_n 0, 1) := by decide +kernel
theorem dX1_look_67 : decode cX1_look 67 = .ok (.getfield 25, 3) := by decide +kernel
theorem dX1_look_70 : decode cX1_look 70 = .ok (.iload_n 1, 1) := by decide +kernel
theorem dX1_look_71 : decode cX1_look 71 = .ok (.aload_n 0, 1) := by decide +kernel
theorem dX1_look_72 : decode cX1_look 72 = .ok (.getfield 9, 3) := by decide +kernel
theorem dX1_look_75 : decode cX1_look 75 = .ok (.aload_n 0, 1) := by decide +kernel
theorem dX1_look_76 : decode cX1_look 76 = .ok (.getfield 15, 3) := by decide +kernel
theorem dX1_look_79 : decode cX1_look 79 = .ok (.iload_n 1, 1) := by decide +kernel
theorem dX1_look_80 : decode cX1_look 80 = .ok (.iaload, 1) := by decide +kernel
theorem dX1_look_81 : decode cX1_look 81 = .ok (.invokevirtual 62, 3) := by decide +kernel
theorem dX1_look_84 : decode cX1_look 84 = .ok (.iastore, 1) := by decide +kernel
theorem dX1_look_85 : decode cX1_look 85 = .ok (.aload_n 0, 1) := by decide +kernel
theorem dX1_look_86 : decode cX1_look 86 = .ok (.getfield 28, 3) := by decide +kernel
theorem dX1_look_89 : decode cX1_look 89 = .ok (.iload_n 1, 1) := by decide +kernel
theorem dX1_look_90 : decode cX1_look 90 = .ok (.aload_n 0, 1) := by decide +kernel
theorem dX1_look_91 : decode cX1_look 91 = .ok (.getfield 9, 3) := by decide +kernel
theorem dX1_look_94 : decode cX1_look 94 = .ok (.aload_n 0, 1) := by decide +kernel
theorem dX1_look_95 : decode cX1_look 95 = .ok (.getfield 19, 3) := by decide +kernel
theorem dX1_look_98 : decode cX1_look 98 = .ok (.iload_n 1, 1) := by decide +kernel
theorem dX1_look_99 : decode cX1_look 99 = .ok (.iaload, 1) := by decide +kernel
theorem dX1_look_100 : decode cX1_look 100 = .ok (.invokevirtual 62, 3) := by decide +kernel
theorem dX1_look_103 : decode cX1_look 103 = .ok (.iastore, 1) := by decide +kernel
theorem dX1_look_104 : decode cX1_look 104 = .ok (.aload_n 0, 1) := by decide +kernel
theorem dX1_look_105 : decode cX1_look 105 = .ok (.getfield 31, 3) := by decide +kernel
theorem dX1_look_108 : decode cX1_look 108 = .ok (.iload_n 1, 1) := by decide +kernel
theorem dX1_look_109 : decode cX1_look 109 = .ok (.aload_n 0, 1) := by decide +kernel
theorem dX1_look_110 : decode cX1_look 110 = .ok (.getfield 9, 3) := by decide +kernel
theorem dX1_look_113 : decode cX1_look 113 = .ok (.aload_n 0, 1) := by decide +kernel
theorem dX1_look_114 : decode cX1_look 114 = .ok (.getfield 22, 3) := by decide +kernel
theorem dX1_look_117 : decode cX1_look 117 = .ok (.iload_n 1, 1) := by decide +kernel
theorem dX1_look_118 : decode cX1_look 118 = .ok (.iaload, 1) := by decide +kernel
theorem dX1_look_119 : decode cX1_look 119 = .ok (.invokevirtual 62, 3) := by decide +kernel
theorem dX1_look_122 : decode cX1_look 122 = .ok (.iastore, 1) := by decide +kernel
theorem dX1_look_123 : decode cX1_look 123 = .ok (.aload_n 0, 1) := by decide +kernel
theorem dX1_look_124 : decode cX1_look 124 = .ok (.getfield 34, 3) := by decide +kernel
theorem dX1_look_127 : decode cX1_look 127 = .ok (.iload_n 1, 1) := by decide +kernel
theorem dX1_look_128 : decode cX1_look 128 = .ok (.aload_n 0, 1) := by decide +kernel
theorem dX1_look_129 : decode cX1_look 129 = .ok (.getfield 9, 3) := by decide +kernel
theorem dX1_look_132 : decode cX1_look 132 = .ok (.aload_n 0, 1) := by decide +kernel
theorem dX1_look_133 : decode cX1_look 133 = .ok (.iload_n 1, 1) := by decide +kernel
theorem dX1_look_134 : decode cX1_look 134 = .ok (.invokevirtual 65, 3) := by decide +kernel
theorem dX1_look_137 : decode cX1_look 137 = .ok (.invokevirtual 62, 3) := by decide +kernel
theorem dX1_look_140 : decode cX1_look 140 = .ok (.iastore, 1) := by decide +kernel
theorem dX1_look_141 : decode cX1_look 141 = .ok (.aload_n 0, 1) := by decide +kernel
theorem dX1_look_142 : decode cX1_look 142 = .ok (.getfield 37, 3) := by decide +kernel
theorem dX1_look_145 : decode cX1_look 145 = .ok (.iload_n 1, 1) := by decide +kernel
theorem dX1_look_146 : decode cX1_look 146 = .ok (.aload_n 0, 1) := by decide +kernel
theorem dX1_look_147 : decode cX1_look 147 = .ok (.aload_n 0, 1) := by decide +kernel
theorem dX1_look_148 : decode cX1_look 148 = .ok (.getfield 15, 3) := by decide +kernel
theorem dX1_look_151 : decode cX1_look 151 = .ok (.iload_n 1, 1) := by decide +kernel
theorem dX1_look_152 : decode cX1_look 152 = .ok (.iaload, 1) := by decide +kernel
theorem dX1_look_153 : decode cX1_look 153 = .ok (.invokevirtual 68, 3) := by decide +kernel
theorem dX1_look_156 : decode cX1_look 156 = .ok (.iastore, 1) := by decide +kernel
theorem dX1_look_157 : decode cX1_look 157 = .ok (.aload_n 0, 1) := by decide +kernel
theorem dX1_look_158 : decode cX1_look 158 = .ok (.getfield 40, 3) := by decide +kernel
theorem dX1_look_161 : decode cX1_look 161 = .ok (.iload_n 1, 1) := by decide +kernel
theorem dX1_look_162 : decode cX1_look 162 = .ok (.aload_n 0, 1) := by decide +kernel
theorem dX1_look_163 : decode cX1_look 163 = .ok (.aload_n 0, 1) := by decide +kernel
theorem dX1_look_164 : decode cX1_look 164 = .ok (.getfield 22, 3) := by decide +kernel
theorem dX1_look_167 : decode cX1_look 167 = .ok (.iload_n 1, 1) := by decide +kernel
theorem dX1_look_168 : decode cX1_look 168 = .ok (.iaload, 1) := by decide +kernel
theorem dX1_look_169 : decode cX1_look 169 = .ok (.invokevirtual 68, 3) := by decide +kernel
theorem dX1_look_172 : decode cX1_look 172 = .ok (.iastore, 1) := by decide +kernel
theorem dX1_look_173 : decode cX1_look 173 = .ok (.iinc 1 1, 3) := by decide +kernel
theorem dX1_look_176 : decode cX1_look 176 = .ok (.goto (-174), 3) := by decide +kernel
theorem dX1_look_179 : decode cX1_look 179 = .ok (.return_, 1) := by decide +kernel
set_option maxRecDepth 20000 in
theorem ggX1_usedFirst_X5_sortAt : GoodIn wsX1_usedFirst wsX5_sortAt := goodIn_r _ [6, 7, 8, 9, 10, 5, 11, 12, 33, 34, 35, 36, 37, 38] (by decide +kernel) (by decide +kernel)
set_option maxRecDepth 20000 in
theorem gX1_usedFirst_X5_sortAt : GoodIn wsX1_usedFirst (wsV RX1 53 RX5 yX5_sortAt wsX5_sortAt) := goodIn_app (goodIn_of _ (by decide +kernel)) ggX1_usedFirst_X5_sortAt
set_option maxRecDepth 20000 in
theorem ggX1_usedFirst_X5_bAt : GoodIn wsX1_usedFirst wsX5_bAt := goodIn_r _ [16, 17, 8, 9, 10, 5, 11, 12, 33, 34, 35, 36, 37, 38] (by decide +kernel) (by decide +kernel)
set_option maxRecDepth 20000 in
theorem gX1_usedFirst_X5_bAt : GoodIn wsX1_usedFirst (wsV RX1 56 RX5 yX5_bAt wsX5_bAt) := goodIn_app (goodIn_of _ (by decide +kernel)) ggX1_usedFirst_X5_bAt
set_option maxRecDepth 20000 in
theorem ggX1_usedFirst_X5_aAt : GoodIn wsX1_usedFirst wsX5_aAt := goodIn_r _ [21, 22, 8, 9, 10, 5, 11, 12, 33, 34, 35, 36, 37, 38] (by decide +kernel) (by decide +kernel)
set_option maxRecDepth 20000 in
theorem gX1_usedFirst_X5_aAt : GoodIn wsX1_usedFirst (wsV RX1 71 RX5 yX5_aAt wsX5_aAt) := goodIn_app (goodIn_of _ (by decide +kernel)) ggX1_usedFirst_X5_aAt
theorem dX1_usedFirst_0 : decode cX1_usedFirst 0 = .ok (.aload_n 0, 1) := by decide +kernel
theorem dX1_usedFirst_1 : decode cX1_usedFirst 1 = .ok (.getfield 9, 3) := by decide +kernel
theorem dX1_usedFirst_4 : decode cX1_usedFirst 4 = .ok (.iload_n 1, 1) := by decide +kernel
theorem dX1_usedFirst_5 : decode cX1_usedFirst 5 = .ok (.invokevirtual 53, 3) := by decide +kernel
theorem dX1_usedFirst_8 : decode cX1_usedFirst 8 = .ok (.tableswitch 98 1 16 #[80, 80, 80, 80, 89, 89, 89, 89, 98, 98, 98, 89, 89, 89, 98, 89], 80) := by decide +kernel
theorem dX1_usedFirst_88 : decode cX1_usedFirst 88 = .ok (.aload_n 0, 1) := by decide +kernel
theorem dX1_usedFirst_89 : decode cX1_usedFirst 89 = .ok (.getfield 9, 3) := by decide +kernel
theorem dX1_usedFirst_92 : decode cX1_usedFirst 92 = .ok (.iload_n 1, 1) := by decide +kernel
theorem dX1_usedFirst_93 : decode cX1_usedFirst 93 = .ok (.invokevirtual 56, 3) := by decide +kernel
theorem dX1_usedFirst_96 : decode cX1_usedFirst 96 = .ok (.ireturn, 1) := by decide +kernel
theorem dX1_usedFirst_97 : decode cX1_usedFirst 97 = .ok (.aload_n 0, 1) := by decide +kernel
theorem dX1_usedFirst_98 : decode cX1_usedFirst 98 = .ok (.getfield 9, 3) := by decide +kernel
theorem dX1_usedFirst_101 : decode cX1_usedFirst 101 = .ok (.iload_n 1, 1) := by decide +kernel
theorem dX1_usedFirst_102 : decode cX1_usedFirst 102 = .ok (.invokevirtual 71, 3) := by decide +kernel
theorem dX1_usedFirst_105 : decode cX1_usedFirst 105 = .ok (.ireturn, 1) := by decide +kernel
theorem dX1_usedFirst_106 : decode cX1_usedFirst 106 = .ok (.iconst (-1), 1) := by decide +kernel
theorem dX1_usedFirst_107 : decode cX1_usedFirst 107 = .ok (.ireturn, 1) := by decide +kernel
set_option maxRecDepth 20000 in
theorem ggX1_givenBy_X5_sortAt : GoodIn wsX1_givenBy wsX5_sortAt := goodIn_r _ [6, 7, 8, 9, 10, 5, 11, 12, 28, 29, 30, 31, 32, 33] (by decide +kernel) (by decide +kernel)
set_option maxRecDepth 20000 in
theorem gX1_givenBy_X5_sortAt : GoodIn wsX1_givenBy (wsV RX1 53 RX5 yX5_sortAt wsX5_sortAt) := goodIn_app (goodIn_of _ (by decide +kernel)) ggX1_givenBy_X5_sortAt
set_option maxRecDepth 20000 in
theorem ggX1_givenBy_X5_aAt : GoodIn wsX1_givenBy wsX5_aAt := goodIn_r _ [16, 17, 8, 9, 10, 5, 11, 12, 28, 29, 30, 31, 32, 33] (by decide +kernel) (by decide +kernel)
set_option maxRecDepth 20000 in
theorem gX1_givenBy_X5_aAt : GoodIn wsX1_givenBy (wsV RX1 71 RX5 yX5_aAt wsX5_aAt) := goodIn_app (goodIn_of _ (by decide +kernel)) ggX1_givenBy_X5_aAt
theorem dX1_givenBy_0 : decode cX1_givenBy 0 = .ok (.aload_n 0, 1) := by decide +kernel
theorem dX1_givenBy_1 : decode cX1_givenBy 1 = .ok (.getfield 9, 3) := by decide +kernel
theorem dX1_givenBy_4 : decode cX1_givenBy 4 = .ok (.iload_n 1, 1) := by decide +kernel
theorem dX1_givenBy_5 : decode cX1_givenBy 5 = .ok (.invokevirtual 53, 3) := by decide +kernel
theorem dX1_givenBy_8 : decode cX1_givenBy 8 = .ok (.tableswitch 45 0 4 #[36, 36, 36, 36, 36], 36) := by decide +kernel
theorem dX1_givenBy_44 : decode cX1_givenBy 44 = .ok (.aload_n 0, 1) := by decide +kernel
theorem dX1_givenBy_45 : decode cX1_givenBy 45 = .ok (.getfield 9, 3) := by decide +kernel
theorem dX1_givenBy_48 : decode cX1_givenBy 48 = .ok (.iload_n 1, 1) := by decide +kernel
theorem dX1_givenBy_49 : decode cX1_givenBy 49 = .ok (.invokevirtual 71, 3) := by decide +kernel
theorem dX1_givenBy_52 : decode cX1_givenBy 52 = .ok (.ireturn, 1) := by decide +kernel
theorem dX1_givenBy_53 : decode cX1_givenBy 53 = .ok (.iconst (-1), 1) := by decide +kernel
theorem dX1_givenBy_54 : decode cX1_givenBy 54 = .ok (.ireturn, 1) := by decide +kernel
set_option maxRecDepth 20000 in
theorem ggX1_lostBy_X5_sortAt : GoodIn wsX1_lostBy wsX5_sortAt := goodIn_r _ [6, 7, 8, 9, 10, 5, 11, 12, 33, 34, 35, 36, 37, 38] (by decide +kernel) (by decide +kernel)
set_option maxRecDepth 20000 in
theorem gX1_lostBy_X5_sortAt : GoodIn wsX1_lostBy (wsV RX1 53 RX5 yX5_sortAt wsX5_sortAt) := goodIn_app (goodIn_of _ (by decide +kernel)) ggX1_lostBy_X5_sortAt
set_option maxRecDepth 20000 in
theorem ggX1_lostBy_X5_bAt : GoodIn wsX1_lostBy wsX5_bAt := goodIn_r _ [16, 17, 8, 9, 10, 5, 11, 12, 33, 34, 35, 36, 37, 38] (by decide +kernel) (by decide +kernel)
set_option maxRecDepth 20000 in
theorem gX1_lostBy_X5_bAt : GoodIn wsX1_lostBy (wsV RX1 56 RX5 yX5_bAt wsX5_bAt) := goodIn_app (goodIn_of _ (by decide +kernel)) ggX1_lostBy_X5_bAt
set_option maxRecDepth 20000 in
theorem ggX1_lostBy_X5_aAt : GoodIn wsX1_lostBy wsX5_aAt := goodIn_r _ [21, 22, 8, 9, 10, 5, 11, 12, 33, 34, 35, 36, 37, 38] (by decide +kernel) (by decide +kernel)
set_option maxRecDepth 20000 in
theorem gX1_lostBy_X5_aAt : GoodIn wsX1_lostBy (wsV RX1 71 RX5 yX5_aAt wsX5_aAt) := goodIn_app (goodIn_of _ (by decide +kernel)) ggX1_lostBy_X5_aAt
theorem dX1_lostBy_0 : decode cX1_lostBy 0 = .ok (.aload_n 0, 1) := by decide +kernel
theorem dX1_lostBy_1 : decode cX1_lostBy 1 = .ok (.getfield 9, 3) := by decide +kernel
theorem dX1_lostBy_4 : decode cX1_lostBy 4 = .ok (.iload_n 1, 1) := by decide +kernel
theorem dX1_lostBy_5 : decode cX1_lostBy 5 = .ok (.invokevirtual 53, 3) := by decide +kernel
theorem dX1_lostBy_8 : decode cX1_lostBy 8 = .ok (.lookupswitch 46 #[(1, 28), (7, 37)], 28) := by decide +kernel
theorem dX1_lostBy_36 : decode cX1_lostBy 36 = .ok (.aload_n 0, 1) := by decide +kernel
theorem dX1_lostBy_37 : decode cX1_lostBy 37 = .ok (.getfield 9, 3) := by decide +kernel
theorem dX1_lostBy_40 : decode cX1_lostBy 40 = .ok (.iload_n 1, 1) := by decide +kernel
theorem dX1_lostBy_41 : decode cX1_lostBy 41 = .ok (.invokevirtual 56, 3) := by decide +kernel
theorem dX1_lostBy_44 : decode cX1_lostBy 44 = .ok (.ireturn, 1) := by decide +kernel
theorem dX1_lostBy_45 : decode cX1_lostBy 45 = .ok (.aload_n 0, 1) := by decide +kernel
theorem dX1_lostBy_46 : decode cX1_lostBy 46 = .ok (.getfield 9, 3) := by decide +kernel
theorem dX1_lostBy_49 : decode cX1_lostBy 49 = .ok (.iload_n 1, 1) := by decide +kernel
theorem dX1_lostBy_50 : decode cX1_lostBy 50 = .ok (.invokevirtual 71, 3) := by decide +kernel
theorem dX1_lostBy_53 : decode cX1_lostBy 53 = .ok (.ireturn, 1) := by decide +kernel
theorem dX1_lostBy_54 : decode cX1_lostBy 54 = .ok (.iconst (-1), 1) := by decide +kernel
theorem dX1_lostBy_55 : decode cX1_lostBy 55 = .ok (.ireturn, 1) := by decide +kernel
set_option maxRecDepth 20000 in
theorem ggX1_borrowSet_X5_kindAt : GoodIn wsX1_borrowSet wsX5_kindAt := goodIn_r _ [6, 7, 8, 22, 23, 24, 25, 26, 27] (by decide +kernel) (by decide +kernel)
set_option maxRecDepth 20000 in
theorem gX1_borrowSet_X5_kindAt : GoodIn wsX1_borrowSet (wsV RX1 74 RX5 yX5_kindAt wsX5_kindAt) := goodIn_app (goodIn_of _ (by decide +kernel)) ggX1_borrowSet_X5_kindAt
set_option maxRecDepth 20000 in
theorem ggX1_borrowSet_X9_isBorrowKind : GoodIn wsX1_borrowSet wsX9_isBorrowKind := goodIn_r _ [11] (by decide +kernel) (by decide +kernel)
set_option maxRecDepth 20000 in
theorem gX1_borrowSet_X9_isBorrowKind_n77 : GoodIn wsX1_borrowSet (wsX9_isBorrowKind) := ggX1_borrowSet_X9_isBorrowKind
theorem dX1_borrowSet_0 : decode cX1_borrowSet 0 = .ok (.aload_n 0, 1) := by decide +kernel
theorem dX1_borrowSet_1 : decode cX1_borrowSet 1 = .ok (.getfield 9, 3) := by decide +kernel
theorem dX1_borrowSet_4 : decode cX1_borrowSet 4 = .ok (.iload_n 1, 1) := by decide +kernel
theorem dX1_borrowSet_5 : decode cX1_borrowSet 5 = .ok (.invokevirtual 74, 3) := by decide +kernel
theorem dX1_borrowSet_8 : decode cX1_borrowSet 8 = .ok (.invokestatic 77, 3) := by decide +kernel
theorem dX1_borrowSet_11 : decode cX1_borrowSet 11 = .ok (.ifCond .eq 11, 3) := by decide +kernel
theorem dX1_borrowSet_14 : decode cX1_borrowSet 14 = .ok (.iconst 1, 1) := by decide +kernel
theorem dX1_borrowSet_15 : decode cX1_borrowSet 15 = .ok (.iload_n 1, 1) := by decide +kernel
theorem dX1_borrowSet_16 : decode cX1_borrowSet 16 = .ok (.iconst 3, 1) := by decide +kernel
theorem dX1_borrowSet_17 : decode cX1_borrowSet 17 = .ok (.idiv, 1) := by decide +kernel
theorem dX1_borrowSet_18 : decode cX1_borrowSet 18 = .ok (.ishl, 1) := by decide +kernel
theorem dX1_borrowSet_19 : decode cX1_borrowSet 19 = .ok (.goto 4, 3) := by decide +kernel
theorem dX1_borrowSet_22 : decode cX1_borrowSet 22 = .ok (.iconst 0, 1) := by decide +kernel
theorem dX1_borrowSet_23 : decode cX1_borrowSet 23 = .ok (.ireturn, 1) := by decide +kernel
set_option maxRecDepth 20000 in
theorem ggX1_takenAt_X5_aAt : GoodIn wsX1_takenAt wsX5_aAt := goodIn_r _ [6, 7, 8, 9, 10, 5, 11, 12, 42, 43, 44, 45, 46, 47] (by decide +kernel) (by decide +kernel)
set_option maxRecDepth 20000 in
theorem gX1_takenAt_X5_aAt : GoodIn wsX1_takenAt (wsV RX1 71 RX5 yX5_aAt wsX5_aAt) := goodIn_app (goodIn_of _ (by decide +kernel)) ggX1_takenAt_X5_aAt
set_option maxRecDepth 20000 in
theorem ggX1_takenAt_X5_bAt : GoodIn wsX1_takenAt wsX5_bAt := goodIn_r _ [16, 17, 8, 9, 10, 5, 11, 12, 42, 43, 44, 45, 46, 47] (by decide +kernel) (by decide +kernel)
set_option maxRecDepth 20000 in
theorem gX1_takenAt_X5_bAt : GoodIn wsX1_takenAt (wsV RX1 56 RX5 yX5_bAt wsX5_bAt) := goodIn_app (goodIn_of _ (by decide +kernel)) ggX1_takenAt_X5_bAt
set_option maxRecDepth 20000 in
theorem ggX1_takenAt_X5_kindAt : GoodIn wsX1_takenAt wsX5_kindAt := goodIn_r _ [21, 22, 23, 42, 43, 44, 45, 46, 47] (by decide +kernel) (by decide +kernel)
set_option maxRecDepth 20000 in
theorem gX1_takenAt_X5_kindAt : GoodIn wsX1_takenAt (wsV RX1 74 RX5 yX5_kindAt wsX5_kindAt) := goodIn_app (goodIn_of _ (by decide +kernel)) ggX1_takenAt_X5_kindAt
set_option maxRecDepth 20000 in
theorem ggX1_takenAt_X5_sortAt : GoodIn wsX1_takenAt wsX5_sortAt := goodIn_r _ [27, 28, 8, 9, 10, 5, 11, 12, 42, 43, 44, 45, 46, 47] (by decide +kernel) (by decide +kernel)
set_option maxRecDepth 20000 in
theorem gX1_takenAt_X5_sortAt : GoodIn wsX1_takenAt (wsV RX1 53 RX5 yX5_sortAt wsX5_sortAt) := goodIn_app (goodIn_of _ (by decide +kernel)) ggX1_takenAt_X5_sortAt
set_option maxRecDepth 20000 in
theorem ggX1_takenAt_X9_isBorrowKind : GoodIn wsX1_takenAt wsX9_isBorrowKind := goodIn_r _ [31] (by decide +kernel) (by decide +kernel)
set_option maxRecDepth 20000 in
theorem gX1_takenAt_X9_isBorrowKind_n77 : GoodIn wsX1_takenAt (wsX9_isBorrowKind) := ggX1_takenAt_X9_isBorrowKind
theorem dX1_takenAt_0 : decode cX1_takenAt 0 = .ok (.aload_n 0, 1) := by decide +kernel
theorem dX1_takenAt_1 : decode cX1_takenAt 1 = .ok (.getfield 9, 3) := by decide +kernel
theorem dX1_takenAt_4 : decode cX1_takenAt 4 = .ok (.iload_n 1, 1) := by decide +kernel
theorem dX1_takenAt_5 : decode cX1_takenAt 5 = .ok (.invokevirtual 71, 3) := by decide +kernel
theorem dX1_takenAt_8 : decode cX1_takenAt 8 = .ok (.istore_n 3, 1) := by decide +kernel
theorem dX1_takenAt_9 : decode cX1_takenAt 9 = .ok (.aload_n 0, 1) := by decide +kernel
theorem dX1_takenAt_10 : decode cX1_takenAt 10 = .ok (.getfield 9, 3) := by decide +kernel
theorem dX1_takenAt_13 : decode cX1_takenAt 13 = .ok (.iload_n 1, 1) := by decide +kernel
theorem dX1_takenAt_14 : decode cX1_takenAt 14 = .ok (.invokevirtual 56, 3) := by decide +kernel
theorem dX1_takenAt_17 : decode cX1_takenAt 17 = .ok (.istore 4, 2) := by decide +kernel
theorem dX1_takenAt_19 : decode cX1_takenAt 19 = .ok (.iload_n 2, 1) := by decide +kernel
theorem dX1_takenAt_20 : decode cX1_takenAt 20 = .ok (.ifCond .ne 7, 3) := by decide +kernel
theorem dX1_takenAt_23 : decode cX1_takenAt 23 = .ok (.iconst 1, 1) := by decide +kernel
theorem dX1_takenAt_24 : decode cX1_takenAt 24 = .ok (.goto 4, 3) := by decide +kernel
theorem dX1_takenAt_27 : decode cX1_takenAt 27 = .ok (.iconst 0, 1) := by decide +kernel
theorem dX1_takenAt_28 : decode cX1_takenAt 28 = .ok (.istore 5, 2) := by decide +kernel
theorem dX1_takenAt_30 : decode cX1_takenAt 30 = .ok (.aload_n 0, 1) := by decide +kernel
theorem dX1_takenAt_31 : decode cX1_takenAt 31 = .ok (.getfield 9, 3) := by decide +kernel
theorem dX1_takenAt_34 : decode cX1_takenAt 34 = .ok (.iload_n 3, 1) := by decide +kernel
theorem dX1_takenAt_35 : decode cX1_takenAt 35 = .ok (.invokevirtual 74, 3) := by decide +kernel
theorem dX1_takenAt_38 : decode cX1_takenAt 38 = .ok (.istore 6, 2) := by decide +kernel
theorem dX1_takenAt_40 : decode cX1_takenAt 40 = .ok (.aload_n 0, 1) := by decide +kernel
theorem dX1_takenAt_41 : decode cX1_takenAt 41 = .ok (.getfield 9, 3) := by decide +kernel
theorem dX1_takenAt_44 : decode cX1_takenAt 44 = .ok (.iload_n 1, 1) := by decide +kernel
theorem dX1_takenAt_45 : decode cX1_takenAt 45 = .ok (.invokevirtual 53, 3) := by decide +kernel
theorem dX1_takenAt_48 : decode cX1_takenAt 48 = .ok (.tableswitch 167 0 16 #[156, 103, 84, 125, 125, 137, 137, 156, 156, 167, 167, 167, 167, 167, 167, 167, 156], 84) := by decide +kernel
theorem dX1_takenAt_132 : decode cX1_takenAt 132 = .ok (.iload 6, 2) := by decide +kernel
theorem dX1_takenAt_134 : decode cX1_takenAt 134 = .ok (.ifCond .eq 5, 3) := by decide +kernel
theorem dX1_takenAt_137 : decode cX1_takenAt 137 = .ok (.iconst (-1), 1) := by decide +kernel
theorem dX1_takenAt_138 : decode cX1_takenAt 138 = .ok (.ireturn, 1) := by decide +kernel
theorem dX1_takenAt_139 : decode cX1_takenAt 139 = .ok (.iload 5, 2) := by decide +kernel
theorem dX1_takenAt_141 : decode cX1_takenAt 141 = .ok (.ifCond .eq 8, 3) := by decide +kernel
theorem dX1_takenAt_144 : decode cX1_takenAt 144 = .ok (.iload 4, 2) := by decide +kernel
theorem dX1_takenAt_146 : decode cX1_takenAt 146 = .ok (.goto 4, 3) := by decide +kernel
theorem dX1_takenAt_149 : decode cX1_takenAt 149 = .ok (.iload_n 3, 1) := by decide +kernel
theorem dX1_takenAt_150 : decode cX1_takenAt 150 = .ok (.ireturn, 1) := by decide +kernel
theorem dX1_takenAt_151 : decode cX1_takenAt 151 = .ok (.iload 6, 2) := by decide +kernel
theorem dX1_takenAt_153 : decode cX1_takenAt 153 = .ok (.invokestatic 77, 3) := by decide +kernel
theorem dX1_takenAt_156 : decode cX1_takenAt 156 = .ok (.ifCond .eq 5, 3) := by decide +kernel
theorem dX1_takenAt_159 : decode cX1_takenAt 159 = .ok (.iconst (-1), 1) := by decide +kernel
theorem dX1_takenAt_160 : decode cX1_takenAt 160 = .ok (.ireturn, 1) := by decide +kernel
theorem dX1_takenAt_161 : decode cX1_takenAt 161 = .ok (.iload 5, 2) := by decide +kernel
theorem dX1_takenAt_163 : decode cX1_takenAt 163 = .ok (.ifCond .eq 7, 3) := by decide +kernel
theorem dX1_takenAt_166 : decode cX1_takenAt 166 = .ok (.iload_n 3, 1) := by decide +kernel
theorem dX1_takenAt_167 : decode cX1_takenAt 167 = .ok (.goto 5, 3) := by decide +kernel
theorem dX1_takenAt_170 : decode cX1_takenAt 170 = .ok (.iload 4, 2) := by decide +kernel
theorem dX1_takenAt_172 : decode cX1_takenAt 172 = .ok (.ireturn, 1) := by decide +kernel
theorem dX1_takenAt_173 : decode cX1_takenAt 173 = .ok (.iload 5, 2) := by decide +kernel
theorem dX1_takenAt_175 : decode cX1_takenAt 175 = .ok (.ifCond .eq 8, 3) := by decide +kernel
theorem dX1_takenAt_178 : decode cX1_takenAt 178 = .ok (.iload 4, 2) := by decide +kernel
theorem dX1_takenAt_180 : decode cX1_takenAt 180 = .ok (.goto 4, 3) := by decide +kernel
theorem dX1_takenAt_183 : decode cX1_takenAt 183 = .ok (.iconst (-1), 1) := by decide +kernel
theorem dX1_takenAt_184 : decode cX1_takenAt 184 = .ok (.ireturn, 1) := by decide +kernel
theorem dX1_takenAt_185 : decode cX1_takenAt 185 = .ok (.iload 5, 2) := by decide +kernel
theorem dX1_takenAt_187 : decode cX1_takenAt 187 = .ok (.ifCond .eq 15, 3) := by decide +kernel
theorem dX1_takenAt_190 : decode cX1_takenAt 190 = .ok (.iload 6, 2) := by decide +kernel
theorem dX1_takenAt_192 : decode cX1_takenAt 192 = .ok (.invokestatic 77, 3) := by decide +kernel
theorem dX1_takenAt_195 : decode cX1_takenAt 195 = .ok (.ifCond .ne 7, 3) := by decide +kernel
theorem dX1_takenAt_198 : decode cX1_takenAt 198 = .ok (.iload_n 3, 1) := by decide +kernel
theorem dX1_takenAt_199 : decode cX1_takenAt 199 = .ok (.goto 4, 3) := by decide +kernel
theorem dX1_takenAt_202 : decode cX1_takenAt 202 = .ok (.iconst (-1), 1) := by decide +kernel
theorem dX1_takenAt_203 : decode cX1_takenAt 203 = .ok (.ireturn, 1) := by decide +kernel
theorem dX1_takenAt_204 : decode cX1_takenAt 204 = .ok (.iload 5, 2) := by decide +kernel
theorem dX1_takenAt_206 : decode cX1_takenAt 206 = .ok (.ifCond .eq 7, 3) := by decide +kernel
theorem dX1_takenAt_209 : decode cX1_takenAt 209 = .ok (.iload_n 3, 1) := by decide +kernel
theorem dX1_takenAt_210 : decode cX1_takenAt 210 = .ok (.goto 4, 3) := by decide +kernel
theorem dX1_takenAt_213 : decode cX1_takenAt 213 = .ok (.iconst (-1), 1) := by decide +kernel
theorem dX1_takenAt_214 : decode cX1_takenAt 214 = .ok (.ireturn, 1) := by decide +kernel
theorem dX1_takenAt_215 : decode cX1_takenAt 215 = .ok (.iconst (-1), 1) := by decide +kernel
theorem dX1_takenAt_216 : decode cX1_takenAt 216 = .ok (.ireturn, 1) := by decide +kernel
set_option maxRecDepth 20000 in
theorem ggX1_isTakenToRead_X5_sortAt : GoodIn wsX1_isTakenToRead wsX5_sortAt := goodIn_r _ [6, 7, 8, 9, 10, 5, 11, 12, 23, 24, 25, 26, 27, 28] (by decide +kernel) (by decide +kernel)
set_option maxRecDepth 20000 in
theorem gX1_isTakenToRead_X5_sortAt : GoodIn wsX1_isTakenToRead (wsV RX1 53 RX5 yX5_sortAt wsX5_sortAt) := goodIn_app (goodIn_of _ (by decide +kernel)) ggX1_isTakenToRead_X5_sortAt
theorem dX1_isTakenToRead_0 : decode cX1_isTakenToRead 0 = .ok (.aload_n 0, 1) := by decide +kernel
theorem dX1_isTakenToRead_1 : decode cX1_isTakenToRead 1 = .ok (.getfield 9, 3) := by decide +kernel
theorem dX1_isTakenToRead_4 : decode cX1_isTakenToRead 4 = .ok (.iload_n 1, 1) := by decide +kernel
theorem dX1_isTakenToRead_5 : decode cX1_isTakenToRead 5 = .ok (.invokevirtual 53, 3) := by decide +kernel
theorem dX1_isTakenToRead_8 : decode cX1_isTakenToRead 8 = .ok (.istore_n 3, 1) := by decide +kernel
theorem dX1_isTakenToRead_9 : decode cX1_isTakenToRead 9 = .ok (.iload_n 3, 1) := by decide +kernel
theorem dX1_isTakenToRead_10 : decode cX1_isTakenToRead 10 = .ok (.iconst 3, 1) := by decide +kernel
theorem dX1_isTakenToRead_11 : decode cX1_isTakenToRead 11 = .ok (.if_icmp .eq 23, 3) := by decide +kernel
theorem dX1_isTakenToRead_14 : decode cX1_isTakenToRead 14 = .ok (.iload_n 3, 1) := by decide +kernel
theorem dX1_isTakenToRead_15 : decode cX1_isTakenToRead 15 = .ok (.bipush 8, 2) := by decide +kernel
theorem dX1_isTakenToRead_17 : decode cX1_isTakenToRead 17 = .ok (.if_icmp .eq 17, 3) := by decide +kernel
theorem dX1_isTakenToRead_20 : decode cX1_isTakenToRead 20 = .ok (.iload_n 3, 1) := by decide +kernel
theorem dX1_isTakenToRead_21 : decode cX1_isTakenToRead 21 = .ok (.iconst 5, 1) := by decide +kernel
theorem dX1_isTakenToRead_22 : decode cX1_isTakenToRead 22 = .ok (.if_icmp .eq 12, 3) := by decide +kernel
theorem dX1_isTakenToRead_25 : decode cX1_isTakenToRead 25 = .ok (.iload_n 3, 1) := by decide +kernel
theorem dX1_isTakenToRead_26 : decode cX1_isTakenToRead 26 = .ok (.iconst 2, 1) := by decide +kernel
theorem dX1_isTakenToRead_27 : decode cX1_isTakenToRead 27 = .ok (.if_icmp .ne 11, 3) := by decide +kernel
theorem dX1_isTakenToRead_30 : decode cX1_isTakenToRead 30 = .ok (.iload_n 2, 1) := by decide +kernel
theorem dX1_isTakenToRead_31 : decode cX1_isTakenToRead 31 = .ok (.ifCond .ne 7, 3) := by decide +kernel
theorem dX1_isTakenToRead_34 : decode cX1_isTakenToRead 34 = .ok (.iconst 1, 1) := by decide +kernel
theorem dX1_isTakenToRead_35 : decode cX1_isTakenToRead 35 = .ok (.goto 4, 3) := by decide +kernel
theorem dX1_isTakenToRead_38 : decode cX1_isTakenToRead 38 = .ok (.iconst 0, 1) := by decide +kernel
theorem dX1_isTakenToRead_39 : decode cX1_isTakenToRead 39 = .ok (.ireturn, 1) := by decide +kernel
set_option maxRecDepth 20000 in
theorem ggX1_countUsers_X1_isOf : GoodIn wsX1_countUsers wsX1_isOf := goodIn_r _ [8] (by decide +kernel) (by decide +kernel)
set_option maxRecDepth 20000 in
theorem gX1_countUsers_X1_isOf : GoodIn wsX1_countUsers (va_wsS RX1 81 yX1_isOf wsX1_isOf) := goodIn_app (goodIn_of _ (by decide +kernel)) ggX1_countUsers_X1_isOf
theorem dX1_countUsers_0 : decode cX1_countUsers 0 = .ok (.iconst 0, 1) := by decide +kernel
theorem dX1_countUsers_1 : decode cX1_countUsers 1 = .ok (.istore_n 2, 1) := by decide +kernel
theorem dX1_countUsers_2 : decode cX1_countUsers 2 = .ok (.iconst 0, 1) := by decide +kernel
theorem dX1_countUsers_3 : decode cX1_countUsers 3 = .ok (.istore_n 3, 1) := by decide +kernel
theorem dX1_countUsers_4 : decode cX1_countUsers 4 = .ok (.iload_n 3, 1) := by decide +kernel
theorem dX1_countUsers_5 : decode cX1_countUsers 5 = .ok (.aload_n 0, 1) := by decide +kernel
theorem dX1_countUsers_6 : decode cX1_countUsers 6 = .ok (.getfield 9, 3) := by decide +kernel
theorem dX1_countUsers_9 : decode cX1_countUsers 9 = .ok (.getfield 43, 3) := by decide +kernel
theorem dX1_countUsers_12 : decode cX1_countUsers 12 = .ok (.if_icmp .ge 38, 3) := by decide +kernel
theorem dX1_countUsers_15 : decode cX1_countUsers 15 = .ok (.iload_n 1, 1) := by decide +kernel
theorem dX1_countUsers_16 : decode cX1_countUsers 16 = .ok (.aload_n 0, 1) := by decide +kernel
theorem dX1_countUsers_17 : decode cX1_countUsers 17 = .ok (.getfield 15, 3) := by decide +kernel
theorem dX1_countUsers_20 : decode cX1_countUsers 20 = .ok (.iload_n 3, 1) := by decide +kernel
theorem dX1_countUsers_21 : decode cX1_countUsers 21 = .ok (.iaload, 1) := by decide +kernel
theorem dX1_countUsers_22 : decode cX1_countUsers 22 = .ok (.invokestatic 81, 3) := by decide +kernel
theorem dX1_countUsers_25 : decode cX1_countUsers 25 = .ok (.ifCond .ne 16, 3) := by decide +kernel
theorem dX1_countUsers_28 : decode cX1_countUsers 28 = .ok (.iload_n 1, 1) := by decide +kernel
theorem dX1_countUsers_29 : decode cX1_countUsers 29 = .ok (.aload_n 0, 1) := by decide +kernel
theorem dX1_countUsers_30 : decode cX1_countUsers 30 = .ok (.getfield 19, 3) := by decide +kernel
theorem dX1_countUsers_33 : decode cX1_countUsers 33 = .ok (.iload_n 3, 1) := by decide +kernel
theorem dX1_countUsers_34 : decode cX1_countUsers 34 = .ok (.iaload, 1) := by decide +kernel
theorem dX1_countUsers_35 : decode cX1_countUsers 35 = .ok (.invokestatic 81, 3) := by decide +kernel
theorem dX1_countUsers_38 : decode cX1_countUsers 38 = .ok (.ifCond .eq 6, 3) := by decide +kernel
theorem dX1_countUsers_41 : decode cX1_countUsers 41 = .ok (.iinc 2 1, 3) := by decide +kernel
theorem dX1_countUsers_44 : decode cX1_countUsers 44 = .ok (.iinc 3 1, 3) := by decide +kernel
theorem dX1_countUsers_47 : decode cX1_countUsers 47 = .ok (.goto (-43), 3) := by decide +kernel
theorem dX1_countUsers_50 : decode cX1_countUsers 50 = .ok (.iload_n 2, 1) := by decide +kernel
theorem dX1_countUsers_51 : decode cX1_countUsers 51 = .ok (.ireturn, 1) := by decide +kernel
set_option maxRecDepth 20000 in
theorem ggX1_countGivers_X1_isOf : GoodIn wsX1_countGivers wsX1_isOf := goodIn_r _ [7] (by decide +kernel) (by decide +kernel)
set_option maxRecDepth 20000 in
theorem gX1_countGivers_X1_isOf : GoodIn wsX1_countGivers (va_wsS RX1 81 yX1_isOf wsX1_isOf) := goodIn_app (goodIn_of _ (by decide +kernel)) ggX1_countGivers_X1_isOf
theorem dX1_countGivers_0 : decode cX1_countGivers 0 = .ok (.iconst 0, 1) := by decide +kernel
theorem dX1_countGivers_1 : decode cX1_countGivers 1 = .ok (.istore_n 2, 1) := by decide +kernel
theorem dX1_countGivers_2 : decode cX1_countGivers 2 = .ok (.iconst 0, 1) := by decide +kernel
theorem dX1_countGivers_3 : decode cX1_countGivers 3 = .ok (.istore_n 3, 1) := by decide +kernel
theorem dX1_countGivers_4 : decode cX1_countGivers 4 = .ok (.iload_n 3, 1) := by decide +kernel
theorem dX1_countGivers_5 : decode cX1_countGivers 5 = .ok (.aload_n 0, 1) := by decide +kernel
theorem dX1_countGivers_6 : decode cX1_countGivers 6 = .ok (.getfield 9, 3) := by decide +kernel
theorem dX1_countGivers_9 : decode cX1_countGivers 9 = .ok (.getfield 43, 3) := by decide +kernel
theorem dX1_countGivers_12 : decode cX1_countGivers 12 = .ok (.if_icmp .ge 25, 3) := by decide +kernel
theorem dX1_countGivers_15 : decode cX1_countGivers 15 = .ok (.iload_n 1, 1) := by decide +kernel
theorem dX1_countGivers_16 : decode cX1_countGivers 16 = .ok (.aload_n 0, 1) := by decide +kernel
theorem dX1_countGivers_17 : decode cX1_countGivers 17 = .ok (.getfield 22, 3) := by decide +kernel
theorem dX1_countGivers_20 : decode cX1_countGivers 20 = .ok (.iload_n 3, 1) := by decide +kernel
theorem dX1_countGivers_21 : decode cX1_countGivers 21 = .ok (.iaload, 1) := by decide +kernel
theorem dX1_countGivers_22 : decode cX1_countGivers 22 = .ok (.invokestatic 81, 3) := by decide +kernel
theorem dX1_countGivers_25 : decode cX1_countGivers 25 = .ok (.ifCond .eq 6, 3) := by decide +kernel
theorem dX1_countGivers_28 : decode cX1_countGivers 28 = .ok (.iinc 2 1, 3) := by decide +kernel
theorem dX1_countGivers_31 : decode cX1_countGivers 31 = .ok (.iinc 3 1, 3) := by decide +kernel
theorem dX1_countGivers_34 : decode cX1_countGivers 34 = .ok (.goto (-30), 3) := by decide +kernel
theorem dX1_countGivers_37 : decode cX1_countGivers 37 = .ok (.iload_n 2, 1) := by decide +kernel
theorem dX1_countGivers_38 : decode cX1_countGivers 38 = .ok (.ireturn, 1) := by decide +kernel
theorem dX1_isOf_0 : decode cX1_isOf 0 = .ok (.iload_n 1, 1) := by decide +kernel
theorem dX1_isOf_1 : decode cX1_isOf 1 = .ok (.ifCond .lt 14, 3) := by decide +kernel
theorem dX1_isOf_4 : decode cX1_isOf 4 = .ok (.iload_n 1, 1) := by decide +kernel
theorem dX1_isOf_5 : decode cX1_isOf 5 = .ok (.iconst 3, 1) := by decide +kernel
theorem dX1_isOf_6 : decode cX1_isOf 6 = .ok (.idiv, 1) := by decide +kernel
theorem dX1_isOf_7 : decode cX1_isOf 7 = .ok (.iload_n 0, 1) := by decide +kernel
theorem dX1_isOf_8 : decode cX1_isOf 8 = .ok (.if_icmp .ne 7, 3) := by decide +kernel
theorem dX1_isOf_11 : decode cX1_isOf 11 = .ok (.iconst 1, 1) := by decide +kernel
theorem dX1_isOf_12 : decode cX1_isOf 12 = .ok (.goto 4, 3) := by decide +kernel
theorem dX1_isOf_15 : decode cX1_isOf 15 = .ok (.iconst 0, 1) := by decide +kernel
theorem dX1_isOf_16 : decode cX1_isOf 16 = .ok (.ireturn, 1) := by decide +kernel
theorem dX2_init_0 : decode cX2_init 0 = .ok (.aload_n 0, 1) := by decide +kernel
theorem dX2_init_1 : decode cX2_init 1 = .ok (.invokespecial 3, 3) := by decide +kernel
theorem dX2_init_4 : decode cX2_init 4 = .ok (.aload_n 0, 1) := by decide +kernel
theorem dX2_init_5 : decode cX2_init 5 = .ok (.bipush 34, 2) := by decide +kernel
theorem dX2_init_7 : decode cX2_init 7 = .ok (.newarray .int, 2) := by decide +kernel
theorem dX2_init_9 : decode cX2_init 9 = .ok (.putfield 9, 3) := by decide +kernel
theorem dX2_init_12 : decode cX2_init 12 = .ok (.aload_n 0, 1) := by decide +kernel
theorem dX2_init_13 : decode cX2_init 13 = .ok (.bipush 34, 2) := by decide +kernel
theorem dX2_init_15 : decode cX2_init 15 = .ok (.newarray .int, 2) := by decide +kernel
theorem dX2_init_17 : decode cX2_init 17 = .ok (.putfield 15, 3) := by decide +kernel
theorem dX2_init_20 : decode cX2_init 20 = .ok (.aload_n 0, 1) := by decide +kernel
theorem dX2_init_21 : decode cX2_init 21 = .ok (.bipush 34, 2) := by decide +kernel
theorem dX2_init_23 : decode cX2_init 23 = .ok (.newarray .int, 2) := by decide +kernel
theorem dX2_init_25 : decode cX2_init 25 = .ok (.putfield 18, 3) := by decide +kernel
theorem dX2_init_28 : decode cX2_init 28 = .ok (.aload_n 0, 1) := by decide +kernel
theorem dX2_init_29 : decode cX2_init 29 = .ok (.bipush 34, 2) := by decide +kernel
theorem dX2_init_31 : decode cX2_init 31 = .ok (.newarray .int, 2) := by decide +kernel
theorem dX2_init_33 : decode cX2_init 33 = .ok (.putfield 21, 3) := by decide +kernel
theorem dX2_init_36 : decode cX2_init 36 = .ok (.aload_n 0, 1) := by decide +kernel
theorem dX2_init_37 : decode cX2_init 37 = .ok (.iconst 0, 1) := by decide +kernel
theorem dX2_init_38 : decode cX2_init 38 = .ok (.putfield 24, 3) := by decide +kernel
theorem dX2_init_41 : decode cX2_init 41 = .ok (.return_, 1) := by decide +kernel
set_option maxRecDepth 20000 in
theorem ggX2_addFault_X9_isIndexOf : GoodIn wsX2_addFault wsX9_isIndexOf := goodIn_r _ [8] (by decide +kernel) (by decide +kernel)
set_option maxRecDepth 20000 in
theorem gX2_addFault_X9_isIndexOf_n28 : GoodIn wsX2_addFault (wsX9_isIndexOf) := ggX2_addFault_X9_isIndexOf
theorem dX2_addFault_0 : decode cX2_addFault 0 = .ok (.aload_n 0, 1) := by decide +kernel
theorem dX2_addFault_1 : decode cX2_addFault 1 = .ok (.getfield 9, 3) := by decide +kernel
theorem dX2_addFault_4 : decode cX2_addFault 4 = .ok (.aload_n 0, 1) := by decide +kernel
theorem dX2_addFault_5 : decode cX2_addFault 5 = .ok (.getfield 24, 3) := by decide +kernel
theorem dX2_addFault_8 : decode cX2_addFault 8 = .ok (.invokestatic 28, 3) := by decide +kernel
theorem dX2_addFault_11 : decode cX2_addFault 11 = .ok (.ifCond .eq 54, 3) := by decide +kernel
theorem dX2_addFault_14 : decode cX2_addFault 14 = .ok (.aload_n 0, 1) := by decide +kernel
theorem dX2_addFault_15 : decode cX2_addFault 15 = .ok (.getfield 9, 3) := by decide +kernel
theorem dX2_addFault_18 : decode cX2_addFault 18 = .ok (.aload_n 0, 1) := by decide +kernel
theorem dX2_addFault_19 : decode cX2_addFault 19 = .ok (.getfield 24, 3) := by decide +kernel
theorem dX2_addFault_22 : decode cX2_addFault 22 = .ok (.iload_n 1, 1) := by decide +kernel
theorem dX2_addFault_23 : decode cX2_addFault 23 = .ok (.iastore, 1) := by decide +kernel
theorem dX2_addFault_24 : decode cX2_addFault 24 = .ok (.aload_n 0, 1) := by decide +kernel
theorem dX2_addFault_25 : decode cX2_addFault 25 = .ok (.getfield 15, 3) := by decide +kernel
theorem dX2_addFault_28 : decode cX2_addFault 28 = .ok (.aload_n 0, 1) := by decide +kernel
theorem dX2_addFault_29 : decode cX2_addFault 29 = .ok (.getfield 24, 3) := by decide +kernel
theorem dX2_addFault_32 : decode cX2_addFault 32 = .ok (.iload_n 2, 1) := by decide +kernel
theorem dX2_addFault_33 : decode cX2_addFault 33 = .ok (.iastore, 1) := by decide +kernel
theorem dX2_addFault_34 : decode cX2_addFault 34 = .ok (.aload_n 0, 1) := by decide +kernel
theorem dX2_addFault_35 : decode cX2_addFault 35 = .ok (.getfield 18, 3) := by decide +kernel
theorem dX2_addFault_38 : decode cX2_addFault 38 = .ok (.aload_n 0, 1) := by decide +kernel
theorem dX2_addFault_39 : decode cX2_addFault 39 = .ok (.getfield 24, 3) := by decide +kernel
theorem dX2_addFault_42 : decode cX2_addFault 42 = .ok (.iload_n 3, 1) := by decide +kernel
theorem dX2_addFault_43 : decode cX2_addFault 43 = .ok (.iastore, 1) := by decide +kernel
theorem dX2_addFault_44 : decode cX2_addFault 44 = .ok (.aload_n 0, 1) := by decide +kernel
theorem dX2_addFault_45 : decode cX2_addFault 45 = .ok (.getfield 21, 3) := by decide +kernel
theorem dX2_addFault_48 : decode cX2_addFault 48 = .ok (.aload_n 0, 1) := by decide +kernel
theorem dX2_addFault_49 : decode cX2_addFault 49 = .ok (.getfield 24, 3) := by decide +kernel
theorem dX2_addFault_52 : decode cX2_addFault 52 = .ok (.iload 4, 2) := by decide +kernel
theorem dX2_addFault_54 : decode cX2_addFault 54 = .ok (.iastore, 1) := by decide +kernel
theorem dX2_addFault_55 : decode cX2_addFault 55 = .ok (.aload_n 0, 1) := by decide +kernel
theorem dX2_addFault_56 : decode cX2_addFault 56 = .ok (.dup, 1) := by decide +kernel
theorem dX2_addFault_57 : decode cX2_addFault 57 = .ok (.getfield 24, 3) := by decide +kernel
theorem dX2_addFault_60 : decode cX2_addFault 60 = .ok (.iconst 1, 1) := by decide +kernel
theorem dX2_addFault_61 : decode cX2_addFault 61 = .ok (.iadd, 1) := by decide +kernel
theorem dX2_addFault_62 : decode cX2_addFault 62 = .ok (.putfield 24, 3) := by decide +kernel
theorem dX2_addFault_65 : decode cX2_addFault 65 = .ok (.return_, 1) := by decide +kernel
theorem dX2_isFault_0 : decode cX2_isFault 0 = .ok (.iload_n 1, 1) := by decide +kernel
theorem dX2_isFault_1 : decode cX2_isFault 1 = .ok (.ifCond .lt 15, 3) := by decide +kernel
theorem dX2_isFault_4 : decode cX2_isFault 4 = .ok (.iload_n 1, 1) := by decide +kernel
theorem dX2_isFault_5 : decode cX2_isFault 5 = .ok (.aload_n 0, 1) := by decide +kernel
theorem dX2_isFault_6 : decode cX2_isFault 6 = .ok (.getfield 24, 3) := by decide +kernel
theorem dX2_isFault_9 : decode cX2_isFault 9 = .ok (.if_icmp .ge 7, 3) := by decide +kernel
theorem dX2_isFault_12 : decode cX2_isFault 12 = .ok (.iconst 1, 1) := by decide +kernel
theorem dX2_isFault_13 : decode cX2_isFault 13 = .ok (.goto 4, 3) := by decide +kernel
theorem dX2_isFault_16 : decode cX2_isFault 16 = .ok (.iconst 0, 1) := by decide +kernel
theorem dX2_isFault_17 : decode cX2_isFault 17 = .ok (.ireturn, 1) := by decide +kernel
set_option maxRecDepth 20000 in
theorem ggX2_fact_X2_isFault : GoodIn wsX2_fact wsX2_isFault := goodIn_r _ [9, 10, 11, 12, 13, 14, 15] (by decide +kernel) (by decide +kernel)
set_option maxRecDepth 20000 in
theorem gX2_fact_X2_isFault : GoodIn wsX2_fact (wsV RX2 32 RX2 yX2_isFault wsX2_isFault) := goodIn_app (goodIn_of _ (by decide +kernel)) ggX2_fact_X2_isFault
theorem dX2_fact_0 : decode cX2_fact 0 = .ok (.aload_n 0, 1) := by decide +kernel
theorem dX2_fact_1 : decode cX2_fact 1 = .ok (.iload_n 1, 1) := by decide +kernel
theorem dX2_fact_2 : decode cX2_fact 2 = .ok (.invokevirtual 32, 3) := by decide +kernel
theorem dX2_fact_5 : decode cX2_fact 5 = .ok (.ifCond .ne 5, 3) := by decide +kernel
theorem dX2_fact_8 : decode cX2_fact 8 = .ok (.iconst (-1), 1) := by decide +kernel
theorem dX2_fact_9 : decode cX2_fact 9 = .ok (.ireturn, 1) := by decide +kernel
theorem dX2_fact_10 : decode cX2_fact 10 = .ok (.iload_n 2, 1) := by decide +kernel
theorem dX2_fact_11 : decode cX2_fact 11 = .ok (.tableswitch 46 0 2 #[25, 32, 39], 25) := by decide +kernel
theorem dX2_fact_36 : decode cX2_fact 36 = .ok (.aload_n 0, 1) := by decide +kernel
theorem dX2_fact_37 : decode cX2_fact 37 = .ok (.getfield 9, 3) := by decide +kernel
theorem dX2_fact_40 : decode cX2_fact 40 = .ok (.iload_n 1, 1) := by decide +kernel
theorem dX2_fact_41 : decode cX2_fact 41 = .ok (.iaload, 1) := by decide +kernel
theorem dX2_fact_42 : decode cX2_fact 42 = .ok (.ireturn, 1) := by decide +kernel
theorem dX2_fact_43 : decode cX2_fact 43 = .ok (.aload_n 0, 1) := by decide +kernel
theorem dX2_fact_44 : decode cX2_fact 44 = .ok (.getfield 15, 3) := by decide +kernel
theorem dX2_fact_47 : decode cX2_fact 47 = .ok (.iload_n 1, 1) := by decide +kernel
theorem dX2_fact_48 : decode cX2_fact 48 = .ok (.iaload, 1) := by decide +kernel
theorem dX2_fact_49 : decode cX2_fact 49 = .ok (.ireturn, 1) := by decide +kernel
theorem dX2_fact_50 : decode cX2_fact 50 = .ok (.aload_n 0, 1) := by decide +kernel
theorem dX2_fact_51 : decode cX2_fact 51 = .ok (.getfield 18, 3) := by decide +kernel
theorem dX2_fact_54 : decode cX2_fact 54 = .ok (.iload_n 1, 1) := by decide +kernel
theorem dX2_fact_55 : decode cX2_fact 55 = .ok (.iaload, 1) := by decide +kernel
theorem dX2_fact_56 : decode cX2_fact 56 = .ok (.ireturn, 1) := by decide +kernel
theorem dX2_fact_57 : decode cX2_fact 57 = .ok (.aload_n 0, 1) := by decide +kernel
theorem dX2_fact_58 : decode cX2_fact 58 = .ok (.getfield 21, 3) := by decide +kernel
theorem dX2_fact_61 : decode cX2_fact 61 = .ok (.iload_n 1, 1) := by decide +kernel
theorem dX2_fact_62 : decode cX2_fact 62 = .ok (.iaload, 1) := by decide +kernel
theorem dX2_fact_63 : decode cX2_fact 63 = .ok (.ireturn, 1) := by decide +kernel
theorem dX2_numberOfLine_0 : decode cX2_numberOfLine 0 = .ok (.iconst 0, 1) := by decide +kernel
theorem dX2_numberOfLine_1 : decode cX2_numberOfLine 1 = .ok (.istore_n 2, 1) := by decide +kernel
theorem dX2_numberOfLine_2 : decode cX2_numberOfLine 2 = .ok (.iload_n 2, 1) := by decide +kernel
theorem dX2_numberOfLine_3 : decode cX2_numberOfLine 3 = .ok (.aload_n 0, 1) := by decide +kernel
theorem dX2_numberOfLine_4 : decode cX2_numberOfLine 4 = .ok (.getfield 24, 3) := by decide +kernel
theorem dX2_numberOfLine_7 : decode cX2_numberOfLine 7 = .ok (.if_icmp .ge 26, 3) := by decide +kernel
theorem dX2_numberOfLine_10 : decode cX2_numberOfLine 10 = .ok (.aload_n 0, 1) := by decide +kernel
theorem dX2_numberOfLine_11 : decode cX2_numberOfLine 11 = .ok (.getfield 15, 3) := by decide +kernel
theorem dX2_numberOfLine_14 : decode cX2_numberOfLine 14 = .ok (.iload_n 2, 1) := by decide +kernel
theorem dX2_numberOfLine_15 : decode cX2_numberOfLine 15 = .ok (.iaload, 1) := by decide +kernel
theorem dX2_numberOfLine_16 : decode cX2_numberOfLine 16 = .ok (.iload_n 1, 1) := by decide +kernel
theorem dX2_numberOfLine_17 : decode cX2_numberOfLine 17 = .ok (.if_icmp .ne 10, 3) := by decide +kernel
theorem dX2_numberOfLine_20 : decode cX2_numberOfLine 20 = .ok (.aload_n 0, 1) := by decide +kernel
theorem dX2_numberOfLine_21 : decode cX2_numberOfLine 21 = .ok (.getfield 9, 3) := by decide +kernel
theorem dX2_numberOfLine_24 : decode cX2_numberOfLine 24 = .ok (.iload_n 2, 1) := by decide +kernel
theorem dX2_numberOfLine_25 : decode cX2_numberOfLine 25 = .ok (.iaload, 1) := by decide +kernel
theorem dX2_numberOfLine_26 : decode cX2_numberOfLine 26 = .ok (.ireturn, 1) := by decide +kernel
theorem dX2_numberOfLine_27 : decode cX2_numberOfLine 27 = .ok (.iinc 2 1, 3) := by decide +kernel
theorem dX2_numberOfLine_30 : decode cX2_numberOfLine 30 = .ok (.goto (-28), 3) := by decide +kernel
theorem dX2_numberOfLine_33 : decode cX2_numberOfLine 33 = .ok (.iconst 0, 1) := by decide +kernel
theorem dX2_numberOfLine_34 : decode cX2_numberOfLine 34 = .ok (.ireturn, 1) := by decide +kernel
theorem dX3_init_0 : decode cX3_init 0 = .ok (.aload_n 0, 1) := by decide +kernel
theorem dX3_init_1 : decode cX3_init 1 = .ok (.invokespecial 3, 3) := by decide +kernel
theorem dX3_init_4 : decode cX3_init 4 = .ok (.aload_n 0, 1) := by decide +kernel
theorem dX3_init_5 : decode cX3_init 5 = .ok (.aload_n 1, 1) := by decide +kernel
theorem dX3_init_6 : decode cX3_init 6 = .ok (.putfield 9, 3) := by decide +kernel
theorem dX3_init_9 : decode cX3_init 9 = .ok (.aload_n 0, 1) := by decide +kernel
theorem dX3_init_10 : decode cX3_init 10 = .ok (.bipush 16, 2) := by decide +kernel
theorem dX3_init_12 : decode cX3_init 12 = .ok (.newarray .int, 2) := by decide +kernel
theorem dX3_init_14 : decode cX3_init 14 = .ok (.putfield 15, 3) := by decide +kernel
theorem dX3_init_17 : decode cX3_init 17 = .ok (.aload_n 0, 1) := by decide +kernel
theorem dX3_init_18 : decode cX3_init 18 = .ok (.bipush 16, 2) := by decide +kernel
theorem dX3_init_20 : decode cX3_init 20 = .ok (.newarray .int, 2) := by decide +kernel
theorem dX3_init_22 : decode cX3_init 22 = .ok (.putfield 19, 3) := by decide +kernel
theorem dX3_init_25 : decode cX3_init 25 = .ok (.aload_n 0, 1) := by decide +kernel
theorem dX3_init_26 : decode cX3_init 26 = .ok (.bipush 16, 2) := by decide +kernel
theorem dX3_init_28 : decode cX3_init 28 = .ok (.newarray .boolean, 2) := by decide +kernel
theorem dX3_init_30 : decode cX3_init 30 = .ok (.putfield 22, 3) := by decide +kernel
theorem dX3_init_33 : decode cX3_init 33 = .ok (.aload_n 0, 1) := by decide +kernel
theorem dX3_init_34 : decode cX3_init 34 = .ok (.bipush 34, 2) := by decide +kernel
theorem dX3_init_36 : decode cX3_init 36 = .ok (.newarray .int, 2) := by decide +kernel
theorem dX3_init_38 : decode cX3_init 38 = .ok (.putfield 26, 3) := by decide +kernel
theorem dX3_init_41 : decode cX3_init 41 = .ok (.aload_n 0, 1) := by decide +kernel
theorem dX3_init_42 : decode cX3_init 42 = .ok (.iconst 0, 1) := by decide +kernel
theorem dX3_init_43 : decode cX3_init 43 = .ok (.putfield 29, 3) := by decide +kernel
theorem dX3_init_46 : decode cX3_init 46 = .ok (.return_, 1) := by decide +kernel
set_option maxRecDepth 20000 in
theorem ggX3_look_X5_sortAt : GoodIn wsX3_look wsX5_sortAt := goodIn_r _ [12, 13, 14, 15, 16, 11, 17, 18, 35, 36, 37, 38, 39, 40] (by decide +kernel) (by decide +kernel)
set_option maxRecDepth 20000 in
theorem gX3_look_X5_sortAt : GoodIn wsX3_look (wsV RX3 37 RX5 yX5_sortAt wsX5_sortAt) := goodIn_app (goodIn_of _ (by decide +kernel)) ggX3_look_X5_sortAt
set_option maxRecDepth 20000 in
theorem ggX3_look_X9_loansOf : GoodIn wsX3_look wsX9_loansOf := goodIn_r _ [21] (by decide +kernel) (by decide +kernel)
set_option maxRecDepth 20000 in
theorem gX3_look_X9_loansOf_n41 : GoodIn wsX3_look (wsX9_loansOf) := ggX3_look_X9_loansOf
set_option maxRecDepth 20000 in
theorem ggX3_look_X9_isIndexOf : GoodIn wsX3_look wsX9_isIndexOf := goodIn_r _ [23] (by decide +kernel) (by decide +kernel)
set_option maxRecDepth 20000 in
theorem gX3_look_X9_isIndexOf_n44 : GoodIn wsX3_look (wsX9_isIndexOf) := ggX3_look_X9_isIndexOf
set_option maxRecDepth 20000 in
theorem ggX3_look_X5_bAt : GoodIn wsX3_look wsX5_bAt := goodIn_r _ [27, 28, 14, 15, 16, 11, 17, 18, 35, 36, 37, 38, 39, 40] (by decide +kernel) (by decide +kernel)
set_option maxRecDepth 20000 in
theorem gX3_look_X5_bAt : GoodIn wsX3_look (wsV RX3 48 RX5 yX5_bAt wsX5_bAt) := goodIn_app (goodIn_of _ (by decide +kernel)) ggX3_look_X5_bAt
theorem dX3_look_0 : decode cX3_look 0 = .ok (.aload_n 0, 1) := by decide +kernel
theorem dX3_look_1 : decode cX3_look 1 = .ok (.iconst 0, 1) := by decide +kernel
theorem dX3_look_2 : decode cX3_look 2 = .ok (.putfield 29, 3) := by decide +kernel
theorem dX3_look_5 : decode cX3_look 5 = .ok (.iconst 0, 1) := by decide +kernel
theorem dX3_look_6 : decode cX3_look 6 = .ok (.istore_n 1, 1) := by decide +kernel
theorem dX3_look_7 : decode cX3_look 7 = .ok (.iload_n 1, 1) := by decide +kernel
theorem dX3_look_8 : decode cX3_look 8 = .ok (.aload_n 0, 1) := by decide +kernel
theorem dX3_look_9 : decode cX3_look 9 = .ok (.getfield 9, 3) := by decide +kernel
theorem dX3_look_12 : decode cX3_look 12 = .ok (.getfield 33, 3) := by decide +kernel
theorem dX3_look_15 : decode cX3_look 15 = .ok (.if_icmp .ge 113, 3) := by decide +kernel
theorem dX3_look_18 : decode cX3_look 18 = .ok (.aload_n 0, 1) := by decide +kernel
theorem dX3_look_19 : decode cX3_look 19 = .ok (.getfield 26, 3) := by decide +kernel
theorem dX3_look_22 : decode cX3_look 22 = .ok (.iload_n 1, 1) := by decide +kernel
theorem dX3_look_23 : decode cX3_look 23 = .ok (.iconst (-1), 1) := by decide +kernel
theorem dX3_look_24 : decode cX3_look 24 = .ok (.iastore, 1) := by decide +kernel
theorem dX3_look_25 : decode cX3_look 25 = .ok (.aload_n 0, 1) := by decide +kernel
theorem dX3_look_26 : decode cX3_look 26 = .ok (.getfield 9, 3) := by decide +kernel
theorem dX3_look_29 : decode cX3_look 29 = .ok (.iload_n 1, 1) := by decide +kernel
theorem dX3_look_30 : decode cX3_look 30 = .ok (.invokevirtual 37, 3) := by decide +kernel
theorem dX3_look_33 : decode cX3_look 33 = .ok (.istore_n 2, 1) := by decide +kernel
theorem dX3_look_34 : decode cX3_look 34 = .ok (.iload_n 2, 1) := by decide +kernel
theorem dX3_look_35 : decode cX3_look 35 = .ok (.invokestatic 41, 3) := by decide +kernel
theorem dX3_look_38 : decode cX3_look 38 = .ok (.iconst 1, 1) := by decide +kernel
theorem dX3_look_39 : decode cX3_look 39 = .ok (.if_icmp .ne 83, 3) := by decide +kernel
theorem dX3_look_42 : decode cX3_look 42 = .ok (.aload_n 0, 1) := by decide +kernel
theorem dX3_look_43 : decode cX3_look 43 = .ok (.getfield 15, 3) := by decide +kernel
theorem dX3_look_46 : decode cX3_look 46 = .ok (.aload_n 0, 1) := by decide +kernel
theorem dX3_look_47 : decode cX3_look 47 = .ok (.getfield 29, 3) := by decide +kernel
theorem dX3_look_50 : decode cX3_look 50 = .ok (.invokestatic 44, 3) := by decide +kernel
theorem dX3_look_53 : decode cX3_look 53 = .ok (.ifCond .eq 69, 3) := by decide +kernel
theorem dX3_look_56 : decode cX3_look 56 = .ok (.aload_n 0, 1) := by decide +kernel
theorem dX3_look_57 : decode cX3_look 57 = .ok (.getfield 15, 3) := by decide +kernel
theorem dX3_look_60 : decode cX3_look 60 = .ok (.aload_n 0, 1) := by decide +kernel
theorem dX3_look_61 : decode cX3_look 61 = .ok (.getfield 29, 3) := by decide +kernel
theorem dX3_look_64 : decode cX3_look 64 = .ok (.iload_n 1, 1) := by decide +kernel
theorem dX3_look_65 : decode cX3_look 65 = .ok (.iastore, 1) := by decide +kernel
theorem dX3_look_66 : decode cX3_look 66 = .ok (.aload_n 0, 1) := by decide +kernel
theorem dX3_look_67 : decode cX3_look 67 = .ok (.getfield 19, 3) := by decide +kernel
theorem dX3_look_70 : decode cX3_look 70 = .ok (.aload_n 0, 1) := by decide +kernel
theorem dX3_look_71 : decode cX3_look 71 = .ok (.getfield 29, 3) := by decide +kernel
theorem dX3_look_74 : decode cX3_look 74 = .ok (.aload_n 0, 1) := by decide +kernel
theorem dX3_look_75 : decode cX3_look 75 = .ok (.getfield 9, 3) := by decide +kernel
theorem dX3_look_78 : decode cX3_look 78 = .ok (.iload_n 1, 1) := by decide +kernel
theorem dX3_look_79 : decode cX3_look 79 = .ok (.invokevirtual 48, 3) := by decide +kernel
theorem dX3_look_82 : decode cX3_look 82 = .ok (.iastore, 1) := by decide +kernel
theorem dX3_look_83 : decode cX3_look 83 = .ok (.aload_n 0, 1) := by decide +kernel
theorem dX3_look_84 : decode cX3_look 84 = .ok (.getfield 22, 3) := by decide +kernel
theorem dX3_look_87 : decode cX3_look 87 = .ok (.aload_n 0, 1) := by decide +kernel
theorem dX3_look_88 : decode cX3_look 88 = .ok (.getfield 29, 3) := by decide +kernel
theorem dX3_look_91 : decode cX3_look 91 = .ok (.iload_n 2, 1) := by decide +kernel
theorem dX3_look_92 : decode cX3_look 92 = .ok (.iconst 4, 1) := by decide +kernel
theorem dX3_look_93 : decode cX3_look 93 = .ok (.if_icmp .ne 7, 3) := by decide +kernel
theorem dX3_look_96 : decode cX3_look 96 = .ok (.iconst 1, 1) := by decide +kernel
theorem dX3_look_97 : decode cX3_look 97 = .ok (.goto 4, 3) := by decide +kernel
theorem dX3_look_100 : decode cX3_look 100 = .ok (.iconst 0, 1) := by decide +kernel
theorem dX3_look_101 : decode cX3_look 101 = .ok (.bastore, 1) := by decide +kernel
theorem dX3_look_102 : decode cX3_look 102 = .ok (.aload_n 0, 1) := by decide +kernel
theorem dX3_look_103 : decode cX3_look 103 = .ok (.getfield 26, 3) := by decide +kernel
theorem dX3_look_106 : decode cX3_look 106 = .ok (.iload_n 1, 1) := by decide +kernel
theorem dX3_look_107 : decode cX3_look 107 = .ok (.aload_n 0, 1) := by decide +kernel
theorem dX3_look_108 : decode cX3_look 108 = .ok (.getfield 29, 3) := by decide +kernel
theorem dX3_look_111 : decode cX3_look 111 = .ok (.iastore, 1) := by decide +kernel
theorem dX3_look_112 : decode cX3_look 112 = .ok (.aload_n 0, 1) := by decide +kernel
theorem dX3_look_113 : decode cX3_look 113 = .ok (.dup, 1) := by decide +kernel
theorem dX3_look_114 : decode cX3_look 114 = .ok (.getfield 29, 3) := by decide +kernel
theorem dX3_look_117 : decode cX3_look 117 = .ok (.iconst 1, 1) := by decide +kernel
theorem dX3_look_118 : decode cX3_look 118 = .ok (.iadd, 1) := by decide +kernel
theorem dX3_look_119 : decode cX3_look 119 = .ok (.putfield 29, 3) := by decide +kernel
theorem dX3_look_122 : decode cX3_look 122 = .ok (.iinc 1 1, 3) := by decide +kernel
theorem dX3_look_125 : decode cX3_look 125 = .ok (.goto (-118), 3) := by decide +kernel
theorem dX3_look_128 : decode cX3_look 128 = .ok (.return_, 1) := by decide +kernel
theorem dX3_isLoan_0 : decode cX3_isLoan 0 = .ok (.iload_n 1, 1) := by decide +kernel
theorem dX3_isLoan_1 : decode cX3_isLoan 1 = .ok (.ifCond .lt 15, 3) := by decide +kernel
theorem dX3_isLoan_4 : decode cX3_isLoan 4 = .ok (.iload_n 1, 1) := by decide +kernel
theorem dX3_isLoan_5 : decode cX3_isLoan 5 = .ok (.aload_n 0, 1) := by decide +kernel
theorem dX3_isLoan_6 : decode cX3_isLoan 6 = .ok (.getfield 29, 3) := by decide +kernel
theorem dX3_isLoan_9 : decode cX3_isLoan 9 = .ok (.if_icmp .ge 7, 3) := by decide +kernel
theorem dX3_isLoan_12 : decode cX3_isLoan 12 = .ok (.iconst 1, 1) := by decide +kernel
theorem dX3_isLoan_13 : decode cX3_isLoan 13 = .ok (.goto 4, 3) := by decide +kernel
theorem dX3_isLoan_16 : decode cX3_isLoan 16 = .ok (.iconst 0, 1) := by decide +kernel
theorem dX3_isLoan_17 : decode cX3_isLoan 17 = .ok (.ireturn, 1) := by decide +kernel
set_option maxRecDepth 20000 in
theorem ggX3_lineOf_X3_isLoan : GoodIn wsX3_lineOf wsX3_isLoan := goodIn_r _ [6, 7, 8, 9, 10, 11, 12, 13] (by decide +kernel) (by decide +kernel)
set_option maxRecDepth 20000 in
theorem gX3_lineOf_X3_isLoan : GoodIn wsX3_lineOf (wsV RX3 51 RX3 yX3_isLoan wsX3_isLoan) := goodIn_app (goodIn_of _ (by decide +kernel)) ggX3_lineOf_X3_isLoan
theorem dX3_lineOf_0 : decode cX3_lineOf 0 = .ok (.aload_n 0, 1) := by decide +kernel
theorem dX3_lineOf_1 : decode cX3_lineOf 1 = .ok (.iload_n 1, 1) := by decide +kernel
theorem dX3_lineOf_2 : decode cX3_lineOf 2 = .ok (.invokevirtual 51, 3) := by decide +kernel
theorem dX3_lineOf_5 : decode cX3_lineOf 5 = .ok (.ifCond .eq 12, 3) := by decide +kernel
theorem dX3_lineOf_8 : decode cX3_lineOf 8 = .ok (.aload_n 0, 1) := by decide +kernel
theorem dX3_lineOf_9 : decode cX3_lineOf 9 = .ok (.getfield 15, 3) := by decide +kernel
theorem dX3_lineOf_12 : decode cX3_lineOf 12 = .ok (.iload_n 1, 1) := by decide +kernel
theorem dX3_lineOf_13 : decode cX3_lineOf 13 = .ok (.iaload, 1) := by decide +kernel
theorem dX3_lineOf_14 : decode cX3_lineOf 14 = .ok (.goto 4, 3) := by decide +kernel
theorem dX3_lineOf_17 : decode cX3_lineOf 17 = .ok (.iconst (-1), 1) := by decide +kernel
theorem dX3_lineOf_18 : decode cX3_lineOf 18 = .ok (.ireturn, 1) := by decide +kernel
set_option maxRecDepth 20000 in
theorem ggX3_placeOf_X3_isLoan : GoodIn wsX3_placeOf wsX3_isLoan := goodIn_r _ [6, 7, 8, 9, 10, 11, 12, 13] (by decide +kernel) (by decide +kernel)
set_option maxRecDepth 20000 in
theorem gX3_placeOf_X3_isLoan : GoodIn wsX3_placeOf (wsV RX3 51 RX3 yX3_isLoan wsX3_isLoan) := goodIn_app (goodIn_of _ (by decide +kernel)) ggX3_placeOf_X3_isLoan
theorem dX3_placeOf_0 : decode cX3_placeOf 0 = .ok (.aload_n 0, 1) := by decide +kernel
theorem dX3_placeOf_1 : decode cX3_placeOf 1 = .ok (.iload_n 1, 1) := by decide +kernel
theorem dX3_placeOf_2 : decode cX3_placeOf 2 = .ok (.invokevirtual 51, 3) := by decide +kernel
theorem dX3_placeOf_5 : decode cX3_placeOf 5 = .ok (.ifCond .eq 12, 3) := by decide +kernel
theorem dX3_placeOf_8 : decode cX3_placeOf 8 = .ok (.aload_n 0, 1) := by decide +kernel
theorem dX3_placeOf_9 : decode cX3_placeOf 9 = .ok (.getfield 19, 3) := by decide +kernel
theorem dX3_placeOf_12 : decode cX3_placeOf 12 = .ok (.iload_n 1, 1) := by decide +kernel
theorem dX3_placeOf_13 : decode cX3_placeOf 13 = .ok (.iaload, 1) := by decide +kernel
theorem dX3_placeOf_14 : decode cX3_placeOf 14 = .ok (.goto 4, 3) := by decide +kernel
theorem dX3_placeOf_17 : decode cX3_placeOf 17 = .ok (.iconst (-1), 1) := by decide +kernel
theorem dX3_placeOf_18 : decode cX3_placeOf 18 = .ok (.ireturn, 1) := by decide +kernel
set_option maxRecDepth 20000 in
theorem ggX3_isLent_X3_isLoan : GoodIn wsX3_isLent wsX3_isLoan := goodIn_r _ [6, 7, 8, 9, 10, 11, 12, 13] (by decide +kernel) (by decide +kernel)
set_option maxRecDepth 20000 in
theorem gX3_isLent_X3_isLoan : GoodIn wsX3_isLent (wsV RX3 51 RX3 yX3_isLoan wsX3_isLoan) := goodIn_app (goodIn_of _ (by decide +kernel)) ggX3_isLent_X3_isLoan
theorem dX3_isLent_0 : decode cX3_isLent 0 = .ok (.aload_n 0, 1) := by decide +kernel
theorem dX3_isLent_1 : decode cX3_isLent 1 = .ok (.iload_n 1, 1) := by decide +kernel
theorem dX3_isLent_2 : decode cX3_isLent 2 = .ok (.invokevirtual 51, 3) := by decide +kernel
theorem dX3_isLent_5 : decode cX3_isLent 5 = .ok (.ifCond .eq 16, 3) := by decide +kernel
theorem dX3_isLent_8 : decode cX3_isLent 8 = .ok (.aload_n 0, 1) := by decide +kernel
theorem dX3_isLent_9 : decode cX3_isLent 9 = .ok (.getfield 22, 3) := by decide +kernel
theorem dX3_isLent_12 : decode cX3_isLent 12 = .ok (.iload_n 1, 1) := by decide +kernel
theorem dX3_isLent_13 : decode cX3_isLent 13 = .ok (.baload, 1) := by decide +kernel
theorem dX3_isLent_14 : decode cX3_isLent 14 = .ok (.ifCond .eq 7, 3) := by decide +kernel
theorem dX3_isLent_17 : decode cX3_isLent 17 = .ok (.iconst 1, 1) := by decide +kernel
theorem dX3_isLent_18 : decode cX3_isLent 18 = .ok (.goto 4, 3) := by decide +kernel
theorem dX3_isLent_21 : decode cX3_isLent 21 = .ok (.iconst 0, 1) := by decide +kernel
theorem dX3_isLent_22 : decode cX3_isLent 22 = .ok (.ireturn, 1) := by decide +kernel
theorem dX4_init_0 : decode cX4_init 0 = .ok (.aload_n 0, 1) := by decide +kernel
theorem dX4_init_1 : decode cX4_init 1 = .ok (.invokespecial 3, 3) := by decide +kernel
theorem dX4_init_4 : decode cX4_init 4 = .ok (.aload_n 0, 1) := by decide +kernel
theorem dX4_init_5 : decode cX4_init 5 = .ok (.sipush 500, 3) := by decide +kernel
theorem dX4_init_8 : decode cX4_init 8 = .ok (.newarray .int, 2) := by decide +kernel
theorem dX4_init_10 : decode cX4_init 10 = .ok (.putfield 9, 3) := by decide +kernel
theorem dX4_init_13 : decode cX4_init 13 = .ok (.aload_n 0, 1) := by decide +kernel
theorem dX4_init_14 : decode cX4_init 14 = .ok (.sipush 500, 3) := by decide +kernel
theorem dX4_init_17 : decode cX4_init 17 = .ok (.newarray .int, 2) := by decide +kernel
theorem dX4_init_19 : decode cX4_init 19 = .ok (.putfield 15, 3) := by decide +kernel
theorem dX4_init_22 : decode cX4_init 22 = .ok (.aload_n 0, 1) := by decide +kernel
theorem dX4_init_23 : decode cX4_init 23 = .ok (.sipush 500, 3) := by decide +kernel
theorem dX4_init_26 : decode cX4_init 26 = .ok (.newarray .int, 2) := by decide +kernel
theorem dX4_init_28 : decode cX4_init 28 = .ok (.putfield 18, 3) := by decide +kernel
theorem dX4_init_31 : decode cX4_init 31 = .ok (.aload_n 0, 1) := by decide +kernel
theorem dX4_init_32 : decode cX4_init 32 = .ok (.sipush 500, 3) := by decide +kernel
theorem dX4_init_35 : decode cX4_init 35 = .ok (.newarray .boolean, 2) := by decide +kernel
theorem dX4_init_37 : decode cX4_init 37 = .ok (.putfield 21, 3) := by decide +kernel
theorem dX4_init_40 : decode cX4_init 40 = .ok (.aload_n 0, 1) := by decide +kernel
theorem dX4_init_41 : decode cX4_init 41 = .ok (.iconst 0, 1) := by decide +kernel
theorem dX4_init_42 : decode cX4_init 42 = .ok (.putfield 25, 3) := by decide +kernel
theorem dX4_init_45 : decode cX4_init 45 = .ok (.aload_n 0, 1) := by decide +kernel
theorem dX4_init_46 : decode cX4_init 46 = .ok (.iconst 0, 1) := by decide +kernel
theorem dX4_init_47 : decode cX4_init 47 = .ok (.putfield 29, 3) := by decide +kernel
theorem dX4_init_50 : decode cX4_init 50 = .ok (.return_, 1) := by decide +kernel
theorem dX4_clear_0 : decode cX4_clear 0 = .ok (.aload_n 0, 1) := by decide +kernel
theorem dX4_clear_1 : decode cX4_clear 1 = .ok (.iconst 0, 1) := by decide +kernel
theorem dX4_clear_2 : decode cX4_clear 2 = .ok (.putfield 25, 3) := by decide +kernel
theorem dX4_clear_5 : decode cX4_clear 5 = .ok (.aload_n 0, 1) := by decide +kernel
theorem dX4_clear_6 : decode cX4_clear 6 = .ok (.iconst 0, 1) := by decide +kernel
theorem dX4_clear_7 : decode cX4_clear 7 = .ok (.putfield 29, 3) := by decide +kernel
theorem dX4_clear_10 : decode cX4_clear 10 = .ok (.return_, 1) := by decide +kernel
theorem dX4_isNode_0 : decode cX4_isNode 0 = .ok (.iload_n 1, 1) := by decide +kernel
theorem dX4_isNode_1 : decode cX4_isNode 1 = .ok (.ifCond .lt 15, 3) := by decide +kernel
theorem dX4_isNode_4 : decode cX4_isNode 4 = .ok (.iload_n 1, 1) := by decide +kernel
theorem dX4_isNode_5 : decode cX4_isNode 5 = .ok (.aload_n 0, 1) := by decide +kernel
theorem dX4_isNode_6 : decode cX4_isNode 6 = .ok (.getfield 25, 3) := by decide +kernel
theorem dX4_isNode_9 : decode cX4_isNode 9 = .ok (.if_icmp .ge 7, 3) := by decide +kernel
theorem dX4_isNode_12 : decode cX4_isNode 12 = .ok (.iconst 1, 1) := by decide +kernel
theorem dX4_isNode_13 : decode cX4_isNode 13 = .ok (.goto 4, 3) := by decide +kernel
theorem dX4_isNode_16 : decode cX4_isNode 16 = .ok (.iconst 0, 1) := by decide +kernel
theorem dX4_isNode_17 : decode cX4_isNode 17 = .ok (.ireturn, 1) := by decide +kernel
set_option maxRecDepth 20000 in
theorem ggX4_newNode_X9_isIndexOf : GoodIn wsX4_newNode wsX9_isIndexOf := goodIn_r _ [8] (by decide +kernel) (by decide +kernel)
set_option maxRecDepth 20000 in
theorem gX4_newNode_X9_isIndexOf_n32 : GoodIn wsX4_newNode (wsX9_isIndexOf) := ggX4_newNode_X9_isIndexOf
theorem dX4_newNode_0 : decode cX4_newNode 0 = .ok (.aload_n 0, 1) := by decide +kernel
theorem dX4_newNode_1 : decode cX4_newNode 1 = .ok (.getfield 9, 3) := by decide +kernel
theorem dX4_newNode_4 : decode cX4_newNode 4 = .ok (.aload_n 0, 1) := by decide +kernel
theorem dX4_newNode_5 : decode cX4_newNode 5 = .ok (.getfield 25, 3) := by decide +kernel
theorem dX4_newNode_8 : decode cX4_newNode 8 = .ok (.invokestatic 32, 3) := by decide +kernel
theorem dX4_newNode_11 : decode cX4_newNode 11 = .ok (.ifCond .ne 5, 3) := by decide +kernel
theorem dX4_newNode_14 : decode cX4_newNode 14 = .ok (.iconst (-1), 1) := by decide +kernel
theorem dX4_newNode_15 : decode cX4_newNode 15 = .ok (.ireturn, 1) := by decide +kernel
theorem dX4_newNode_16 : decode cX4_newNode 16 = .ok (.aload_n 0, 1) := by decide +kernel
theorem dX4_newNode_17 : decode cX4_newNode 17 = .ok (.getfield 9, 3) := by decide +kernel
theorem dX4_newNode_20 : decode cX4_newNode 20 = .ok (.aload_n 0, 1) := by decide +kernel
theorem dX4_newNode_21 : decode cX4_newNode 21 = .ok (.getfield 25, 3) := by decide +kernel
theorem dX4_newNode_24 : decode cX4_newNode 24 = .ok (.iload_n 1, 1) := by decide +kernel
theorem dX4_newNode_25 : decode cX4_newNode 25 = .ok (.iastore, 1) := by decide +kernel
theorem dX4_newNode_26 : decode cX4_newNode 26 = .ok (.aload_n 0, 1) := by decide +kernel
theorem dX4_newNode_27 : decode cX4_newNode 27 = .ok (.getfield 15, 3) := by decide +kernel
theorem dX4_newNode_30 : decode cX4_newNode 30 = .ok (.aload_n 0, 1) := by decide +kernel
theorem dX4_newNode_31 : decode cX4_newNode 31 = .ok (.getfield 25, 3) := by decide +kernel
theorem dX4_newNode_34 : decode cX4_newNode 34 = .ok (.iconst 1, 1) := by decide +kernel
theorem dX4_newNode_35 : decode cX4_newNode 35 = .ok (.iastore, 1) := by decide +kernel
theorem dX4_newNode_36 : decode cX4_newNode 36 = .ok (.aload_n 0, 1) := by decide +kernel
theorem dX4_newNode_37 : decode cX4_newNode 37 = .ok (.getfield 18, 3) := by decide +kernel
theorem dX4_newNode_40 : decode cX4_newNode 40 = .ok (.aload_n 0, 1) := by decide +kernel
theorem dX4_newNode_41 : decode cX4_newNode 41 = .ok (.getfield 25, 3) := by decide +kernel
theorem dX4_newNode_44 : decode cX4_newNode 44 = .ok (.iconst (-1), 1) := by decide +kernel
theorem dX4_newNode_45 : decode cX4_newNode 45 = .ok (.iastore, 1) := by decide +kernel
theorem dX4_newNode_46 : decode cX4_newNode 46 = .ok (.aload_n 0, 1) := by decide +kernel
theorem dX4_newNode_47 : decode cX4_newNode 47 = .ok (.getfield 21, 3) := by decide +kernel
theorem dX4_newNode_50 : decode cX4_newNode 50 = .ok (.aload_n 0, 1) := by decide +kernel
theorem dX4_newNode_51 : decode cX4_newNode 51 = .ok (.getfield 25, 3) := by decide +kernel
theorem dX4_newNode_54 : decode cX4_newNode 54 = .ok (.iconst 0, 1) := by decide +kernel
theorem dX4_newNode_55 : decode cX4_newNode 55 = .ok (.bastore, 1) := by decide +kernel
theorem dX4_newNode_56 : decode cX4_newNode 56 = .ok (.aload_n 0, 1) := by decide +kernel
theorem dX4_newNode_57 : decode cX4_newNode 57 = .ok (.dup, 1) := by decide +kernel
theorem dX4_newNode_58 : decode cX4_newNode 58 = .ok (.getfield 25, 3) := by decide +kernel
theorem dX4_newNode_61 : decode cX4_newNode 61 = .ok (.iconst 1, 1) := by decide +kernel
theorem dX4_newNode_62 : decode cX4_newNode 62 = .ok (.iadd, 1) := by decide +kernel
theorem dX4_newNode_63 : decode cX4_newNode 63 = .ok (.putfield 25, 3) := by decide +kernel
theorem dX4_newNode_66 : decode cX4_newNode 66 = .ok (.aload_n 0, 1) := by decide +kernel
theorem dX4_newNode_67 : decode cX4_newNode 67 = .ok (.getfield 25, 3) := by decide +kernel
theorem dX4_newNode_70 : decode cX4_newNode 70 = .ok (.iconst 1, 1) := by decide +kernel
theorem dX4_newNode_71 : decode cX4_newNode 71 = .ok (.isub, 1) := by decide +kernel
theorem dX4_newNode_72 : decode cX4_newNode 72 = .ok (.ireturn, 1) := by decide +kernel
set_option maxRecDepth 20000 in
theorem ggX4_numberOf_X4_isNode : GoodIn wsX4_numberOf wsX4_isNode := goodIn_r _ [6, 7, 8, 9, 10, 11, 12, 13] (by decide +kernel) (by decide +kernel)
set_option maxRecDepth 20000 in
theorem gX4_numberOf_X4_isNode : GoodIn wsX4_numberOf (wsV RX4 36 RX4 yX4_isNode wsX4_isNode) := goodIn_app (goodIn_of _ (by decide +kernel)) ggX4_numberOf_X4_isNode
theorem dX4_numberOf_0 : decode cX4_numberOf 0 = .ok (.aload_n 0, 1) := by decide +kernel
theorem dX4_numberOf_1 : decode cX4_numberOf 1 = .ok (.iload_n 1, 1) := by decide +kernel
theorem dX4_numberOf_2 : decode cX4_numberOf 2 = .ok (.invokevirtual 36, 3) := by decide +kernel
theorem dX4_numberOf_5 : decode cX4_numberOf 5 = .ok (.ifCond .eq 12, 3) := by decide +kernel
theorem dX4_numberOf_8 : decode cX4_numberOf 8 = .ok (.aload_n 0, 1) := by decide +kernel
theorem dX4_numberOf_9 : decode cX4_numberOf 9 = .ok (.getfield 9, 3) := by decide +kernel
theorem dX4_numberOf_12 : decode cX4_numberOf 12 = .ok (.iload_n 1, 1) := by decide +kernel
theorem dX4_numberOf_13 : decode cX4_numberOf 13 = .ok (.iaload, 1) := by decide +kernel
theorem dX4_numberOf_14 : decode cX4_numberOf 14 = .ok (.goto 4, 3) := by decide +kernel
theorem dX4_numberOf_17 : decode cX4_numberOf 17 = .ok (.iconst 0, 1) := by decide +kernel
theorem dX4_numberOf_18 : decode cX4_numberOf 18 = .ok (.ireturn, 1) := by decide +kernel
set_option maxRecDepth 20000 in
theorem ggX4_setNumber_X4_isNode : GoodIn wsX4_setNumber wsX4_isNode := goodIn_r _ [6, 7, 8, 9, 10, 11, 12, 13] (by decide +kernel) (by decide +kernel)
set_option maxRecDepth 20000 in
theorem gX4_setNumber_X4_isNode : GoodIn wsX4_setNumber (wsV RX4 36 RX4 yX4_isNode wsX4_isNode) := goodIn_app (goodIn_of _ (by decide +kernel)) ggX4_setNumber_X4_isNode
theorem dX4_setNumber_0 : decode cX4_setNumber 0 = .ok (.aload_n 0, 1) := by decide +kernel
theorem dX4_setNumber_1 : decode cX4_setNumber 1 = .ok (.iload_n 1, 1) := by decide +kernel
theorem dX4_setNumber_2 : decode cX4_setNumber 2 = .ok (.invokevirtual 36, 3) := by decide +kernel
theorem dX4_setNumber_5 : decode cX4_setNumber 5 = .ok (.ifCond .eq 10, 3) := by decide +kernel
theorem dX4_setNumber_8 : decode cX4_setNumber 8 = .ok (.aload_n 0, 1) := by decide +kernel
theorem dX4_setNumber_9 : decode cX4_setNumber 9 = .ok (.getfield 9, 3) := by decide +kernel
theorem dX4_setNumber_12 : decode cX4_setNumber 12 = .ok (.iload_n 1, 1) := by decide +kernel
theorem dX4_setNumber_13 : decode cX4_setNumber 13 = .ok (.iload_n 2, 1) := by decide +kernel
theorem dX4_setNumber_14 : decode cX4_setNumber 14 = .ok (.iastore, 1) := by decide +kernel
theorem dX4_setNumber_15 : decode cX4_setNumber 15 = .ok (.return_, 1) := by decide +kernel
set_option maxRecDepth 20000 in
theorem ggX4_countUp_X4_isNode : GoodIn wsX4_countUp wsX4_isNode := goodIn_r _ [6, 7, 8, 9, 10, 11, 12, 13] (by decide +kernel) (by decide +kernel)
set_option maxRecDepth 20000 in
theorem gX4_countUp_X4_isNode : GoodIn wsX4_countUp (wsV RX4 36 RX4 yX4_isNode wsX4_isNode) := goodIn_app (goodIn_of _ (by decide +kernel)) ggX4_countUp_X4_isNode
theorem dX4_countUp_0 : decode cX4_countUp 0 = .ok (.aload_n 0, 1) := by decide +kernel
theorem dX4_countUp_1 : decode cX4_countUp 1 = .ok (.iload_n 1, 1) := by decide +kernel
theorem dX4_countUp_2 : decode cX4_countUp 2 = .ok (.invokevirtual 36, 3) := by decide +kernel
theorem dX4_countUp_5 : decode cX4_countUp 5 = .ok (.ifCond .eq 13, 3) := by decide +kernel
theorem dX4_countUp_8 : decode cX4_countUp 8 = .ok (.aload_n 0, 1) := by decide +kernel
theorem dX4_countUp_9 : decode cX4_countUp 9 = .ok (.getfield 15, 3) := by decide +kernel
theorem dX4_countUp_12 : decode cX4_countUp 12 = .ok (.iload_n 1, 1) := by decide +kernel
theorem dX4_countUp_13 : decode cX4_countUp 13 = .ok (.dup2, 1) := by decide +kernel
theorem dX4_countUp_14 : decode cX4_countUp 14 = .ok (.iaload, 1) := by decide +kernel
theorem dX4_countUp_15 : decode cX4_countUp 15 = .ok (.iconst 1, 1) := by decide +kernel
theorem dX4_countUp_16 : decode cX4_countUp 16 = .ok (.iadd, 1) := by decide +kernel
theorem dX4_countUp_17 : decode cX4_countUp 17 = .ok (.iastore, 1) := by decide +kernel
theorem dX4_countUp_18 : decode cX4_countUp 18 = .ok (.return_, 1) := by decide +kernel
set_option maxRecDepth 20000 in
theorem ggX4_isAtEnd_X4_isNode : GoodIn wsX4_isAtEnd wsX4_isNode := goodIn_r _ [7, 8, 9, 10, 11, 12, 13, 14] (by decide +kernel) (by decide +kernel)
set_option maxRecDepth 20000 in
theorem gX4_isAtEnd_X4_isNode : GoodIn wsX4_isAtEnd (wsV RX4 36 RX4 yX4_isNode wsX4_isNode) := goodIn_app (goodIn_of _ (by decide +kernel)) ggX4_isAtEnd_X4_isNode
theorem dX4_isAtEnd_0 : decode cX4_isAtEnd 0 = .ok (.aload_n 0, 1) := by decide +kernel
theorem dX4_isAtEnd_1 : decode cX4_isAtEnd 1 = .ok (.iload_n 1, 1) := by decide +kernel
theorem dX4_isAtEnd_2 : decode cX4_isAtEnd 2 = .ok (.invokevirtual 36, 3) := by decide +kernel
theorem dX4_isAtEnd_5 : decode cX4_isAtEnd 5 = .ok (.ifCond .ne 5, 3) := by decide +kernel
theorem dX4_isAtEnd_8 : decode cX4_isAtEnd 8 = .ok (.iconst 0, 1) := by decide +kernel
theorem dX4_isAtEnd_9 : decode cX4_isAtEnd 9 = .ok (.ireturn, 1) := by decide +kernel
theorem dX4_isAtEnd_10 : decode cX4_isAtEnd 10 = .ok (.aload_n 0, 1) := by decide +kernel
theorem dX4_isAtEnd_11 : decode cX4_isAtEnd 11 = .ok (.getfield 15, 3) := by decide +kernel
theorem dX4_isAtEnd_14 : decode cX4_isAtEnd 14 = .ok (.iload_n 1, 1) := by decide +kernel
theorem dX4_isAtEnd_15 : decode cX4_isAtEnd 15 = .ok (.dup2, 1) := by decide +kernel
theorem dX4_isAtEnd_16 : decode cX4_isAtEnd 16 = .ok (.iaload, 1) := by decide +kernel
theorem dX4_isAtEnd_17 : decode cX4_isAtEnd 17 = .ok (.iconst 1, 1) := by decide +kernel
theorem dX4_isAtEnd_18 : decode cX4_isAtEnd 18 = .ok (.isub, 1) := by decide +kernel
theorem dX4_isAtEnd_19 : decode cX4_isAtEnd 19 = .ok (.iastore, 1) := by decide +kernel
theorem dX4_isAtEnd_20 : decode cX4_isAtEnd 20 = .ok (.aload_n 0, 1) := by decide +kernel
theorem dX4_isAtEnd_21 : decode cX4_isAtEnd 21 = .ok (.getfield 15, 3) := by decide +kernel
theorem dX4_isAtEnd_24 : decode cX4_isAtEnd 24 = .ok (.iload_n 1, 1) := by decide +kernel
theorem dX4_isAtEnd_25 : decode cX4_isAtEnd 25 = .ok (.iaload, 1) := by decide +kernel
theorem dX4_isAtEnd_26 : decode cX4_isAtEnd 26 = .ok (.ifCond .ne 15, 3) := by decide +kernel
theorem dX4_isAtEnd_29 : decode cX4_isAtEnd 29 = .ok (.aload_n 0, 1) := by decide +kernel
theorem dX4_isAtEnd_30 : decode cX4_isAtEnd 30 = .ok (.dup, 1) := by decide +kernel
theorem dX4_isAtEnd_31 : decode cX4_isAtEnd 31 = .ok (.getfield 29, 3) := by decide +kernel
theorem dX4_isAtEnd_34 : decode cX4_isAtEnd 34 = .ok (.iconst 1, 1) := by decide +kernel
theorem dX4_isAtEnd_35 : decode cX4_isAtEnd 35 = .ok (.iadd, 1) := by decide +kernel
theorem dX4_isAtEnd_36 : decode cX4_isAtEnd 36 = .ok (.putfield 29, 3) := by decide +kernel
theorem dX4_isAtEnd_39 : decode cX4_isAtEnd 39 = .ok (.iconst 1, 1) := by decide +kernel
theorem dX4_isAtEnd_40 : decode cX4_isAtEnd 40 = .ok (.ireturn, 1) := by decide +kernel
theorem dX4_isAtEnd_41 : decode cX4_isAtEnd 41 = .ok (.iconst 0, 1) := by decide +kernel
theorem dX4_isAtEnd_42 : decode cX4_isAtEnd 42 = .ok (.ireturn, 1) := by decide +kernel
set_option maxRecDepth 20000 in
theorem ggX4_linkOf_X4_isNode : GoodIn wsX4_linkOf wsX4_isNode := goodIn_r _ [6, 7, 8, 9, 10, 11, 12, 13] (by decide +kernel) (by decide +kernel)
set_option maxRecDepth 20000 in
theorem gX4_linkOf_X4_isNode : GoodIn wsX4_linkOf (wsV RX4 36 RX4 yX4_isNode wsX4_isNode) := goodIn_app (goodIn_of _ (by decide +kernel)) ggX4_linkOf_X4_isNode
theorem dX4_linkOf_0 : decode cX4_linkOf 0 = .ok (.aload_n 0, 1) := by decide +kernel
theorem dX4_linkOf_1 : decode cX4_linkOf 1 = .ok (.iload_n 1, 1) := by decide +kernel
theorem dX4_linkOf_2 : decode cX4_linkOf 2 = .ok (.invokevirtual 36, 3) := by decide +kernel
theorem dX4_linkOf_5 : decode cX4_linkOf 5 = .ok (.ifCond .eq 12, 3) := by decide +kernel
theorem dX4_linkOf_8 : decode cX4_linkOf 8 = .ok (.aload_n 0, 1) := by decide +kernel
theorem dX4_linkOf_9 : decode cX4_linkOf 9 = .ok (.getfield 18, 3) := by decide +kernel
theorem dX4_linkOf_12 : decode cX4_linkOf 12 = .ok (.iload_n 1, 1) := by decide +kernel
theorem dX4_linkOf_13 : decode cX4_linkOf 13 = .ok (.iaload, 1) := by decide +kernel
theorem dX4_linkOf_14 : decode cX4_linkOf 14 = .ok (.goto 4, 3) := by decide +kernel
theorem dX4_linkOf_17 : decode cX4_linkOf 17 = .ok (.iconst (-1), 1) := by decide +kernel
theorem dX4_linkOf_18 : decode cX4_linkOf 18 = .ok (.ireturn, 1) := by decide +kernel
set_option maxRecDepth 20000 in
theorem ggX4_setLink_X4_isNode : GoodIn wsX4_setLink wsX4_isNode := goodIn_r _ [6, 7, 8, 9, 10, 11, 12, 13] (by decide +kernel) (by decide +kernel)
set_option maxRecDepth 20000 in
theorem gX4_setLink_X4_isNode : GoodIn wsX4_setLink (wsV RX4 36 RX4 yX4_isNode wsX4_isNode) := goodIn_app (goodIn_of _ (by decide +kernel)) ggX4_setLink_X4_isNode
theorem dX4_setLink_0 : decode cX4_setLink 0 = .ok (.aload_n 0, 1) := by decide +kernel
theorem dX4_setLink_1 : decode cX4_setLink 1 = .ok (.iload_n 1, 1) := by decide +kernel
theorem dX4_setLink_2 : decode cX4_setLink 2 = .ok (.invokevirtual 36, 3) := by decide +kernel
theorem dX4_setLink_5 : decode cX4_setLink 5 = .ok (.ifCond .eq 10, 3) := by decide +kernel
theorem dX4_setLink_8 : decode cX4_setLink 8 = .ok (.aload_n 0, 1) := by decide +kernel
theorem dX4_setLink_9 : decode cX4_setLink 9 = .ok (.getfield 18, 3) := by decide +kernel
theorem dX4_setLink_12 : decode cX4_setLink 12 = .ok (.iload_n 1, 1) := by decide +kernel
theorem dX4_setLink_13 : decode cX4_setLink 13 = .ok (.iload_n 2, 1) := by decide +kernel
theorem dX4_setLink_14 : decode cX4_setLink 14 = .ok (.iastore, 1) := by decide +kernel
theorem dX4_setLink_15 : decode cX4_setLink 15 = .ok (.return_, 1) := by decide +kernel
set_option maxRecDepth 20000 in
theorem ggX4_isHeldNow_X4_isNode : GoodIn wsX4_isHeldNow wsX4_isNode := goodIn_r _ [6, 7, 8, 9, 10, 11, 12, 13] (by decide +kernel) (by decide +kernel)
set_option maxRecDepth 20000 in
theorem gX4_isHeldNow_X4_isNode : GoodIn wsX4_isHeldNow (wsV RX4 36 RX4 yX4_isNode wsX4_isNode) := goodIn_app (goodIn_of _ (by decide +kernel)) ggX4_isHeldNow_X4_isNode
theorem dX4_isHeldNow_0 : decode cX4_isHeldNow 0 = .ok (.aload_n 0, 1) := by decide +kernel
theorem dX4_isHeldNow_1 : decode cX4_isHeldNow 1 = .ok (.iload_n 1, 1) := by decide +kernel
theorem dX4_isHeldNow_2 : decode cX4_isHeldNow 2 = .ok (.invokevirtual 36, 3) := by decide +kernel
theorem dX4_isHeldNow_5 : decode cX4_isHeldNow 5 = .ok (.ifCond .eq 16, 3) := by decide +kernel
theorem dX4_isHeldNow_8 : decode cX4_isHeldNow 8 = .ok (.aload_n 0, 1) := by decide +kernel
theorem dX4_isHeldNow_9 : decode cX4_isHeldNow 9 = .ok (.getfield 21, 3) := by decide +kernel
theorem dX4_isHeldNow_12 : decode cX4_isHeldNow 12 = .ok (.iload_n 1, 1) := by decide +kernel
theorem dX4_isHeldNow_13 : decode cX4_isHeldNow 13 = .ok (.baload, 1) := by decide +kernel
theorem dX4_isHeldNow_14 : decode cX4_isHeldNow 14 = .ok (.ifCond .eq 7, 3) := by decide +kernel
theorem dX4_isHeldNow_17 : decode cX4_isHeldNow 17 = .ok (.iconst 1, 1) := by decide +kernel
theorem dX4_isHeldNow_18 : decode cX4_isHeldNow 18 = .ok (.goto 4, 3) := by decide +kernel
theorem dX4_isHeldNow_21 : decode cX4_isHeldNow 21 = .ok (.iconst 0, 1) := by decide +kernel
theorem dX4_isHeldNow_22 : decode cX4_isHeldNow 22 = .ok (.ireturn, 1) := by decide +kernel
set_option maxRecDepth 20000 in
theorem ggX4_setHeld_X4_isNode : GoodIn wsX4_setHeld wsX4_isNode := goodIn_r _ [6, 7, 8, 9, 10, 11, 12, 13] (by decide +kernel) (by decide +kernel)
set_option maxRecDepth 20000 in
theorem gX4_setHeld_X4_isNode : GoodIn wsX4_setHeld (wsV RX4 36 RX4 yX4_isNode wsX4_isNode) := goodIn_app (goodIn_of _ (by decide +kernel)) ggX4_setHeld_X4_isNode
theorem dX4_setHeld_0 : decode cX4_setHeld 0 = .ok (.aload_n 0, 1) := by decide +kernel
theorem dX4_setHeld_1 : decode cX4_setHeld 1 = .ok (.iload_n 1, 1) := by decide +kernel
theorem dX4_setHeld_2 : decode cX4_setHeld 2 = .ok (.invokevirtual 36, 3) := by decide +kernel
theorem dX4_setHeld_5 : decode cX4_setHeld 5 = .ok (.ifCond .eq 10, 3) := by decide +kernel
theorem dX4_setHeld_8 : decode cX4_setHeld 8 = .ok (.aload_n 0, 1) := by decide +kernel
theorem dX4_setHeld_9 : decode cX4_setHeld 9 = .ok (.getfield 21, 3) := by decide +kernel
theorem dX4_setHeld_12 : decode cX4_setHeld 12 = .ok (.iload_n 1, 1) := by decide +kernel
theorem dX4_setHeld_13 : decode cX4_setHeld 13 = .ok (.iload_n 2, 1) := by decide +kernel
theorem dX4_setHeld_14 : decode cX4_setHeld 14 = .ok (.bastore, 1) := by decide +kernel
theorem dX4_setHeld_15 : decode cX4_setHeld 15 = .ok (.return_, 1) := by decide +kernel
theorem dX5_init_0 : decode cX5_init 0 = .ok (.aload_n 0, 1) := by decide +kernel
theorem dX5_init_1 : decode cX5_init 1 = .ok (.invokespecial 3, 3) := by decide +kernel
theorem dX5_init_4 : decode cX5_init 4 = .ok (.aload_n 0, 1) := by decide +kernel
theorem dX5_init_5 : decode cX5_init 5 = .ok (.bipush 8, 2) := by decide +kernel
theorem dX5_init_7 : decode cX5_init 7 = .ok (.newarray .int, 2) := by decide +kernel
theorem dX5_init_9 : decode cX5_init 9 = .ok (.putfield 9, 3) := by decide +kernel
theorem dX5_init_12 : decode cX5_init 12 = .ok (.aload_n 0, 1) := by decide +kernel
theorem dX5_init_13 : decode cX5_init 13 = .ok (.bipush 34, 2) := by decide +kernel
theorem dX5_init_15 : decode cX5_init 15 = .ok (.newarray .int, 2) := by decide +kernel
theorem dX5_init_17 : decode cX5_init 17 = .ok (.putfield 15, 3) := by decide +kernel
theorem dX5_init_20 : decode cX5_init 20 = .ok (.aload_n 0, 1) := by decide +kernel
theorem dX5_init_21 : decode cX5_init 21 = .ok (.bipush 34, 2) := by decide +kernel
theorem dX5_init_23 : decode cX5_init 23 = .ok (.newarray .int, 2) := by decide +kernel
theorem dX5_init_25 : decode cX5_init 25 = .ok (.putfield 18, 3) := by decide +kernel
theorem dX5_init_28 : decode cX5_init 28 = .ok (.aload_n 0, 1) := by decide +kernel
theorem dX5_init_29 : decode cX5_init 29 = .ok (.bipush 34, 2) := by decide +kernel
theorem dX5_init_31 : decode cX5_init 31 = .ok (.newarray .int, 2) := by decide +kernel
theorem dX5_init_33 : decode cX5_init 33 = .ok (.putfield 21, 3) := by decide +kernel
theorem dX5_init_36 : decode cX5_init 36 = .ok (.aload_n 0, 1) := by decide +kernel
theorem dX5_init_37 : decode cX5_init 37 = .ok (.iconst 0, 1) := by decide +kernel
theorem dX5_init_38 : decode cX5_init 38 = .ok (.putfield 24, 3) := by decide +kernel
theorem dX5_init_41 : decode cX5_init 41 = .ok (.aload_n 0, 1) := by decide +kernel
theorem dX5_init_42 : decode cX5_init 42 = .ok (.iconst 0, 1) := by decide +kernel
theorem dX5_init_43 : decode cX5_init 43 = .ok (.putfield 28, 3) := by decide +kernel
theorem dX5_init_46 : decode cX5_init 46 = .ok (.return_, 1) := by decide +kernel
theorem dX5_copyOf_0 : decode cX5_copyOf 0 = .ok (.aload_n 1, 1) := by decide +kernel
theorem dX5_copyOf_1 : decode cX5_copyOf 1 = .ok (.getfield 9, 3) := by decide +kernel
theorem dX5_copyOf_4 : decode cX5_copyOf 4 = .ok (.iconst 0, 1) := by decide +kernel
theorem dX5_copyOf_5 : decode cX5_copyOf 5 = .ok (.aload_n 0, 1) := by decide +kernel
theorem dX5_copyOf_6 : decode cX5_copyOf 6 = .ok (.getfield 9, 3) := by decide +kernel
theorem dX5_copyOf_9 : decode cX5_copyOf 9 = .ok (.iconst 0, 1) := by decide +kernel
theorem dX5_copyOf_10 : decode cX5_copyOf 10 = .ok (.bipush 8, 2) := by decide +kernel
theorem dX5_copyOf_12 : decode cX5_copyOf 12 = .ok (.invokestatic 31, 3) := by decide +kernel
theorem dX5_copyOf_15 : decode cX5_copyOf 15 = .ok (.aload_n 1, 1) := by decide +kernel
theorem dX5_copyOf_16 : decode cX5_copyOf 16 = .ok (.getfield 15, 3) := by decide +kernel
theorem dX5_copyOf_19 : decode cX5_copyOf 19 = .ok (.iconst 0, 1) := by decide +kernel
theorem dX5_copyOf_20 : decode cX5_copyOf 20 = .ok (.aload_n 0, 1) := by decide +kernel
theorem dX5_copyOf_21 : decode cX5_copyOf 21 = .ok (.getfield 15, 3) := by decide +kernel
theorem dX5_copyOf_24 : decode cX5_copyOf 24 = .ok (.iconst 0, 1) := by decide +kernel
theorem dX5_copyOf_25 : decode cX5_copyOf 25 = .ok (.bipush 34, 2) := by decide +kernel
theorem dX5_copyOf_27 : decode cX5_copyOf 27 = .ok (.invokestatic 31, 3) := by decide +kernel
theorem dX5_copyOf_30 : decode cX5_copyOf 30 = .ok (.aload_n 1, 1) := by decide +kernel
theorem dX5_copyOf_31 : decode cX5_copyOf 31 = .ok (.getfield 18, 3) := by decide +kernel
theorem dX5_copyOf_34 : decode cX5_copyOf 34 = .ok (.iconst 0, 1) := by decide +kernel
theorem dX5_copyOf_35 : decode cX5_copyOf 35 = .ok (.aload_n 0, 1) := by decide +kernel
theorem dX5_copyOf_36 : decode cX5_copyOf 36 = .ok (.getfield 18, 3) := by decide +kernel
theorem dX5_copyOf_39 : decode cX5_copyOf 39 = .ok (.iconst 0, 1) := by decide +kernel
theorem dX5_copyOf_40 : decode cX5_copyOf 40 = .ok (.bipush 34, 2) := by decide +kernel
theorem dX5_copyOf_42 : decode cX5_copyOf 42 = .ok (.invokestatic 31, 3) := by decide +kernel
theorem dX5_copyOf_45 : decode cX5_copyOf 45 = .ok (.aload_n 1, 1) := by decide +kernel
theorem dX5_copyOf_46 : decode cX5_copyOf 46 = .ok (.getfield 21, 3) := by decide +kernel
theorem dX5_copyOf_49 : decode cX5_copyOf 49 = .ok (.iconst 0, 1) := by decide +kernel
theorem dX5_copyOf_50 : decode cX5_copyOf 50 = .ok (.aload_n 0, 1) := by decide +kernel
theorem dX5_copyOf_51 : decode cX5_copyOf 51 = .ok (.getfield 21, 3) := by decide +kernel
theorem dX5_copyOf_54 : decode cX5_copyOf 54 = .ok (.iconst 0, 1) := by decide +kernel
theorem dX5_copyOf_55 : decode cX5_copyOf 55 = .ok (.bipush 34, 2) := by decide +kernel
theorem dX5_copyOf_57 : decode cX5_copyOf 57 = .ok (.invokestatic 31, 3) := by decide +kernel
theorem dX5_copyOf_60 : decode cX5_copyOf 60 = .ok (.aload_n 0, 1) := by decide +kernel
theorem dX5_copyOf_61 : decode cX5_copyOf 61 = .ok (.aload_n 1, 1) := by decide +kernel
theorem dX5_copyOf_62 : decode cX5_copyOf 62 = .ok (.getfield 24, 3) := by decide +kernel
theorem dX5_copyOf_65 : decode cX5_copyOf 65 = .ok (.putfield 24, 3) := by decide +kernel
theorem dX5_copyOf_68 : decode cX5_copyOf 68 = .ok (.aload_n 0, 1) := by decide +kernel
theorem dX5_copyOf_69 : decode cX5_copyOf 69 = .ok (.aload_n 1, 1) := by decide +kernel
theorem dX5_copyOf_70 : decode cX5_copyOf 70 = .ok (.getfield 28, 3) := by decide +kernel
theorem dX5_copyOf_73 : decode cX5_copyOf 73 = .ok (.putfield 28, 3) := by decide +kernel
theorem dX5_copyOf_76 : decode cX5_copyOf 76 = .ok (.return_, 1) := by decide +kernel
set_option maxRecDepth 20000 in
theorem ggX5_newVariable_X9_isIndexOf : GoodIn wsX5_newVariable wsX9_isIndexOf := goodIn_r _ [5] (by decide +kernel) (by decide +kernel)
set_option maxRecDepth 20000 in
theorem gX5_newVariable_X9_isIndexOf_n37 : GoodIn wsX5_newVariable (wsX9_isIndexOf) := ggX5_newVariable_X9_isIndexOf
theorem dX5_newVariable_0 : decode cX5_newVariable 0 = .ok (.aload_n 0, 1) := by decide +kernel
theorem dX5_newVariable_1 : decode cX5_newVariable 1 = .ok (.getfield 9, 3) := by decide +kernel
theorem dX5_newVariable_4 : decode cX5_newVariable 4 = .ok (.aload_n 0, 1) := by decide +kernel
theorem dX5_newVariable_5 : decode cX5_newVariable 5 = .ok (.getfield 24, 3) := by decide +kernel
theorem dX5_newVariable_8 : decode cX5_newVariable 8 = .ok (.invokestatic 37, 3) := by decide +kernel
theorem dX5_newVariable_11 : decode cX5_newVariable 11 = .ok (.ifCond .ne 5, 3) := by decide +kernel
theorem dX5_newVariable_14 : decode cX5_newVariable 14 = .ok (.iconst (-1), 1) := by decide +kernel
theorem dX5_newVariable_15 : decode cX5_newVariable 15 = .ok (.ireturn, 1) := by decide +kernel
theorem dX5_newVariable_16 : decode cX5_newVariable 16 = .ok (.aload_n 0, 1) := by decide +kernel
theorem dX5_newVariable_17 : decode cX5_newVariable 17 = .ok (.getfield 9, 3) := by decide +kernel
theorem dX5_newVariable_20 : decode cX5_newVariable 20 = .ok (.aload_n 0, 1) := by decide +kernel
theorem dX5_newVariable_21 : decode cX5_newVariable 21 = .ok (.getfield 24, 3) := by decide +kernel
theorem dX5_newVariable_24 : decode cX5_newVariable 24 = .ok (.iload_n 1, 1) := by decide +kernel
theorem dX5_newVariable_25 : decode cX5_newVariable 25 = .ok (.iastore, 1) := by decide +kernel
theorem dX5_newVariable_26 : decode cX5_newVariable 26 = .ok (.aload_n 0, 1) := by decide +kernel
theorem dX5_newVariable_27 : decode cX5_newVariable 27 = .ok (.dup, 1) := by decide +kernel
theorem dX5_newVariable_28 : decode cX5_newVariable 28 = .ok (.getfield 24, 3) := by decide +kernel
theorem dX5_newVariable_31 : decode cX5_newVariable 31 = .ok (.iconst 1, 1) := by decide +kernel
theorem dX5_newVariable_32 : decode cX5_newVariable 32 = .ok (.iadd, 1) := by decide +kernel
theorem dX5_newVariable_33 : decode cX5_newVariable 33 = .ok (.putfield 24, 3) := by decide +kernel
theorem dX5_newVariable_36 : decode cX5_newVariable 36 = .ok (.aload_n 0, 1) := by decide +kernel
theorem dX5_newVariable_37 : decode cX5_newVariable 37 = .ok (.getfield 24, 3) := by decide +kernel
theorem dX5_newVariable_40 : decode cX5_newVariable 40 = .ok (.iconst 1, 1) := by decide +kernel
theorem dX5_newVariable_41 : decode cX5_newVariable 41 = .ok (.isub, 1) := by decide +kernel
theorem dX5_newVariable_42 : decode cX5_newVariable 42 = .ok (.ireturn, 1) := by decide +kernel
set_option maxRecDepth 20000 in
theorem ggX5_insertLine_X5_isLineOrEnd : GoodIn wsX5_insertLine wsX5_isLineOrEnd := goodIn_r _ [9, 1, 18, 19, 20, 21, 22, 23] (by decide +kernel) (by decide +kernel)
set_option maxRecDepth 20000 in
theorem gX5_insertLine_X5_isLineOrEnd : GoodIn wsX5_insertLine (wsV RX5 41 RX5 yX5_isLineOrEnd wsX5_isLineOrEnd) := goodIn_app (goodIn_of _ (by decide +kernel)) ggX5_insertLine_X5_isLineOrEnd
set_option maxRecDepth 20000 in
theorem ggX5_insertLine_X5_setLine : GoodIn wsX5_insertLine wsX5_setLine := goodIn_r _ [13, 2, 3, 4, 14, 15, 16, 8, 17, 1, 18, 19, 20, 21, 22, 23] (by decide +kernel) (by decide +kernel)
set_option maxRecDepth 20000 in
theorem gX5_insertLine_X5_setLine : GoodIn wsX5_insertLine (wsV RX5 45 RX5 yX5_setLine wsX5_setLine) := goodIn_app (goodIn_of _ (by decide +kernel)) ggX5_insertLine_X5_setLine
theorem dX5_insertLine_0 : decode cX5_insertLine 0 = .ok (.aload_n 0, 1) := by decide +kernel
theorem dX5_insertLine_1 : decode cX5_insertLine 1 = .ok (.iload_n 1, 1) := by decide +kernel
theorem dX5_insertLine_2 : decode cX5_insertLine 2 = .ok (.invokevirtual 41, 3) := by decide +kernel
theorem dX5_insertLine_5 : decode cX5_insertLine 5 = .ok (.ifCond .eq 12, 3) := by decide +kernel
theorem dX5_insertLine_8 : decode cX5_insertLine 8 = .ok (.aload_n 0, 1) := by decide +kernel
theorem dX5_insertLine_9 : decode cX5_insertLine 9 = .ok (.getfield 28, 3) := by decide +kernel
theorem dX5_insertLine_12 : decode cX5_insertLine 12 = .ok (.bipush 33, 2) := by decide +kernel
theorem dX5_insertLine_14 : decode cX5_insertLine 14 = .ok (.if_icmp .lt 4, 3) := by decide +kernel
theorem dX5_insertLine_17 : decode cX5_insertLine 17 = .ok (.return_, 1) := by decide +kernel
theorem dX5_insertLine_18 : decode cX5_insertLine 18 = .ok (.aload_n 0, 1) := by decide +kernel
theorem dX5_insertLine_19 : decode cX5_insertLine 19 = .ok (.getfield 28, 3) := by decide +kernel
theorem dX5_insertLine_22 : decode cX5_insertLine 22 = .ok (.istore 5, 2) := by decide +kernel
theorem dX5_insertLine_24 : decode cX5_insertLine 24 = .ok (.iload 5, 2) := by decide +kernel
theorem dX5_insertLine_26 : decode cX5_insertLine 26 = .ok (.iload_n 1, 1) := by decide +kernel
theorem dX5_insertLine_27 : decode cX5_insertLine 27 = .ok (.if_icmp .le 57, 3) := by decide +kernel
theorem dX5_insertLine_30 : decode cX5_insertLine 30 = .ok (.aload_n 0, 1) := by decide +kernel
theorem dX5_insertLine_31 : decode cX5_insertLine 31 = .ok (.getfield 15, 3) := by decide +kernel
theorem dX5_insertLine_34 : decode cX5_insertLine 34 = .ok (.iload 5, 2) := by decide +kernel
theorem dX5_insertLine_36 : decode cX5_insertLine 36 = .ok (.aload_n 0, 1) := by decide +kernel
theorem dX5_insertLine_37 : decode cX5_insertLine 37 = .ok (.getfield 15, 3) := by decide +kernel
theorem dX5_insertLine_40 : decode cX5_insertLine 40 = .ok (.iload 5, 2) := by decide +kernel
theorem dX5_insertLine_42 : decode cX5_insertLine 42 = .ok (.iconst 1, 1) := by decide +kernel
theorem dX5_insertLine_43 : decode cX5_insertLine 43 = .ok (.isub, 1) := by decide +kernel
theorem dX5_insertLine_44 : decode cX5_insertLine 44 = .ok (.iaload, 1) := by decide +kernel
theorem dX5_insertLine_45 : decode cX5_insertLine 45 = .ok (.iastore, 1) := by decide +kernel
theorem dX5_insertLine_46 : decode cX5_insertLine 46 = .ok (.aload_n 0, 1) := by decide +kernel
theorem dX5_insertLine_47 : decode cX5_insertLine 47 = .ok (.getfield 18, 3) := by decide +kernel
theorem dX5_insertLine_50 : decode cX5_insertLine 50 = .ok (.iload 5, 2) := by decide +kernel
theorem dX5_insertLine_52 : decode cX5_insertLine 52 = .ok (.aload_n 0, 1) := by decide +kernel
theorem dX5_insertLine_53 : decode cX5_insertLine 53 = .ok (.getfield 18, 3) := by decide +kernel
theorem dX5_insertLine_56 : decode cX5_insertLine 56 = .ok (.iload 5, 2) := by decide +kernel
theorem dX5_insertLine_58 : decode cX5_insertLine 58 = .ok (.iconst 1, 1) := by decide +kernel
theorem dX5_insertLine_59 : decode cX5_insertLine 59 = .ok (.isub, 1) := by decide +kernel
theorem dX5_insertLine_60 : decode cX5_insertLine 60 = .ok (.iaload, 1) := by decide +kernel
theorem dX5_insertLine_61 : decode cX5_insertLine 61 = .ok (.iastore, 1) := by decide +kernel
theorem dX5_insertLine_62 : decode cX5_insertLine 62 = .ok (.aload_n 0, 1) := by decide +kernel
theorem dX5_insertLine_63 : decode cX5_insertLine 63 = .ok (.getfield 21, 3) := by decide +kernel
theorem dX5_insertLine_66 : decode cX5_insertLine 66 = .ok (.iload 5, 2) := by decide +kernel
theorem dX5_insertLine_68 : decode cX5_insertLine 68 = .ok (.aload_n 0, 1) := by decide +kernel
theorem dX5_insertLine_69 : decode cX5_insertLine 69 = .ok (.getfield 21, 3) := by decide +kernel
theorem dX5_insertLine_72 : decode cX5_insertLine 72 = .ok (.iload 5, 2) := by decide +kernel
theorem dX5_insertLine_74 : decode cX5_insertLine 74 = .ok (.iconst 1, 1) := by decide +kernel
theorem dX5_insertLine_75 : decode cX5_insertLine 75 = .ok (.isub, 1) := by decide +kernel
theorem dX5_insertLine_76 : decode cX5_insertLine 76 = .ok (.iaload, 1) := by decide +kernel
theorem dX5_insertLine_77 : decode cX5_insertLine 77 = .ok (.iastore, 1) := by decide +kernel
theorem dX5_insertLine_78 : decode cX5_insertLine 78 = .ok (.iinc 5 (-1), 3) := by decide +kernel
theorem dX5_insertLine_81 : decode cX5_insertLine 81 = .ok (.goto (-57), 3) := by decide +kernel
theorem dX5_insertLine_84 : decode cX5_insertLine 84 = .ok (.aload_n 0, 1) := by decide +kernel
theorem dX5_insertLine_85 : decode cX5_insertLine 85 = .ok (.dup, 1) := by decide +kernel
theorem dX5_insertLine_86 : decode cX5_insertLine 86 = .ok (.getfield 28, 3) := by decide +kernel
theorem dX5_insertLine_89 : decode cX5_insertLine 89 = .ok (.iconst 1, 1) := by decide +kernel
theorem dX5_insertLine_90 : decode cX5_insertLine 90 = .ok (.iadd, 1) := by decide +kernel
theorem dX5_insertLine_91 : decode cX5_insertLine 91 = .ok (.putfield 28, 3) := by decide +kernel
theorem dX5_insertLine_94 : decode cX5_insertLine 94 = .ok (.aload_n 0, 1) := by decide +kernel
theorem dX5_insertLine_95 : decode cX5_insertLine 95 = .ok (.iload_n 1, 1) := by decide +kernel
theorem dX5_insertLine_96 : decode cX5_insertLine 96 = .ok (.iload_n 2, 1) := by decide +kernel
theorem dX5_insertLine_97 : decode cX5_insertLine 97 = .ok (.iload_n 3, 1) := by decide +kernel
theorem dX5_insertLine_98 : decode cX5_insertLine 98 = .ok (.iload 4, 2) := by decide +kernel
theorem dX5_insertLine_100 : decode cX5_insertLine 100 = .ok (.invokevirtual 45, 3) := by decide +kernel
theorem dX5_insertLine_103 : decode cX5_insertLine 103 = .ok (.return_, 1) := by decide +kernel
set_option maxRecDepth 20000 in
theorem ggX5_removeLine_X5_isLine : GoodIn wsX5_removeLine wsX5_isLine := goodIn_r _ [9, 1, 10, 11, 12, 13, 14, 15] (by decide +kernel) (by decide +kernel)
set_option maxRecDepth 20000 in
theorem gX5_removeLine_X5_isLine : GoodIn wsX5_removeLine (wsV RX5 49 RX5 yX5_isLine wsX5_isLine) := goodIn_app (goodIn_of _ (by decide +kernel)) ggX5_removeLine_X5_isLine
theorem dX5_removeLine_0 : decode cX5_removeLine 0 = .ok (.aload_n 0, 1) := by decide +kernel
theorem dX5_removeLine_1 : decode cX5_removeLine 1 = .ok (.iload_n 1, 1) := by decide +kernel
theorem dX5_removeLine_2 : decode cX5_removeLine 2 = .ok (.invokevirtual 49, 3) := by decide +kernel
theorem dX5_removeLine_5 : decode cX5_removeLine 5 = .ok (.ifCond .ne 4, 3) := by decide +kernel
theorem dX5_removeLine_8 : decode cX5_removeLine 8 = .ok (.return_, 1) := by decide +kernel
theorem dX5_removeLine_9 : decode cX5_removeLine 9 = .ok (.aload_n 0, 1) := by decide +kernel
theorem dX5_removeLine_10 : decode cX5_removeLine 10 = .ok (.dup, 1) := by decide +kernel
theorem dX5_removeLine_11 : decode cX5_removeLine 11 = .ok (.getfield 28, 3) := by decide +kernel
theorem dX5_removeLine_14 : decode cX5_removeLine 14 = .ok (.iconst 1, 1) := by decide +kernel
theorem dX5_removeLine_15 : decode cX5_removeLine 15 = .ok (.isub, 1) := by decide +kernel
theorem dX5_removeLine_16 : decode cX5_removeLine 16 = .ok (.putfield 28, 3) := by decide +kernel
theorem dX5_removeLine_19 : decode cX5_removeLine 19 = .ok (.iload_n 1, 1) := by decide +kernel
theorem dX5_removeLine_20 : decode cX5_removeLine 20 = .ok (.istore_n 2, 1) := by decide +kernel
theorem dX5_removeLine_21 : decode cX5_removeLine 21 = .ok (.iload_n 2, 1) := by decide +kernel
theorem dX5_removeLine_22 : decode cX5_removeLine 22 = .ok (.aload_n 0, 1) := by decide +kernel
theorem dX5_removeLine_23 : decode cX5_removeLine 23 = .ok (.getfield 28, 3) := by decide +kernel
theorem dX5_removeLine_26 : decode cX5_removeLine 26 = .ok (.if_icmp .ge 51, 3) := by decide +kernel
theorem dX5_removeLine_29 : decode cX5_removeLine 29 = .ok (.aload_n 0, 1) := by decide +kernel
theorem dX5_removeLine_30 : decode cX5_removeLine 30 = .ok (.getfield 15, 3) := by decide +kernel
theorem dX5_removeLine_33 : decode cX5_removeLine 33 = .ok (.iload_n 2, 1) := by decide +kernel
theorem dX5_removeLine_34 : decode cX5_removeLine 34 = .ok (.aload_n 0, 1) := by decide +kernel
theorem dX5_removeLine_35 : decode cX5_removeLine 35 = .ok (.getfield 15, 3) := by decide +kernel
theorem dX5_removeLine_38 : decode cX5_removeLine 38 = .ok (.iload_n 2, 1) := by decide +kernel
theorem dX5_removeLine_39 : decode cX5_removeLine 39 = .ok (.iconst 1, 1) := by decide +kernel
theorem dX5_removeLine_40 : decode cX5_removeLine 40 = .ok (.iadd, 1) := by decide +kernel
theorem dX5_removeLine_41 : decode cX5_removeLine 41 = .ok (.iaload, 1) := by decide +kernel
theorem dX5_removeLine_42 : decode cX5_removeLine 42 = .ok (.iastore, 1) := by decide +kernel
theorem dX5_removeLine_43 : decode cX5_removeLine 43 = .ok (.aload_n 0, 1) := by decide +kernel
theorem dX5_removeLine_44 : decode cX5_removeLine 44 = .ok (.getfield 18, 3) := by decide +kernel
theorem dX5_removeLine_47 : decode cX5_removeLine 47 = .ok (.iload_n 2, 1) := by decide +kernel
theorem dX5_removeLine_48 : decode cX5_removeLine 48 = .ok (.aload_n 0, 1) := by decide +kernel
theorem dX5_removeLine_49 : decode cX5_removeLine 49 = .ok (.getfield 18, 3) := by decide +kernel
theorem dX5_removeLine_52 : decode cX5_removeLine 52 = .ok (.iload_n 2, 1) := by decide +kernel
theorem dX5_removeLine_53 : decode cX5_removeLine 53 = .ok (.iconst 1, 1) := by decide +kernel
theorem dX5_removeLine_54 : decode cX5_removeLine 54 = .ok (.iadd, 1) := by decide +kernel
theorem dX5_removeLine_55 : decode cX5_removeLine 55 = .ok (.iaload, 1) := by decide +kernel
theorem dX5_removeLine_56 : decode cX5_removeLine 56 = .ok (.iastore, 1) := by decide +kernel
theorem dX5_removeLine_57 : decode cX5_removeLine 57 = .ok (.aload_n 0, 1) := by decide +kernel
theorem dX5_removeLine_58 : decode cX5_removeLine 58 = .ok (.getfield 21, 3) := by decide +kernel
theorem dX5_removeLine_61 : decode cX5_removeLine 61 = .ok (.iload_n 2, 1) := by decide +kernel
theorem dX5_removeLine_62 : decode cX5_removeLine 62 = .ok (.aload_n 0, 1) := by decide +kernel
theorem dX5_removeLine_63 : decode cX5_removeLine 63 = .ok (.getfield 21, 3) := by decide +kernel
theorem dX5_removeLine_66 : decode cX5_removeLine 66 = .ok (.iload_n 2, 1) := by decide +kernel
theorem dX5_removeLine_67 : decode cX5_removeLine 67 = .ok (.iconst 1, 1) := by decide +kernel
theorem dX5_removeLine_68 : decode cX5_removeLine 68 = .ok (.iadd, 1) := by decide +kernel
theorem dX5_removeLine_69 : decode cX5_removeLine 69 = .ok (.iaload, 1) := by decide +kernel
theorem dX5_removeLine_70 : decode cX5_removeLine 70 = .ok (.iastore, 1) := by decide +kernel
theorem dX5_removeLine_71 : decode cX5_removeLine 71 = .ok (.iinc 2 1, 3) := by decide +kernel
theorem dX5_removeLine_74 : decode cX5_removeLine 74 = .ok (.goto (-53), 3) := by decide +kernel
theorem dX5_removeLine_77 : decode cX5_removeLine 77 = .ok (.return_, 1) := by decide +kernel
set_option maxRecDepth 20000 in
theorem ggX5_setLine_X5_isLine : GoodIn wsX5_setLine wsX5_isLine := goodIn_r _ [8, 9, 10, 11, 12, 13, 14, 15] (by decide +kernel) (by decide +kernel)
set_option maxRecDepth 20000 in
theorem gX5_setLine_X5_isLine : GoodIn wsX5_setLine (wsV RX5 49 RX5 yX5_isLine wsX5_isLine) := goodIn_app (goodIn_of _ (by decide +kernel)) ggX5_setLine_X5_isLine
theorem dX5_setLine_0 : decode cX5_setLine 0 = .ok (.aload_n 0, 1) := by decide +kernel
theorem dX5_setLine_1 : decode cX5_setLine 1 = .ok (.iload_n 1, 1) := by decide +kernel
theorem dX5_setLine_2 : decode cX5_setLine 2 = .ok (.invokevirtual 49, 3) := by decide +kernel
theorem dX5_setLine_5 : decode cX5_setLine 5 = .ok (.ifCond .eq 25, 3) := by decide +kernel
theorem dX5_setLine_8 : decode cX5_setLine 8 = .ok (.aload_n 0, 1) := by decide +kernel
theorem dX5_setLine_9 : decode cX5_setLine 9 = .ok (.getfield 15, 3) := by decide +kernel
theorem dX5_setLine_12 : decode cX5_setLine 12 = .ok (.iload_n 1, 1) := by decide +kernel
theorem dX5_setLine_13 : decode cX5_setLine 13 = .ok (.iload_n 2, 1) := by decide +kernel
theorem dX5_setLine_14 : decode cX5_setLine 14 = .ok (.iastore, 1) := by decide +kernel
theorem dX5_setLine_15 : decode cX5_setLine 15 = .ok (.aload_n 0, 1) := by decide +kernel
theorem dX5_setLine_16 : decode cX5_setLine 16 = .ok (.getfield 18, 3) := by decide +kernel
theorem dX5_setLine_19 : decode cX5_setLine 19 = .ok (.iload_n 1, 1) := by decide +kernel
theorem dX5_setLine_20 : decode cX5_setLine 20 = .ok (.iload_n 3, 1) := by decide +kernel
theorem dX5_setLine_21 : decode cX5_setLine 21 = .ok (.iastore, 1) := by decide +kernel
theorem dX5_setLine_22 : decode cX5_setLine 22 = .ok (.aload_n 0, 1) := by decide +kernel
theorem dX5_setLine_23 : decode cX5_setLine 23 = .ok (.getfield 21, 3) := by decide +kernel
theorem dX5_setLine_26 : decode cX5_setLine 26 = .ok (.iload_n 1, 1) := by decide +kernel
theorem dX5_setLine_27 : decode cX5_setLine 27 = .ok (.iload 4, 2) := by decide +kernel
theorem dX5_setLine_29 : decode cX5_setLine 29 = .ok (.iastore, 1) := by decide +kernel
theorem dX5_setLine_30 : decode cX5_setLine 30 = .ok (.return_, 1) := by decide +kernel
theorem dX5_isLine_0 : decode cX5_isLine 0 = .ok (.iload_n 1, 1) := by decide +kernel
theorem dX5_isLine_1 : decode cX5_isLine 1 = .ok (.ifCond .lt 15, 3) := by decide +kernel
theorem dX5_isLine_4 : decode cX5_isLine 4 = .ok (.iload_n 1, 1) := by decide +kernel
theorem dX5_isLine_5 : decode cX5_isLine 5 = .ok (.aload_n 0, 1) := by decide +kernel
theorem dX5_isLine_6 : decode cX5_isLine 6 = .ok (.getfield 28, 3) := by decide +kernel
theorem dX5_isLine_9 : decode cX5_isLine 9 = .ok (.if_icmp .ge 7, 3) := by decide +kernel
theorem dX5_isLine_12 : decode cX5_isLine 12 = .ok (.iconst 1, 1) := by decide +kernel
theorem dX5_isLine_13 : decode cX5_isLine 13 = .ok (.goto 4, 3) := by decide +kernel
theorem dX5_isLine_16 : decode cX5_isLine 16 = .ok (.iconst 0, 1) := by decide +kernel
theorem dX5_isLine_17 : decode cX5_isLine 17 = .ok (.ireturn, 1) := by decide +kernel
theorem dX5_isLineOrEnd_0 : decode cX5_isLineOrEnd 0 = .ok (.iload_n 1, 1) := by decide +kernel
theorem dX5_isLineOrEnd_1 : decode cX5_isLineOrEnd 1 = .ok (.ifCond .lt 15, 3) := by decide +kernel
theorem dX5_isLineOrEnd_4 : decode cX5_isLineOrEnd 4 = .ok (.iload_n 1, 1) := by decide +kernel
theorem dX5_isLineOrEnd_5 : decode cX5_isLineOrEnd 5 = .ok (.aload_n 0, 1) := by decide +kernel
theorem dX5_isLineOrEnd_6 : decode cX5_isLineOrEnd 6 = .ok (.getfield 28, 3) := by decide +kernel
theorem dX5_isLineOrEnd_9 : decode cX5_isLineOrEnd 9 = .ok (.if_icmp .gt 7, 3) := by decide +kernel
theorem dX5_isLineOrEnd_12 : decode cX5_isLineOrEnd 12 = .ok (.iconst 1, 1) := by decide +kernel
theorem dX5_isLineOrEnd_13 : decode cX5_isLineOrEnd 13 = .ok (.goto 4, 3) := by decide +kernel
theorem dX5_isLineOrEnd_16 : decode cX5_isLineOrEnd 16 = .ok (.iconst 0, 1) := by decide +kernel
theorem dX5_isLineOrEnd_17 : decode cX5_isLineOrEnd 17 = .ok (.ireturn, 1) := by decide +kernel
theorem dX5_isVariable_0 : decode cX5_isVariable 0 = .ok (.iload_n 1, 1) := by decide +kernel
theorem dX5_isVariable_1 : decode cX5_isVariable 1 = .ok (.ifCond .lt 15, 3) := by decide +kernel
theorem dX5_isVariable_4 : decode cX5_isVariable 4 = .ok (.iload_n 1, 1) := by decide +kernel
theorem dX5_isVariable_5 : decode cX5_isVariable 5 = .ok (.aload_n 0, 1) := by decide +kernel
theorem dX5_isVariable_6 : decode cX5_isVariable 6 = .ok (.getfield 24, 3) := by decide +kernel
theorem dX5_isVariable_9 : decode cX5_isVariable 9 = .ok (.if_icmp .ge 7, 3) := by decide +kernel
theorem dX5_isVariable_12 : decode cX5_isVariable 12 = .ok (.iconst 1, 1) := by decide +kernel
theorem dX5_isVariable_13 : decode cX5_isVariable 13 = .ok (.goto 4, 3) := by decide +kernel
theorem dX5_isVariable_16 : decode cX5_isVariable 16 = .ok (.iconst 0, 1) := by decide +kernel
theorem dX5_isVariable_17 : decode cX5_isVariable 17 = .ok (.ireturn, 1) := by decide +kernel
set_option maxRecDepth 20000 in
theorem ggX5_isBorrow_X5_isVariable : GoodIn wsX5_isBorrow wsX5_isVariable := goodIn_r _ [6, 7, 11, 12, 13, 14, 15, 16] (by decide +kernel) (by decide +kernel)
set_option maxRecDepth 20000 in
theorem gX5_isBorrow_X5_isVariable : GoodIn wsX5_isBorrow (wsV RX5 52 RX5 yX5_isVariable wsX5_isVariable) := goodIn_app (goodIn_of _ (by decide +kernel)) ggX5_isBorrow_X5_isVariable
set_option maxRecDepth 20000 in
theorem ggX5_isBorrow_X9_isBorrowKind : GoodIn wsX5_isBorrow wsX9_isBorrowKind := goodIn_r _ [10] (by decide +kernel) (by decide +kernel)
set_option maxRecDepth 20000 in
theorem gX5_isBorrow_X9_isBorrowKind_n55 : GoodIn wsX5_isBorrow (wsX9_isBorrowKind) := ggX5_isBorrow_X9_isBorrowKind
theorem dX5_isBorrow_0 : decode cX5_isBorrow 0 = .ok (.aload_n 0, 1) := by decide +kernel
theorem dX5_isBorrow_1 : decode cX5_isBorrow 1 = .ok (.iload_n 1, 1) := by decide +kernel
theorem dX5_isBorrow_2 : decode cX5_isBorrow 2 = .ok (.invokevirtual 52, 3) := by decide +kernel
theorem dX5_isBorrow_5 : decode cX5_isBorrow 5 = .ok (.ifCond .eq 19, 3) := by decide +kernel
theorem dX5_isBorrow_8 : decode cX5_isBorrow 8 = .ok (.aload_n 0, 1) := by decide +kernel
theorem dX5_isBorrow_9 : decode cX5_isBorrow 9 = .ok (.getfield 9, 3) := by decide +kernel
theorem dX5_isBorrow_12 : decode cX5_isBorrow 12 = .ok (.iload_n 1, 1) := by decide +kernel
theorem dX5_isBorrow_13 : decode cX5_isBorrow 13 = .ok (.iaload, 1) := by decide +kernel
theorem dX5_isBorrow_14 : decode cX5_isBorrow 14 = .ok (.invokestatic 55, 3) := by decide +kernel
theorem dX5_isBorrow_17 : decode cX5_isBorrow 17 = .ok (.ifCond .eq 7, 3) := by decide +kernel
theorem dX5_isBorrow_20 : decode cX5_isBorrow 20 = .ok (.iconst 1, 1) := by decide +kernel
theorem dX5_isBorrow_21 : decode cX5_isBorrow 21 = .ok (.goto 4, 3) := by decide +kernel
theorem dX5_isBorrow_24 : decode cX5_isBorrow 24 = .ok (.iconst 0, 1) := by decide +kernel
theorem dX5_isBorrow_25 : decode cX5_isBorrow 25 = .ok (.ireturn, 1) := by decide +kernel
set_option maxRecDepth 20000 in
theorem ggX5_sortAt_X5_isLine : GoodIn wsX5_sortAt wsX5_isLine := goodIn_r _ [6, 7, 8, 9, 10, 11, 12, 13] (by decide +kernel) (by decide +kernel)
set_option maxRecDepth 20000 in
theorem gX5_sortAt_X5_isLine : GoodIn wsX5_sortAt (wsV RX5 49 RX5 yX5_isLine wsX5_isLine) := goodIn_app (goodIn_of _ (by decide +kernel)) ggX5_sortAt_X5_isLine
theorem dX5_sortAt_0 : decode cX5_sortAt 0 = .ok (.aload_n 0, 1) := by decide +kernel
theorem dX5_sortAt_1 : decode cX5_sortAt 1 = .ok (.iload_n 1, 1) := by decide +kernel
theorem dX5_sortAt_2 : decode cX5_sortAt 2 = .ok (.invokevirtual 49, 3) := by decide +kernel
theorem dX5_sortAt_5 : decode cX5_sortAt 5 = .ok (.ifCond .eq 12, 3) := by decide +kernel
theorem dX5_sortAt_8 : decode cX5_sortAt 8 = .ok (.aload_n 0, 1) := by decide +kernel
theorem dX5_sortAt_9 : decode cX5_sortAt 9 = .ok (.getfield 15, 3) := by decide +kernel
theorem dX5_sortAt_12 : decode cX5_sortAt 12 = .ok (.iload_n 1, 1) := by decide +kernel
theorem dX5_sortAt_13 : decode cX5_sortAt 13 = .ok (.iaload, 1) := by decide +kernel
theorem dX5_sortAt_14 : decode cX5_sortAt 14 = .ok (.goto 4, 3) := by decide +kernel
theorem dX5_sortAt_17 : decode cX5_sortAt 17 = .ok (.iconst (-1), 1) := by decide +kernel
theorem dX5_sortAt_18 : decode cX5_sortAt 18 = .ok (.ireturn, 1) := by decide +kernel
set_option maxRecDepth 20000 in
theorem ggX5_aAt_X5_isLine : GoodIn wsX5_aAt wsX5_isLine := goodIn_r _ [6, 7, 8, 9, 10, 11, 12, 13] (by decide +kernel) (by decide +kernel)
set_option maxRecDepth 20000 in
theorem gX5_aAt_X5_isLine : GoodIn wsX5_aAt (wsV RX5 49 RX5 yX5_isLine wsX5_isLine) := goodIn_app (goodIn_of _ (by decide +kernel)) ggX5_aAt_X5_isLine
theorem dX5_aAt_0 : decode cX5_aAt 0 = .ok (.aload_n 0, 1) := by decide +kernel
theorem dX5_aAt_1 : decode cX5_aAt 1 = .ok (.iload_n 1, 1) := by decide +kernel
theorem dX5_aAt_2 : decode cX5_aAt 2 = .ok (.invokevirtual 49, 3) := by decide +kernel
theorem dX5_aAt_5 : decode cX5_aAt 5 = .ok (.ifCond .eq 12, 3) := by decide +kernel
theorem dX5_aAt_8 : decode cX5_aAt 8 = .ok (.aload_n 0, 1) := by decide +kernel
theorem dX5_aAt_9 : decode cX5_aAt 9 = .ok (.getfield 18, 3) := by decide +kernel
theorem dX5_aAt_12 : decode cX5_aAt 12 = .ok (.iload_n 1, 1) := by decide +kernel
theorem dX5_aAt_13 : decode cX5_aAt 13 = .ok (.iaload, 1) := by decide +kernel
theorem dX5_aAt_14 : decode cX5_aAt 14 = .ok (.goto 4, 3) := by decide +kernel
theorem dX5_aAt_17 : decode cX5_aAt 17 = .ok (.iconst (-1), 1) := by decide +kernel
theorem dX5_aAt_18 : decode cX5_aAt 18 = .ok (.ireturn, 1) := by decide +kernel
set_option maxRecDepth 20000 in
theorem ggX5_bAt_X5_isLine : GoodIn wsX5_bAt wsX5_isLine := goodIn_r _ [6, 7, 8, 9, 10, 11, 12, 13] (by decide +kernel) (by decide +kernel)
set_option maxRecDepth 20000 in
theorem gX5_bAt_X5_isLine : GoodIn wsX5_bAt (wsV RX5 49 RX5 yX5_isLine wsX5_isLine) := goodIn_app (goodIn_of _ (by decide +kernel)) ggX5_bAt_X5_isLine
theorem dX5_bAt_0 : decode cX5_bAt 0 = .ok (.aload_n 0, 1) := by decide +kernel
theorem dX5_bAt_1 : decode cX5_bAt 1 = .ok (.iload_n 1, 1) := by decide +kernel
theorem dX5_bAt_2 : decode cX5_bAt 2 = .ok (.invokevirtual 49, 3) := by decide +kernel
theorem dX5_bAt_5 : decode cX5_bAt 5 = .ok (.ifCond .eq 12, 3) := by decide +kernel
theorem dX5_bAt_8 : decode cX5_bAt 8 = .ok (.aload_n 0, 1) := by decide +kernel
theorem dX5_bAt_9 : decode cX5_bAt 9 = .ok (.getfield 21, 3) := by decide +kernel
theorem dX5_bAt_12 : decode cX5_bAt 12 = .ok (.iload_n 1, 1) := by decide +kernel
theorem dX5_bAt_13 : decode cX5_bAt 13 = .ok (.iaload, 1) := by decide +kernel
theorem dX5_bAt_14 : decode cX5_bAt 14 = .ok (.goto 4, 3) := by decide +kernel
theorem dX5_bAt_17 : decode cX5_bAt 17 = .ok (.iconst (-1), 1) := by decide +kernel
theorem dX5_bAt_18 : decode cX5_bAt 18 = .ok (.ireturn, 1) := by decide +kernel
theorem dX5_kindAt_0 : decode cX5_kindAt 0 = .ok (.iload_n 1, 1) := by decide +kernel
theorem dX5_kindAt_1 : decode cX5_kindAt 1 = .ok (.ifCond .lt 13, 3) := by decide +kernel
theorem dX5_kindAt_4 : decode cX5_kindAt 4 = .ok (.iload_n 1, 1) := by decide +kernel
theorem dX5_kindAt_5 : decode cX5_kindAt 5 = .ok (.iconst 3, 1) := by decide +kernel
theorem dX5_kindAt_6 : decode cX5_kindAt 6 = .ok (.idiv, 1) := by decide +kernel
theorem dX5_kindAt_7 : decode cX5_kindAt 7 = .ok (.aload_n 0, 1) := by decide +kernel
theorem dX5_kindAt_8 : decode cX5_kindAt 8 = .ok (.getfield 24, 3) := by decide +kernel
theorem dX5_kindAt_11 : decode cX5_kindAt 11 = .ok (.if_icmp .lt 5, 3) := by decide +kernel
theorem dX5_kindAt_14 : decode cX5_kindAt 14 = .ok (.iconst (-1), 1) := by decide +kernel
theorem dX5_kindAt_15 : decode cX5_kindAt 15 = .ok (.ireturn, 1) := by decide +kernel
theorem dX5_kindAt_16 : decode cX5_kindAt 16 = .ok (.aload_n 0, 1) := by decide +kernel
theorem dX5_kindAt_17 : decode cX5_kindAt 17 = .ok (.getfield 9, 3) := by decide +kernel
theorem dX5_kindAt_20 : decode cX5_kindAt 20 = .ok (.iload_n 1, 1) := by decide +kernel
theorem dX5_kindAt_21 : decode cX5_kindAt 21 = .ok (.iconst 3, 1) := by decide +kernel
theorem dX5_kindAt_22 : decode cX5_kindAt 22 = .ok (.idiv, 1) := by decide +kernel
theorem dX5_kindAt_23 : decode cX5_kindAt 23 = .ok (.iaload, 1) := by decide +kernel
theorem dX5_kindAt_24 : decode cX5_kindAt 24 = .ok (.istore_n 2, 1) := by decide +kernel
theorem dX5_kindAt_25 : decode cX5_kindAt 25 = .ok (.iload_n 1, 1) := by decide +kernel
theorem dX5_kindAt_26 : decode cX5_kindAt 26 = .ok (.iconst 3, 1) := by decide +kernel
theorem dX5_kindAt_27 : decode cX5_kindAt 27 = .ok (.irem, 1) := by decide +kernel
theorem dX5_kindAt_28 : decode cX5_kindAt 28 = .ok (.ifCond .ne 5, 3) := by decide +kernel
theorem dX5_kindAt_31 : decode cX5_kindAt 31 = .ok (.iload_n 2, 1) := by decide +kernel
theorem dX5_kindAt_32 : decode cX5_kindAt 32 = .ok (.ireturn, 1) := by decide +kernel
theorem dX5_kindAt_33 : decode cX5_kindAt 33 = .ok (.iload_n 2, 1) := by decide +kernel
theorem dX5_kindAt_34 : decode cX5_kindAt 34 = .ok (.iconst 2, 1) := by decide +kernel
theorem dX5_kindAt_35 : decode cX5_kindAt 35 = .ok (.if_icmp .ne 7, 3) := by decide +kernel
theorem dX5_kindAt_38 : decode cX5_kindAt 38 = .ok (.iconst 1, 1) := by decide +kernel
theorem dX5_kindAt_39 : decode cX5_kindAt 39 = .ok (.goto 4, 3) := by decide +kernel
theorem dX5_kindAt_42 : decode cX5_kindAt 42 = .ok (.iconst (-1), 1) := by decide +kernel
theorem dX5_kindAt_43 : decode cX5_kindAt 43 = .ok (.ireturn, 1) := by decide +kernel
set_option maxRecDepth 20000 in
theorem ggX5_leavesOf_X5_kindAt : GoodIn wsX5_leavesOf wsX5_kindAt := goodIn_r _ [5, 6, 7, 8, 9, 10, 11, 12, 13] (by decide +kernel) (by decide +kernel)
set_option maxRecDepth 20000 in
theorem gX5_leavesOf_X5_kindAt : GoodIn wsX5_leavesOf (wsV RX5 58 RX5 yX5_kindAt wsX5_kindAt) := goodIn_app (goodIn_of _ (by decide +kernel)) ggX5_leavesOf_X5_kindAt
theorem dX5_leavesOf_0 : decode cX5_leavesOf 0 = .ok (.aload_n 0, 1) := by decide +kernel
theorem dX5_leavesOf_1 : decode cX5_leavesOf 1 = .ok (.iload_n 1, 1) := by decide +kernel
theorem dX5_leavesOf_2 : decode cX5_leavesOf 2 = .ok (.invokevirtual 58, 3) := by decide +kernel
theorem dX5_leavesOf_5 : decode cX5_leavesOf 5 = .ok (.istore_n 2, 1) := by decide +kernel
theorem dX5_leavesOf_6 : decode cX5_leavesOf 6 = .ok (.iload_n 2, 1) := by decide +kernel
theorem dX5_leavesOf_7 : decode cX5_leavesOf 7 = .ok (.iconst (-1), 1) := by decide +kernel
theorem dX5_leavesOf_8 : decode cX5_leavesOf 8 = .ok (.if_icmp .ne 5, 3) := by decide +kernel
theorem dX5_leavesOf_11 : decode cX5_leavesOf 11 = .ok (.iconst 0, 1) := by decide +kernel
theorem dX5_leavesOf_12 : decode cX5_leavesOf 12 = .ok (.ireturn, 1) := by decide +kernel
theorem dX5_leavesOf_13 : decode cX5_leavesOf 13 = .ok (.iload_n 2, 1) := by decide +kernel
theorem dX5_leavesOf_14 : decode cX5_leavesOf 14 = .ok (.iconst 2, 1) := by decide +kernel
theorem dX5_leavesOf_15 : decode cX5_leavesOf 15 = .ok (.if_icmp .ne 10, 3) := by decide +kernel
theorem dX5_leavesOf_18 : decode cX5_leavesOf 18 = .ok (.bipush 6, 2) := by decide +kernel
theorem dX5_leavesOf_20 : decode cX5_leavesOf 20 = .ok (.iload_n 1, 1) := by decide +kernel
theorem dX5_leavesOf_21 : decode cX5_leavesOf 21 = .ok (.ishl, 1) := by decide +kernel
theorem dX5_leavesOf_22 : decode cX5_leavesOf 22 = .ok (.goto 6, 3) := by decide +kernel
theorem dX5_leavesOf_25 : decode cX5_leavesOf 25 = .ok (.iconst 1, 1) := by decide +kernel
theorem dX5_leavesOf_26 : decode cX5_leavesOf 26 = .ok (.iload_n 1, 1) := by decide +kernel
theorem dX5_leavesOf_27 : decode cX5_leavesOf 27 = .ok (.ishl, 1) := by decide +kernel
theorem dX5_leavesOf_28 : decode cX5_leavesOf 28 = .ok (.ireturn, 1) := by decide +kernel
set_option maxRecDepth 20000 in
theorem ggX5_allLeaves_X5_leavesOf : GoodIn wsX5_allLeaves wsX5_leavesOf := goodIn_r _ [6, 7, 8, 9, 5, 10, 1, 11, 12, 13, 14, 15, 16, 17] (by decide +kernel) (by decide +kernel)
set_option maxRecDepth 20000 in
theorem gX5_allLeaves_X5_leavesOf : GoodIn wsX5_allLeaves (wsV RX5 62 RX5 yX5_leavesOf wsX5_leavesOf) := goodIn_app (goodIn_of _ (by decide +kernel)) ggX5_allLeaves_X5_leavesOf
theorem dX5_allLeaves_0 : decode cX5_allLeaves 0 = .ok (.iconst 0, 1) := by decide +kernel
theorem dX5_allLeaves_1 : decode cX5_allLeaves 1 = .ok (.istore_n 1, 1) := by decide +kernel
theorem dX5_allLeaves_2 : decode cX5_allLeaves 2 = .ok (.iconst 0, 1) := by decide +kernel
theorem dX5_allLeaves_3 : decode cX5_allLeaves 3 = .ok (.istore_n 2, 1) := by decide +kernel
theorem dX5_allLeaves_4 : decode cX5_allLeaves 4 = .ok (.iload_n 2, 1) := by decide +kernel
theorem dX5_allLeaves_5 : decode cX5_allLeaves 5 = .ok (.aload_n 0, 1) := by decide +kernel
theorem dX5_allLeaves_6 : decode cX5_allLeaves 6 = .ok (.getfield 24, 3) := by decide +kernel
theorem dX5_allLeaves_9 : decode cX5_allLeaves 9 = .ok (.if_icmp .ge 19, 3) := by decide +kernel
theorem dX5_allLeaves_12 : decode cX5_allLeaves 12 = .ok (.iload_n 1, 1) := by decide +kernel
theorem dX5_allLeaves_13 : decode cX5_allLeaves 13 = .ok (.aload_n 0, 1) := by decide +kernel
theorem dX5_allLeaves_14 : decode cX5_allLeaves 14 = .ok (.iconst 3, 1) := by decide +kernel
theorem dX5_allLeaves_15 : decode cX5_allLeaves 15 = .ok (.iload_n 2, 1) := by decide +kernel
theorem dX5_allLeaves_16 : decode cX5_allLeaves 16 = .ok (.imul, 1) := by decide +kernel
theorem dX5_allLeaves_17 : decode cX5_allLeaves 17 = .ok (.invokevirtual 62, 3) := by decide +kernel
theorem dX5_allLeaves_20 : decode cX5_allLeaves 20 = .ok (.ior, 1) := by decide +kernel
theorem dX5_allLeaves_21 : decode cX5_allLeaves 21 = .ok (.istore_n 1, 1) := by decide +kernel
theorem dX5_allLeaves_22 : decode cX5_allLeaves 22 = .ok (.iinc 2 1, 3) := by decide +kernel
theorem dX5_allLeaves_25 : decode cX5_allLeaves 25 = .ok (.goto (-21), 3) := by decide +kernel
theorem dX5_allLeaves_28 : decode cX5_allLeaves 28 = .ok (.iload_n 1, 1) := by decide +kernel
theorem dX5_allLeaves_29 : decode cX5_allLeaves 29 = .ok (.ireturn, 1) := by decide +kernel
set_option maxRecDepth 20000 in
theorem ggX5_ownedLeaves_X5_kindAt : GoodIn wsX5_ownedLeaves wsX5_kindAt := goodIn_r _ [6, 1, 7, 15, 16, 17, 18, 19, 20] (by decide +kernel) (by decide +kernel)
set_option maxRecDepth 20000 in
theorem gX5_ownedLeaves_X5_kindAt : GoodIn wsX5_ownedLeaves (wsV RX5 58 RX5 yX5_kindAt wsX5_kindAt) := goodIn_app (goodIn_of _ (by decide +kernel)) ggX5_ownedLeaves_X5_kindAt
set_option maxRecDepth 20000 in
theorem ggX5_ownedLeaves_X9_isOwned : GoodIn wsX5_ownedLeaves wsX9_isOwned := goodIn_r _ [10] (by decide +kernel) (by decide +kernel)
set_option maxRecDepth 20000 in
theorem gX5_ownedLeaves_X9_isOwned_n65 : GoodIn wsX5_ownedLeaves (wsX9_isOwned) := ggX5_ownedLeaves_X9_isOwned
set_option maxRecDepth 20000 in
theorem ggX5_ownedLeaves_X5_leavesOf : GoodIn wsX5_ownedLeaves wsX5_leavesOf := goodIn_r _ [14, 2, 3, 4, 5, 6, 1, 7, 15, 16, 17, 18, 19, 20] (by decide +kernel) (by decide +kernel)
set_option maxRecDepth 20000 in
theorem gX5_ownedLeaves_X5_leavesOf : GoodIn wsX5_ownedLeaves (wsV RX5 62 RX5 yX5_leavesOf wsX5_leavesOf) := goodIn_app (goodIn_of _ (by decide +kernel)) ggX5_ownedLeaves_X5_leavesOf
theorem dX5_ownedLeaves_0 : decode cX5_ownedLeaves 0 = .ok (.iconst 0, 1) := by decide +kernel
theorem dX5_ownedLeaves_1 : decode cX5_ownedLeaves 1 = .ok (.istore_n 1, 1) := by decide +kernel
theorem dX5_ownedLeaves_2 : decode cX5_ownedLeaves 2 = .ok (.iconst 0, 1) := by decide +kernel
theorem dX5_ownedLeaves_3 : decode cX5_ownedLeaves 3 = .ok (.istore_n 2, 1) := by decide +kernel
theorem dX5_ownedLeaves_4 : decode cX5_ownedLeaves 4 = .ok (.iload_n 2, 1) := by decide +kernel
theorem dX5_ownedLeaves_5 : decode cX5_ownedLeaves 5 = .ok (.aload_n 0, 1) := by decide +kernel
theorem dX5_ownedLeaves_6 : decode cX5_ownedLeaves 6 = .ok (.getfield 24, 3) := by decide +kernel
theorem dX5_ownedLeaves_9 : decode cX5_ownedLeaves 9 = .ok (.if_icmp .ge 32, 3) := by decide +kernel
theorem dX5_ownedLeaves_12 : decode cX5_ownedLeaves 12 = .ok (.aload_n 0, 1) := by decide +kernel
theorem dX5_ownedLeaves_13 : decode cX5_ownedLeaves 13 = .ok (.iconst 3, 1) := by decide +kernel
theorem dX5_ownedLeaves_14 : decode cX5_ownedLeaves 14 = .ok (.iload_n 2, 1) := by decide +kernel
theorem dX5_ownedLeaves_15 : decode cX5_ownedLeaves 15 = .ok (.imul, 1) := by decide +kernel
theorem dX5_ownedLeaves_16 : decode cX5_ownedLeaves 16 = .ok (.invokevirtual 58, 3) := by decide +kernel
theorem dX5_ownedLeaves_19 : decode cX5_ownedLeaves 19 = .ok (.invokestatic 65, 3) := by decide +kernel
theorem dX5_ownedLeaves_22 : decode cX5_ownedLeaves 22 = .ok (.ifCond .eq 13, 3) := by decide +kernel
theorem dX5_ownedLeaves_25 : decode cX5_ownedLeaves 25 = .ok (.iload_n 1, 1) := by decide +kernel
theorem dX5_ownedLeaves_26 : decode cX5_ownedLeaves 26 = .ok (.aload_n 0, 1) := by decide +kernel
theorem dX5_ownedLeaves_27 : decode cX5_ownedLeaves 27 = .ok (.iconst 3, 1) := by decide +kernel
theorem dX5_ownedLeaves_28 : decode cX5_ownedLeaves 28 = .ok (.iload_n 2, 1) := by decide +kernel
theorem dX5_ownedLeaves_29 : decode cX5_ownedLeaves 29 = .ok (.imul, 1) := by decide +kernel
theorem dX5_ownedLeaves_30 : decode cX5_ownedLeaves 30 = .ok (.invokevirtual 62, 3) := by decide +kernel
theorem dX5_ownedLeaves_33 : decode cX5_ownedLeaves 33 = .ok (.ior, 1) := by decide +kernel
theorem dX5_ownedLeaves_34 : decode cX5_ownedLeaves 34 = .ok (.istore_n 1, 1) := by decide +kernel
theorem dX5_ownedLeaves_35 : decode cX5_ownedLeaves 35 = .ok (.iinc 2 1, 3) := by decide +kernel
theorem dX5_ownedLeaves_38 : decode cX5_ownedLeaves 38 = .ok (.goto (-34), 3) := by decide +kernel
theorem dX5_ownedLeaves_41 : decode cX5_ownedLeaves 41 = .ok (.iload_n 1, 1) := by decide +kernel
theorem dX5_ownedLeaves_42 : decode cX5_ownedLeaves 42 = .ok (.ireturn, 1) := by decide +kernel
set_option maxRecDepth 20000 in
theorem ggX5_fits_X5_kindAt : GoodIn wsX5_fits wsX5_kindAt := goodIn_r _ [5, 6, 7, 17, 18, 19, 20, 21, 22] (by decide +kernel) (by decide +kernel)
set_option maxRecDepth 20000 in
theorem gX5_fits_X5_kindAt : GoodIn wsX5_fits (wsV RX5 58 RX5 yX5_kindAt wsX5_kindAt) := goodIn_app (goodIn_of _ (by decide +kernel)) ggX5_fits_X5_kindAt
set_option maxRecDepth 20000 in
theorem ggX5_fits_X9_isBorrowKind : GoodIn wsX5_fits wsX9_isBorrowKind := goodIn_r _ [10] (by decide +kernel) (by decide +kernel)
set_option maxRecDepth 20000 in
theorem gX5_fits_X9_isBorrowKind_n55 : GoodIn wsX5_fits (wsX9_isBorrowKind) := ggX5_fits_X9_isBorrowKind
set_option maxRecDepth 20000 in
theorem ggX5_fits_X9_isSmall : GoodIn wsX5_fits wsX9_isSmall := goodIn_r _ [12] (by decide +kernel) (by decide +kernel)
set_option maxRecDepth 20000 in
theorem gX5_fits_X9_isSmall_n68 : GoodIn wsX5_fits (wsX9_isSmall) := ggX5_fits_X9_isSmall
set_option maxRecDepth 20000 in
theorem ggX5_fits_X9_isOwned : GoodIn wsX5_fits wsX9_isOwned := goodIn_r _ [14] (by decide +kernel) (by decide +kernel)
set_option maxRecDepth 20000 in
theorem gX5_fits_X9_isOwned_n65 : GoodIn wsX5_fits (wsX9_isOwned) := ggX5_fits_X9_isOwned
set_option maxRecDepth 20000 in
theorem ggX5_fits_X9_canBeLent : GoodIn wsX5_fits wsX9_canBeLent := goodIn_r _ [16] (by decide +kernel) (by decide +kernel)
set_option maxRecDepth 20000 in
theorem gX5_fits_X9_canBeLent_n71 : GoodIn wsX5_fits (wsX9_canBeLent) := ggX5_fits_X9_canBeLent
theorem dX5_fits_0 : decode cX5_fits 0 = .ok (.aload_n 0, 1) := by decide +kernel
theorem dX5_fits_1 : decode cX5_fits 1 = .ok (.iload_n 2, 1) := by decide +kernel
theorem dX5_fits_2 : decode cX5_fits 2 = .ok (.invokevirtual 58, 3) := by decide +kernel
theorem dX5_fits_5 : decode cX5_fits 5 = .ok (.istore 4, 2) := by decide +kernel
theorem dX5_fits_7 : decode cX5_fits 7 = .ok (.aload_n 0, 1) := by decide +kernel
theorem dX5_fits_8 : decode cX5_fits 8 = .ok (.iload_n 3, 1) := by decide +kernel
theorem dX5_fits_9 : decode cX5_fits 9 = .ok (.invokevirtual 58, 3) := by decide +kernel
theorem dX5_fits_12 : decode cX5_fits 12 = .ok (.istore 5, 2) := by decide +kernel
theorem dX5_fits_14 : decode cX5_fits 14 = .ok (.iload_n 1, 1) := by decide +kernel
theorem dX5_fits_15 : decode cX5_fits 15 = .ok (.tableswitch 371 0 16 #[81, 108, 135, 165, 185, 205, 221, 252, 270, 339, 285, 339, 305, 323, 323, 339, 353], 81) := by decide +kernel
theorem dX5_fits_96 : decode cX5_fits 96 = .ok (.iload 4, 2) := by decide +kernel
theorem dX5_fits_98 : decode cX5_fits 98 = .ok (.iconst (-1), 1) := by decide +kernel
theorem dX5_fits_99 : decode cX5_fits 99 = .ok (.if_icmp .eq 22, 3) := by decide +kernel
theorem dX5_fits_102 : decode cX5_fits 102 = .ok (.iload 4, 2) := by decide +kernel
theorem dX5_fits_104 : decode cX5_fits 104 = .ok (.invokestatic 55, 3) := by decide +kernel
theorem dX5_fits_107 : decode cX5_fits 107 = .ok (.ifCond .ne 14, 3) := by decide +kernel
theorem dX5_fits_110 : decode cX5_fits 110 = .ok (.iload_n 3, 1) := by decide +kernel
theorem dX5_fits_111 : decode cX5_fits 111 = .ok (.invokestatic 68, 3) := by decide +kernel
theorem dX5_fits_114 : decode cX5_fits 114 = .ok (.ifCond .eq 7, 3) := by decide +kernel
theorem dX5_fits_117 : decode cX5_fits 117 = .ok (.iconst 1, 1) := by decide +kernel
theorem dX5_fits_118 : decode cX5_fits 118 = .ok (.goto 4, 3) := by decide +kernel
theorem dX5_fits_121 : decode cX5_fits 121 = .ok (.iconst 0, 1) := by decide +kernel
theorem dX5_fits_122 : decode cX5_fits 122 = .ok (.ireturn, 1) := by decide +kernel
theorem dX5_fits_123 : decode cX5_fits 123 = .ok (.iload 4, 2) := by decide +kernel
theorem dX5_fits_125 : decode cX5_fits 125 = .ok (.iload 5, 2) := by decide +kernel
theorem dX5_fits_127 : decode cX5_fits 127 = .ok (.if_icmp .ne 21, 3) := by decide +kernel
theorem dX5_fits_130 : decode cX5_fits 130 = .ok (.iload 4, 2) := by decide +kernel
theorem dX5_fits_132 : decode cX5_fits 132 = .ok (.invokestatic 65, 3) := by decide +kernel
theorem dX5_fits_135 : decode cX5_fits 135 = .ok (.ifCond .ne 9, 3) := by decide +kernel
theorem dX5_fits_138 : decode cX5_fits 138 = .ok (.iload 4, 2) := by decide +kernel
theorem dX5_fits_140 : decode cX5_fits 140 = .ok (.iconst 4, 1) := by decide +kernel
theorem dX5_fits_141 : decode cX5_fits 141 = .ok (.if_icmp .ne 7, 3) := by decide +kernel
theorem dX5_fits_144 : decode cX5_fits 144 = .ok (.iconst 1, 1) := by decide +kernel
theorem dX5_fits_145 : decode cX5_fits 145 = .ok (.goto 4, 3) := by decide +kernel
theorem dX5_fits_148 : decode cX5_fits 148 = .ok (.iconst 0, 1) := by decide +kernel
theorem dX5_fits_149 : decode cX5_fits 149 = .ok (.ireturn, 1) := by decide +kernel
theorem dX5_fits_150 : decode cX5_fits 150 = .ok (.iload 4, 2) := by decide +kernel
theorem dX5_fits_152 : decode cX5_fits 152 = .ok (.iload 5, 2) := by decide +kernel
theorem dX5_fits_154 : decode cX5_fits 154 = .ok (.if_icmp .ne 24, 3) := by decide +kernel
theorem dX5_fits_157 : decode cX5_fits 157 = .ok (.iload 4, 2) := by decide +kernel
theorem dX5_fits_159 : decode cX5_fits 159 = .ok (.ifCond .eq 15, 3) := by decide +kernel
theorem dX5_fits_162 : decode cX5_fits 162 = .ok (.iload 4, 2) := by decide +kernel
theorem dX5_fits_164 : decode cX5_fits 164 = .ok (.iconst 3, 1) := by decide +kernel
theorem dX5_fits_165 : decode cX5_fits 165 = .ok (.if_icmp .eq 9, 3) := by decide +kernel
theorem dX5_fits_168 : decode cX5_fits 168 = .ok (.iload 4, 2) := by decide +kernel
theorem dX5_fits_170 : decode cX5_fits 170 = .ok (.iconst 5, 1) := by decide +kernel
theorem dX5_fits_171 : decode cX5_fits 171 = .ok (.if_icmp .ne 7, 3) := by decide +kernel
theorem dX5_fits_174 : decode cX5_fits 174 = .ok (.iconst 1, 1) := by decide +kernel
theorem dX5_fits_175 : decode cX5_fits 175 = .ok (.goto 4, 3) := by decide +kernel
theorem dX5_fits_178 : decode cX5_fits 178 = .ok (.iconst 0, 1) := by decide +kernel
theorem dX5_fits_179 : decode cX5_fits 179 = .ok (.ireturn, 1) := by decide +kernel
theorem dX5_fits_180 : decode cX5_fits 180 = .ok (.iload 4, 2) := by decide +kernel
theorem dX5_fits_182 : decode cX5_fits 182 = .ok (.iconst 3, 1) := by decide +kernel
theorem dX5_fits_183 : decode cX5_fits 183 = .ok (.if_icmp .ne 15, 3) := by decide +kernel
theorem dX5_fits_186 : decode cX5_fits 186 = .ok (.iload 5, 2) := by decide +kernel
theorem dX5_fits_188 : decode cX5_fits 188 = .ok (.invokestatic 71, 3) := by decide +kernel
theorem dX5_fits_191 : decode cX5_fits 191 = .ok (.ifCond .eq 7, 3) := by decide +kernel
theorem dX5_fits_194 : decode cX5_fits 194 = .ok (.iconst 1, 1) := by decide +kernel
theorem dX5_fits_195 : decode cX5_fits 195 = .ok (.goto 4, 3) := by decide +kernel
theorem dX5_fits_198 : decode cX5_fits 198 = .ok (.iconst 0, 1) := by decide +kernel
theorem dX5_fits_199 : decode cX5_fits 199 = .ok (.ireturn, 1) := by decide +kernel
theorem dX5_fits_200 : decode cX5_fits 200 = .ok (.iload 4, 2) := by decide +kernel
theorem dX5_fits_202 : decode cX5_fits 202 = .ok (.iconst 4, 1) := by decide +kernel
theorem dX5_fits_203 : decode cX5_fits 203 = .ok (.if_icmp .ne 15, 3) := by decide +kernel
theorem dX5_fits_206 : decode cX5_fits 206 = .ok (.iload 5, 2) := by decide +kernel
theorem dX5_fits_208 : decode cX5_fits 208 = .ok (.invokestatic 71, 3) := by decide +kernel
theorem dX5_fits_211 : decode cX5_fits 211 = .ok (.ifCond .eq 7, 3) := by decide +kernel
theorem dX5_fits_214 : decode cX5_fits 214 = .ok (.iconst 1, 1) := by decide +kernel
theorem dX5_fits_215 : decode cX5_fits 215 = .ok (.goto 4, 3) := by decide +kernel
theorem dX5_fits_218 : decode cX5_fits 218 = .ok (.iconst 0, 1) := by decide +kernel
theorem dX5_fits_219 : decode cX5_fits 219 = .ok (.ireturn, 1) := by decide +kernel
theorem dX5_fits_220 : decode cX5_fits 220 = .ok (.iload 4, 2) := by decide +kernel
theorem dX5_fits_222 : decode cX5_fits 222 = .ok (.iconst (-1), 1) := by decide +kernel
theorem dX5_fits_223 : decode cX5_fits 223 = .ok (.if_icmp .eq 11, 3) := by decide +kernel
theorem dX5_fits_226 : decode cX5_fits 226 = .ok (.iload_n 3, 1) := by decide +kernel
theorem dX5_fits_227 : decode cX5_fits 227 = .ok (.ifCond .ne 7, 3) := by decide +kernel
theorem dX5_fits_230 : decode cX5_fits 230 = .ok (.iconst 1, 1) := by decide +kernel
theorem dX5_fits_231 : decode cX5_fits 231 = .ok (.goto 4, 3) := by decide +kernel
theorem dX5_fits_234 : decode cX5_fits 234 = .ok (.iconst 0, 1) := by decide +kernel
theorem dX5_fits_235 : decode cX5_fits 235 = .ok (.ireturn, 1) := by decide +kernel
theorem dX5_fits_236 : decode cX5_fits 236 = .ok (.iload 4, 2) := by decide +kernel
theorem dX5_fits_238 : decode cX5_fits 238 = .ok (.iconst (-1), 1) := by decide +kernel
theorem dX5_fits_239 : decode cX5_fits 239 = .ok (.if_icmp .eq 26, 3) := by decide +kernel
theorem dX5_fits_242 : decode cX5_fits 242 = .ok (.iload 4, 2) := by decide +kernel
theorem dX5_fits_244 : decode cX5_fits 244 = .ok (.iconst 2, 1) := by decide +kernel
theorem dX5_fits_245 : decode cX5_fits 245 = .ok (.if_icmp .eq 20, 3) := by decide +kernel
theorem dX5_fits_248 : decode cX5_fits 248 = .ok (.iload 4, 2) := by decide +kernel
theorem dX5_fits_250 : decode cX5_fits 250 = .ok (.iconst 3, 1) := by decide +kernel
theorem dX5_fits_251 : decode cX5_fits 251 = .ok (.if_icmp .eq 14, 3) := by decide +kernel
theorem dX5_fits_254 : decode cX5_fits 254 = .ok (.iload_n 3, 1) := by decide +kernel
theorem dX5_fits_255 : decode cX5_fits 255 = .ok (.invokestatic 68, 3) := by decide +kernel
theorem dX5_fits_258 : decode cX5_fits 258 = .ok (.ifCond .eq 7, 3) := by decide +kernel
theorem dX5_fits_261 : decode cX5_fits 261 = .ok (.iconst 1, 1) := by decide +kernel
theorem dX5_fits_262 : decode cX5_fits 262 = .ok (.goto 4, 3) := by decide +kernel
theorem dX5_fits_265 : decode cX5_fits 265 = .ok (.iconst 0, 1) := by decide +kernel
theorem dX5_fits_266 : decode cX5_fits 266 = .ok (.ireturn, 1) := by decide +kernel
theorem dX5_fits_267 : decode cX5_fits 267 = .ok (.iload 4, 2) := by decide +kernel
theorem dX5_fits_269 : decode cX5_fits 269 = .ok (.invokestatic 65, 3) := by decide +kernel
theorem dX5_fits_272 : decode cX5_fits 272 = .ok (.ifCond .eq 11, 3) := by decide +kernel
theorem dX5_fits_275 : decode cX5_fits 275 = .ok (.iload_n 3, 1) := by decide +kernel
theorem dX5_fits_276 : decode cX5_fits 276 = .ok (.ifCond .ne 7, 3) := by decide +kernel
theorem dX5_fits_279 : decode cX5_fits 279 = .ok (.iconst 1, 1) := by decide +kernel
theorem dX5_fits_280 : decode cX5_fits 280 = .ok (.goto 4, 3) := by decide +kernel
theorem dX5_fits_283 : decode cX5_fits 283 = .ok (.iconst 0, 1) := by decide +kernel
theorem dX5_fits_284 : decode cX5_fits 284 = .ok (.ireturn, 1) := by decide +kernel
theorem dX5_fits_285 : decode cX5_fits 285 = .ok (.iload 4, 2) := by decide +kernel
theorem dX5_fits_287 : decode cX5_fits 287 = .ok (.ifCond .ne 11, 3) := by decide +kernel
theorem dX5_fits_290 : decode cX5_fits 290 = .ok (.iload_n 3, 1) := by decide +kernel
theorem dX5_fits_291 : decode cX5_fits 291 = .ok (.ifCond .ne 7, 3) := by decide +kernel
theorem dX5_fits_294 : decode cX5_fits 294 = .ok (.iconst 1, 1) := by decide +kernel
theorem dX5_fits_295 : decode cX5_fits 295 = .ok (.goto 4, 3) := by decide +kernel
theorem dX5_fits_298 : decode cX5_fits 298 = .ok (.iconst 0, 1) := by decide +kernel
theorem dX5_fits_299 : decode cX5_fits 299 = .ok (.ireturn, 1) := by decide +kernel
theorem dX5_fits_300 : decode cX5_fits 300 = .ok (.iload_n 2, 1) := by decide +kernel
theorem dX5_fits_301 : decode cX5_fits 301 = .ok (.iconst 1, 1) := by decide +kernel
theorem dX5_fits_302 : decode cX5_fits 302 = .ok (.if_icmp .lt 16, 3) := by decide +kernel
theorem dX5_fits_305 : decode cX5_fits 305 = .ok (.iload_n 2, 1) := by decide +kernel
theorem dX5_fits_306 : decode cX5_fits 306 = .ok (.iconst 4, 1) := by decide +kernel
theorem dX5_fits_307 : decode cX5_fits 307 = .ok (.if_icmp .gt 11, 3) := by decide +kernel
theorem dX5_fits_310 : decode cX5_fits 310 = .ok (.iload_n 3, 1) := by decide +kernel
theorem dX5_fits_311 : decode cX5_fits 311 = .ok (.ifCond .ne 7, 3) := by decide +kernel
theorem dX5_fits_314 : decode cX5_fits 314 = .ok (.iconst 1, 1) := by decide +kernel
theorem dX5_fits_315 : decode cX5_fits 315 = .ok (.goto 4, 3) := by decide +kernel
theorem dX5_fits_318 : decode cX5_fits 318 = .ok (.iconst 0, 1) := by decide +kernel
theorem dX5_fits_319 : decode cX5_fits 319 = .ok (.ireturn, 1) := by decide +kernel
theorem dX5_fits_320 : decode cX5_fits 320 = .ok (.iload 4, 2) := by decide +kernel
theorem dX5_fits_322 : decode cX5_fits 322 = .ok (.iconst 5, 1) := by decide +kernel
theorem dX5_fits_323 : decode cX5_fits 323 = .ok (.if_icmp .ne 13, 3) := by decide +kernel
theorem dX5_fits_326 : decode cX5_fits 326 = .ok (.iload 5, 2) := by decide +kernel
theorem dX5_fits_328 : decode cX5_fits 328 = .ok (.iconst 5, 1) := by decide +kernel
theorem dX5_fits_329 : decode cX5_fits 329 = .ok (.if_icmp .ne 7, 3) := by decide +kernel
theorem dX5_fits_332 : decode cX5_fits 332 = .ok (.iconst 1, 1) := by decide +kernel
theorem dX5_fits_333 : decode cX5_fits 333 = .ok (.goto 4, 3) := by decide +kernel
theorem dX5_fits_336 : decode cX5_fits 336 = .ok (.iconst 0, 1) := by decide +kernel
theorem dX5_fits_337 : decode cX5_fits 337 = .ok (.ireturn, 1) := by decide +kernel
theorem dX5_fits_338 : decode cX5_fits 338 = .ok (.iload 4, 2) := by decide +kernel
theorem dX5_fits_340 : decode cX5_fits 340 = .ok (.iconst 5, 1) := by decide +kernel
theorem dX5_fits_341 : decode cX5_fits 341 = .ok (.if_icmp .ne 11, 3) := by decide +kernel
theorem dX5_fits_344 : decode cX5_fits 344 = .ok (.iload_n 3, 1) := by decide +kernel
theorem dX5_fits_345 : decode cX5_fits 345 = .ok (.ifCond .ne 7, 3) := by decide +kernel
theorem dX5_fits_348 : decode cX5_fits 348 = .ok (.iconst 1, 1) := by decide +kernel
theorem dX5_fits_349 : decode cX5_fits 349 = .ok (.goto 4, 3) := by decide +kernel
theorem dX5_fits_352 : decode cX5_fits 352 = .ok (.iconst 0, 1) := by decide +kernel
theorem dX5_fits_353 : decode cX5_fits 353 = .ok (.ireturn, 1) := by decide +kernel
theorem dX5_fits_354 : decode cX5_fits 354 = .ok (.iload_n 2, 1) := by decide +kernel
theorem dX5_fits_355 : decode cX5_fits 355 = .ok (.ifCond .ne 11, 3) := by decide +kernel
theorem dX5_fits_358 : decode cX5_fits 358 = .ok (.iload_n 3, 1) := by decide +kernel
theorem dX5_fits_359 : decode cX5_fits 359 = .ok (.ifCond .ne 7, 3) := by decide +kernel
theorem dX5_fits_362 : decode cX5_fits 362 = .ok (.iconst 1, 1) := by decide +kernel
theorem dX5_fits_363 : decode cX5_fits 363 = .ok (.goto 4, 3) := by decide +kernel
theorem dX5_fits_366 : decode cX5_fits 366 = .ok (.iconst 0, 1) := by decide +kernel
theorem dX5_fits_367 : decode cX5_fits 367 = .ok (.ireturn, 1) := by decide +kernel
theorem dX5_fits_368 : decode cX5_fits 368 = .ok (.iload 4, 2) := by decide +kernel
theorem dX5_fits_370 : decode cX5_fits 370 = .ok (.ifCond .ne 14, 3) := by decide +kernel
theorem dX5_fits_373 : decode cX5_fits 373 = .ok (.iload_n 3, 1) := by decide +kernel
theorem dX5_fits_374 : decode cX5_fits 374 = .ok (.invokestatic 68, 3) := by decide +kernel
theorem dX5_fits_377 : decode cX5_fits 377 = .ok (.ifCond .eq 7, 3) := by decide +kernel
theorem dX5_fits_380 : decode cX5_fits 380 = .ok (.iconst 1, 1) := by decide +kernel
theorem dX5_fits_381 : decode cX5_fits 381 = .ok (.goto 4, 3) := by decide +kernel
theorem dX5_fits_384 : decode cX5_fits 384 = .ok (.iconst 0, 1) := by decide +kernel
theorem dX5_fits_385 : decode cX5_fits 385 = .ok (.ireturn, 1) := by decide +kernel
theorem dX5_fits_386 : decode cX5_fits 386 = .ok (.iconst 0, 1) := by decide +kernel
theorem dX5_fits_387 : decode cX5_fits 387 = .ok (.ireturn, 1) := by decide +kernel
set_option maxRecDepth 20000 in
theorem ggX5_countLoans_X9_loansOf : GoodIn wsX5_countLoans wsX9_loansOf := goodIn_r _ [5] (by decide +kernel) (by decide +kernel)
set_option maxRecDepth 20000 in
theorem gX5_countLoans_X9_loansOf_n74 : GoodIn wsX5_countLoans (wsX9_loansOf) := ggX5_countLoans_X9_loansOf
theorem dX5_countLoans_0 : decode cX5_countLoans 0 = .ok (.iconst 0, 1) := by decide +kernel
theorem dX5_countLoans_1 : decode cX5_countLoans 1 = .ok (.istore_n 1, 1) := by decide +kernel
theorem dX5_countLoans_2 : decode cX5_countLoans 2 = .ok (.iconst 0, 1) := by decide +kernel
theorem dX5_countLoans_3 : decode cX5_countLoans 3 = .ok (.istore_n 2, 1) := by decide +kernel
theorem dX5_countLoans_4 : decode cX5_countLoans 4 = .ok (.iload_n 2, 1) := by decide +kernel
theorem dX5_countLoans_5 : decode cX5_countLoans 5 = .ok (.aload_n 0, 1) := by decide +kernel
theorem dX5_countLoans_6 : decode cX5_countLoans 6 = .ok (.getfield 28, 3) := by decide +kernel
theorem dX5_countLoans_9 : decode cX5_countLoans 9 = .ok (.if_icmp .ge 21, 3) := by decide +kernel
theorem dX5_countLoans_12 : decode cX5_countLoans 12 = .ok (.iload_n 1, 1) := by decide +kernel
theorem dX5_countLoans_13 : decode cX5_countLoans 13 = .ok (.aload_n 0, 1) := by decide +kernel
theorem dX5_countLoans_14 : decode cX5_countLoans 14 = .ok (.getfield 15, 3) := by decide +kernel
theorem dX5_countLoans_17 : decode cX5_countLoans 17 = .ok (.iload_n 2, 1) := by decide +kernel
theorem dX5_countLoans_18 : decode cX5_countLoans 18 = .ok (.iaload, 1) := by decide +kernel
theorem dX5_countLoans_19 : decode cX5_countLoans 19 = .ok (.invokestatic 74, 3) := by decide +kernel
theorem dX5_countLoans_22 : decode cX5_countLoans 22 = .ok (.iadd, 1) := by decide +kernel
theorem dX5_countLoans_23 : decode cX5_countLoans 23 = .ok (.istore_n 1, 1) := by decide +kernel
theorem dX5_countLoans_24 : decode cX5_countLoans 24 = .ok (.iinc 2 1, 3) := by decide +kernel
theorem dX5_countLoans_27 : decode cX5_countLoans 27 = .ok (.goto (-23), 3) := by decide +kernel
theorem dX5_countLoans_30 : decode cX5_countLoans 30 = .ok (.iload_n 1, 1) := by decide +kernel
theorem dX5_countLoans_31 : decode cX5_countLoans 31 = .ok (.ireturn, 1) := by decide +kernel
set_option maxRecDepth 20000 in
theorem ggX6_init_X7_init : GoodIn wsX6_init wsX7_init := goodIn_r _ [31, 32, 2, 3, 16, 33, 34, 35, 36, 64, 65, 66, 67] (by decide +kernel) (by decide +kernel)
set_option maxRecDepth 20000 in
theorem gX6_init_X7_init : GoodIn wsX6_init (wsX7_init) := ggX6_init_X7_init
set_option maxRecDepth 20000 in
theorem ggX6_init_X4_init : GoodIn wsX6_init wsX4_init := goodIn_r _ [39, 40, 2, 3, 16, 41, 42, 43, 14, 44, 45, 46, 68, 69, 70, 71, 72, 73] (by decide +kernel) (by decide +kernel)
set_option maxRecDepth 20000 in
theorem gX6_init_X4_init : GoodIn wsX6_init (wsX4_init) := ggX6_init_X4_init
theorem dX6_init_0 : decode cX6_init 0 = .ok (.aload_n 0, 1) := by decide +kernel
theorem dX6_init_1 : decode cX6_init 1 = .ok (.invokespecial 3, 3) := by decide +kernel
theorem dX6_init_4 : decode cX6_init 4 = .ok (.aload_n 0, 1) := by decide +kernel
theorem dX6_init_5 : decode cX6_init 5 = .ok (.aload_n 1, 1) := by decide +kernel
theorem dX6_init_6 : decode cX6_init 6 = .ok (.putfield 9, 3) := by decide +kernel
theorem dX6_init_9 : decode cX6_init 9 = .ok (.aload_n 0, 1) := by decide +kernel
theorem dX6_init_10 : decode cX6_init 10 = .ok (.aload_n 2, 1) := by decide +kernel
theorem dX6_init_11 : decode cX6_init 11 = .ok (.putfield 15, 3) := by decide +kernel
theorem dX6_init_14 : decode cX6_init 14 = .ok (.aload_n 0, 1) := by decide +kernel
theorem dX6_init_15 : decode cX6_init 15 = .ok (.new 19, 3) := by decide +kernel
theorem dX6_init_18 : decode cX6_init 18 = .ok (.dup, 1) := by decide +kernel
theorem dX6_init_19 : decode cX6_init 19 = .ok (.invokespecial 21, 3) := by decide +kernel
theorem dX6_init_22 : decode cX6_init 22 = .ok (.putfield 22, 3) := by decide +kernel
theorem dX6_init_25 : decode cX6_init 25 = .ok (.aload_n 0, 1) := by decide +kernel
theorem dX6_init_26 : decode cX6_init 26 = .ok (.new 26, 3) := by decide +kernel
theorem dX6_init_29 : decode cX6_init 29 = .ok (.dup, 1) := by decide +kernel
theorem dX6_init_30 : decode cX6_init 30 = .ok (.invokespecial 28, 3) := by decide +kernel
theorem dX6_init_33 : decode cX6_init 33 = .ok (.putfield 29, 3) := by decide +kernel
theorem dX6_init_36 : decode cX6_init 36 = .ok (.aload_n 0, 1) := by decide +kernel
theorem dX6_init_37 : decode cX6_init 37 = .ok (.bipush 24, 2) := by decide +kernel
theorem dX6_init_39 : decode cX6_init 39 = .ok (.newarray .boolean, 2) := by decide +kernel
theorem dX6_init_41 : decode cX6_init 41 = .ok (.putfield 33, 3) := by decide +kernel
theorem dX6_init_44 : decode cX6_init 44 = .ok (.aload_n 0, 1) := by decide +kernel
theorem dX6_init_45 : decode cX6_init 45 = .ok (.bipush 24, 2) := by decide +kernel
theorem dX6_init_47 : decode cX6_init 47 = .ok (.newarray .int, 2) := by decide +kernel
theorem dX6_init_49 : decode cX6_init 49 = .ok (.putfield 37, 3) := by decide +kernel
theorem dX6_init_52 : decode cX6_init 52 = .ok (.aload_n 0, 1) := by decide +kernel
theorem dX6_init_53 : decode cX6_init 53 = .ok (.bipush 34, 2) := by decide +kernel
theorem dX6_init_55 : decode cX6_init 55 = .ok (.newarray .int, 2) := by decide +kernel
theorem dX6_init_57 : decode cX6_init 57 = .ok (.putfield 41, 3) := by decide +kernel
theorem dX6_init_60 : decode cX6_init 60 = .ok (.aload_n 0, 1) := by decide +kernel
theorem dX6_init_61 : decode cX6_init 61 = .ok (.iconst 2, 1) := by decide +kernel
theorem dX6_init_62 : decode cX6_init 62 = .ok (.newarray .int, 2) := by decide +kernel
theorem dX6_init_64 : decode cX6_init 64 = .ok (.putfield 44, 3) := by decide +kernel
theorem dX6_init_67 : decode cX6_init 67 = .ok (.aload_n 0, 1) := by decide +kernel
theorem dX6_init_68 : decode cX6_init 68 = .ok (.iconst (-1), 1) := by decide +kernel
theorem dX6_init_69 : decode cX6_init 69 = .ok (.putfield 47, 3) := by decide +kernel
theorem dX6_init_72 : decode cX6_init 72 = .ok (.aload_n 0, 1) := by decide +kernel
theorem dX6_init_73 : decode cX6_init 73 = .ok (.iconst 0, 1) := by decide +kernel
theorem dX6_init_74 : decode cX6_init 74 = .ok (.putfield 51, 3) := by decide +kernel
theorem dX6_init_77 : decode cX6_init 77 = .ok (.aload_n 0, 1) := by decide +kernel
theorem dX6_init_78 : decode cX6_init 78 = .ok (.iconst 0, 1) := by decide +kernel
theorem dX6_init_79 : decode cX6_init 79 = .ok (.putfield 54, 3) := by decide +kernel
theorem dX6_init_82 : decode cX6_init 82 = .ok (.aload_n 0, 1) := by decide +kernel
theorem dX6_init_83 : decode cX6_init 83 = .ok (.iconst 0, 1) := by decide +kernel
theorem dX6_init_84 : decode cX6_init 84 = .ok (.putfield 57, 3) := by decide +kernel
theorem dX6_init_87 : decode cX6_init 87 = .ok (.aload_n 0, 1) := by decide +kernel
theorem dX6_init_88 : decode cX6_init 88 = .ok (.iconst 0, 1) := by decide +kernel
theorem dX6_init_89 : decode cX6_init 89 = .ok (.putfield 60, 3) := by decide +kernel
theorem dX6_init_92 : decode cX6_init 92 = .ok (.aload_n 0, 1) := by decide +kernel
theorem dX6_init_93 : decode cX6_init 93 = .ok (.iconst 0, 1) := by decide +kernel
theorem dX6_init_94 : decode cX6_init 94 = .ok (.putfield 63, 3) := by decide +kernel
theorem dX6_init_97 : decode cX6_init 97 = .ok (.aload_n 0, 1) := by decide +kernel
theorem dX6_init_98 : decode cX6_init 98 = .ok (.iconst 0, 1) := by decide +kernel
theorem dX6_init_99 : decode cX6_init 99 = .ok (.putfield 66, 3) := by decide +kernel
theorem dX6_init_102 : decode cX6_init 102 = .ok (.aload_n 0, 1) := by decide +kernel
theorem dX6_init_103 : decode cX6_init 103 = .ok (.iconst (-1), 1) := by decide +kernel
theorem dX6_init_104 : decode cX6_init 104 = .ok (.putfield 69, 3) := by decide +kernel
theorem dX6_init_107 : decode cX6_init 107 = .ok (.aload_n 0, 1) := by decide +kernel
theorem dX6_init_108 : decode cX6_init 108 = .ok (.iconst 0, 1) := by decide +kernel
theorem dX6_init_109 : decode cX6_init 109 = .ok (.putfield 72, 3) := by decide +kernel
theorem dX6_init_112 : decode cX6_init 112 = .ok (.return_, 1) := by decide +kernel
theorem dX6_countLeaked_0 : decode cX6_countLeaked 0 = .ok (.aload_n 0, 1) := by decide +kernel
theorem dX6_countLeaked_1 : decode cX6_countLeaked 1 = .ok (.getfield 63, 3) := by decide +kernel
theorem dX6_countLeaked_4 : decode cX6_countLeaked 4 = .ok (.aload_n 0, 1) := by decide +kernel
theorem dX6_countLeaked_5 : decode cX6_countLeaked 5 = .ok (.getfield 29, 3) := by decide +kernel
theorem dX6_countLeaked_8 : decode cX6_countLeaked 8 = .ok (.getfield 76, 3) := by decide +kernel
theorem dX6_countLeaked_11 : decode cX6_countLeaked 11 = .ok (.iadd, 1) := by decide +kernel
theorem dX6_countLeaked_12 : decode cX6_countLeaked 12 = .ok (.aload_n 0, 1) := by decide +kernel
theorem dX6_countLeaked_13 : decode cX6_countLeaked 13 = .ok (.getfield 66, 3) := by decide +kernel
theorem dX6_countLeaked_16 : decode cX6_countLeaked 16 = .ok (.isub, 1) := by decide +kernel
theorem dX6_countLeaked_17 : decode cX6_countLeaked 17 = .ok (.aload_n 0, 1) := by decide +kernel
theorem dX6_countLeaked_18 : decode cX6_countLeaked 18 = .ok (.getfield 29, 3) := by decide +kernel
theorem dX6_countLeaked_21 : decode cX6_countLeaked 21 = .ok (.getfield 79, 3) := by decide +kernel
theorem dX6_countLeaked_24 : decode cX6_countLeaked 24 = .ok (.isub, 1) := by decide +kernel
theorem dX6_countLeaked_25 : decode cX6_countLeaked 25 = .ok (.ireturn, 1) := by decide +kernel
set_option maxRecDepth 20000 in
theorem ggX6_go_X6_clear : GoodIn wsX6_go wsX6_clear := goodIn_r _ [12, 13, 14, 15, 16, 17, 18, 19, 3, 1, 20, 21, 4, 7, 22, 23, 24, 25, 26, 27, 28, 29, 30, 31, 32, 240, 241, 242, 243, 244, 245, 246, 247, 248, 249, 250, 251, 252, 253, 254, 255, 256, 263, 264, 265, 266, 267, 268, 269, 270, 271, 272] (by decide +kernel) (by decide +kernel)
set_option maxRecDepth 20000 in
theorem gX6_go_X6_clear : GoodIn wsX6_go (wsV RX6 82 RX6 yX6_clear wsX6_clear) := goodIn_app (goodIn_of _ (by decide +kernel)) ggX6_go_X6_clear
set_option maxRecDepth 20000 in
theorem ggX6_go_X5_isLine : GoodIn wsX6_go wsX5_isLine := goodIn_r _ [37, 38, 257, 258, 259, 260, 261, 262] (by decide +kernel) (by decide +kernel)
set_option maxRecDepth 20000 in
theorem gX6_go_X5_isLine : GoodIn wsX6_go (wsV RX6 85 RX5 yX5_isLine wsX5_isLine) := goodIn_app (goodIn_of _ (by decide +kernel)) ggX6_go_X5_isLine
set_option maxRecDepth 20000 in
theorem ggX6_go_X5_sortAt : GoodIn wsX6_go wsX5_sortAt := goodIn_r _ [42, 43, 44, 34, 35, 36, 37, 38, 257, 258, 259, 260, 261, 262] (by decide +kernel) (by decide +kernel)
set_option maxRecDepth 20000 in
theorem gX6_go_X5_sortAt : GoodIn wsX6_go (wsV RX6 91 RX5 yX5_sortAt wsX5_sortAt) := goodIn_app (goodIn_of _ (by decide +kernel)) ggX6_go_X5_sortAt
set_option maxRecDepth 20000 in
theorem ggX6_go_X5_aAt : GoodIn wsX6_go wsX5_aAt := goodIn_r _ [48, 49, 44, 34, 35, 36, 37, 38, 257, 258, 259, 260, 261, 262] (by decide +kernel) (by decide +kernel)
set_option maxRecDepth 20000 in
theorem gX6_go_X5_aAt : GoodIn wsX6_go (wsV RX6 95 RX5 yX5_aAt wsX5_aAt) := goodIn_app (goodIn_of _ (by decide +kernel)) ggX6_go_X5_aAt
set_option maxRecDepth 20000 in
theorem ggX6_go_X5_bAt : GoodIn wsX6_go wsX5_bAt := goodIn_r _ [53, 54, 44, 34, 35, 36, 37, 38, 257, 258, 259, 260, 261, 262] (by decide +kernel) (by decide +kernel)
set_option maxRecDepth 20000 in
theorem gX6_go_X5_bAt : GoodIn wsX6_go (wsV RX6 98 RX5 yX5_bAt wsX5_bAt) := goodIn_app (goodIn_of _ (by decide +kernel)) ggX6_go_X5_bAt
set_option maxRecDepth 20000 in
theorem ggX6_go_X6_doLine : GoodIn wsX6_go wsX6_doLine := goodIn_r _ [58, 15, 59, 60, 61, 11, 62, 2, 20, 63, 64, 65, 36, 66, 67, 68, 69, 70, 71, 25, 72, 73, 27, 74, 75, 76, 77, 78, 79, 80, 81, 82, 83, 84, 85, 86, 87, 88, 89, 90, 91, 92, 93, 94, 95, 16, 19, 96, 97, 17, 98, 99, 100, 101, 102, 103, 104, 105, 106, 107, 108, 109, 110, 111, 112, 113, 114, 115, 116, 117, 118, 119, 120, 121, 122, 123, 124, 125, 126, 127, 128, 129, 13, 3, 130, 131, 132, 133, 134, 135, 136, 137, 4, 7, 138, 139, 140, 141, 142, 143, 144, 145, 146, 147, 148, 149, 150, 151, 152, 153, 154, 155, 156, 157, 158, 159, 160, 161, 162, 163, 164, 165, 166, 167, 168, 169, 170, 171, 172, 173, 174, 175, 176, 177, 178, 179, 180, 181, 182, 183, 184, 185, 186, 187, 188, 240, 241, 242, 243, 244, 245, 246, 247, 248, 249, 250, 251, 252, 253, 254, 255, 256, 257, 258, 259, 260, 261, 262, 267, 268, 269, 270, 271, 272, 263, 264, 265, 266] (by decide +kernel) (by decide +kernel)
set_option maxRecDepth 20000 in
theorem gX6_go_X6_doLine : GoodIn wsX6_go (wsV RX6 101 RX6 yX6_doLine wsX6_doLine) := goodIn_app (goodIn_of _ (by decide +kernel)) ggX6_go_X6_doLine
set_option maxRecDepth 20000 in
theorem ggX6_go_X6_dropOlds : GoodIn wsX6_go wsX6_dropOlds := goodIn_r _ [192, 19, 96, 7, 97, 193, 194, 195, 11, 196, 15, 13, 3, 197, 198, 199, 25, 200, 74, 28, 122, 123, 124, 125, 27, 138, 139, 140, 141, 73, 142, 143, 144, 145, 146, 147, 148, 149, 150, 77, 78, 79, 173, 174, 175, 176, 75, 201, 202, 203, 204, 205, 206, 21, 134, 135, 136, 137, 4, 240, 241, 242, 243, 244, 245, 246, 247, 248, 249, 250, 251, 252, 253, 254, 255, 256, 267, 268, 269, 270, 271, 272, 263, 264, 265, 266] (by decide +kernel) (by decide +kernel)
set_option maxRecDepth 20000 in
theorem gX6_go_X6_dropOlds : GoodIn wsX6_go (wsV RX6 105 RX6 yX6_dropOlds wsX6_dropOlds) := goodIn_app (goodIn_of _ (by decide +kernel)) ggX6_go_X6_dropOlds
set_option maxRecDepth 20000 in
theorem ggX6_go_X6_lineBehind : GoodIn wsX6_go wsX6_lineBehind := goodIn_r _ [210, 2, 211, 18, 39, 40, 41, 36, 42, 43, 44, 34, 35, 37, 38, 45, 46, 47, 48, 49, 153, 154, 155, 11, 156, 84, 85, 86, 87, 63, 64, 65, 66, 67, 68, 106, 107, 108, 109, 17, 77, 78, 79, 212, 213, 214, 215, 216, 217, 218, 219, 220, 221, 222, 223, 224, 225, 226, 227, 228, 229, 230, 231, 232, 233, 234, 240, 241, 242, 243, 244, 245, 246, 247, 248, 249, 250, 251, 252, 253, 254, 255, 256, 257, 258, 259, 260, 261, 262, 273, 274, 275, 276, 277, 278, 279, 280, 281] (by decide +kernel) (by decide +kernel)
set_option maxRecDepth 20000 in
theorem gX6_go_X6_lineBehind : GoodIn wsX6_go (wsV RX6 108 RX6 yX6_lineBehind wsX6_lineBehind) := goodIn_app (goodIn_of _ (by decide +kernel)) ggX6_go_X6_lineBehind
set_option maxRecDepth 20000 in
theorem ggX6_go_X6_unwind : GoodIn wsX6_go wsX6_unwind := goodIn_r _ [238, 2, 239, 7, 63, 64, 65, 36, 66, 67, 68, 201, 78, 202, 88, 89, 90, 11, 91, 92, 93, 94, 95, 16, 19, 96, 97, 17, 189, 190, 191, 192, 193, 194, 195, 196, 15, 13, 3, 197, 198, 199, 25, 200, 74, 28, 122, 123, 124, 125, 27, 138, 139, 140, 141, 73, 142, 143, 144, 145, 146, 147, 148, 149, 150, 77, 79, 173, 174, 175, 176, 75, 203, 204, 205, 206, 21, 134, 135, 136, 137, 4, 240, 241, 242, 243, 244, 245, 246, 247, 248, 249, 250, 251, 252, 253, 254, 255, 256, 257, 258, 259, 260, 261, 262, 267, 268, 269, 270, 271, 272, 263, 264, 265, 266] (by decide +kernel) (by decide +kernel)
set_option maxRecDepth 20000 in
theorem gX6_go_X6_unwind : GoodIn wsX6_go (wsV RX6 114 RX6 yX6_unwind wsX6_unwind) := goodIn_app (goodIn_of _ (by decide +kernel)) ggX6_go_X6_unwind
theorem dX6_go_0 : decode cX6_go 0 = .ok (.aload_n 0, 1) := by decide +kernel
theorem dX6_go_1 : decode cX6_go 1 = .ok (.invokevirtual 82, 3) := by decide +kernel
theorem dX6_go_4 : decode cX6_go 4 = .ok (.aload_n 0, 1) := by decide +kernel
theorem dX6_go_5 : decode cX6_go 5 = .ok (.getfield 60, 3) := by decide +kernel
theorem dX6_go_8 : decode cX6_go 8 = .ok (.sipush 500, 3) := by decide +kernel
theorem dX6_go_11 : decode cX6_go 11 = .ok (.if_icmp .ge 99, 3) := by decide +kernel
theorem dX6_go_14 : decode cX6_go 14 = .ok (.aload_n 0, 1) := by decide +kernel
theorem dX6_go_15 : decode cX6_go 15 = .ok (.getfield 9, 3) := by decide +kernel
theorem dX6_go_18 : decode cX6_go 18 = .ok (.aload_n 0, 1) := by decide +kernel
theorem dX6_go_19 : decode cX6_go 19 = .ok (.getfield 54, 3) := by decide +kernel
theorem dX6_go_22 : decode cX6_go 22 = .ok (.invokevirtual 85, 3) := by decide +kernel
theorem dX6_go_25 : decode cX6_go 25 = .ok (.ifCond .eq 85, 3) := by decide +kernel
theorem dX6_go_28 : decode cX6_go 28 = .ok (.aload_n 0, 1) := by decide +kernel
theorem dX6_go_29 : decode cX6_go 29 = .ok (.getfield 69, 3) := by decide +kernel
theorem dX6_go_32 : decode cX6_go 32 = .ok (.iconst (-1), 1) := by decide +kernel
theorem dX6_go_33 : decode cX6_go 33 = .ok (.if_icmp .ne 77, 3) := by decide +kernel
theorem dX6_go_36 : decode cX6_go 36 = .ok (.aload_n 0, 1) := by decide +kernel
theorem dX6_go_37 : decode cX6_go 37 = .ok (.dup, 1) := by decide +kernel
theorem dX6_go_38 : decode cX6_go 38 = .ok (.getfield 60, 3) := by decide +kernel
theorem dX6_go_41 : decode cX6_go 41 = .ok (.iconst 1, 1) := by decide +kernel
theorem dX6_go_42 : decode cX6_go 42 = .ok (.iadd, 1) := by decide +kernel
theorem dX6_go_43 : decode cX6_go 43 = .ok (.putfield 60, 3) := by decide +kernel
theorem dX6_go_46 : decode cX6_go 46 = .ok (.aload_n 0, 1) := by decide +kernel
theorem dX6_go_47 : decode cX6_go 47 = .ok (.aload_n 0, 1) := by decide +kernel
theorem dX6_go_48 : decode cX6_go 48 = .ok (.getfield 9, 3) := by decide +kernel
theorem dX6_go_51 : decode cX6_go 51 = .ok (.aload_n 0, 1) := by decide +kernel
theorem dX6_go_52 : decode cX6_go 52 = .ok (.getfield 54, 3) := by decide +kernel
theorem dX6_go_55 : decode cX6_go 55 = .ok (.invokevirtual 91, 3) := by decide +kernel
theorem dX6_go_58 : decode cX6_go 58 = .ok (.aload_n 0, 1) := by decide +kernel
theorem dX6_go_59 : decode cX6_go 59 = .ok (.getfield 9, 3) := by decide +kernel
theorem dX6_go_62 : decode cX6_go 62 = .ok (.aload_n 0, 1) := by decide +kernel
theorem dX6_go_63 : decode cX6_go 63 = .ok (.getfield 54, 3) := by decide +kernel
theorem dX6_go_66 : decode cX6_go 66 = .ok (.invokevirtual 95, 3) := by decide +kernel
theorem dX6_go_69 : decode cX6_go 69 = .ok (.aload_n 0, 1) := by decide +kernel
theorem dX6_go_70 : decode cX6_go 70 = .ok (.getfield 9, 3) := by decide +kernel
theorem dX6_go_73 : decode cX6_go 73 = .ok (.aload_n 0, 1) := by decide +kernel
theorem dX6_go_74 : decode cX6_go 74 = .ok (.getfield 54, 3) := by decide +kernel
theorem dX6_go_77 : decode cX6_go 77 = .ok (.invokevirtual 98, 3) := by decide +kernel
theorem dX6_go_80 : decode cX6_go 80 = .ok (.invokevirtual 101, 3) := by decide +kernel
theorem dX6_go_83 : decode cX6_go 83 = .ok (.aload_n 0, 1) := by decide +kernel
theorem dX6_go_84 : decode cX6_go 84 = .ok (.invokevirtual 105, 3) := by decide +kernel
theorem dX6_go_87 : decode cX6_go 87 = .ok (.aload_n 0, 1) := by decide +kernel
theorem dX6_go_88 : decode cX6_go 88 = .ok (.getfield 69, 3) := by decide +kernel
theorem dX6_go_91 : decode cX6_go 91 = .ok (.iconst (-1), 1) := by decide +kernel
theorem dX6_go_92 : decode cX6_go 92 = .ok (.if_icmp .ne (-88), 3) := by decide +kernel
theorem dX6_go_95 : decode cX6_go 95 = .ok (.aload_n 0, 1) := by decide +kernel
theorem dX6_go_96 : decode cX6_go 96 = .ok (.aload_n 0, 1) := by decide +kernel
theorem dX6_go_97 : decode cX6_go 97 = .ok (.aload_n 0, 1) := by decide +kernel
theorem dX6_go_98 : decode cX6_go 98 = .ok (.getfield 54, 3) := by decide +kernel
theorem dX6_go_101 : decode cX6_go 101 = .ok (.invokevirtual 108, 3) := by decide +kernel
theorem dX6_go_104 : decode cX6_go 104 = .ok (.putfield 54, 3) := by decide +kernel
theorem dX6_go_107 : decode cX6_go 107 = .ok (.goto (-103), 3) := by decide +kernel
theorem dX6_go_110 : decode cX6_go 110 = .ok (.aload_n 0, 1) := by decide +kernel
theorem dX6_go_111 : decode cX6_go 111 = .ok (.getfield 69, 3) := by decide +kernel
theorem dX6_go_114 : decode cX6_go 114 = .ok (.iconst (-1), 1) := by decide +kernel
theorem dX6_go_115 : decode cX6_go 115 = .ok (.if_icmp .ne 23, 3) := by decide +kernel
theorem dX6_go_118 : decode cX6_go 118 = .ok (.aload_n 0, 1) := by decide +kernel
theorem dX6_go_119 : decode cX6_go 119 = .ok (.getfield 9, 3) := by decide +kernel
theorem dX6_go_122 : decode cX6_go 122 = .ok (.aload_n 0, 1) := by decide +kernel
theorem dX6_go_123 : decode cX6_go 123 = .ok (.getfield 54, 3) := by decide +kernel
theorem dX6_go_126 : decode cX6_go 126 = .ok (.invokevirtual 85, 3) := by decide +kernel
theorem dX6_go_129 : decode cX6_go 129 = .ok (.ifCond .eq 9, 3) := by decide +kernel
theorem dX6_go_132 : decode cX6_go 132 = .ok (.aload_n 0, 1) := by decide +kernel
theorem dX6_go_133 : decode cX6_go 133 = .ok (.iconst 3, 1) := by decide +kernel
theorem dX6_go_134 : decode cX6_go 134 = .ok (.putfield 57, 3) := by decide +kernel
theorem dX6_go_137 : decode cX6_go 137 = .ok (.return_, 1) := by decide +kernel
theorem dX6_go_138 : decode cX6_go 138 = .ok (.aload_n 0, 1) := by decide +kernel
theorem dX6_go_139 : decode cX6_go 139 = .ok (.aload_n 0, 1) := by decide +kernel
theorem dX6_go_140 : decode cX6_go 140 = .ok (.getfield 9, 3) := by decide +kernel
theorem dX6_go_143 : decode cX6_go 143 = .ok (.getfield 111, 3) := by decide +kernel
theorem dX6_go_146 : decode cX6_go 146 = .ok (.putfield 54, 3) := by decide +kernel
theorem dX6_go_149 : decode cX6_go 149 = .ok (.aload_n 0, 1) := by decide +kernel
theorem dX6_go_150 : decode cX6_go 150 = .ok (.invokevirtual 114, 3) := by decide +kernel
theorem dX6_go_153 : decode cX6_go 153 = .ok (.aload_n 0, 1) := by decide +kernel
theorem dX6_go_154 : decode cX6_go 154 = .ok (.getfield 72, 3) := by decide +kernel
theorem dX6_go_157 : decode cX6_go 157 = .ok (.ifCond .eq 11, 3) := by decide +kernel
theorem dX6_go_160 : decode cX6_go 160 = .ok (.aload_n 0, 1) := by decide +kernel
theorem dX6_go_161 : decode cX6_go 161 = .ok (.iconst 2, 1) := by decide +kernel
theorem dX6_go_162 : decode cX6_go 162 = .ok (.putfield 57, 3) := by decide +kernel
theorem dX6_go_165 : decode cX6_go 165 = .ok (.goto 20, 3) := by decide +kernel
theorem dX6_go_168 : decode cX6_go 168 = .ok (.aload_n 0, 1) := by decide +kernel
theorem dX6_go_169 : decode cX6_go 169 = .ok (.aload_n 0, 1) := by decide +kernel
theorem dX6_go_170 : decode cX6_go 170 = .ok (.getfield 69, 3) := by decide +kernel
theorem dX6_go_173 : decode cX6_go 173 = .ok (.iconst (-1), 1) := by decide +kernel
theorem dX6_go_174 : decode cX6_go 174 = .ok (.if_icmp .ne 7, 3) := by decide +kernel
theorem dX6_go_177 : decode cX6_go 177 = .ok (.iconst 0, 1) := by decide +kernel
theorem dX6_go_178 : decode cX6_go 178 = .ok (.goto 4, 3) := by decide +kernel
theorem dX6_go_181 : decode cX6_go 181 = .ok (.iconst 1, 1) := by decide +kernel
theorem dX6_go_182 : decode cX6_go 182 = .ok (.putfield 57, 3) := by decide +kernel
theorem dX6_go_185 : decode cX6_go 185 = .ok (.return_, 1) := by decide +kernel
set_option maxRecDepth 20000 in
theorem ggX6_clear_X4_clear : GoodIn wsX6_clear wsX4_clear := goodIn_r _ [18, 19, 20, 46, 47, 48, 49, 50, 51] (by decide +kernel) (by decide +kernel)
set_option maxRecDepth 20000 in
theorem gX6_clear_X4_clear : GoodIn wsX6_clear (wsV RX6 120 RX4 yX4_clear wsX4_clear) := goodIn_app (goodIn_of _ (by decide +kernel)) ggX6_clear_X4_clear
set_option maxRecDepth 20000 in
theorem ggX6_clear_J7_fill_53178 : GoodIn wsX6_clear wsJ7_fill_53178 := goodIn_r _ [24] (by decide +kernel) (by decide +kernel)
set_option maxRecDepth 20000 in
theorem gX6_clear_J7_fill_53178 : GoodIn wsX6_clear (va_wsS RX6 121 yJ7_fill_53178 wsJ7_fill_53178) := goodIn_app (goodIn_of _ (by decide +kernel)) ggX6_clear_J7_fill_53178
theorem dX6_clear_0 : decode cX6_clear 0 = .ok (.aload_n 0, 1) := by decide +kernel
theorem dX6_clear_1 : decode cX6_clear 1 = .ok (.getfield 22, 3) := by decide +kernel
theorem dX6_clear_4 : decode cX6_clear 4 = .ok (.iconst 0, 1) := by decide +kernel
theorem dX6_clear_5 : decode cX6_clear 5 = .ok (.putfield 117, 3) := by decide +kernel
theorem dX6_clear_8 : decode cX6_clear 8 = .ok (.aload_n 0, 1) := by decide +kernel
theorem dX6_clear_9 : decode cX6_clear 9 = .ok (.getfield 29, 3) := by decide +kernel
theorem dX6_clear_12 : decode cX6_clear 12 = .ok (.invokevirtual 120, 3) := by decide +kernel
theorem dX6_clear_15 : decode cX6_clear 15 = .ok (.iconst 0, 1) := by decide +kernel
theorem dX6_clear_16 : decode cX6_clear 16 = .ok (.istore_n 1, 1) := by decide +kernel
theorem dX6_clear_17 : decode cX6_clear 17 = .ok (.iload_n 1, 1) := by decide +kernel
theorem dX6_clear_18 : decode cX6_clear 18 = .ok (.bipush 24, 2) := by decide +kernel
theorem dX6_clear_20 : decode cX6_clear 20 = .ok (.if_icmp .ge 23, 3) := by decide +kernel
theorem dX6_clear_23 : decode cX6_clear 23 = .ok (.aload_n 0, 1) := by decide +kernel
theorem dX6_clear_24 : decode cX6_clear 24 = .ok (.getfield 33, 3) := by decide +kernel
theorem dX6_clear_27 : decode cX6_clear 27 = .ok (.iload_n 1, 1) := by decide +kernel
theorem dX6_clear_28 : decode cX6_clear 28 = .ok (.iconst 0, 1) := by decide +kernel
theorem dX6_clear_29 : decode cX6_clear 29 = .ok (.bastore, 1) := by decide +kernel
theorem dX6_clear_30 : decode cX6_clear 30 = .ok (.aload_n 0, 1) := by decide +kernel
theorem dX6_clear_31 : decode cX6_clear 31 = .ok (.getfield 37, 3) := by decide +kernel
theorem dX6_clear_34 : decode cX6_clear 34 = .ok (.iload_n 1, 1) := by decide +kernel
theorem dX6_clear_35 : decode cX6_clear 35 = .ok (.iconst 0, 1) := by decide +kernel
theorem dX6_clear_36 : decode cX6_clear 36 = .ok (.iastore, 1) := by decide +kernel
theorem dX6_clear_37 : decode cX6_clear 37 = .ok (.iinc 1 1, 3) := by decide +kernel
theorem dX6_clear_40 : decode cX6_clear 40 = .ok (.goto (-23), 3) := by decide +kernel
theorem dX6_clear_43 : decode cX6_clear 43 = .ok (.aload_n 0, 1) := by decide +kernel
theorem dX6_clear_44 : decode cX6_clear 44 = .ok (.getfield 41, 3) := by decide +kernel
theorem dX6_clear_47 : decode cX6_clear 47 = .ok (.iconst 0, 1) := by decide +kernel
theorem dX6_clear_48 : decode cX6_clear 48 = .ok (.invokestatic 121, 3) := by decide +kernel
theorem dX6_clear_51 : decode cX6_clear 51 = .ok (.aload_n 0, 1) := by decide +kernel
theorem dX6_clear_52 : decode cX6_clear 52 = .ok (.iconst 0, 1) := by decide +kernel
theorem dX6_clear_53 : decode cX6_clear 53 = .ok (.putfield 51, 3) := by decide +kernel
theorem dX6_clear_56 : decode cX6_clear 56 = .ok (.aload_n 0, 1) := by decide +kernel
theorem dX6_clear_57 : decode cX6_clear 57 = .ok (.iconst 0, 1) := by decide +kernel
theorem dX6_clear_58 : decode cX6_clear 58 = .ok (.putfield 54, 3) := by decide +kernel
theorem dX6_clear_61 : decode cX6_clear 61 = .ok (.aload_n 0, 1) := by decide +kernel
theorem dX6_clear_62 : decode cX6_clear 62 = .ok (.iconst 0, 1) := by decide +kernel
theorem dX6_clear_63 : decode cX6_clear 63 = .ok (.putfield 60, 3) := by decide +kernel
theorem dX6_clear_66 : decode cX6_clear 66 = .ok (.aload_n 0, 1) := by decide +kernel
theorem dX6_clear_67 : decode cX6_clear 67 = .ok (.iconst 0, 1) := by decide +kernel
theorem dX6_clear_68 : decode cX6_clear 68 = .ok (.putfield 63, 3) := by decide +kernel
theorem dX6_clear_71 : decode cX6_clear 71 = .ok (.aload_n 0, 1) := by decide +kernel
theorem dX6_clear_72 : decode cX6_clear 72 = .ok (.iconst 0, 1) := by decide +kernel
theorem dX6_clear_73 : decode cX6_clear 73 = .ok (.putfield 66, 3) := by decide +kernel
theorem dX6_clear_76 : decode cX6_clear 76 = .ok (.aload_n 0, 1) := by decide +kernel
theorem dX6_clear_77 : decode cX6_clear 77 = .ok (.iconst (-1), 1) := by decide +kernel
theorem dX6_clear_78 : decode cX6_clear 78 = .ok (.putfield 69, 3) := by decide +kernel
theorem dX6_clear_81 : decode cX6_clear 81 = .ok (.aload_n 0, 1) := by decide +kernel
theorem dX6_clear_82 : decode cX6_clear 82 = .ok (.iconst 0, 1) := by decide +kernel
theorem dX6_clear_83 : decode cX6_clear 83 = .ok (.putfield 72, 3) := by decide +kernel
theorem dX6_clear_86 : decode cX6_clear 86 = .ok (.return_, 1) := by decide +kernel
set_option maxRecDepth 20000 in
theorem ggX6_lineBehind_X5_sortAt : GoodIn wsX6_lineBehind wsX5_sortAt := goodIn_r _ [8, 9, 10, 11, 12, 7, 13, 14, 83, 84, 85, 86, 87, 88] (by decide +kernel) (by decide +kernel)
set_option maxRecDepth 20000 in
theorem gX6_lineBehind_X5_sortAt : GoodIn wsX6_lineBehind (wsV RX6 91 RX5 yX5_sortAt wsX5_sortAt) := goodIn_app (goodIn_of _ (by decide +kernel)) ggX6_lineBehind_X5_sortAt
set_option maxRecDepth 20000 in
theorem ggX6_lineBehind_X5_aAt : GoodIn wsX6_lineBehind wsX5_aAt := goodIn_r _ [18, 19, 10, 11, 12, 7, 13, 14, 83, 84, 85, 86, 87, 88] (by decide +kernel) (by decide +kernel)
set_option maxRecDepth 20000 in
theorem gX6_lineBehind_X5_aAt : GoodIn wsX6_lineBehind (wsV RX6 95 RX5 yX5_aAt wsX5_aAt) := goodIn_app (goodIn_of _ (by decide +kernel)) ggX6_lineBehind_X5_aAt
set_option maxRecDepth 20000 in
theorem ggX6_lineBehind_X6_numberAt : GoodIn wsX6_lineBehind wsX6_numberAt := goodIn_r _ [24, 1, 25, 26, 27, 23, 28, 29, 30, 31, 7, 32, 33, 34, 35, 36, 37, 38, 39, 40, 41, 42, 66, 67, 68, 69, 70, 71, 72, 73, 74, 75, 76, 77, 78, 79, 80, 81, 82, 83, 84, 85, 86, 87, 88] (by decide +kernel) (by decide +kernel)
set_option maxRecDepth 20000 in
theorem gX6_lineBehind_X6_numberAt : GoodIn wsX6_lineBehind (wsV RX6 127 RX6 yX6_numberAt wsX6_numberAt) := goodIn_app (goodIn_of _ (by decide +kernel)) ggX6_lineBehind_X6_numberAt
set_option maxRecDepth 20000 in
theorem ggX6_lineBehind_X8_firstAt : GoodIn wsX6_lineBehind wsX8_firstAt := goodIn_r _ [47, 48, 49, 50, 51, 52, 46, 53, 54, 55, 11, 12, 7, 13, 14, 89, 90, 91, 92, 93, 94, 95, 96, 97, 83, 84, 85, 86, 87, 88] (by decide +kernel) (by decide +kernel)
set_option maxRecDepth 20000 in
theorem gX6_lineBehind_X8_firstAt : GoodIn wsX6_lineBehind (wsV RX6 130 RX8 yX8_firstAt wsX8_firstAt) := goodIn_app (goodIn_of _ (by decide +kernel)) ggX6_lineBehind_X8_firstAt
set_option maxRecDepth 20000 in
theorem ggX6_lineBehind_X8_secondAt : GoodIn wsX6_lineBehind wsX8_secondAt := goodIn_r _ [59, 48, 60, 50, 51, 52, 46, 53, 54, 55, 11, 12, 7, 13, 14, 89, 90, 91, 92, 93, 94, 95, 96, 97, 83, 84, 85, 86, 87, 88] (by decide +kernel) (by decide +kernel)
set_option maxRecDepth 20000 in
theorem gX6_lineBehind_X8_secondAt : GoodIn wsX6_lineBehind (wsV RX6 135 RX8 yX8_secondAt wsX8_secondAt) := goodIn_app (goodIn_of _ (by decide +kernel)) ggX6_lineBehind_X8_secondAt
set_option maxRecDepth 20000 in
theorem ggX6_lineBehind_X9_isIndexOf : GoodIn wsX6_lineBehind wsX9_isIndexOf := goodIn_r _ [42] (by decide +kernel) (by decide +kernel)
set_option maxRecDepth 20000 in
theorem gX6_lineBehind_X9_isIndexOf_n138 : GoodIn wsX6_lineBehind (wsX9_isIndexOf) := ggX6_lineBehind_X9_isIndexOf
set_option maxRecDepth 20000 in
theorem ggX6_lineBehind_X8_openerAt : GoodIn wsX6_lineBehind wsX8_openerAt := goodIn_r _ [64, 48, 65, 55, 11, 12, 7, 13, 14, 89, 90, 91, 92, 93, 94, 95, 96, 97, 83, 84, 85, 86, 87, 88] (by decide +kernel) (by decide +kernel)
set_option maxRecDepth 20000 in
theorem gX6_lineBehind_X8_openerAt : GoodIn wsX6_lineBehind (wsV RX6 142 RX8 yX8_openerAt wsX8_openerAt) := goodIn_app (goodIn_of _ (by decide +kernel)) ggX6_lineBehind_X8_openerAt
theorem dX6_lineBehind_0 : decode cX6_lineBehind 0 = .ok (.aload_n 0, 1) := by decide +kernel
theorem dX6_lineBehind_1 : decode cX6_lineBehind 1 = .ok (.getfield 9, 3) := by decide +kernel
theorem dX6_lineBehind_4 : decode cX6_lineBehind 4 = .ok (.iload_n 1, 1) := by decide +kernel
theorem dX6_lineBehind_5 : decode cX6_lineBehind 5 = .ok (.invokevirtual 91, 3) := by decide +kernel
theorem dX6_lineBehind_8 : decode cX6_lineBehind 8 = .ok (.istore_n 2, 1) := by decide +kernel
theorem dX6_lineBehind_9 : decode cX6_lineBehind 9 = .ok (.iload_n 2, 1) := by decide +kernel
theorem dX6_lineBehind_10 : decode cX6_lineBehind 10 = .ok (.bipush 8, 2) := by decide +kernel
theorem dX6_lineBehind_12 : decode cX6_lineBehind 12 = .ok (.if_icmp .ne 38, 3) := by decide +kernel
theorem dX6_lineBehind_15 : decode cX6_lineBehind 15 = .ok (.aload_n 0, 1) := by decide +kernel
theorem dX6_lineBehind_16 : decode cX6_lineBehind 16 = .ok (.aload_n 0, 1) := by decide +kernel
theorem dX6_lineBehind_17 : decode cX6_lineBehind 17 = .ok (.getfield 9, 3) := by decide +kernel
theorem dX6_lineBehind_20 : decode cX6_lineBehind 20 = .ok (.iload_n 1, 1) := by decide +kernel
theorem dX6_lineBehind_21 : decode cX6_lineBehind 21 = .ok (.invokevirtual 95, 3) := by decide +kernel
theorem dX6_lineBehind_24 : decode cX6_lineBehind 24 = .ok (.invokevirtual 127, 3) := by decide +kernel
theorem dX6_lineBehind_27 : decode cX6_lineBehind 27 = .ok (.ifCond .le 14, 3) := by decide +kernel
theorem dX6_lineBehind_30 : decode cX6_lineBehind 30 = .ok (.aload_n 0, 1) := by decide +kernel
theorem dX6_lineBehind_31 : decode cX6_lineBehind 31 = .ok (.getfield 15, 3) := by decide +kernel
theorem dX6_lineBehind_34 : decode cX6_lineBehind 34 = .ok (.iload_n 1, 1) := by decide +kernel
theorem dX6_lineBehind_35 : decode cX6_lineBehind 35 = .ok (.invokevirtual 130, 3) := by decide +kernel
theorem dX6_lineBehind_38 : decode cX6_lineBehind 38 = .ok (.goto 11, 3) := by decide +kernel
theorem dX6_lineBehind_41 : decode cX6_lineBehind 41 = .ok (.aload_n 0, 1) := by decide +kernel
theorem dX6_lineBehind_42 : decode cX6_lineBehind 42 = .ok (.getfield 15, 3) := by decide +kernel
theorem dX6_lineBehind_45 : decode cX6_lineBehind 45 = .ok (.iload_n 1, 1) := by decide +kernel
theorem dX6_lineBehind_46 : decode cX6_lineBehind 46 = .ok (.invokevirtual 135, 3) := by decide +kernel
theorem dX6_lineBehind_49 : decode cX6_lineBehind 49 = .ok (.ireturn, 1) := by decide +kernel
theorem dX6_lineBehind_50 : decode cX6_lineBehind 50 = .ok (.iload_n 2, 1) := by decide +kernel
theorem dX6_lineBehind_51 : decode cX6_lineBehind 51 = .ok (.bipush 10, 2) := by decide +kernel
theorem dX6_lineBehind_53 : decode cX6_lineBehind 53 = .ok (.if_icmp .ne 28, 3) := by decide +kernel
theorem dX6_lineBehind_56 : decode cX6_lineBehind 56 = .ok (.aload_n 0, 1) := by decide +kernel
theorem dX6_lineBehind_57 : decode cX6_lineBehind 57 = .ok (.getfield 41, 3) := by decide +kernel
theorem dX6_lineBehind_60 : decode cX6_lineBehind 60 = .ok (.iload_n 1, 1) := by decide +kernel
theorem dX6_lineBehind_61 : decode cX6_lineBehind 61 = .ok (.invokestatic 138, 3) := by decide +kernel
theorem dX6_lineBehind_64 : decode cX6_lineBehind 64 = .ok (.ifCond .eq 17, 3) := by decide +kernel
theorem dX6_lineBehind_67 : decode cX6_lineBehind 67 = .ok (.aload_n 0, 1) := by decide +kernel
theorem dX6_lineBehind_68 : decode cX6_lineBehind 68 = .ok (.getfield 41, 3) := by decide +kernel
theorem dX6_lineBehind_71 : decode cX6_lineBehind 71 = .ok (.iload_n 1, 1) := by decide +kernel
theorem dX6_lineBehind_72 : decode cX6_lineBehind 72 = .ok (.aload_n 0, 1) := by decide +kernel
theorem dX6_lineBehind_73 : decode cX6_lineBehind 73 = .ok (.getfield 9, 3) := by decide +kernel
theorem dX6_lineBehind_76 : decode cX6_lineBehind 76 = .ok (.iload_n 1, 1) := by decide +kernel
theorem dX6_lineBehind_77 : decode cX6_lineBehind 77 = .ok (.invokevirtual 95, 3) := by decide +kernel
theorem dX6_lineBehind_80 : decode cX6_lineBehind 80 = .ok (.iastore, 1) := by decide +kernel
theorem dX6_lineBehind_81 : decode cX6_lineBehind 81 = .ok (.aload_n 0, 1) := by decide +kernel
theorem dX6_lineBehind_82 : decode cX6_lineBehind 82 = .ok (.getfield 15, 3) := by decide +kernel
theorem dX6_lineBehind_85 : decode cX6_lineBehind 85 = .ok (.iload_n 1, 1) := by decide +kernel
theorem dX6_lineBehind_86 : decode cX6_lineBehind 86 = .ok (.invokevirtual 142, 3) := by decide +kernel
theorem dX6_lineBehind_89 : decode cX6_lineBehind 89 = .ok (.istore_n 3, 1) := by decide +kernel
theorem dX6_lineBehind_90 : decode cX6_lineBehind 90 = .ok (.iload_n 2, 1) := by decide +kernel
theorem dX6_lineBehind_91 : decode cX6_lineBehind 91 = .ok (.bipush 11, 2) := by decide +kernel
theorem dX6_lineBehind_93 : decode cX6_lineBehind 93 = .ok (.if_icmp .ne 66, 3) := by decide +kernel
theorem dX6_lineBehind_96 : decode cX6_lineBehind 96 = .ok (.aload_n 0, 1) := by decide +kernel
theorem dX6_lineBehind_97 : decode cX6_lineBehind 97 = .ok (.getfield 9, 3) := by decide +kernel
theorem dX6_lineBehind_100 : decode cX6_lineBehind 100 = .ok (.iload_n 3, 1) := by decide +kernel
theorem dX6_lineBehind_101 : decode cX6_lineBehind 101 = .ok (.invokevirtual 91, 3) := by decide +kernel
theorem dX6_lineBehind_104 : decode cX6_lineBehind 104 = .ok (.bipush 10, 2) := by decide +kernel
theorem dX6_lineBehind_106 : decode cX6_lineBehind 106 = .ok (.if_icmp .ne 53, 3) := by decide +kernel
theorem dX6_lineBehind_109 : decode cX6_lineBehind 109 = .ok (.aload_n 0, 1) := by decide +kernel
theorem dX6_lineBehind_110 : decode cX6_lineBehind 110 = .ok (.getfield 41, 3) := by decide +kernel
theorem dX6_lineBehind_113 : decode cX6_lineBehind 113 = .ok (.iload_n 3, 1) := by decide +kernel
theorem dX6_lineBehind_114 : decode cX6_lineBehind 114 = .ok (.invokestatic 138, 3) := by decide +kernel
theorem dX6_lineBehind_117 : decode cX6_lineBehind 117 = .ok (.ifCond .eq 42, 3) := by decide +kernel
theorem dX6_lineBehind_120 : decode cX6_lineBehind 120 = .ok (.aload_n 0, 1) := by decide +kernel
theorem dX6_lineBehind_121 : decode cX6_lineBehind 121 = .ok (.getfield 41, 3) := by decide +kernel
theorem dX6_lineBehind_124 : decode cX6_lineBehind 124 = .ok (.iload_n 3, 1) := by decide +kernel
theorem dX6_lineBehind_125 : decode cX6_lineBehind 125 = .ok (.dup2, 1) := by decide +kernel
theorem dX6_lineBehind_126 : decode cX6_lineBehind 126 = .ok (.iaload, 1) := by decide +kernel
theorem dX6_lineBehind_127 : decode cX6_lineBehind 127 = .ok (.iconst 1, 1) := by decide +kernel
theorem dX6_lineBehind_128 : decode cX6_lineBehind 128 = .ok (.isub, 1) := by decide +kernel
theorem dX6_lineBehind_129 : decode cX6_lineBehind 129 = .ok (.iastore, 1) := by decide +kernel
theorem dX6_lineBehind_130 : decode cX6_lineBehind 130 = .ok (.aload_n 0, 1) := by decide +kernel
theorem dX6_lineBehind_131 : decode cX6_lineBehind 131 = .ok (.getfield 41, 3) := by decide +kernel
theorem dX6_lineBehind_134 : decode cX6_lineBehind 134 = .ok (.iload_n 3, 1) := by decide +kernel
theorem dX6_lineBehind_135 : decode cX6_lineBehind 135 = .ok (.iaload, 1) := by decide +kernel
theorem dX6_lineBehind_136 : decode cX6_lineBehind 136 = .ok (.ifCond .le 14, 3) := by decide +kernel
theorem dX6_lineBehind_139 : decode cX6_lineBehind 139 = .ok (.aload_n 0, 1) := by decide +kernel
theorem dX6_lineBehind_140 : decode cX6_lineBehind 140 = .ok (.getfield 15, 3) := by decide +kernel
theorem dX6_lineBehind_143 : decode cX6_lineBehind 143 = .ok (.iload_n 1, 1) := by decide +kernel
theorem dX6_lineBehind_144 : decode cX6_lineBehind 144 = .ok (.invokevirtual 130, 3) := by decide +kernel
theorem dX6_lineBehind_147 : decode cX6_lineBehind 147 = .ok (.goto 11, 3) := by decide +kernel
theorem dX6_lineBehind_150 : decode cX6_lineBehind 150 = .ok (.aload_n 0, 1) := by decide +kernel
theorem dX6_lineBehind_151 : decode cX6_lineBehind 151 = .ok (.getfield 15, 3) := by decide +kernel
theorem dX6_lineBehind_154 : decode cX6_lineBehind 154 = .ok (.iload_n 1, 1) := by decide +kernel
theorem dX6_lineBehind_155 : decode cX6_lineBehind 155 = .ok (.invokevirtual 135, 3) := by decide +kernel
theorem dX6_lineBehind_158 : decode cX6_lineBehind 158 = .ok (.ireturn, 1) := by decide +kernel
theorem dX6_lineBehind_159 : decode cX6_lineBehind 159 = .ok (.aload_n 0, 1) := by decide +kernel
theorem dX6_lineBehind_160 : decode cX6_lineBehind 160 = .ok (.getfield 15, 3) := by decide +kernel
theorem dX6_lineBehind_163 : decode cX6_lineBehind 163 = .ok (.iload_n 1, 1) := by decide +kernel
theorem dX6_lineBehind_164 : decode cX6_lineBehind 164 = .ok (.invokevirtual 130, 3) := by decide +kernel
theorem dX6_lineBehind_167 : decode cX6_lineBehind 167 = .ok (.ireturn, 1) := by decide +kernel
set_option maxRecDepth 20000 in
theorem ggX6_doLine_X6_make : GoodIn wsX6_doLine wsX6_make := goodIn_r _ [6, 7, 8, 1, 9, 10, 11, 12, 13, 14, 15, 16, 17, 18, 19, 20, 21, 22, 23, 24, 25, 26, 27, 28, 29, 30, 31, 5, 32, 33, 34, 35, 36, 37, 38, 39, 40, 41, 42, 43, 44, 45, 46, 47, 48, 49, 50, 51, 52, 53, 145, 146, 147, 148, 149, 150, 151, 152, 153, 154, 155, 156, 157, 158, 159, 160, 161, 162, 163, 164, 165, 166, 167, 168, 169, 170, 171, 172, 173] (by decide +kernel) (by decide +kernel)
set_option maxRecDepth 20000 in
theorem gX6_doLine_X6_make : GoodIn wsX6_doLine (wsV RX6 145 RX6 yX6_make wsX6_make) := goodIn_app (goodIn_of _ (by decide +kernel)) ggX6_doLine_X6_make
set_option maxRecDepth 20000 in
theorem ggX6_doLine_X6_move : GoodIn wsX6_doLine wsX6_move := goodIn_r _ [57, 7, 33, 34, 35, 5, 36, 9, 10, 11, 12, 13, 14, 15, 58, 59, 60, 61, 49, 26, 27, 28, 62, 63, 64, 65, 45, 29, 30, 31, 32, 37, 38, 39, 40, 41, 42, 43, 44, 46, 47, 48, 50, 51, 52, 53, 145, 146, 147, 148, 149, 150, 151, 152, 153, 154, 155, 156, 157, 158, 159, 160, 161, 162, 163, 164, 165, 166, 167] (by decide +kernel) (by decide +kernel)
set_option maxRecDepth 20000 in
theorem gX6_doLine_X6_move : GoodIn wsX6_doLine (wsV RX6 149 RX6 yX6_move wsX6_move) := goodIn_app (goodIn_of _ (by decide +kernel)) ggX6_doLine_X6_move
set_option maxRecDepth 20000 in
theorem ggX6_doLine_X6_copy : GoodIn wsX6_doLine wsX6_copy := goodIn_r _ [69, 7, 1, 9, 10, 11, 12, 13, 14, 15, 58, 59, 60, 5, 61, 49, 26, 27, 28, 70, 71, 72, 19, 73, 23, 74, 75, 76, 77, 22, 29, 30, 31, 32, 33, 34, 35, 36, 37, 38, 39, 40, 41, 42, 43, 44, 45, 46, 47, 48, 50, 51, 52, 53, 145, 146, 147, 148, 149, 150, 151, 152, 153, 154, 155, 156, 157, 158, 159, 160, 161, 162, 163, 164, 165, 166, 167, 168, 169, 170, 171, 172, 173] (by decide +kernel) (by decide +kernel)
set_option maxRecDepth 20000 in
theorem gX6_doLine_X6_copy : GoodIn wsX6_doLine (wsV RX6 152 RX6 yX6_copy wsX6_copy) := goodIn_app (goodIn_of _ (by decide +kernel)) ggX6_doLine_X6_copy
set_option maxRecDepth 20000 in
theorem ggX6_doLine_X6_give : GoodIn wsX6_doLine wsX6_give := goodIn_r _ [32, 7, 33, 34, 35, 5, 36, 9, 10, 11, 12, 13, 14, 15, 37, 38, 39, 40, 41, 42, 43, 44, 45, 46, 47, 48, 49, 50, 51, 52, 53, 145, 146, 147, 148, 149, 150, 151, 152, 153, 154, 155, 156, 157, 158, 159, 160, 161, 162, 163, 164, 165, 166, 167] (by decide +kernel) (by decide +kernel)
set_option maxRecDepth 20000 in
theorem gX6_doLine_X6_give : GoodIn wsX6_doLine (wsV RX6 155 RX6 yX6_give wsX6_give) := goodIn_app (goodIn_of _ (by decide +kernel)) ggX6_doLine_X6_give
set_option maxRecDepth 20000 in
theorem ggX6_doLine_X6_read : GoodIn wsX6_doLine wsX6_read := goodIn_r _ [81, 7, 1, 82, 83, 9, 10, 11, 12, 13, 14, 15, 58, 59, 60, 5, 61, 49, 26, 27, 28, 84, 85, 86, 19, 87, 25, 74, 75, 76, 77, 22, 88, 89, 90, 91, 92, 93, 94, 95, 96, 97, 21, 98, 99, 100, 101, 102, 103, 104, 105, 106, 107, 108, 109, 110, 111, 112, 33, 34, 35, 36, 145, 146, 147, 148, 149, 150, 151, 152, 153, 154, 155, 156, 157, 158, 159, 160, 161, 162, 163, 164, 165, 166, 167, 168, 169, 170, 171, 172, 173, 174, 175, 176, 177] (by decide +kernel) (by decide +kernel)
set_option maxRecDepth 20000 in
theorem gX6_doLine_X6_read : GoodIn wsX6_doLine (wsV RX6 158 RX6 yX6_read wsX6_read) := goodIn_app (goodIn_of _ (by decide +kernel)) ggX6_doLine_X6_read
set_option maxRecDepth 20000 in
theorem ggX6_doLine_X6_write : GoodIn wsX6_doLine wsX6_write := goodIn_r _ [116, 7, 1, 9, 10, 11, 12, 13, 14, 15, 58, 59, 60, 5, 61, 49, 26, 27, 28, 84, 85, 86, 19, 87, 25, 74, 75, 76, 77, 22, 88, 89, 90, 91, 92, 83, 93, 117, 118, 119, 120, 21, 107, 108, 121, 122, 123, 124, 33, 34, 35, 36, 50, 51, 52, 53, 45, 145, 146, 147, 148, 149, 150, 151, 152, 153, 154, 155, 156, 157, 158, 159, 160, 161, 162, 163, 164, 165, 166, 167, 168, 169, 170, 171, 172, 173] (by decide +kernel) (by decide +kernel)
set_option maxRecDepth 20000 in
theorem gX6_doLine_X6_write : GoodIn wsX6_doLine (wsV RX6 162 RX6 yX6_write wsX6_write) := goodIn_app (goodIn_of _ (by decide +kernel)) ggX6_doLine_X6_write
set_option maxRecDepth 20000 in
theorem ggX6_doLine_X6_drop : GoodIn wsX6_doLine wsX6_drop := goodIn_r _ [40, 7, 9, 10, 11, 12, 13, 14, 15, 41, 42, 43, 5, 44, 45, 46, 47, 48, 49, 145, 146, 147, 148, 149, 150, 151, 152, 153, 154, 155, 156, 157, 158, 159, 160, 161, 162, 163, 164, 165, 166, 167] (by decide +kernel) (by decide +kernel)
set_option maxRecDepth 20000 in
theorem gX6_doLine_X6_drop : GoodIn wsX6_doLine (wsV RX6 165 RX6 yX6_drop wsX6_drop) := goodIn_app (goodIn_of _ (by decide +kernel)) ggX6_doLine_X6_drop
set_option maxRecDepth 20000 in
theorem ggX6_doLine_X6_valueAt : GoodIn wsX6_doLine wsX6_valueAt := goodIn_r _ [61, 49, 26, 27, 28, 145, 146, 147, 148, 149, 150, 151, 152, 153, 154, 155, 156, 157, 158, 159, 160, 161] (by decide +kernel) (by decide +kernel)
set_option maxRecDepth 20000 in
theorem gX6_doLine_X6_valueAt : GoodIn wsX6_doLine (wsV RX6 168 RX6 yX6_valueAt wsX6_valueAt) := goodIn_app (goodIn_of _ (by decide +kernel)) ggX6_doLine_X6_valueAt
set_option maxRecDepth 20000 in
theorem ggX6_doLine_X6_link : GoodIn wsX6_doLine wsX6_link := goodIn_r _ [128, 1, 46, 47, 48, 70, 71, 72, 19, 73, 23, 74, 75, 76, 77, 22, 129, 130, 131, 132, 24, 133, 134, 135, 136, 145, 146, 147, 148, 149, 150, 151, 152, 153, 154, 155, 156, 157, 158, 159, 160, 161, 168, 169, 170, 171, 172, 173] (by decide +kernel) (by decide +kernel)
set_option maxRecDepth 20000 in
theorem gX6_doLine_X6_link : GoodIn wsX6_doLine (wsV RX6 171 RX6 yX6_link wsX6_link) := goodIn_app (goodIn_of _ (by decide +kernel)) ggX6_doLine_X6_link
set_option maxRecDepth 20000 in
theorem ggX6_doLine_X6_hold : GoodIn wsX6_doLine wsX6_hold := goodIn_r _ [140, 1, 84, 85, 86, 19, 87, 25, 74, 75, 76, 77, 22, 88, 89, 90, 5, 91, 92, 83, 93, 141, 142, 143, 144, 145, 146, 147, 148, 149, 150, 151, 152, 153, 154, 155, 156, 157, 158, 159, 160, 161, 168, 169, 170, 171, 172, 173] (by decide +kernel) (by decide +kernel)
set_option maxRecDepth 20000 in
theorem gX6_doLine_X6_hold : GoodIn wsX6_doLine (wsV RX6 174 RX6 yX6_hold wsX6_hold) := goodIn_app (goodIn_of _ (by decide +kernel)) ggX6_doLine_X6_hold
set_option maxRecDepth 20000 in
theorem ggX6_doLine_X4_setHeld : GoodIn wsX6_doLine wsX4_setHeld := goodIn_r _ [144, 25, 74, 75, 76, 19, 77, 22, 168, 169, 170, 171, 172, 173] (by decide +kernel) (by decide +kernel)
set_option maxRecDepth 20000 in
theorem gX6_doLine_X4_setHeld : GoodIn wsX6_doLine (wsV RX6 177 RX4 yX4_setHeld wsX4_setHeld) := goodIn_app (goodIn_of _ (by decide +kernel)) ggX6_doLine_X4_setHeld
set_option maxRecDepth 20000 in
theorem ggX6_doLine_X6_panic : GoodIn wsX6_doLine wsX6_panic := goodIn_r _ [91, 92, 83, 93, 145, 146, 147, 148, 149, 150, 151, 152, 153, 154, 155, 156, 157, 158, 159, 160, 161] (by decide +kernel) (by decide +kernel)
set_option maxRecDepth 20000 in
theorem gX6_doLine_X6_panic : GoodIn wsX6_doLine (wsV RX6 181 RX6 yX6_panic wsX6_panic) := goodIn_app (goodIn_of _ (by decide +kernel)) ggX6_doLine_X6_panic
set_option maxRecDepth 20000 in
theorem ggX6_doLine_X6_setValue : GoodIn wsX6_doLine wsX6_setValue := goodIn_r _ [53, 45, 49, 145, 146, 147, 148, 149, 150, 151, 152, 153, 154, 155, 156, 157, 158, 159, 160, 161] (by decide +kernel) (by decide +kernel)
set_option maxRecDepth 20000 in
theorem gX6_doLine_X6_setValue : GoodIn wsX6_doLine (wsV RX6 184 RX6 yX6_setValue wsX6_setValue) := goodIn_app (goodIn_of _ (by decide +kernel)) ggX6_doLine_X6_setValue
theorem dX6_doLine_0 : decode cX6_doLine 0 = .ok (.iload_n 1, 1) := by decide +kernel
theorem dX6_doLine_1 : decode cX6_doLine 1 = .ok (.tableswitch 212 0 16 #[83, 92, 101, 110, 110, 120, 128, 137, 212, 212, 212, 212, 145, 162, 174, 190, 197], 83) := by decide +kernel
theorem dX6_doLine_84 : decode cX6_doLine 84 = .ok (.aload_n 0, 1) := by decide +kernel
theorem dX6_doLine_85 : decode cX6_doLine 85 = .ok (.iload_n 2, 1) := by decide +kernel
theorem dX6_doLine_86 : decode cX6_doLine 86 = .ok (.iload_n 3, 1) := by decide +kernel
theorem dX6_doLine_87 : decode cX6_doLine 87 = .ok (.invokevirtual 145, 3) := by decide +kernel
theorem dX6_doLine_90 : decode cX6_doLine 90 = .ok (.goto 123, 3) := by decide +kernel
theorem dX6_doLine_93 : decode cX6_doLine 93 = .ok (.aload_n 0, 1) := by decide +kernel
theorem dX6_doLine_94 : decode cX6_doLine 94 = .ok (.iload_n 2, 1) := by decide +kernel
theorem dX6_doLine_95 : decode cX6_doLine 95 = .ok (.iload_n 3, 1) := by decide +kernel
theorem dX6_doLine_96 : decode cX6_doLine 96 = .ok (.invokevirtual 149, 3) := by decide +kernel
theorem dX6_doLine_99 : decode cX6_doLine 99 = .ok (.goto 114, 3) := by decide +kernel
theorem dX6_doLine_102 : decode cX6_doLine 102 = .ok (.aload_n 0, 1) := by decide +kernel
theorem dX6_doLine_103 : decode cX6_doLine 103 = .ok (.iload_n 2, 1) := by decide +kernel
theorem dX6_doLine_104 : decode cX6_doLine 104 = .ok (.iload_n 3, 1) := by decide +kernel
theorem dX6_doLine_105 : decode cX6_doLine 105 = .ok (.invokevirtual 152, 3) := by decide +kernel
theorem dX6_doLine_108 : decode cX6_doLine 108 = .ok (.goto 105, 3) := by decide +kernel
theorem dX6_doLine_111 : decode cX6_doLine 111 = .ok (.aload_n 0, 1) := by decide +kernel
theorem dX6_doLine_112 : decode cX6_doLine 112 = .ok (.iload_n 2, 1) := by decide +kernel
theorem dX6_doLine_113 : decode cX6_doLine 113 = .ok (.iload_n 3, 1) := by decide +kernel
theorem dX6_doLine_114 : decode cX6_doLine 114 = .ok (.iconst 0, 1) := by decide +kernel
theorem dX6_doLine_115 : decode cX6_doLine 115 = .ok (.invokevirtual 155, 3) := by decide +kernel
theorem dX6_doLine_118 : decode cX6_doLine 118 = .ok (.goto 95, 3) := by decide +kernel
theorem dX6_doLine_121 : decode cX6_doLine 121 = .ok (.aload_n 0, 1) := by decide +kernel
theorem dX6_doLine_122 : decode cX6_doLine 122 = .ok (.iload_n 2, 1) := by decide +kernel
theorem dX6_doLine_123 : decode cX6_doLine 123 = .ok (.invokevirtual 158, 3) := by decide +kernel
theorem dX6_doLine_126 : decode cX6_doLine 126 = .ok (.goto 87, 3) := by decide +kernel
theorem dX6_doLine_129 : decode cX6_doLine 129 = .ok (.aload_n 0, 1) := by decide +kernel
theorem dX6_doLine_130 : decode cX6_doLine 130 = .ok (.iload_n 2, 1) := by decide +kernel
theorem dX6_doLine_131 : decode cX6_doLine 131 = .ok (.iload_n 3, 1) := by decide +kernel
theorem dX6_doLine_132 : decode cX6_doLine 132 = .ok (.invokevirtual 162, 3) := by decide +kernel
theorem dX6_doLine_135 : decode cX6_doLine 135 = .ok (.goto 78, 3) := by decide +kernel
theorem dX6_doLine_138 : decode cX6_doLine 138 = .ok (.aload_n 0, 1) := by decide +kernel
theorem dX6_doLine_139 : decode cX6_doLine 139 = .ok (.iload_n 2, 1) := by decide +kernel
theorem dX6_doLine_140 : decode cX6_doLine 140 = .ok (.invokevirtual 165, 3) := by decide +kernel
theorem dX6_doLine_143 : decode cX6_doLine 143 = .ok (.goto 70, 3) := by decide +kernel
theorem dX6_doLine_146 : decode cX6_doLine 146 = .ok (.aload_n 0, 1) := by decide +kernel
theorem dX6_doLine_147 : decode cX6_doLine 147 = .ok (.aload_n 0, 1) := by decide +kernel
theorem dX6_doLine_148 : decode cX6_doLine 148 = .ok (.iload_n 2, 1) := by decide +kernel
theorem dX6_doLine_149 : decode cX6_doLine 149 = .ok (.invokevirtual 168, 3) := by decide +kernel
theorem dX6_doLine_152 : decode cX6_doLine 152 = .ok (.aload_n 0, 1) := by decide +kernel
theorem dX6_doLine_153 : decode cX6_doLine 153 = .ok (.iload_n 3, 1) := by decide +kernel
theorem dX6_doLine_154 : decode cX6_doLine 154 = .ok (.invokevirtual 168, 3) := by decide +kernel
theorem dX6_doLine_157 : decode cX6_doLine 157 = .ok (.invokevirtual 171, 3) := by decide +kernel
theorem dX6_doLine_160 : decode cX6_doLine 160 = .ok (.goto 53, 3) := by decide +kernel
theorem dX6_doLine_163 : decode cX6_doLine 163 = .ok (.aload_n 0, 1) := by decide +kernel
theorem dX6_doLine_164 : decode cX6_doLine 164 = .ok (.aload_n 0, 1) := by decide +kernel
theorem dX6_doLine_165 : decode cX6_doLine 165 = .ok (.iload_n 2, 1) := by decide +kernel
theorem dX6_doLine_166 : decode cX6_doLine 166 = .ok (.invokevirtual 168, 3) := by decide +kernel
theorem dX6_doLine_169 : decode cX6_doLine 169 = .ok (.invokevirtual 174, 3) := by decide +kernel
theorem dX6_doLine_172 : decode cX6_doLine 172 = .ok (.goto 41, 3) := by decide +kernel
theorem dX6_doLine_175 : decode cX6_doLine 175 = .ok (.aload_n 0, 1) := by decide +kernel
theorem dX6_doLine_176 : decode cX6_doLine 176 = .ok (.getfield 29, 3) := by decide +kernel
theorem dX6_doLine_179 : decode cX6_doLine 179 = .ok (.aload_n 0, 1) := by decide +kernel
theorem dX6_doLine_180 : decode cX6_doLine 180 = .ok (.iload_n 2, 1) := by decide +kernel
theorem dX6_doLine_181 : decode cX6_doLine 181 = .ok (.invokevirtual 168, 3) := by decide +kernel
theorem dX6_doLine_184 : decode cX6_doLine 184 = .ok (.iconst 0, 1) := by decide +kernel
theorem dX6_doLine_185 : decode cX6_doLine 185 = .ok (.invokevirtual 177, 3) := by decide +kernel
theorem dX6_doLine_188 : decode cX6_doLine 188 = .ok (.goto 25, 3) := by decide +kernel
theorem dX6_doLine_191 : decode cX6_doLine 191 = .ok (.aload_n 0, 1) := by decide +kernel
theorem dX6_doLine_192 : decode cX6_doLine 192 = .ok (.invokevirtual 181, 3) := by decide +kernel
theorem dX6_doLine_195 : decode cX6_doLine 195 = .ok (.goto 18, 3) := by decide +kernel
theorem dX6_doLine_198 : decode cX6_doLine 198 = .ok (.aload_n 0, 1) := by decide +kernel
theorem dX6_doLine_199 : decode cX6_doLine 199 = .ok (.iload_n 2, 1) := by decide +kernel
theorem dX6_doLine_200 : decode cX6_doLine 200 = .ok (.aload_n 0, 1) := by decide +kernel
theorem dX6_doLine_201 : decode cX6_doLine 201 = .ok (.iload_n 2, 1) := by decide +kernel
theorem dX6_doLine_202 : decode cX6_doLine 202 = .ok (.invokevirtual 168, 3) := by decide +kernel
theorem dX6_doLine_205 : decode cX6_doLine 205 = .ok (.iload_n 3, 1) := by decide +kernel
theorem dX6_doLine_206 : decode cX6_doLine 206 = .ok (.iadd, 1) := by decide +kernel
theorem dX6_doLine_207 : decode cX6_doLine 207 = .ok (.invokevirtual 184, 3) := by decide +kernel
theorem dX6_doLine_210 : decode cX6_doLine 210 = .ok (.goto 3, 3) := by decide +kernel
theorem dX6_doLine_213 : decode cX6_doLine 213 = .ok (.return_, 1) := by decide +kernel
theorem dX6_panic_0 : decode cX6_panic 0 = .ok (.aload_n 0, 1) := by decide +kernel
theorem dX6_panic_1 : decode cX6_panic 1 = .ok (.getfield 69, 3) := by decide +kernel
theorem dX6_panic_4 : decode cX6_panic 4 = .ok (.iconst (-1), 1) := by decide +kernel
theorem dX6_panic_5 : decode cX6_panic 5 = .ok (.if_icmp .ne 14, 3) := by decide +kernel
theorem dX6_panic_8 : decode cX6_panic 8 = .ok (.aload_n 0, 1) := by decide +kernel
theorem dX6_panic_9 : decode cX6_panic 9 = .ok (.aload_n 0, 1) := by decide +kernel
theorem dX6_panic_10 : decode cX6_panic 10 = .ok (.getfield 54, 3) := by decide +kernel
theorem dX6_panic_13 : decode cX6_panic 13 = .ok (.putfield 69, 3) := by decide +kernel
theorem dX6_panic_16 : decode cX6_panic 16 = .ok (.goto 8, 3) := by decide +kernel
theorem dX6_panic_19 : decode cX6_panic 19 = .ok (.aload_n 0, 1) := by decide +kernel
theorem dX6_panic_20 : decode cX6_panic 20 = .ok (.iconst 1, 1) := by decide +kernel
theorem dX6_panic_21 : decode cX6_panic 21 = .ok (.putfield 72, 3) := by decide +kernel
theorem dX6_panic_24 : decode cX6_panic 24 = .ok (.return_, 1) := by decide +kernel
set_option maxRecDepth 20000 in
theorem ggX6_make_X5_kindAt : GoodIn wsX6_make wsX5_kindAt := goodIn_r _ [8, 9, 10, 67, 68, 69, 70, 71, 72] (by decide +kernel) (by decide +kernel)
set_option maxRecDepth 20000 in
theorem gX6_make_X5_kindAt : GoodIn wsX6_make (wsV RX6 187 RX5 yX5_kindAt wsX5_kindAt) := goodIn_app (goodIn_of _ (by decide +kernel)) ggX6_make_X5_kindAt
set_option maxRecDepth 20000 in
theorem ggX6_make_X4_newNode : GoodIn wsX6_make wsX4_newNode := goodIn_r _ [15, 16, 17, 18, 19, 20, 21, 22, 23, 73, 74, 75, 76, 77, 78] (by decide +kernel) (by decide +kernel)
set_option maxRecDepth 20000 in
theorem gX6_make_X4_newNode : GoodIn wsX6_make (wsV RX6 190 RX4 yX4_newNode wsX4_newNode) := goodIn_app (goodIn_of _ (by decide +kernel)) ggX6_make_X4_newNode
set_option maxRecDepth 20000 in
theorem ggX6_make_X6_give : GoodIn wsX6_make wsX6_give := goodIn_r _ [28, 1, 29, 30, 31, 27, 32, 4, 5, 6, 7, 8, 9, 10, 33, 34, 35, 36, 37, 38, 39, 40, 41, 42, 43, 44, 45, 46, 47, 48, 49, 50, 51, 52, 53, 54, 55, 56, 57, 58, 59, 60, 61, 62, 63, 64, 65, 66, 67, 68, 69, 70, 71, 72] (by decide +kernel) (by decide +kernel)
