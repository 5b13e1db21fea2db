set_option maxRecDepth 20000 in
theorem gX14_lineOf_Jx4a65c_size_8abf5 : GoodIn wsX14_lineOf (wsV RX14 26 RJx4a65c yJx4a65c_size_8abf5 wsJx4a65c_size_8abf5) := goodIn_app (goodIn_of _ (by decide +kernel)) ggX14_lineOf_Jx4a65c_size_8abf5
set_option maxRecDepth 20000 in
theorem ggX14_lineOf_Jx4a65c_get_915e3 : GoodIn wsX14_lineOf wsJx4a65c_get_915e3 := goodIn_r _ [12, 8, 13, 14, 15, 16, 17, 18, 19, 20, 21, 22, 23, 6, 24, 25, 34, 35, 36] (by decide +kernel) (by decide +kernel)
set_option maxRecDepth 20000 in
theorem gX14_lineOf_Jx4a65c_get_915e3 : GoodIn wsX14_lineOf (wsV RX14 34 RJx4a65c yJx4a65c_get_915e3 wsJx4a65c_get_915e3) := goodIn_app (goodIn_of _ (by decide +kernel)) ggX14_lineOf_Jx4a65c_get_915e3
set_option maxRecDepth 20000 in
theorem ggX14_lineOf_X12_isLoan : GoodIn wsX14_lineOf wsX12_isLoan := goodIn_r _ [30, 31, 37, 38, 39] (by decide +kernel) (by decide +kernel)
set_option maxRecDepth 20000 in
theorem gX14_lineOf_X12_isLoan : GoodIn wsX14_lineOf (wsV RX14 76 RX12 yX12_isLoan wsX12_isLoan) := goodIn_app (goodIn_of _ (by decide +kernel)) ggX14_lineOf_X12_isLoan
theorem dX14_lineOf_0 : decode cX14_lineOf 0 = .ok (.iload_n 1, 1) := by decide +kernel
theorem dX14_lineOf_1 : decode cX14_lineOf 1 = .ok (.istore_n 2, 1) := by decide +kernel
theorem dX14_lineOf_2 : decode cX14_lineOf 2 = .ok (.iconst 0, 1) := by decide +kernel
theorem dX14_lineOf_3 : decode cX14_lineOf 3 = .ok (.istore_n 3, 1) := by decide +kernel
theorem dX14_lineOf_4 : decode cX14_lineOf 4 = .ok (.iload_n 3, 1) := by decide +kernel
theorem dX14_lineOf_5 : decode cX14_lineOf 5 = .ok (.aload_n 0, 1) := by decide +kernel
theorem dX14_lineOf_6 : decode cX14_lineOf 6 = .ok (.getfield 18, 3) := by decide +kernel
theorem dX14_lineOf_9 : decode cX14_lineOf 9 = .ok (.invokevirtual 26, 3) := by decide +kernel
theorem dX14_lineOf_12 : decode cX14_lineOf 12 = .ok (.if_icmp .ge 35, 3) := by decide +kernel
theorem dX14_lineOf_15 : decode cX14_lineOf 15 = .ok (.aload_n 0, 1) := by decide +kernel
theorem dX14_lineOf_16 : decode cX14_lineOf 16 = .ok (.getfield 18, 3) := by decide +kernel
theorem dX14_lineOf_19 : decode cX14_lineOf 19 = .ok (.iload_n 3, 1) := by decide +kernel
theorem dX14_lineOf_20 : decode cX14_lineOf 20 = .ok (.invokevirtual 34, 3) := by decide +kernel
theorem dX14_lineOf_23 : decode cX14_lineOf 23 = .ok (.checkcast 74, 3) := by decide +kernel
theorem dX14_lineOf_26 : decode cX14_lineOf 26 = .ok (.invokevirtual 76, 3) := by decide +kernel
theorem dX14_lineOf_29 : decode cX14_lineOf 29 = .ok (.ifCond .eq 12, 3) := by decide +kernel
theorem dX14_lineOf_32 : decode cX14_lineOf 32 = .ok (.iload_n 2, 1) := by decide +kernel
theorem dX14_lineOf_33 : decode cX14_lineOf 33 = .ok (.iinc 2 (-1), 3) := by decide +kernel
theorem dX14_lineOf_36 : decode cX14_lineOf 36 = .ok (.ifCond .ne 5, 3) := by decide +kernel
theorem dX14_lineOf_39 : decode cX14_lineOf 39 = .ok (.iload_n 3, 1) := by decide +kernel
theorem dX14_lineOf_40 : decode cX14_lineOf 40 = .ok (.ireturn, 1) := by decide +kernel
theorem dX14_lineOf_41 : decode cX14_lineOf 41 = .ok (.iinc 3 1, 3) := by decide +kernel
theorem dX14_lineOf_44 : decode cX14_lineOf 44 = .ok (.goto (-40), 3) := by decide +kernel
theorem dX14_lineOf_47 : decode cX14_lineOf 47 = .ok (.iconst (-1), 1) := by decide +kernel
theorem dX14_lineOf_48 : decode cX14_lineOf 48 = .ok (.ireturn, 1) := by decide +kernel
set_option maxRecDepth 20000 in
theorem ggX14_loanOf_Jx4a65c_get_915e3 : GoodIn wsX14_loanOf wsJx4a65c_get_915e3 := goodIn_r _ [7, 8, 9, 10, 11, 12, 13, 14, 15, 16, 17, 18, 19, 6, 20, 21, 30, 31, 32] (by decide +kernel) (by decide +kernel)
set_option maxRecDepth 20000 in
theorem gX14_loanOf_Jx4a65c_get_915e3 : GoodIn wsX14_loanOf (wsV RX14 34 RJx4a65c yJx4a65c_get_915e3 wsJx4a65c_get_915e3) := goodIn_app (goodIn_of _ (by decide +kernel)) ggX14_loanOf_Jx4a65c_get_915e3
set_option maxRecDepth 20000 in
theorem ggX14_loanOf_X12_isLoan : GoodIn wsX14_loanOf wsX12_isLoan := goodIn_r _ [26, 27, 33, 34, 35] (by decide +kernel) (by decide +kernel)
set_option maxRecDepth 20000 in
theorem gX14_loanOf_X12_isLoan : GoodIn wsX14_loanOf (wsV RX14 76 RX12 yX12_isLoan wsX12_isLoan) := goodIn_app (goodIn_of _ (by decide +kernel)) ggX14_loanOf_X12_isLoan
theorem dX14_loanOf_0 : decode cX14_loanOf 0 = .ok (.iconst 0, 1) := by decide +kernel
theorem dX14_loanOf_1 : decode cX14_loanOf 1 = .ok (.istore_n 2, 1) := by decide +kernel
theorem dX14_loanOf_2 : decode cX14_loanOf 2 = .ok (.iconst 0, 1) := by decide +kernel
theorem dX14_loanOf_3 : decode cX14_loanOf 3 = .ok (.istore_n 3, 1) := by decide +kernel
theorem dX14_loanOf_4 : decode cX14_loanOf 4 = .ok (.iload_n 3, 1) := by decide +kernel
theorem dX14_loanOf_5 : decode cX14_loanOf 5 = .ok (.iload_n 1, 1) := by decide +kernel
theorem dX14_loanOf_6 : decode cX14_loanOf 6 = .ok (.if_icmp .ge 34, 3) := by decide +kernel
theorem dX14_loanOf_9 : decode cX14_loanOf 9 = .ok (.iload_n 2, 1) := by decide +kernel
theorem dX14_loanOf_10 : decode cX14_loanOf 10 = .ok (.aload_n 0, 1) := by decide +kernel
theorem dX14_loanOf_11 : decode cX14_loanOf 11 = .ok (.getfield 18, 3) := by decide +kernel
theorem dX14_loanOf_14 : decode cX14_loanOf 14 = .ok (.iload_n 3, 1) := by decide +kernel
theorem dX14_loanOf_15 : decode cX14_loanOf 15 = .ok (.invokevirtual 34, 3) := by decide +kernel
theorem dX14_loanOf_18 : decode cX14_loanOf 18 = .ok (.checkcast 74, 3) := by decide +kernel
theorem dX14_loanOf_21 : decode cX14_loanOf 21 = .ok (.invokevirtual 76, 3) := by decide +kernel
theorem dX14_loanOf_24 : decode cX14_loanOf 24 = .ok (.ifCond .eq 7, 3) := by decide +kernel
theorem dX14_loanOf_27 : decode cX14_loanOf 27 = .ok (.iconst 1, 1) := by decide +kernel
theorem dX14_loanOf_28 : decode cX14_loanOf 28 = .ok (.goto 4, 3) := by decide +kernel
theorem dX14_loanOf_31 : decode cX14_loanOf 31 = .ok (.iconst 0, 1) := by decide +kernel
theorem dX14_loanOf_32 : decode cX14_loanOf 32 = .ok (.iadd, 1) := by decide +kernel
theorem dX14_loanOf_33 : decode cX14_loanOf 33 = .ok (.istore_n 2, 1) := by decide +kernel
theorem dX14_loanOf_34 : decode cX14_loanOf 34 = .ok (.iinc 3 1, 3) := by decide +kernel
theorem dX14_loanOf_37 : decode cX14_loanOf 37 = .ok (.goto (-33), 3) := by decide +kernel
theorem dX14_loanOf_40 : decode cX14_loanOf 40 = .ok (.iload_n 2, 1) := by decide +kernel
theorem dX14_loanOf_41 : decode cX14_loanOf 41 = .ok (.ireturn, 1) := by decide +kernel
theorem dX14_uses_0 : decode cX14_uses 0 = .ok (.aload_n 1, 1) := by decide +kernel
theorem dX14_uses_1 : decode cX14_uses 1 = .ok (.getfield 79, 3) := by decide +kernel
theorem dX14_uses_4 : decode cX14_uses 4 = .ok (.tableswitch 120 1 16 #[80, 80, 80, 80, 91, 91, 91, 91, 120, 120, 120, 102, 91, 91, 120, 91], 80) := by decide +kernel
theorem dX14_uses_84 : decode cX14_uses 84 = .ok (.iconst 1, 1) := by decide +kernel
theorem dX14_uses_85 : decode cX14_uses 85 = .ok (.newarray .int, 2) := by decide +kernel
theorem dX14_uses_87 : decode cX14_uses 87 = .ok (.dup, 1) := by decide +kernel
theorem dX14_uses_88 : decode cX14_uses 88 = .ok (.iconst 0, 1) := by decide +kernel
theorem dX14_uses_89 : decode cX14_uses 89 = .ok (.aload_n 1, 1) := by decide +kernel
theorem dX14_uses_90 : decode cX14_uses 90 = .ok (.getfield 83, 3) := by decide +kernel
theorem dX14_uses_93 : decode cX14_uses 93 = .ok (.iastore, 1) := by decide +kernel
theorem dX14_uses_94 : decode cX14_uses 94 = .ok (.areturn, 1) := by decide +kernel
theorem dX14_uses_95 : decode cX14_uses 95 = .ok (.iconst 1, 1) := by decide +kernel
theorem dX14_uses_96 : decode cX14_uses 96 = .ok (.newarray .int, 2) := by decide +kernel
theorem dX14_uses_98 : decode cX14_uses 98 = .ok (.dup, 1) := by decide +kernel
theorem dX14_uses_99 : decode cX14_uses 99 = .ok (.iconst 0, 1) := by decide +kernel
theorem dX14_uses_100 : decode cX14_uses 100 = .ok (.aload_n 1, 1) := by decide +kernel
theorem dX14_uses_101 : decode cX14_uses 101 = .ok (.getfield 86, 3) := by decide +kernel
theorem dX14_uses_104 : decode cX14_uses 104 = .ok (.iastore, 1) := by decide +kernel
theorem dX14_uses_105 : decode cX14_uses 105 = .ok (.areturn, 1) := by decide +kernel
theorem dX14_uses_106 : decode cX14_uses 106 = .ok (.iconst 2, 1) := by decide +kernel
theorem dX14_uses_107 : decode cX14_uses 107 = .ok (.newarray .int, 2) := by decide +kernel
theorem dX14_uses_109 : decode cX14_uses 109 = .ok (.dup, 1) := by decide +kernel
theorem dX14_uses_110 : decode cX14_uses 110 = .ok (.iconst 0, 1) := by decide +kernel
theorem dX14_uses_111 : decode cX14_uses 111 = .ok (.aload_n 1, 1) := by decide +kernel
theorem dX14_uses_112 : decode cX14_uses 112 = .ok (.getfield 86, 3) := by decide +kernel
theorem dX14_uses_115 : decode cX14_uses 115 = .ok (.iastore, 1) := by decide +kernel
theorem dX14_uses_116 : decode cX14_uses 116 = .ok (.dup, 1) := by decide +kernel
theorem dX14_uses_117 : decode cX14_uses 117 = .ok (.iconst 1, 1) := by decide +kernel
theorem dX14_uses_118 : decode cX14_uses 118 = .ok (.aload_n 1, 1) := by decide +kernel
theorem dX14_uses_119 : decode cX14_uses 119 = .ok (.getfield 83, 3) := by decide +kernel
theorem dX14_uses_122 : decode cX14_uses 122 = .ok (.iastore, 1) := by decide +kernel
theorem dX14_uses_123 : decode cX14_uses 123 = .ok (.areturn, 1) := by decide +kernel
theorem dX14_uses_124 : decode cX14_uses 124 = .ok (.iconst 0, 1) := by decide +kernel
theorem dX14_uses_125 : decode cX14_uses 125 = .ok (.newarray .int, 2) := by decide +kernel
theorem dX14_uses_127 : decode cX14_uses 127 = .ok (.areturn, 1) := by decide +kernel
set_option maxRecDepth 20000 in
theorem ggX14_uses__X14_uses : GoodIn wsX14_uses_ wsX14_uses := goodIn_r _ [5, 6, 7, 8, 9, 10, 11, 12] (by decide +kernel) (by decide +kernel)
set_option maxRecDepth 20000 in
theorem gX14_uses__X14_uses : GoodIn wsX14_uses_ (wsV RX14 89 RX14 yX14_uses wsX14_uses) := goodIn_app (goodIn_of _ (by decide +kernel)) ggX14_uses__X14_uses
theorem dX14_uses__0 : decode cX14_uses_ 0 = .ok (.aload_n 0, 1) := by decide +kernel
theorem dX14_uses__1 : decode cX14_uses_ 1 = .ok (.aload_n 1, 1) := by decide +kernel
theorem dX14_uses__2 : decode cX14_uses_ 2 = .ok (.invokevirtual 89, 3) := by decide +kernel
theorem dX14_uses__5 : decode cX14_uses_ 5 = .ok (.astore_n 3, 1) := by decide +kernel
theorem dX14_uses__6 : decode cX14_uses_ 6 = .ok (.aload_n 3, 1) := by decide +kernel
theorem dX14_uses__7 : decode cX14_uses_ 7 = .ok (.arraylength, 1) := by decide +kernel
theorem dX14_uses__8 : decode cX14_uses_ 8 = .ok (.istore 4, 2) := by decide +kernel
theorem dX14_uses__10 : decode cX14_uses_ 10 = .ok (.iconst 0, 1) := by decide +kernel
theorem dX14_uses__11 : decode cX14_uses_ 11 = .ok (.istore 5, 2) := by decide +kernel
theorem dX14_uses__13 : decode cX14_uses_ 13 = .ok (.iload 5, 2) := by decide +kernel
theorem dX14_uses__15 : decode cX14_uses_ 15 = .ok (.iload 4, 2) := by decide +kernel
theorem dX14_uses__17 : decode cX14_uses_ 17 = .ok (.if_icmp .ge 25, 3) := by decide +kernel
theorem dX14_uses__20 : decode cX14_uses_ 20 = .ok (.aload_n 3, 1) := by decide +kernel
theorem dX14_uses__21 : decode cX14_uses_ 21 = .ok (.iload 5, 2) := by decide +kernel
theorem dX14_uses__23 : decode cX14_uses_ 23 = .ok (.iaload, 1) := by decide +kernel
theorem dX14_uses__24 : decode cX14_uses_ 24 = .ok (.istore 6, 2) := by decide +kernel
theorem dX14_uses__26 : decode cX14_uses_ 26 = .ok (.iload 6, 2) := by decide +kernel
theorem dX14_uses__28 : decode cX14_uses_ 28 = .ok (.iconst 3, 1) := by decide +kernel
theorem dX14_uses__29 : decode cX14_uses_ 29 = .ok (.idiv, 1) := by decide +kernel
theorem dX14_uses__30 : decode cX14_uses_ 30 = .ok (.iload_n 2, 1) := by decide +kernel
theorem dX14_uses__31 : decode cX14_uses_ 31 = .ok (.if_icmp .ne 5, 3) := by decide +kernel
theorem dX14_uses__34 : decode cX14_uses_ 34 = .ok (.iconst 1, 1) := by decide +kernel
theorem dX14_uses__35 : decode cX14_uses_ 35 = .ok (.ireturn, 1) := by decide +kernel
theorem dX14_uses__36 : decode cX14_uses_ 36 = .ok (.iinc 5 1, 3) := by decide +kernel
theorem dX14_uses__39 : decode cX14_uses_ 39 = .ok (.goto (-26), 3) := by decide +kernel
theorem dX14_uses__42 : decode cX14_uses_ 42 = .ok (.iconst 0, 1) := by decide +kernel
theorem dX14_uses__43 : decode cX14_uses_ 43 = .ok (.ireturn, 1) := by decide +kernel
set_option maxRecDepth 20000 in
theorem ggX14_gives_X12_gives : GoodIn wsX14_gives wsX12_gives := goodIn_r _ [6, 7, 8, 9, 10] (by decide +kernel) (by decide +kernel)
set_option maxRecDepth 20000 in
theorem gX14_gives_X12_gives : GoodIn wsX14_gives (wsV RX14 93 RX12 yX12_gives wsX12_gives) := goodIn_app (goodIn_of _ (by decide +kernel)) ggX14_gives_X12_gives
theorem dX14_gives_0 : decode cX14_gives 0 = .ok (.aload_n 1, 1) := by decide +kernel
theorem dX14_gives_1 : decode cX14_gives 1 = .ok (.invokevirtual 93, 3) := by decide +kernel
theorem dX14_gives_4 : decode cX14_gives 4 = .ok (.ifCond .eq 17, 3) := by decide +kernel
theorem dX14_gives_7 : decode cX14_gives 7 = .ok (.aload_n 1, 1) := by decide +kernel
theorem dX14_gives_8 : decode cX14_gives 8 = .ok (.getfield 86, 3) := by decide +kernel
theorem dX14_gives_11 : decode cX14_gives 11 = .ok (.iconst 3, 1) := by decide +kernel
theorem dX14_gives_12 : decode cX14_gives 12 = .ok (.idiv, 1) := by decide +kernel
theorem dX14_gives_13 : decode cX14_gives 13 = .ok (.iload_n 2, 1) := by decide +kernel
theorem dX14_gives_14 : decode cX14_gives 14 = .ok (.if_icmp .ne 7, 3) := by decide +kernel
theorem dX14_gives_17 : decode cX14_gives 17 = .ok (.iconst 1, 1) := by decide +kernel
theorem dX14_gives_18 : decode cX14_gives 18 = .ok (.goto 4, 3) := by decide +kernel
theorem dX14_gives_21 : decode cX14_gives 21 = .ok (.iconst 0, 1) := by decide +kernel
theorem dX14_gives_22 : decode cX14_gives 22 = .ok (.ireturn, 1) := by decide +kernel
set_option maxRecDepth 20000 in
theorem ggX14_takes_X14_kindOf : GoodIn wsX14_takes wsX14_kindOf := goodIn_r _ [10, 11, 12, 13, 14, 15, 16, 17, 18, 19, 20, 21, 22, 23, 24, 25, 26, 27, 28, 29, 30, 31, 32, 33, 34, 35, 36, 37, 38, 39, 40, 41, 42, 43, 44, 52, 53, 54, 55, 56, 57] (by decide +kernel) (by decide +kernel)
set_option maxRecDepth 20000 in
theorem gX14_takes_X14_kindOf : GoodIn wsX14_takes (wsV RX14 43 RX14 yX14_kindOf wsX14_kindOf) := goodIn_app (goodIn_of _ (by decide +kernel)) ggX14_takes_X14_kindOf
set_option maxRecDepth 20000 in
theorem ggX14_takes_X14_isBorrow : GoodIn wsX14_takes wsX14_isBorrow := goodIn_r _ [48, 6, 7, 8, 9, 10, 11, 12, 13, 14, 15, 16, 17, 18, 19, 20, 21, 22, 23, 24, 25, 26, 27, 28, 29, 30, 31, 32, 33, 34, 35, 36, 37, 38, 39, 40, 41, 42, 43, 44, 52, 53, 54, 55, 56, 57] (by decide +kernel) (by decide +kernel)
set_option maxRecDepth 20000 in
theorem gX14_takes_X14_isBorrow : GoodIn wsX14_takes (wsV RX14 47 RX14 yX14_isBorrow wsX14_isBorrow) := goodIn_app (goodIn_of _ (by decide +kernel)) ggX14_takes_X14_isBorrow
theorem dX14_takes_0 : decode cX14_takes 0 = .ok (.aload_n 1, 1) := by decide +kernel
theorem dX14_takes_1 : decode cX14_takes 1 = .ok (.getfield 79, 3) := by decide +kernel
theorem dX14_takes_4 : decode cX14_takes 4 = .ok (.tableswitch 366 0 16 #[287, 309, 84, 141, 163, 207, 247, 287, 185, 366, 366, 366, 366, 366, 366, 366, 287], 84) := by decide +kernel
theorem dX14_takes_88 : decode cX14_takes 88 = .ok (.aload_n 0, 1) := by decide +kernel
theorem dX14_takes_89 : decode cX14_takes 89 = .ok (.aload_n 1, 1) := by decide +kernel
theorem dX14_takes_90 : decode cX14_takes 90 = .ok (.getfield 86, 3) := by decide +kernel
theorem dX14_takes_93 : decode cX14_takes 93 = .ok (.invokevirtual 43, 3) := by decide +kernel
theorem dX14_takes_96 : decode cX14_takes 96 = .ok (.ifCond .ne 44, 3) := by decide +kernel
theorem dX14_takes_99 : decode cX14_takes 99 = .ok (.iconst 2, 1) := by decide +kernel
theorem dX14_takes_100 : decode cX14_takes 100 = .ok (.anewarray 96, 3) := by decide +kernel
theorem dX14_takes_103 : decode cX14_takes 103 = .ok (.dup, 1) := by decide +kernel
theorem dX14_takes_104 : decode cX14_takes 104 = .ok (.iconst 0, 1) := by decide +kernel
theorem dX14_takes_105 : decode cX14_takes 105 = .ok (.iconst 2, 1) := by decide +kernel
theorem dX14_takes_106 : decode cX14_takes 106 = .ok (.newarray .int, 2) := by decide +kernel
theorem dX14_takes_108 : decode cX14_takes 108 = .ok (.dup, 1) := by decide +kernel
theorem dX14_takes_109 : decode cX14_takes 109 = .ok (.iconst 0, 1) := by decide +kernel
theorem dX14_takes_110 : decode cX14_takes 110 = .ok (.aload_n 1, 1) := by decide +kernel
theorem dX14_takes_111 : decode cX14_takes 111 = .ok (.getfield 83, 3) := by decide +kernel
theorem dX14_takes_114 : decode cX14_takes 114 = .ok (.iastore, 1) := by decide +kernel
theorem dX14_takes_115 : decode cX14_takes 115 = .ok (.dup, 1) := by decide +kernel
theorem dX14_takes_116 : decode cX14_takes 116 = .ok (.iconst 1, 1) := by decide +kernel
theorem dX14_takes_117 : decode cX14_takes 117 = .ok (.iconst 0, 1) := by decide +kernel
theorem dX14_takes_118 : decode cX14_takes 118 = .ok (.iastore, 1) := by decide +kernel
theorem dX14_takes_119 : decode cX14_takes 119 = .ok (.aastore, 1) := by decide +kernel
theorem dX14_takes_120 : decode cX14_takes 120 = .ok (.dup, 1) := by decide +kernel
theorem dX14_takes_121 : decode cX14_takes 121 = .ok (.iconst 1, 1) := by decide +kernel
theorem dX14_takes_122 : decode cX14_takes 122 = .ok (.iconst 2, 1) := by decide +kernel
theorem dX14_takes_123 : decode cX14_takes 123 = .ok (.newarray .int, 2) := by decide +kernel
theorem dX14_takes_125 : decode cX14_takes 125 = .ok (.dup, 1) := by decide +kernel
theorem dX14_takes_126 : decode cX14_takes 126 = .ok (.iconst 0, 1) := by decide +kernel
theorem dX14_takes_127 : decode cX14_takes 127 = .ok (.aload_n 1, 1) := by decide +kernel
theorem dX14_takes_128 : decode cX14_takes 128 = .ok (.getfield 86, 3) := by decide +kernel
theorem dX14_takes_131 : decode cX14_takes 131 = .ok (.iastore, 1) := by decide +kernel
theorem dX14_takes_132 : decode cX14_takes 132 = .ok (.dup, 1) := by decide +kernel
theorem dX14_takes_133 : decode cX14_takes 133 = .ok (.iconst 1, 1) := by decide +kernel
theorem dX14_takes_134 : decode cX14_takes 134 = .ok (.iconst 1, 1) := by decide +kernel
theorem dX14_takes_135 : decode cX14_takes 135 = .ok (.iastore, 1) := by decide +kernel
theorem dX14_takes_136 : decode cX14_takes 136 = .ok (.aastore, 1) := by decide +kernel
theorem dX14_takes_137 : decode cX14_takes 137 = .ok (.goto 7, 3) := by decide +kernel
theorem dX14_takes_140 : decode cX14_takes 140 = .ok (.iconst 0, 1) := by decide +kernel
theorem dX14_takes_141 : decode cX14_takes 141 = .ok (.anewarray 96, 3) := by decide +kernel
theorem dX14_takes_144 : decode cX14_takes 144 = .ok (.areturn, 1) := by decide +kernel
theorem dX14_takes_145 : decode cX14_takes 145 = .ok (.iconst 1, 1) := by decide +kernel
theorem dX14_takes_146 : decode cX14_takes 146 = .ok (.anewarray 96, 3) := by decide +kernel
theorem dX14_takes_149 : decode cX14_takes 149 = .ok (.dup, 1) := by decide +kernel
theorem dX14_takes_150 : decode cX14_takes 150 = .ok (.iconst 0, 1) := by decide +kernel
theorem dX14_takes_151 : decode cX14_takes 151 = .ok (.iconst 2, 1) := by decide +kernel
theorem dX14_takes_152 : decode cX14_takes 152 = .ok (.newarray .int, 2) := by decide +kernel
theorem dX14_takes_154 : decode cX14_takes 154 = .ok (.dup, 1) := by decide +kernel
theorem dX14_takes_155 : decode cX14_takes 155 = .ok (.iconst 0, 1) := by decide +kernel
theorem dX14_takes_156 : decode cX14_takes 156 = .ok (.aload_n 1, 1) := by decide +kernel
theorem dX14_takes_157 : decode cX14_takes 157 = .ok (.getfield 83, 3) := by decide +kernel
theorem dX14_takes_160 : decode cX14_takes 160 = .ok (.iastore, 1) := by decide +kernel
theorem dX14_takes_161 : decode cX14_takes 161 = .ok (.dup, 1) := by decide +kernel
theorem dX14_takes_162 : decode cX14_takes 162 = .ok (.iconst 1, 1) := by decide +kernel
theorem dX14_takes_163 : decode cX14_takes 163 = .ok (.iconst 0, 1) := by decide +kernel
theorem dX14_takes_164 : decode cX14_takes 164 = .ok (.iastore, 1) := by decide +kernel
theorem dX14_takes_165 : decode cX14_takes 165 = .ok (.aastore, 1) := by decide +kernel
theorem dX14_takes_166 : decode cX14_takes 166 = .ok (.areturn, 1) := by decide +kernel
theorem dX14_takes_167 : decode cX14_takes 167 = .ok (.iconst 1, 1) := by decide +kernel
theorem dX14_takes_168 : decode cX14_takes 168 = .ok (.anewarray 96, 3) := by decide +kernel
theorem dX14_takes_171 : decode cX14_takes 171 = .ok (.dup, 1) := by decide +kernel
theorem dX14_takes_172 : decode cX14_takes 172 = .ok (.iconst 0, 1) := by decide +kernel
theorem dX14_takes_173 : decode cX14_takes 173 = .ok (.iconst 2, 1) := by decide +kernel
theorem dX14_takes_174 : decode cX14_takes 174 = .ok (.newarray .int, 2) := by decide +kernel
theorem dX14_takes_176 : decode cX14_takes 176 = .ok (.dup, 1) := by decide +kernel
theorem dX14_takes_177 : decode cX14_takes 177 = .ok (.iconst 0, 1) := by decide +kernel
theorem dX14_takes_178 : decode cX14_takes 178 = .ok (.aload_n 1, 1) := by decide +kernel
theorem dX14_takes_179 : decode cX14_takes 179 = .ok (.getfield 83, 3) := by decide +kernel
theorem dX14_takes_182 : decode cX14_takes 182 = .ok (.iastore, 1) := by decide +kernel
theorem dX14_takes_183 : decode cX14_takes 183 = .ok (.dup, 1) := by decide +kernel
theorem dX14_takes_184 : decode cX14_takes 184 = .ok (.iconst 1, 1) := by decide +kernel
theorem dX14_takes_185 : decode cX14_takes 185 = .ok (.iconst 1, 1) := by decide +kernel
theorem dX14_takes_186 : decode cX14_takes 186 = .ok (.iastore, 1) := by decide +kernel
theorem dX14_takes_187 : decode cX14_takes 187 = .ok (.aastore, 1) := by decide +kernel
theorem dX14_takes_188 : decode cX14_takes 188 = .ok (.areturn, 1) := by decide +kernel
theorem dX14_takes_189 : decode cX14_takes 189 = .ok (.iconst 1, 1) := by decide +kernel
theorem dX14_takes_190 : decode cX14_takes 190 = .ok (.anewarray 96, 3) := by decide +kernel
theorem dX14_takes_193 : decode cX14_takes 193 = .ok (.dup, 1) := by decide +kernel
theorem dX14_takes_194 : decode cX14_takes 194 = .ok (.iconst 0, 1) := by decide +kernel
theorem dX14_takes_195 : decode cX14_takes 195 = .ok (.iconst 2, 1) := by decide +kernel
theorem dX14_takes_196 : decode cX14_takes 196 = .ok (.newarray .int, 2) := by decide +kernel
theorem dX14_takes_198 : decode cX14_takes 198 = .ok (.dup, 1) := by decide +kernel
theorem dX14_takes_199 : decode cX14_takes 199 = .ok (.iconst 0, 1) := by decide +kernel
theorem dX14_takes_200 : decode cX14_takes 200 = .ok (.aload_n 1, 1) := by decide +kernel
theorem dX14_takes_201 : decode cX14_takes 201 = .ok (.getfield 86, 3) := by decide +kernel
theorem dX14_takes_204 : decode cX14_takes 204 = .ok (.iastore, 1) := by decide +kernel
theorem dX14_takes_205 : decode cX14_takes 205 = .ok (.dup, 1) := by decide +kernel
theorem dX14_takes_206 : decode cX14_takes 206 = .ok (.iconst 1, 1) := by decide +kernel
theorem dX14_takes_207 : decode cX14_takes 207 = .ok (.iconst 0, 1) := by decide +kernel
theorem dX14_takes_208 : decode cX14_takes 208 = .ok (.iastore, 1) := by decide +kernel
theorem dX14_takes_209 : decode cX14_takes 209 = .ok (.aastore, 1) := by decide +kernel
theorem dX14_takes_210 : decode cX14_takes 210 = .ok (.areturn, 1) := by decide +kernel
theorem dX14_takes_211 : decode cX14_takes 211 = .ok (.aload_n 0, 1) := by decide +kernel
theorem dX14_takes_212 : decode cX14_takes 212 = .ok (.aload_n 1, 1) := by decide +kernel
theorem dX14_takes_213 : decode cX14_takes 213 = .ok (.getfield 86, 3) := by decide +kernel
theorem dX14_takes_216 : decode cX14_takes 216 = .ok (.invokevirtual 47, 3) := by decide +kernel
theorem dX14_takes_219 : decode cX14_takes 219 = .ok (.ifCond .eq 10, 3) := by decide +kernel
theorem dX14_takes_222 : decode cX14_takes 222 = .ok (.iconst 0, 1) := by decide +kernel
theorem dX14_takes_223 : decode cX14_takes 223 = .ok (.anewarray 96, 3) := by decide +kernel
theorem dX14_takes_226 : decode cX14_takes 226 = .ok (.goto 24, 3) := by decide +kernel
theorem dX14_takes_229 : decode cX14_takes 229 = .ok (.iconst 1, 1) := by decide +kernel
theorem dX14_takes_230 : decode cX14_takes 230 = .ok (.anewarray 96, 3) := by decide +kernel
theorem dX14_takes_233 : decode cX14_takes 233 = .ok (.dup, 1) := by decide +kernel
theorem dX14_takes_234 : decode cX14_takes 234 = .ok (.iconst 0, 1) := by decide +kernel
theorem dX14_takes_235 : decode cX14_takes 235 = .ok (.iconst 2, 1) := by decide +kernel
theorem dX14_takes_236 : decode cX14_takes 236 = .ok (.newarray .int, 2) := by decide +kernel
theorem dX14_takes_238 : decode cX14_takes 238 = .ok (.dup, 1) := by decide +kernel
theorem dX14_takes_239 : decode cX14_takes 239 = .ok (.iconst 0, 1) := by decide +kernel
theorem dX14_takes_240 : decode cX14_takes 240 = .ok (.aload_n 1, 1) := by decide +kernel
theorem dX14_takes_241 : decode cX14_takes 241 = .ok (.getfield 86, 3) := by decide +kernel
theorem dX14_takes_244 : decode cX14_takes 244 = .ok (.iastore, 1) := by decide +kernel
theorem dX14_takes_245 : decode cX14_takes 245 = .ok (.dup, 1) := by decide +kernel
theorem dX14_takes_246 : decode cX14_takes 246 = .ok (.iconst 1, 1) := by decide +kernel
theorem dX14_takes_247 : decode cX14_takes 247 = .ok (.iconst 0, 1) := by decide +kernel
theorem dX14_takes_248 : decode cX14_takes 248 = .ok (.iastore, 1) := by decide +kernel
theorem dX14_takes_249 : decode cX14_takes 249 = .ok (.aastore, 1) := by decide +kernel
theorem dX14_takes_250 : decode cX14_takes 250 = .ok (.areturn, 1) := by decide +kernel
theorem dX14_takes_251 : decode cX14_takes 251 = .ok (.aload_n 0, 1) := by decide +kernel
theorem dX14_takes_252 : decode cX14_takes 252 = .ok (.aload_n 1, 1) := by decide +kernel
theorem dX14_takes_253 : decode cX14_takes 253 = .ok (.getfield 86, 3) := by decide +kernel
theorem dX14_takes_256 : decode cX14_takes 256 = .ok (.invokevirtual 47, 3) := by decide +kernel
theorem dX14_takes_259 : decode cX14_takes 259 = .ok (.ifCond .eq 10, 3) := by decide +kernel
theorem dX14_takes_262 : decode cX14_takes 262 = .ok (.iconst 0, 1) := by decide +kernel
theorem dX14_takes_263 : decode cX14_takes 263 = .ok (.anewarray 96, 3) := by decide +kernel
theorem dX14_takes_266 : decode cX14_takes 266 = .ok (.goto 24, 3) := by decide +kernel
theorem dX14_takes_269 : decode cX14_takes 269 = .ok (.iconst 1, 1) := by decide +kernel
theorem dX14_takes_270 : decode cX14_takes 270 = .ok (.anewarray 96, 3) := by decide +kernel
theorem dX14_takes_273 : decode cX14_takes 273 = .ok (.dup, 1) := by decide +kernel
theorem dX14_takes_274 : decode cX14_takes 274 = .ok (.iconst 0, 1) := by decide +kernel
theorem dX14_takes_275 : decode cX14_takes 275 = .ok (.iconst 2, 1) := by decide +kernel
theorem dX14_takes_276 : decode cX14_takes 276 = .ok (.newarray .int, 2) := by decide +kernel
theorem dX14_takes_278 : decode cX14_takes 278 = .ok (.dup, 1) := by decide +kernel
theorem dX14_takes_279 : decode cX14_takes 279 = .ok (.iconst 0, 1) := by decide +kernel
theorem dX14_takes_280 : decode cX14_takes 280 = .ok (.aload_n 1, 1) := by decide +kernel
theorem dX14_takes_281 : decode cX14_takes 281 = .ok (.getfield 86, 3) := by decide +kernel
theorem dX14_takes_284 : decode cX14_takes 284 = .ok (.iastore, 1) := by decide +kernel
theorem dX14_takes_285 : decode cX14_takes 285 = .ok (.dup, 1) := by decide +kernel
theorem dX14_takes_286 : decode cX14_takes 286 = .ok (.iconst 1, 1) := by decide +kernel
theorem dX14_takes_287 : decode cX14_takes 287 = .ok (.iconst 1, 1) := by decide +kernel
theorem dX14_takes_288 : decode cX14_takes 288 = .ok (.iastore, 1) := by decide +kernel
theorem dX14_takes_289 : decode cX14_takes 289 = .ok (.aastore, 1) := by decide +kernel
theorem dX14_takes_290 : decode cX14_takes 290 = .ok (.areturn, 1) := by decide +kernel
theorem dX14_takes_291 : decode cX14_takes 291 = .ok (.iconst 1, 1) := by decide +kernel
theorem dX14_takes_292 : decode cX14_takes 292 = .ok (.anewarray 96, 3) := by decide +kernel
theorem dX14_takes_295 : decode cX14_takes 295 = .ok (.dup, 1) := by decide +kernel
theorem dX14_takes_296 : decode cX14_takes 296 = .ok (.iconst 0, 1) := by decide +kernel
theorem dX14_takes_297 : decode cX14_takes 297 = .ok (.iconst 2, 1) := by decide +kernel
theorem dX14_takes_298 : decode cX14_takes 298 = .ok (.newarray .int, 2) := by decide +kernel
theorem dX14_takes_300 : decode cX14_takes 300 = .ok (.dup, 1) := by decide +kernel
theorem dX14_takes_301 : decode cX14_takes 301 = .ok (.iconst 0, 1) := by decide +kernel
theorem dX14_takes_302 : decode cX14_takes 302 = .ok (.aload_n 1, 1) := by decide +kernel
theorem dX14_takes_303 : decode cX14_takes 303 = .ok (.getfield 86, 3) := by decide +kernel
theorem dX14_takes_306 : decode cX14_takes 306 = .ok (.iastore, 1) := by decide +kernel
theorem dX14_takes_307 : decode cX14_takes 307 = .ok (.dup, 1) := by decide +kernel
theorem dX14_takes_308 : decode cX14_takes 308 = .ok (.iconst 1, 1) := by decide +kernel
theorem dX14_takes_309 : decode cX14_takes 309 = .ok (.iconst 1, 1) := by decide +kernel
theorem dX14_takes_310 : decode cX14_takes 310 = .ok (.iastore, 1) := by decide +kernel
theorem dX14_takes_311 : decode cX14_takes 311 = .ok (.aastore, 1) := by decide +kernel
theorem dX14_takes_312 : decode cX14_takes 312 = .ok (.areturn, 1) := by decide +kernel
theorem dX14_takes_313 : decode cX14_takes 313 = .ok (.aload_n 0, 1) := by decide +kernel
theorem dX14_takes_314 : decode cX14_takes 314 = .ok (.aload_n 1, 1) := by decide +kernel
theorem dX14_takes_315 : decode cX14_takes 315 = .ok (.getfield 86, 3) := by decide +kernel
theorem dX14_takes_318 : decode cX14_takes 318 = .ok (.invokevirtual 47, 3) := by decide +kernel
theorem dX14_takes_321 : decode cX14_takes 321 = .ok (.ifCond .eq 10, 3) := by decide +kernel
theorem dX14_takes_324 : decode cX14_takes 324 = .ok (.iconst 0, 1) := by decide +kernel
theorem dX14_takes_325 : decode cX14_takes 325 = .ok (.anewarray 96, 3) := by decide +kernel
theorem dX14_takes_328 : decode cX14_takes 328 = .ok (.goto 41, 3) := by decide +kernel
theorem dX14_takes_331 : decode cX14_takes 331 = .ok (.iconst 2, 1) := by decide +kernel
theorem dX14_takes_332 : decode cX14_takes 332 = .ok (.anewarray 96, 3) := by decide +kernel
theorem dX14_takes_335 : decode cX14_takes 335 = .ok (.dup, 1) := by decide +kernel
theorem dX14_takes_336 : decode cX14_takes 336 = .ok (.iconst 0, 1) := by decide +kernel
theorem dX14_takes_337 : decode cX14_takes 337 = .ok (.iconst 2, 1) := by decide +kernel
theorem dX14_takes_338 : decode cX14_takes 338 = .ok (.newarray .int, 2) := by decide +kernel
theorem dX14_takes_340 : decode cX14_takes 340 = .ok (.dup, 1) := by decide +kernel
theorem dX14_takes_341 : decode cX14_takes 341 = .ok (.iconst 0, 1) := by decide +kernel
theorem dX14_takes_342 : decode cX14_takes 342 = .ok (.aload_n 1, 1) := by decide +kernel
theorem dX14_takes_343 : decode cX14_takes 343 = .ok (.getfield 86, 3) := by decide +kernel
theorem dX14_takes_346 : decode cX14_takes 346 = .ok (.iastore, 1) := by decide +kernel
theorem dX14_takes_347 : decode cX14_takes 347 = .ok (.dup, 1) := by decide +kernel
theorem dX14_takes_348 : decode cX14_takes 348 = .ok (.iconst 1, 1) := by decide +kernel
theorem dX14_takes_349 : decode cX14_takes 349 = .ok (.iconst 1, 1) := by decide +kernel
theorem dX14_takes_350 : decode cX14_takes 350 = .ok (.iastore, 1) := by decide +kernel
theorem dX14_takes_351 : decode cX14_takes 351 = .ok (.aastore, 1) := by decide +kernel
theorem dX14_takes_352 : decode cX14_takes 352 = .ok (.dup, 1) := by decide +kernel
theorem dX14_takes_353 : decode cX14_takes 353 = .ok (.iconst 1, 1) := by decide +kernel
theorem dX14_takes_354 : decode cX14_takes 354 = .ok (.iconst 2, 1) := by decide +kernel
theorem dX14_takes_355 : decode cX14_takes 355 = .ok (.newarray .int, 2) := by decide +kernel
theorem dX14_takes_357 : decode cX14_takes 357 = .ok (.dup, 1) := by decide +kernel
theorem dX14_takes_358 : decode cX14_takes 358 = .ok (.iconst 0, 1) := by decide +kernel
theorem dX14_takes_359 : decode cX14_takes 359 = .ok (.aload_n 1, 1) := by decide +kernel
theorem dX14_takes_360 : decode cX14_takes 360 = .ok (.getfield 83, 3) := by decide +kernel
theorem dX14_takes_363 : decode cX14_takes 363 = .ok (.iastore, 1) := by decide +kernel
theorem dX14_takes_364 : decode cX14_takes 364 = .ok (.dup, 1) := by decide +kernel
theorem dX14_takes_365 : decode cX14_takes 365 = .ok (.iconst 1, 1) := by decide +kernel
theorem dX14_takes_366 : decode cX14_takes 366 = .ok (.iconst 1, 1) := by decide +kernel
theorem dX14_takes_367 : decode cX14_takes 367 = .ok (.iastore, 1) := by decide +kernel
theorem dX14_takes_368 : decode cX14_takes 368 = .ok (.aastore, 1) := by decide +kernel
theorem dX14_takes_369 : decode cX14_takes 369 = .ok (.areturn, 1) := by decide +kernel
theorem dX14_takes_370 : decode cX14_takes 370 = .ok (.iconst 0, 1) := by decide +kernel
theorem dX14_takes_371 : decode cX14_takes 371 = .ok (.anewarray 96, 3) := by decide +kernel
theorem dX14_takes_374 : decode cX14_takes 374 = .ok (.areturn, 1) := by decide +kernel
set_option maxRecDepth 20000 in
theorem ggX15_init_Jx4a65c_init_da8c8 : GoodIn wsX15_init wsJx4a65c_init_da8c8 := goodIn_r _ [24, 25, 26, 27, 28, 29, 30, 31, 32, 33, 34, 35, 36, 2, 3, 243, 244, 245] (by decide +kernel) (by decide +kernel)
set_option maxRecDepth 20000 in
theorem gX15_init_Jx4a65c_init_da8c8 : GoodIn wsX15_init (wsJx4a65c_init_da8c8) := ggX15_init_Jx4a65c_init_da8c8
set_option maxRecDepth 20000 in
theorem ggX15_init_Jx4a65c_size_8abf5 : GoodIn wsX15_init wsJx4a65c_size_8abf5 := goodIn_r _ [40, 41, 243, 244, 245] (by decide +kernel) (by decide +kernel)
set_option maxRecDepth 20000 in
theorem gX15_init_Jx4a65c_size_8abf5 : GoodIn wsX15_init (wsV RX15 35 RJx4a65c yJx4a65c_size_8abf5 wsJx4a65c_size_8abf5) := goodIn_app (goodIn_of _ (by decide +kernel)) ggX15_init_Jx4a65c_size_8abf5
set_option maxRecDepth 20000 in
theorem ggX15_init_X15_go : GoodIn wsX15_init wsX15_go := goodIn_r _ [46, 47, 12, 8, 48, 49, 9, 11, 50, 51, 13, 52, 53, 54, 6, 55, 41, 56, 57, 58, 59, 60, 61, 62, 63, 64, 65, 66, 67, 26, 68, 69, 70, 45, 71, 72, 20, 73, 74, 15, 10, 75, 19, 76, 77, 78, 79, 80, 18, 81, 82, 83, 16, 17, 84, 85, 86, 87, 88, 89, 90, 91, 92, 93, 94, 38, 39, 40, 95, 96, 97, 98, 99, 100, 101, 102, 103, 104, 105, 106, 107, 108, 2, 3, 109, 110, 111, 112, 113, 114, 115, 116, 117, 118, 119, 120, 121, 122, 7, 14, 123, 124, 125, 126, 127, 128, 129, 130, 131, 132, 133, 134, 135, 136, 137, 138, 139, 140, 25, 141, 142, 143, 144, 145, 146, 147, 148, 149, 150, 151, 152, 153, 154, 155, 156, 157, 158, 159, 160, 161, 162, 163, 164, 165, 166, 167, 168, 169, 170, 171, 172, 173, 174, 175, 176, 177, 178, 179, 180, 181, 182, 183, 184, 185, 186, 187, 188, 189, 190, 191, 192, 193, 194, 195, 196, 197, 198, 199, 200, 201, 202, 203, 204, 205, 206, 207, 208, 209, 210, 211, 212, 213, 214, 215, 216, 217, 218, 219, 220, 221, 222, 223, 224, 225, 226, 227, 228, 229, 230, 231, 232, 233, 234, 21, 235, 236, 237, 238, 37, 239, 240, 241, 242, 246, 247, 248, 249, 250, 251, 252, 253, 254, 255, 256, 257, 258, 259, 260, 261, 262, 263, 264, 265, 243, 244, 245, 266, 267, 268, 269, 270, 271, 272, 273, 274, 275, 276, 277, 278, 279, 280, 281, 282, 283] (by decide +kernel) (by decide +kernel)
set_option maxRecDepth 20000 in
theorem gX15_init_X15_go : GoodIn wsX15_init (wsV RX15 67 RX15 yX15_go wsX15_go) := goodIn_app (goodIn_of _ (by decide +kernel)) ggX15_init_X15_go
theorem dX15_init_0 : decode cX15_init 0 = .ok (.aload_n 0, 1) := by decide +kernel
theorem dX15_init_1 : decode cX15_init 1 = .ok (.invokespecial 3, 3) := by decide +kernel
theorem dX15_init_4 : decode cX15_init 4 = .ok (.aload_n 0, 1) := by decide +kernel
theorem dX15_init_5 : decode cX15_init 5 = .ok (.new 9, 3) := by decide +kernel
theorem dX15_init_8 : decode cX15_init 8 = .ok (.dup, 1) := by decide +kernel
theorem dX15_init_9 : decode cX15_init 9 = .ok (.invokespecial 11, 3) := by decide +kernel
theorem dX15_init_12 : decode cX15_init 12 = .ok (.putfield 12, 3) := by decide +kernel
theorem dX15_init_15 : decode cX15_init 15 = .ok (.aload_n 0, 1) := by decide +kernel
theorem dX15_init_16 : decode cX15_init 16 = .ok (.iconst (-1), 1) := by decide +kernel
theorem dX15_init_17 : decode cX15_init 17 = .ok (.putfield 18, 3) := by decide +kernel
theorem dX15_init_20 : decode cX15_init 20 = .ok (.aload_n 0, 1) := by decide +kernel
theorem dX15_init_21 : decode cX15_init 21 = .ok (.aload_n 1, 1) := by decide +kernel
theorem dX15_init_22 : decode cX15_init 22 = .ok (.putfield 22, 3) := by decide +kernel
theorem dX15_init_25 : decode cX15_init 25 = .ok (.aload_n 0, 1) := by decide +kernel
theorem dX15_init_26 : decode cX15_init 26 = .ok (.aload_n 2, 1) := by decide +kernel
theorem dX15_init_27 : decode cX15_init 27 = .ok (.putfield 26, 3) := by decide +kernel
theorem dX15_init_30 : decode cX15_init 30 = .ok (.aload_n 0, 1) := by decide +kernel
theorem dX15_init_31 : decode cX15_init 31 = .ok (.aload_n 1, 1) := by decide +kernel
theorem dX15_init_32 : decode cX15_init 32 = .ok (.getfield 30, 3) := by decide +kernel
theorem dX15_init_35 : decode cX15_init 35 = .ok (.invokevirtual 35, 3) := by decide +kernel
theorem dX15_init_38 : decode cX15_init 38 = .ok (.putfield 39, 3) := by decide +kernel
theorem dX15_init_41 : decode cX15_init 41 = .ok (.iconst 3, 1) := by decide +kernel
theorem dX15_init_42 : decode cX15_init 42 = .ok (.aload_n 1, 1) := by decide +kernel
theorem dX15_init_43 : decode cX15_init 43 = .ok (.getfield 42, 3) := by decide +kernel
theorem dX15_init_46 : decode cX15_init 46 = .ok (.invokevirtual 35, 3) := by decide +kernel
theorem dX15_init_49 : decode cX15_init 49 = .ok (.imul, 1) := by decide +kernel
theorem dX15_init_50 : decode cX15_init 50 = .ok (.istore_n 3, 1) := by decide +kernel
theorem dX15_init_51 : decode cX15_init 51 = .ok (.aload_n 0, 1) := by decide +kernel
theorem dX15_init_52 : decode cX15_init 52 = .ok (.iload_n 3, 1) := by decide +kernel
theorem dX15_init_53 : decode cX15_init 53 = .ok (.newarray .int, 2) := by decide +kernel
theorem dX15_init_55 : decode cX15_init 55 = .ok (.putfield 45, 3) := by decide +kernel
theorem dX15_init_58 : decode cX15_init 58 = .ok (.aload_n 0, 1) := by decide +kernel
theorem dX15_init_59 : decode cX15_init 59 = .ok (.iload_n 3, 1) := by decide +kernel
theorem dX15_init_60 : decode cX15_init 60 = .ok (.anewarray 49, 3) := by decide +kernel
theorem dX15_init_63 : decode cX15_init 63 = .ok (.putfield 51, 3) := by decide +kernel
theorem dX15_init_66 : decode cX15_init 66 = .ok (.aload_n 0, 1) := by decide +kernel
theorem dX15_init_67 : decode cX15_init 67 = .ok (.iload_n 3, 1) := by decide +kernel
theorem dX15_init_68 : decode cX15_init 68 = .ok (.anewarray 55, 3) := by decide +kernel
theorem dX15_init_71 : decode cX15_init 71 = .ok (.putfield 57, 3) := by decide +kernel
theorem dX15_init_74 : decode cX15_init 74 = .ok (.aload_n 0, 1) := by decide +kernel
theorem dX15_init_75 : decode cX15_init 75 = .ok (.aload_n 1, 1) := by decide +kernel
theorem dX15_init_76 : decode cX15_init 76 = .ok (.getfield 42, 3) := by decide +kernel
theorem dX15_init_79 : decode cX15_init 79 = .ok (.invokevirtual 35, 3) := by decide +kernel
theorem dX15_init_82 : decode cX15_init 82 = .ok (.newarray .int, 2) := by decide +kernel
theorem dX15_init_84 : decode cX15_init 84 = .ok (.putfield 61, 3) := by decide +kernel
theorem dX15_init_87 : decode cX15_init 87 = .ok (.aload_n 0, 1) := by decide +kernel
theorem dX15_init_88 : decode cX15_init 88 = .ok (.aload_n 0, 1) := by decide +kernel
theorem dX15_init_89 : decode cX15_init 89 = .ok (.getfield 39, 3) := by decide +kernel
theorem dX15_init_92 : decode cX15_init 92 = .ok (.iconst 1, 1) := by decide +kernel
theorem dX15_init_93 : decode cX15_init 93 = .ok (.iadd, 1) := by decide +kernel
theorem dX15_init_94 : decode cX15_init 94 = .ok (.newarray .int, 2) := by decide +kernel
theorem dX15_init_96 : decode cX15_init 96 = .ok (.putfield 64, 3) := by decide +kernel
theorem dX15_init_99 : decode cX15_init 99 = .ok (.aload_n 0, 1) := by decide +kernel
theorem dX15_init_100 : decode cX15_init 100 = .ok (.invokevirtual 67, 3) := by decide +kernel
theorem dX15_init_103 : decode cX15_init 103 = .ok (.return_, 1) := by decide +kernel
set_option maxRecDepth 20000 in
theorem ggX15_go_Jx4a65c_get_915e3 : GoodIn wsX15_go wsJx4a65c_get_915e3 := goodIn_r _ [15, 16, 17, 18, 19, 20, 21, 22, 23, 24, 25, 26, 27, 14, 28, 29, 243, 244, 245] (by decide +kernel) (by decide +kernel)
set_option maxRecDepth 20000 in
theorem gX15_go_Jx4a65c_get_915e3 : GoodIn wsX15_go (wsV RX15 80 RJx4a65c yJx4a65c_get_915e3 wsJx4a65c_get_915e3) := goodIn_app (goodIn_of _ (by decide +kernel)) ggX15_go_Jx4a65c_get_915e3
set_option maxRecDepth 20000 in
theorem ggX15_go_X15_step : GoodIn wsX15_go wsX15_step := goodIn_r _ [34, 35, 36, 37, 38, 39, 40, 41, 42, 43, 2, 44, 45, 46, 33, 47, 6, 48, 49, 50, 51, 52, 53, 54, 55, 56, 57, 58, 59, 60, 61, 62, 63, 64, 65, 66, 14, 67, 16, 68, 69, 70, 71, 12, 13, 15, 17, 18, 19, 20, 21, 22, 23, 24, 25, 26, 27, 28, 29, 72, 73, 74, 75, 76, 77, 78, 79, 80, 81, 82, 83, 84, 85, 86, 87, 88, 89, 9, 90, 91, 92, 93, 94, 95, 96, 97, 98, 99, 1, 100, 101, 102, 103, 104, 105, 106, 107, 108, 109, 110, 111, 112, 113, 114, 115, 116, 117, 118, 119, 120, 121, 122, 123, 124, 125, 126, 127, 128, 129, 130, 131, 132, 133, 134, 135, 136, 137, 138, 139, 140, 141, 142, 143, 144, 145, 146, 147, 148, 149, 150, 151, 152, 153, 154, 155, 156, 157, 158, 159, 160, 161, 162, 163, 164, 165, 166, 167, 168, 169, 170, 171, 172, 3, 173, 174, 175, 176, 177, 178, 179, 180, 181, 182, 183, 184, 185, 186, 187, 188, 189, 190, 191, 192, 193, 194, 195, 196, 197, 198, 199, 200, 201, 202, 203, 204, 205, 206, 207, 208, 209, 210, 211, 212, 7, 8, 213, 11, 214, 215, 216, 217, 246, 247, 248, 223, 224, 225, 226, 227, 228, 229, 230, 231, 232, 233, 234, 235, 236, 237, 238, 239, 240, 249, 250, 251, 252, 253, 254, 255, 256, 257, 258, 259, 260, 261, 262, 241, 242, 243, 244, 245, 263] (by decide +kernel) (by decide +kernel)
set_option maxRecDepth 20000 in
theorem gX15_go_X15_step : GoodIn wsX15_go (wsV RX15 86 RX15 yX15_step wsX15_step) := goodIn_app (goodIn_of _ (by decide +kernel)) ggX15_go_X15_step
set_option maxRecDepth 20000 in
theorem ggX15_go_Jx4a65c_size_8abf5 : GoodIn wsX15_go wsJx4a65c_size_8abf5 := goodIn_r _ [67, 16, 243, 244, 245] (by decide +kernel) (by decide +kernel)
set_option maxRecDepth 20000 in
theorem gX15_go_Jx4a65c_size_8abf5 : GoodIn wsX15_go (wsV RX15 35 RJx4a65c yJx4a65c_size_8abf5 wsJx4a65c_size_8abf5) := goodIn_app (goodIn_of _ (by decide +kernel)) ggX15_go_Jx4a65c_size_8abf5
set_option maxRecDepth 20000 in
theorem ggX15_go_X14_isOwned : GoodIn wsX15_go wsX14_isOwned := goodIn_r _ [222, 157, 58, 59, 60, 61, 62, 63, 64, 65, 66, 14, 67, 16, 68, 69, 70, 71, 12, 13, 15, 17, 18, 19, 20, 21, 22, 23, 24, 25, 26, 27, 28, 29, 72, 73, 74, 75, 76, 77, 241, 242, 243, 244, 245, 263] (by decide +kernel) (by decide +kernel)
set_option maxRecDepth 20000 in
theorem gX15_go_X14_isOwned : GoodIn wsX15_go (wsV RX15 93 RX14 yX14_isOwned wsX14_isOwned) := goodIn_app (goodIn_of _ (by decide +kernel)) ggX15_go_X14_isOwned
set_option maxRecDepth 20000 in
theorem ggX15_go_X15_loseAll : GoodIn wsX15_go wsX15_loseAll := goodIn_r _ [208, 6, 52, 57, 58, 59, 60, 61, 62, 63, 64, 65, 66, 14, 67, 16, 68, 69, 70, 71, 12, 13, 15, 17, 18, 19, 20, 21, 22, 23, 24, 25, 26, 27, 28, 29, 72, 73, 74, 75, 76, 77, 177, 178, 179, 33, 180, 42, 86, 87, 88, 89, 9, 90, 91, 92, 93, 94, 95, 96, 97, 98, 99, 1, 100, 101, 102, 103, 104, 105, 106, 107, 108, 109, 110, 111, 112, 113, 114, 115, 116, 117, 118, 119, 120, 121, 122, 123, 124, 125, 126, 127, 128, 129, 130, 131, 132, 133, 134, 135, 136, 137, 138, 139, 140, 141, 142, 143, 144, 145, 146, 147, 148, 149, 150, 151, 152, 153, 154, 155, 156, 157, 181, 182, 183, 184, 53, 163, 164, 165, 166, 167, 168, 169, 170, 171, 172, 3, 223, 224, 225, 226, 227, 228, 229, 230, 231, 232, 233, 234, 235, 236, 237, 238, 239, 240, 241, 242, 243, 244, 245, 263, 258, 259, 260, 261, 262] (by decide +kernel) (by decide +kernel)
set_option maxRecDepth 20000 in
theorem gX15_go_X15_loseAll : GoodIn wsX15_go (wsV RX15 97 RX15 yX15_loseAll wsX15_loseAll) := goodIn_app (goodIn_of _ (by decide +kernel)) ggX15_go_X15_loseAll
theorem dX15_go_0 : decode cX15_go 0 = .ok (.aload_n 0, 1) := by decide +kernel
theorem dX15_go_1 : decode cX15_go 1 = .ok (.getfield 70, 3) := by decide +kernel
theorem dX15_go_4 : decode cX15_go 4 = .ok (.aload_n 0, 1) := by decide +kernel
theorem dX15_go_5 : decode cX15_go 5 = .ok (.getfield 39, 3) := by decide +kernel
theorem dX15_go_8 : decode cX15_go 8 = .ok (.if_icmp .ge 93, 3) := by decide +kernel
theorem dX15_go_11 : decode cX15_go 11 = .ok (.aload_n 0, 1) := by decide +kernel
theorem dX15_go_12 : decode cX15_go 12 = .ok (.getfield 18, 3) := by decide +kernel
theorem dX15_go_15 : decode cX15_go 15 = .ok (.iconst (-1), 1) := by decide +kernel
theorem dX15_go_16 : decode cX15_go 16 = .ok (.if_icmp .ne 85, 3) := by decide +kernel
theorem dX15_go_19 : decode cX15_go 19 = .ok (.aload_n 0, 1) := by decide +kernel
theorem dX15_go_20 : decode cX15_go 20 = .ok (.getfield 73, 3) := by decide +kernel
theorem dX15_go_23 : decode cX15_go 23 = .ok (.sipush 500, 3) := by decide +kernel
theorem dX15_go_26 : decode cX15_go 26 = .ok (.if_icmp .ne 9, 3) := by decide +kernel
theorem dX15_go_29 : decode cX15_go 29 = .ok (.aload_n 0, 1) := by decide +kernel
theorem dX15_go_30 : decode cX15_go 30 = .ok (.iconst 1, 1) := by decide +kernel
theorem dX15_go_31 : decode cX15_go 31 = .ok (.putfield 76, 3) := by decide +kernel
theorem dX15_go_34 : decode cX15_go 34 = .ok (.return_, 1) := by decide +kernel
theorem dX15_go_35 : decode cX15_go 35 = .ok (.aload_n 0, 1) := by decide +kernel
theorem dX15_go_36 : decode cX15_go 36 = .ok (.dup, 1) := by decide +kernel
theorem dX15_go_37 : decode cX15_go 37 = .ok (.getfield 73, 3) := by decide +kernel
theorem dX15_go_40 : decode cX15_go 40 = .ok (.iconst 1, 1) := by decide +kernel
theorem dX15_go_41 : decode cX15_go 41 = .ok (.iadd, 1) := by decide +kernel
theorem dX15_go_42 : decode cX15_go 42 = .ok (.putfield 73, 3) := by decide +kernel
theorem dX15_go_45 : decode cX15_go 45 = .ok (.aload_n 0, 1) := by decide +kernel
theorem dX15_go_46 : decode cX15_go 46 = .ok (.getfield 70, 3) := by decide +kernel
theorem dX15_go_49 : decode cX15_go 49 = .ok (.istore_n 1, 1) := by decide +kernel
theorem dX15_go_50 : decode cX15_go 50 = .ok (.aload_n 0, 1) := by decide +kernel
theorem dX15_go_51 : decode cX15_go 51 = .ok (.iload_n 1, 1) := by decide +kernel
theorem dX15_go_52 : decode cX15_go 52 = .ok (.aload_n 0, 1) := by decide +kernel
theorem dX15_go_53 : decode cX15_go 53 = .ok (.getfield 22, 3) := by decide +kernel
theorem dX15_go_56 : decode cX15_go 56 = .ok (.getfield 30, 3) := by decide +kernel
theorem dX15_go_59 : decode cX15_go 59 = .ok (.iload_n 1, 1) := by decide +kernel
theorem dX15_go_60 : decode cX15_go 60 = .ok (.invokevirtual 80, 3) := by decide +kernel
theorem dX15_go_63 : decode cX15_go 63 = .ok (.checkcast 84, 3) := by decide +kernel
theorem dX15_go_66 : decode cX15_go 66 = .ok (.invokevirtual 86, 3) := by decide +kernel
theorem dX15_go_69 : decode cX15_go 69 = .ok (.istore_n 2, 1) := by decide +kernel
theorem dX15_go_70 : decode cX15_go 70 = .ok (.aload_n 0, 1) := by decide +kernel
theorem dX15_go_71 : decode cX15_go 71 = .ok (.getfield 90, 3) := by decide +kernel
theorem dX15_go_74 : decode cX15_go 74 = .ok (.ifCond .eq 4, 3) := by decide +kernel
theorem dX15_go_77 : decode cX15_go 77 = .ok (.return_, 1) := by decide +kernel
theorem dX15_go_78 : decode cX15_go 78 = .ok (.aload_n 0, 1) := by decide +kernel
theorem dX15_go_79 : decode cX15_go 79 = .ok (.aload_n 0, 1) := by decide +kernel
theorem dX15_go_80 : decode cX15_go 80 = .ok (.getfield 18, 3) := by decide +kernel
theorem dX15_go_83 : decode cX15_go 83 = .ok (.iconst (-1), 1) := by decide +kernel
theorem dX15_go_84 : decode cX15_go 84 = .ok (.if_icmp .ne 7, 3) := by decide +kernel
theorem dX15_go_87 : decode cX15_go 87 = .ok (.iload_n 2, 1) := by decide +kernel
theorem dX15_go_88 : decode cX15_go 88 = .ok (.goto 7, 3) := by decide +kernel
theorem dX15_go_91 : decode cX15_go 91 = .ok (.aload_n 0, 1) := by decide +kernel
theorem dX15_go_92 : decode cX15_go 92 = .ok (.getfield 39, 3) := by decide +kernel
theorem dX15_go_95 : decode cX15_go 95 = .ok (.putfield 70, 3) := by decide +kernel
theorem dX15_go_98 : decode cX15_go 98 = .ok (.goto (-98), 3) := by decide +kernel
theorem dX15_go_101 : decode cX15_go 101 = .ok (.aload_n 0, 1) := by decide +kernel
theorem dX15_go_102 : decode cX15_go 102 = .ok (.aload_n 0, 1) := by decide +kernel
theorem dX15_go_103 : decode cX15_go 103 = .ok (.getfield 39, 3) := by decide +kernel
theorem dX15_go_106 : decode cX15_go 106 = .ok (.putfield 70, 3) := by decide +kernel
theorem dX15_go_109 : decode cX15_go 109 = .ok (.aload_n 0, 1) := by decide +kernel
theorem dX15_go_110 : decode cX15_go 110 = .ok (.getfield 22, 3) := by decide +kernel
theorem dX15_go_113 : decode cX15_go 113 = .ok (.getfield 42, 3) := by decide +kernel
theorem dX15_go_116 : decode cX15_go 116 = .ok (.invokevirtual 35, 3) := by decide +kernel
theorem dX15_go_119 : decode cX15_go 119 = .ok (.iconst 1, 1) := by decide +kernel
theorem dX15_go_120 : decode cX15_go 120 = .ok (.isub, 1) := by decide +kernel
theorem dX15_go_121 : decode cX15_go 121 = .ok (.istore_n 1, 1) := by decide +kernel
theorem dX15_go_122 : decode cX15_go 122 = .ok (.iload_n 1, 1) := by decide +kernel
theorem dX15_go_123 : decode cX15_go 123 = .ok (.ifCond .lt 29, 3) := by decide +kernel
theorem dX15_go_126 : decode cX15_go 126 = .ok (.aload_n 0, 1) := by decide +kernel
theorem dX15_go_127 : decode cX15_go 127 = .ok (.getfield 22, 3) := by decide +kernel
theorem dX15_go_130 : decode cX15_go 130 = .ok (.iconst 3, 1) := by decide +kernel
theorem dX15_go_131 : decode cX15_go 131 = .ok (.iload_n 1, 1) := by decide +kernel
theorem dX15_go_132 : decode cX15_go 132 = .ok (.imul, 1) := by decide +kernel
theorem dX15_go_133 : decode cX15_go 133 = .ok (.invokevirtual 93, 3) := by decide +kernel
theorem dX15_go_136 : decode cX15_go 136 = .ok (.ifCond .eq 10, 3) := by decide +kernel
theorem dX15_go_139 : decode cX15_go 139 = .ok (.aload_n 0, 1) := by decide +kernel
theorem dX15_go_140 : decode cX15_go 140 = .ok (.iconst 3, 1) := by decide +kernel
theorem dX15_go_141 : decode cX15_go 141 = .ok (.iload_n 1, 1) := by decide +kernel
theorem dX15_go_142 : decode cX15_go 142 = .ok (.imul, 1) := by decide +kernel
theorem dX15_go_143 : decode cX15_go 143 = .ok (.invokevirtual 97, 3) := by decide +kernel
theorem dX15_go_146 : decode cX15_go 146 = .ok (.iinc 1 (-1), 3) := by decide +kernel
theorem dX15_go_149 : decode cX15_go 149 = .ok (.goto (-27), 3) := by decide +kernel
theorem dX15_go_152 : decode cX15_go 152 = .ok (.return_, 1) := by decide +kernel
theorem dX15_outcome_0 : decode cX15_outcome 0 = .ok (.aload_n 0, 1) := by decide +kernel
theorem dX15_outcome_1 : decode cX15_outcome 1 = .ok (.getfield 76, 3) := by decide +kernel
theorem dX15_outcome_4 : decode cX15_outcome 4 = .ok (.ifCond .eq 7, 3) := by decide +kernel
theorem dX15_outcome_7 : decode cX15_outcome 7 = .ok (.iconst 3, 1) := by decide +kernel
theorem dX15_outcome_8 : decode cX15_outcome 8 = .ok (.goto 27, 3) := by decide +kernel
theorem dX15_outcome_11 : decode cX15_outcome 11 = .ok (.aload_n 0, 1) := by decide +kernel
theorem dX15_outcome_12 : decode cX15_outcome 12 = .ok (.getfield 90, 3) := by decide +kernel
theorem dX15_outcome_15 : decode cX15_outcome 15 = .ok (.ifCond .eq 7, 3) := by decide +kernel
theorem dX15_outcome_18 : decode cX15_outcome 18 = .ok (.iconst 2, 1) := by decide +kernel
theorem dX15_outcome_19 : decode cX15_outcome 19 = .ok (.goto 16, 3) := by decide +kernel
theorem dX15_outcome_22 : decode cX15_outcome 22 = .ok (.aload_n 0, 1) := by decide +kernel
theorem dX15_outcome_23 : decode cX15_outcome 23 = .ok (.getfield 18, 3) := by decide +kernel
theorem dX15_outcome_26 : decode cX15_outcome 26 = .ok (.iconst (-1), 1) := by decide +kernel
theorem dX15_outcome_27 : decode cX15_outcome 27 = .ok (.if_icmp .eq 7, 3) := by decide +kernel
theorem dX15_outcome_30 : decode cX15_outcome 30 = .ok (.iconst 1, 1) := by decide +kernel
theorem dX15_outcome_31 : decode cX15_outcome 31 = .ok (.goto 4, 3) := by decide +kernel
theorem dX15_outcome_34 : decode cX15_outcome 34 = .ok (.iconst 0, 1) := by decide +kernel
theorem dX15_outcome_35 : decode cX15_outcome 35 = .ok (.ireturn, 1) := by decide +kernel
theorem dX15_leaked_0 : decode cX15_leaked 0 = .ok (.aload_n 0, 1) := by decide +kernel
theorem dX15_leaked_1 : decode cX15_leaked 1 = .ok (.getfield 101, 3) := by decide +kernel
theorem dX15_leaked_4 : decode cX15_leaked 4 = .ok (.aload_n 0, 1) := by decide +kernel
theorem dX15_leaked_5 : decode cX15_leaked 5 = .ok (.getfield 104, 3) := by decide +kernel
theorem dX15_leaked_8 : decode cX15_leaked 8 = .ok (.isub, 1) := by decide +kernel
theorem dX15_leaked_9 : decode cX15_leaked 9 = .ok (.aload_n 0, 1) := by decide +kernel
theorem dX15_leaked_10 : decode cX15_leaked 10 = .ok (.getfield 107, 3) := by decide +kernel
theorem dX15_leaked_13 : decode cX15_leaked 13 = .ok (.iadd, 1) := by decide +kernel
theorem dX15_leaked_14 : decode cX15_leaked 14 = .ok (.aload_n 0, 1) := by decide +kernel
theorem dX15_leaked_15 : decode cX15_leaked 15 = .ok (.getfield 110, 3) := by decide +kernel
theorem dX15_leaked_18 : decode cX15_leaked 18 = .ok (.isub, 1) := by decide +kernel
theorem dX15_leaked_19 : decode cX15_leaked 19 = .ok (.ireturn, 1) := by decide +kernel
theorem dX15_panic_0 : decode cX15_panic 0 = .ok (.aload_n 0, 1) := by decide +kernel
theorem dX15_panic_1 : decode cX15_panic 1 = .ok (.getfield 18, 3) := by decide +kernel
theorem dX15_panic_4 : decode cX15_panic 4 = .ok (.iconst (-1), 1) := by decide +kernel
theorem dX15_panic_5 : decode cX15_panic 5 = .ok (.if_icmp .eq 11, 3) := by decide +kernel
theorem dX15_panic_8 : decode cX15_panic 8 = .ok (.aload_n 0, 1) := by decide +kernel
theorem dX15_panic_9 : decode cX15_panic 9 = .ok (.iconst 1, 1) := by decide +kernel
theorem dX15_panic_10 : decode cX15_panic 10 = .ok (.putfield 90, 3) := by decide +kernel
theorem dX15_panic_13 : decode cX15_panic 13 = .ok (.goto 11, 3) := by decide +kernel
theorem dX15_panic_16 : decode cX15_panic 16 = .ok (.aload_n 0, 1) := by decide +kernel
theorem dX15_panic_17 : decode cX15_panic 17 = .ok (.aload_n 0, 1) := by decide +kernel
theorem dX15_panic_18 : decode cX15_panic 18 = .ok (.getfield 70, 3) := by decide +kernel
theorem dX15_panic_21 : decode cX15_panic 21 = .ok (.putfield 18, 3) := by decide +kernel
theorem dX15_panic_24 : decode cX15_panic 24 = .ok (.return_, 1) := by decide +kernel
set_option maxRecDepth 20000 in
theorem ggX15_tell_Jx4a65c_add_9ea2d : GoodIn wsX15_tell wsJx4a65c_add_9ea2d := goodIn_r _ [8, 9, 10, 11, 12, 13, 14, 15, 7, 16, 17, 18, 19, 20, 21, 22, 23, 24, 25, 26, 27, 28, 29, 30, 31, 32, 33, 34, 35, 36, 37, 38, 39, 40, 41, 42, 43, 44, 45, 46, 47, 48, 49, 50, 51, 52, 53, 54, 55, 56, 57, 58, 59, 78, 79, 80] (by decide +kernel) (by decide +kernel)
set_option maxRecDepth 20000 in
theorem gX15_tell_Jx4a65c_add_9ea2d : GoodIn wsX15_tell (wsV RX15 113 RJx4a65c yJx4a65c_add_9ea2d wsJx4a65c_add_9ea2d) := goodIn_app (goodIn_of _ (by decide +kernel)) ggX15_tell_Jx4a65c_add_9ea2d
theorem dX15_tell_0 : decode cX15_tell 0 = .ok (.aload_n 0, 1) := by decide +kernel
theorem dX15_tell_1 : decode cX15_tell 1 = .ok (.getfield 12, 3) := by decide +kernel
theorem dX15_tell_4 : decode cX15_tell 4 = .ok (.iconst 3, 1) := by decide +kernel
theorem dX15_tell_5 : decode cX15_tell 5 = .ok (.newarray .int, 2) := by decide +kernel
theorem dX15_tell_7 : decode cX15_tell 7 = .ok (.dup, 1) := by decide +kernel
theorem dX15_tell_8 : decode cX15_tell 8 = .ok (.iconst 0, 1) := by decide +kernel
theorem dX15_tell_9 : decode cX15_tell 9 = .ok (.iload_n 1, 1) := by decide +kernel
theorem dX15_tell_10 : decode cX15_tell 10 = .ok (.iastore, 1) := by decide +kernel
theorem dX15_tell_11 : decode cX15_tell 11 = .ok (.dup, 1) := by decide +kernel
theorem dX15_tell_12 : decode cX15_tell 12 = .ok (.iconst 1, 1) := by decide +kernel
theorem dX15_tell_13 : decode cX15_tell 13 = .ok (.iload_n 2, 1) := by decide +kernel
theorem dX15_tell_14 : decode cX15_tell 14 = .ok (.iastore, 1) := by decide +kernel
theorem dX15_tell_15 : decode cX15_tell 15 = .ok (.dup, 1) := by decide +kernel
theorem dX15_tell_16 : decode cX15_tell 16 = .ok (.iconst 2, 1) := by decide +kernel
theorem dX15_tell_17 : decode cX15_tell 17 = .ok (.aload_n 0, 1) := by decide +kernel
theorem dX15_tell_18 : decode cX15_tell 18 = .ok (.getfield 70, 3) := by decide +kernel
theorem dX15_tell_21 : decode cX15_tell 21 = .ok (.iastore, 1) := by decide +kernel
theorem dX15_tell_22 : decode cX15_tell 22 = .ok (.invokevirtual 113, 3) := by decide +kernel
theorem dX15_tell_25 : decode cX15_tell 25 = .ok (.pop, 1) := by decide +kernel
theorem dX15_tell_26 : decode cX15_tell 26 = .ok (.return_, 1) := by decide +kernel
set_option maxRecDepth 20000 in
theorem ggX15_drop_X15_tell : GoodIn wsX15_drop wsX15_tell := goodIn_r _ [8, 9, 10, 11, 12, 13, 14, 15, 16, 17, 18, 19, 20, 21, 22, 23, 24, 25, 26, 27, 28, 29, 30, 31, 32, 33, 34, 35, 36, 37, 38, 39, 40, 41, 42, 43, 44, 45, 46, 47, 48, 49, 50, 51, 52, 53, 54, 55, 56, 57, 58, 59, 60, 61, 62, 63, 64, 65, 66, 67, 73, 74, 75, 76, 77, 78, 79, 80, 81, 82, 83, 84, 85, 86, 87, 88, 89, 90, 92, 93, 94] (by decide +kernel) (by decide +kernel)
set_option maxRecDepth 20000 in
theorem gX15_drop_X15_tell : GoodIn wsX15_drop (wsV RX15 120 RX15 yX15_tell wsX15_tell) := goodIn_app (goodIn_of _ (by decide +kernel)) ggX15_drop_X15_tell
set_option maxRecDepth 20000 in
theorem ggX15_drop_X15_panic : GoodIn wsX15_drop wsX15_panic := goodIn_r _ [71, 72, 1, 11, 73, 74, 75, 76, 77, 78, 79, 80, 81, 82, 83, 84, 85, 86, 87, 88, 89, 90] (by decide +kernel) (by decide +kernel)
set_option maxRecDepth 20000 in
theorem gX15_drop_X15_panic : GoodIn wsX15_drop (wsV RX15 124 RX15 yX15_panic wsX15_panic) := goodIn_app (goodIn_of _ (by decide +kernel)) ggX15_drop_X15_panic
theorem dX15_drop_0 : decode cX15_drop 0 = .ok (.aload_n 1, 1) := by decide +kernel
theorem dX15_drop_1 : decode cX15_drop 1 = .ok (.ifnull 10, 3) := by decide +kernel
theorem dX15_drop_4 : decode cX15_drop 4 = .ok (.aload_n 0, 1) := by decide +kernel
theorem dX15_drop_5 : decode cX15_drop 5 = .ok (.getfield 90, 3) := by decide +kernel
theorem dX15_drop_8 : decode cX15_drop 8 = .ok (.ifCond .eq 4, 3) := by decide +kernel
theorem dX15_drop_11 : decode cX15_drop 11 = .ok (.return_, 1) := by decide +kernel
theorem dX15_drop_12 : decode cX15_drop 12 = .ok (.aload_n 0, 1) := by decide +kernel
theorem dX15_drop_13 : decode cX15_drop 13 = .ok (.dup, 1) := by decide +kernel
theorem dX15_drop_14 : decode cX15_drop 14 = .ok (.getfield 104, 3) := by decide +kernel
theorem dX15_drop_17 : decode cX15_drop 17 = .ok (.iconst 1, 1) := by decide +kernel
theorem dX15_drop_18 : decode cX15_drop 18 = .ok (.iadd, 1) := by decide +kernel
theorem dX15_drop_19 : decode cX15_drop 19 = .ok (.putfield 104, 3) := by decide +kernel
theorem dX15_drop_22 : decode cX15_drop 22 = .ok (.aload_n 0, 1) := by decide +kernel
theorem dX15_drop_23 : decode cX15_drop 23 = .ok (.iconst 1, 1) := by decide +kernel
theorem dX15_drop_24 : decode cX15_drop 24 = .ok (.aload_n 1, 1) := by decide +kernel
theorem dX15_drop_25 : decode cX15_drop 25 = .ok (.getfield 117, 3) := by decide +kernel
theorem dX15_drop_28 : decode cX15_drop 28 = .ok (.invokevirtual 120, 3) := by decide +kernel
theorem dX15_drop_31 : decode cX15_drop 31 = .ok (.aload_n 1, 1) := by decide +kernel
theorem dX15_drop_32 : decode cX15_drop 32 = .ok (.getfield 117, 3) := by decide +kernel
theorem dX15_drop_35 : decode cX15_drop 35 = .ok (.ifCond .ge 7, 3) := by decide +kernel
theorem dX15_drop_38 : decode cX15_drop 38 = .ok (.aload_n 0, 1) := by decide +kernel
theorem dX15_drop_39 : decode cX15_drop 39 = .ok (.invokevirtual 124, 3) := by decide +kernel
theorem dX15_drop_42 : decode cX15_drop 42 = .ok (.return_, 1) := by decide +kernel
set_option maxRecDepth 20000 in
theorem ggX15_letDown_X15_tell : GoodIn wsX15_letDown wsX15_tell := goodIn_r _ [10, 11, 12, 13, 14, 15, 16, 17, 18, 19, 20, 21, 22, 23, 24, 25, 26, 27, 28, 29, 30, 31, 32, 33, 34, 35, 36, 37, 38, 39, 40, 41, 42, 43, 44, 45, 46, 47, 48, 49, 50, 51, 52, 53, 54, 55, 56, 57, 58, 59, 60, 61, 62, 63, 64, 65, 66, 67, 68, 69, 70, 71, 72, 73, 74, 75, 76, 77, 78, 79, 80, 81, 82, 83, 84, 85, 86, 87, 92, 93, 94] (by decide +kernel) (by decide +kernel)
set_option maxRecDepth 20000 in
theorem gX15_letDown_X15_tell : GoodIn wsX15_letDown (wsV RX15 120 RX15 yX15_tell wsX15_tell) := goodIn_app (goodIn_of _ (by decide +kernel)) ggX15_letDown_X15_tell
theorem dX15_letDown_0 : decode cX15_letDown 0 = .ok (.aload_n 1, 1) := by decide +kernel
theorem dX15_letDown_1 : decode cX15_letDown 1 = .ok (.astore_n 2, 1) := by decide +kernel
theorem dX15_letDown_2 : decode cX15_letDown 2 = .ok (.aload_n 2, 1) := by decide +kernel
theorem dX15_letDown_3 : decode cX15_letDown 3 = .ok (.ifnull 55, 3) := by decide +kernel
theorem dX15_letDown_6 : decode cX15_letDown 6 = .ok (.aload_n 0, 1) := by decide +kernel
theorem dX15_letDown_7 : decode cX15_letDown 7 = .ok (.getfield 90, 3) := by decide +kernel
theorem dX15_letDown_10 : decode cX15_letDown 10 = .ok (.ifCond .ne 48, 3) := by decide +kernel
theorem dX15_letDown_13 : decode cX15_letDown 13 = .ok (.aload_n 2, 1) := by decide +kernel
theorem dX15_letDown_14 : decode cX15_letDown 14 = .ok (.dup, 1) := by decide +kernel
theorem dX15_letDown_15 : decode cX15_letDown 15 = .ok (.getfield 127, 3) := by decide +kernel
theorem dX15_letDown_18 : decode cX15_letDown 18 = .ok (.iconst 1, 1) := by decide +kernel
theorem dX15_letDown_19 : decode cX15_letDown 19 = .ok (.isub, 1) := by decide +kernel
theorem dX15_letDown_20 : decode cX15_letDown 20 = .ok (.putfield 127, 3) := by decide +kernel
theorem dX15_letDown_23 : decode cX15_letDown 23 = .ok (.aload_n 2, 1) := by decide +kernel
theorem dX15_letDown_24 : decode cX15_letDown 24 = .ok (.getfield 127, 3) := by decide +kernel
theorem dX15_letDown_27 : decode cX15_letDown 27 = .ok (.ifCond .le 4, 3) := by decide +kernel
theorem dX15_letDown_30 : decode cX15_letDown 30 = .ok (.return_, 1) := by decide +kernel
theorem dX15_letDown_31 : decode cX15_letDown 31 = .ok (.aload_n 0, 1) := by decide +kernel
theorem dX15_letDown_32 : decode cX15_letDown 32 = .ok (.dup, 1) := by decide +kernel
theorem dX15_letDown_33 : decode cX15_letDown 33 = .ok (.getfield 110, 3) := by decide +kernel
theorem dX15_letDown_36 : decode cX15_letDown 36 = .ok (.iconst 1, 1) := by decide +kernel
theorem dX15_letDown_37 : decode cX15_letDown 37 = .ok (.iadd, 1) := by decide +kernel
theorem dX15_letDown_38 : decode cX15_letDown 38 = .ok (.putfield 110, 3) := by decide +kernel
theorem dX15_letDown_41 : decode cX15_letDown 41 = .ok (.aload_n 0, 1) := by decide +kernel
theorem dX15_letDown_42 : decode cX15_letDown 42 = .ok (.iconst 2, 1) := by decide +kernel
theorem dX15_letDown_43 : decode cX15_letDown 43 = .ok (.aload_n 2, 1) := by decide +kernel
theorem dX15_letDown_44 : decode cX15_letDown 44 = .ok (.getfield 130, 3) := by decide +kernel
theorem dX15_letDown_47 : decode cX15_letDown 47 = .ok (.invokevirtual 120, 3) := by decide +kernel
theorem dX15_letDown_50 : decode cX15_letDown 50 = .ok (.aload_n 2, 1) := by decide +kernel
theorem dX15_letDown_51 : decode cX15_letDown 51 = .ok (.getfield 131, 3) := by decide +kernel
theorem dX15_letDown_54 : decode cX15_letDown 54 = .ok (.astore_n 2, 1) := by decide +kernel
theorem dX15_letDown_55 : decode cX15_letDown 55 = .ok (.goto (-53), 3) := by decide +kernel
theorem dX15_letDown_58 : decode cX15_letDown 58 = .ok (.return_, 1) := by decide +kernel
theorem dX15_takeBox_0 : decode cX15_takeBox 0 = .ok (.aload_n 0, 1) := by decide +kernel
theorem dX15_takeBox_1 : decode cX15_takeBox 1 = .ok (.getfield 51, 3) := by decide +kernel
theorem dX15_takeBox_4 : decode cX15_takeBox 4 = .ok (.iload_n 1, 1) := by decide +kernel
theorem dX15_takeBox_5 : decode cX15_takeBox 5 = .ok (.aaload, 1) := by decide +kernel
theorem dX15_takeBox_6 : decode cX15_takeBox 6 = .ok (.astore_n 2, 1) := by decide +kernel
theorem dX15_takeBox_7 : decode cX15_takeBox 7 = .ok (.aload_n 0, 1) := by decide +kernel
theorem dX15_takeBox_8 : decode cX15_takeBox 8 = .ok (.getfield 51, 3) := by decide +kernel
theorem dX15_takeBox_11 : decode cX15_takeBox 11 = .ok (.iload_n 1, 1) := by decide +kernel
theorem dX15_takeBox_12 : decode cX15_takeBox 12 = .ok (.aconst_null, 1) := by decide +kernel
theorem dX15_takeBox_13 : decode cX15_takeBox 13 = .ok (.aastore, 1) := by decide +kernel
theorem dX15_takeBox_14 : decode cX15_takeBox 14 = .ok (.aload_n 2, 1) := by decide +kernel
theorem dX15_takeBox_15 : decode cX15_takeBox 15 = .ok (.areturn, 1) := by decide +kernel
theorem dX15_takeNode_0 : decode cX15_takeNode 0 = .ok (.aload_n 0, 1) := by decide +kernel
theorem dX15_takeNode_1 : decode cX15_takeNode 1 = .ok (.getfield 57, 3) := by decide +kernel
theorem dX15_takeNode_4 : decode cX15_takeNode 4 = .ok (.iload_n 1, 1) := by decide +kernel
theorem dX15_takeNode_5 : decode cX15_takeNode 5 = .ok (.aaload, 1) := by decide +kernel
theorem dX15_takeNode_6 : decode cX15_takeNode 6 = .ok (.astore_n 2, 1) := by decide +kernel
theorem dX15_takeNode_7 : decode cX15_takeNode 7 = .ok (.aload_n 0, 1) := by decide +kernel
theorem dX15_takeNode_8 : decode cX15_takeNode 8 = .ok (.getfield 57, 3) := by decide +kernel
theorem dX15_takeNode_11 : decode cX15_takeNode 11 = .ok (.iload_n 1, 1) := by decide +kernel
theorem dX15_takeNode_12 : decode cX15_takeNode 12 = .ok (.aconst_null, 1) := by decide +kernel
theorem dX15_takeNode_13 : decode cX15_takeNode 13 = .ok (.aastore, 1) := by decide +kernel
theorem dX15_takeNode_14 : decode cX15_takeNode 14 = .ok (.aload_n 2, 1) := by decide +kernel
theorem dX15_takeNode_15 : decode cX15_takeNode 15 = .ok (.areturn, 1) := by decide +kernel
set_option maxRecDepth 20000 in
theorem ggX15_loseAll_X14_kindOf : GoodIn wsX15_loseAll wsX14_kindOf := goodIn_r _ [7, 8, 9, 10, 11, 12, 13, 14, 15, 16, 17, 18, 19, 20, 21, 22, 23, 24, 25, 26, 27, 28, 29, 30, 31, 32, 33, 34, 35, 36, 37, 38, 39, 40, 41, 156, 157, 158, 159, 160, 161] (by decide +kernel) (by decide +kernel)
set_option maxRecDepth 20000 in
theorem gX15_loseAll_X14_kindOf : GoodIn wsX15_loseAll (wsV RX15 135 RX14 yX14_kindOf wsX14_kindOf) := goodIn_app (goodIn_of _ (by decide +kernel)) ggX15_loseAll_X14_kindOf
set_option maxRecDepth 20000 in
theorem ggX15_loseAll_X15_takeNode : GoodIn wsX15_loseAll wsX15_takeNode := goodIn_r _ [46, 47, 138, 139, 140, 141, 142, 143, 144, 145, 146, 147, 148, 149, 150, 151, 152, 153, 154, 155] (by decide +kernel) (by decide +kernel)
set_option maxRecDepth 20000 in
theorem gX15_loseAll_X15_takeNode : GoodIn wsX15_loseAll (wsV RX15 139 RX15 yX15_takeNode wsX15_takeNode) := goodIn_app (goodIn_of _ (by decide +kernel)) ggX15_loseAll_X15_takeNode
set_option maxRecDepth 20000 in
theorem ggX15_loseAll_X15_letDown : GoodIn wsX15_loseAll wsX15_letDown := goodIn_r _ [51, 52, 53, 54, 55, 56, 57, 58, 59, 45, 60, 61, 62, 63, 64, 65, 66, 13, 67, 68, 69, 35, 15, 70, 71, 72, 73, 74, 75, 76, 77, 78, 79, 80, 81, 82, 83, 84, 85, 86, 87, 88, 89, 90, 91, 92, 93, 94, 95, 96, 97, 98, 99, 100, 101, 102, 103, 104, 105, 106, 107, 108, 109, 110, 111, 112, 113, 114, 115, 116, 138, 139, 140, 141, 142, 143, 144, 145, 146, 147, 148, 149, 150, 151, 152, 153, 154, 155, 162, 163, 164, 165, 158, 159, 160] (by decide +kernel) (by decide +kernel)
set_option maxRecDepth 20000 in
theorem gX15_loseAll_X15_letDown : GoodIn wsX15_loseAll (wsV RX15 143 RX15 yX15_letDown wsX15_letDown) := goodIn_app (goodIn_of _ (by decide +kernel)) ggX15_loseAll_X15_letDown
set_option maxRecDepth 20000 in
theorem ggX15_loseAll_X14_leaves : GoodIn wsX15_loseAll wsX14_leaves := goodIn_r _ [120, 62, 121, 4, 5, 6, 7, 8, 9, 10, 11, 12, 13, 14, 15, 16, 17, 18, 19, 20, 21, 22, 23, 24, 25, 26, 27, 28, 29, 30, 31, 32, 33, 34, 35, 36, 37, 38, 39, 40, 41, 156, 157, 158, 159, 160, 161] (by decide +kernel) (by decide +kernel)
set_option maxRecDepth 20000 in
theorem gX15_loseAll_X14_leaves : GoodIn wsX15_loseAll (wsV RX15 147 RX14 yX14_leaves wsX14_leaves) := goodIn_app (goodIn_of _ (by decide +kernel)) ggX15_loseAll_X14_leaves
set_option maxRecDepth 20000 in
theorem ggX15_loseAll_X15_takeBox : GoodIn wsX15_loseAll wsX15_takeBox := goodIn_r _ [125, 126, 138, 139, 140, 141, 142, 143, 144, 145, 146, 147, 148, 149, 150, 151, 152, 153, 154, 155] (by decide +kernel) (by decide +kernel)
set_option maxRecDepth 20000 in
theorem gX15_loseAll_X15_takeBox : GoodIn wsX15_loseAll (wsV RX15 151 RX15 yX15_takeBox wsX15_takeBox) := goodIn_app (goodIn_of _ (by decide +kernel)) ggX15_loseAll_X15_takeBox
set_option maxRecDepth 20000 in
theorem ggX15_loseAll_X15_drop : GoodIn wsX15_loseAll wsX15_drop := goodIn_r _ [130, 52, 131, 132, 57, 58, 59, 45, 60, 61, 62, 63, 64, 65, 66, 13, 67, 68, 69, 35, 15, 70, 71, 72, 73, 74, 75, 76, 77, 78, 79, 80, 81, 82, 83, 84, 85, 86, 87, 88, 89, 90, 91, 92, 93, 94, 95, 96, 97, 98, 99, 100, 101, 102, 103, 104, 105, 106, 107, 108, 109, 110, 111, 112, 113, 114, 115, 116, 133, 134, 135, 136, 137, 138, 139, 140, 141, 142, 143, 144, 145, 146, 147, 148, 149, 150, 151, 152, 153, 154, 155, 166, 158, 159, 160] (by decide +kernel) (by decide +kernel)
set_option maxRecDepth 20000 in
theorem gX15_loseAll_X15_drop : GoodIn wsX15_loseAll (wsV RX15 155 RX15 yX15_drop wsX15_drop) := goodIn_app (goodIn_of _ (by decide +kernel)) ggX15_loseAll_X15_drop
theorem dX15_loseAll_0 : decode cX15_loseAll 0 = .ok (.aload_n 0, 1) := by decide +kernel
theorem dX15_loseAll_1 : decode cX15_loseAll 1 = .ok (.getfield 22, 3) := by decide +kernel
theorem dX15_loseAll_4 : decode cX15_loseAll 4 = .ok (.iload_n 1, 1) := by decide +kernel
theorem dX15_loseAll_5 : decode cX15_loseAll 5 = .ok (.invokevirtual 135, 3) := by decide +kernel
theorem dX15_loseAll_8 : decode cX15_loseAll 8 = .ok (.iconst 5, 1) := by decide +kernel
theorem dX15_loseAll_9 : decode cX15_loseAll 9 = .ok (.if_icmp .ne 13, 3) := by decide +kernel
theorem dX15_loseAll_12 : decode cX15_loseAll 12 = .ok (.aload_n 0, 1) := by decide +kernel
theorem dX15_loseAll_13 : decode cX15_loseAll 13 = .ok (.aload_n 0, 1) := by decide +kernel
theorem dX15_loseAll_14 : decode cX15_loseAll 14 = .ok (.iload_n 1, 1) := by decide +kernel
theorem dX15_loseAll_15 : decode cX15_loseAll 15 = .ok (.invokevirtual 139, 3) := by decide +kernel
theorem dX15_loseAll_18 : decode cX15_loseAll 18 = .ok (.invokevirtual 143, 3) := by decide +kernel
theorem dX15_loseAll_21 : decode cX15_loseAll 21 = .ok (.return_, 1) := by decide +kernel
theorem dX15_loseAll_22 : decode cX15_loseAll 22 = .ok (.aload_n 0, 1) := by decide +kernel
theorem dX15_loseAll_23 : decode cX15_loseAll 23 = .ok (.getfield 22, 3) := by decide +kernel
theorem dX15_loseAll_26 : decode cX15_loseAll 26 = .ok (.iload_n 1, 1) := by decide +kernel
theorem dX15_loseAll_27 : decode cX15_loseAll 27 = .ok (.invokevirtual 147, 3) := by decide +kernel
theorem dX15_loseAll_30 : decode cX15_loseAll 30 = .ok (.astore_n 2, 1) := by decide +kernel
theorem dX15_loseAll_31 : decode cX15_loseAll 31 = .ok (.aload_n 2, 1) := by decide +kernel
theorem dX15_loseAll_32 : decode cX15_loseAll 32 = .ok (.arraylength, 1) := by decide +kernel
theorem dX15_loseAll_33 : decode cX15_loseAll 33 = .ok (.anewarray 49, 3) := by decide +kernel
theorem dX15_loseAll_36 : decode cX15_loseAll 36 = .ok (.astore_n 3, 1) := by decide +kernel
theorem dX15_loseAll_37 : decode cX15_loseAll 37 = .ok (.iconst 0, 1) := by decide +kernel
theorem dX15_loseAll_38 : decode cX15_loseAll 38 = .ok (.istore 4, 2) := by decide +kernel
theorem dX15_loseAll_40 : decode cX15_loseAll 40 = .ok (.iload 4, 2) := by decide +kernel
theorem dX15_loseAll_42 : decode cX15_loseAll 42 = .ok (.aload_n 2, 1) := by decide +kernel
theorem dX15_loseAll_43 : decode cX15_loseAll 43 = .ok (.arraylength, 1) := by decide +kernel
theorem dX15_loseAll_44 : decode cX15_loseAll 44 = .ok (.if_icmp .ge 21, 3) := by decide +kernel
theorem dX15_loseAll_47 : decode cX15_loseAll 47 = .ok (.aload_n 3, 1) := by decide +kernel
theorem dX15_loseAll_48 : decode cX15_loseAll 48 = .ok (.iload 4, 2) := by decide +kernel
theorem dX15_loseAll_50 : decode cX15_loseAll 50 = .ok (.aload_n 0, 1) := by decide +kernel
theorem dX15_loseAll_51 : decode cX15_loseAll 51 = .ok (.aload_n 2, 1) := by decide +kernel
theorem dX15_loseAll_52 : decode cX15_loseAll 52 = .ok (.iload 4, 2) := by decide +kernel
theorem dX15_loseAll_54 : decode cX15_loseAll 54 = .ok (.iaload, 1) := by decide +kernel
theorem dX15_loseAll_55 : decode cX15_loseAll 55 = .ok (.invokevirtual 151, 3) := by decide +kernel
theorem dX15_loseAll_58 : decode cX15_loseAll 58 = .ok (.aastore, 1) := by decide +kernel
theorem dX15_loseAll_59 : decode cX15_loseAll 59 = .ok (.iinc 4 1, 3) := by decide +kernel
theorem dX15_loseAll_62 : decode cX15_loseAll 62 = .ok (.goto (-22), 3) := by decide +kernel
theorem dX15_loseAll_65 : decode cX15_loseAll 65 = .ok (.aload_n 3, 1) := by decide +kernel
theorem dX15_loseAll_66 : decode cX15_loseAll 66 = .ok (.astore 4, 2) := by decide +kernel
theorem dX15_loseAll_68 : decode cX15_loseAll 68 = .ok (.aload 4, 2) := by decide +kernel
theorem dX15_loseAll_70 : decode cX15_loseAll 70 = .ok (.arraylength, 1) := by decide +kernel
theorem dX15_loseAll_71 : decode cX15_loseAll 71 = .ok (.istore 5, 2) := by decide +kernel
theorem dX15_loseAll_73 : decode cX15_loseAll 73 = .ok (.iconst 0, 1) := by decide +kernel
theorem dX15_loseAll_74 : decode cX15_loseAll 74 = .ok (.istore 6, 2) := by decide +kernel
theorem dX15_loseAll_76 : decode cX15_loseAll 76 = .ok (.iload 6, 2) := by decide +kernel
theorem dX15_loseAll_78 : decode cX15_loseAll 78 = .ok (.iload 5, 2) := by decide +kernel
theorem dX15_loseAll_80 : decode cX15_loseAll 80 = .ok (.if_icmp .ge 22, 3) := by decide +kernel
theorem dX15_loseAll_83 : decode cX15_loseAll 83 = .ok (.aload 4, 2) := by decide +kernel
theorem dX15_loseAll_85 : decode cX15_loseAll 85 = .ok (.iload 6, 2) := by decide +kernel
theorem dX15_loseAll_87 : decode cX15_loseAll 87 = .ok (.aaload, 1) := by decide +kernel
theorem dX15_loseAll_88 : decode cX15_loseAll 88 = .ok (.astore 7, 2) := by decide +kernel
theorem dX15_loseAll_90 : decode cX15_loseAll 90 = .ok (.aload_n 0, 1) := by decide +kernel
theorem dX15_loseAll_91 : decode cX15_loseAll 91 = .ok (.aload 7, 2) := by decide +kernel
theorem dX15_loseAll_93 : decode cX15_loseAll 93 = .ok (.invokevirtual 155, 3) := by decide +kernel
theorem dX15_loseAll_96 : decode cX15_loseAll 96 = .ok (.iinc 6 1, 3) := by decide +kernel
theorem dX15_loseAll_99 : decode cX15_loseAll 99 = .ok (.goto (-23), 3) := by decide +kernel
theorem dX15_loseAll_102 : decode cX15_loseAll 102 = .ok (.return_, 1) := by decide +kernel
set_option maxRecDepth 20000 in
theorem ggX15_step_X15_make : GoodIn wsX15_step wsX15_make := goodIn_r _ [15, 16, 3, 5, 4, 8, 17, 18, 19, 20, 21, 22, 23, 24, 25, 26, 27, 28, 29, 30, 31, 32, 33, 34, 35, 36, 37, 38, 39, 40, 41, 42, 43, 44, 45, 46, 47, 48, 49, 50, 51, 52, 53, 54, 55, 56, 57, 58, 59, 60, 61, 62, 63, 64, 65, 66, 67, 68, 69, 70, 71, 72, 73, 74, 75, 14, 76, 77, 78, 79, 80, 81, 82, 83, 84, 85, 86, 87, 88, 89, 90, 91, 92, 93, 94, 95, 96, 97, 98, 99, 100, 101, 102, 103, 104, 105, 106, 107, 108, 109, 110, 111, 112, 113, 114, 115, 116, 117, 118, 119, 120, 121, 122, 123, 124, 125, 126, 127, 128, 129, 130, 131, 132, 133, 134, 135, 136, 137, 138, 139, 140, 141, 142, 143, 144, 145, 146, 147, 148, 149, 150, 151, 152, 153, 154, 155, 156, 157, 158, 159, 160, 161, 162, 214, 215, 216, 217, 218, 219, 220, 221, 222, 223, 224, 225, 226, 227, 228, 229, 230, 231, 211, 212, 213, 241, 242, 243, 244, 245, 246, 247, 248, 249, 250, 251] (by decide +kernel) (by decide +kernel)
set_option maxRecDepth 20000 in
theorem gX15_step_X15_make : GoodIn wsX15_step (wsV RX15 162 RX15 yX15_make wsX15_make) := goodIn_app (goodIn_of _ (by decide +kernel)) ggX15_step_X15_make
set_option maxRecDepth 20000 in
theorem ggX15_step_X15_move : GoodIn wsX15_step wsX15_move := goodIn_r _ [166, 16, 3, 2, 4, 8, 21, 22, 26, 27, 28, 29, 30, 31, 32, 33, 34, 35, 36, 37, 38, 39, 40, 41, 42, 43, 44, 45, 46, 47, 48, 49, 50, 51, 52, 53, 54, 55, 56, 57, 58, 59, 60, 61, 62, 63, 64, 167, 168, 169, 14, 170, 73, 74, 75, 76, 77, 78, 79, 80, 81, 82, 83, 84, 85, 86, 87, 88, 89, 90, 91, 92, 93, 94, 95, 96, 97, 98, 99, 100, 101, 102, 103, 104, 105, 106, 107, 108, 109, 110, 111, 112, 113, 114, 115, 116, 117, 118, 119, 120, 121, 122, 123, 124, 125, 126, 127, 128, 129, 130, 131, 132, 133, 134, 135, 136, 137, 138, 139, 140, 141, 142, 143, 144, 145, 146, 171, 172, 173, 174, 152, 153, 154, 155, 156, 157, 158, 159, 160, 161, 162, 214, 215, 216, 217, 218, 219, 220, 221, 222, 223, 224, 225, 226, 227, 228, 229, 230, 231, 211, 212, 213, 246, 247, 248, 249, 250, 251, 241, 242, 243, 244, 245] (by decide +kernel) (by decide +kernel)
set_option maxRecDepth 20000 in
theorem gX15_step_X15_move : GoodIn wsX15_step (wsV RX15 166 RX15 yX15_move wsX15_move) := goodIn_app (goodIn_of _ (by decide +kernel)) ggX15_step_X15_move
set_option maxRecDepth 20000 in
theorem ggX15_step_X15_copy : GoodIn wsX15_step wsX15_copy := goodIn_r _ [178, 16, 3, 5, 4, 2, 8, 78, 26, 27, 28, 29, 30, 31, 32, 33, 34, 35, 36, 37, 38, 39, 40, 41, 42, 43, 44, 45, 46, 47, 48, 49, 50, 51, 52, 53, 54, 55, 56, 57, 58, 59, 60, 61, 62, 63, 64, 73, 74, 75, 14, 76, 77, 79, 80, 81, 82, 83, 84, 85, 86, 87, 88, 89, 90, 91, 92, 93, 94, 95, 96, 97, 98, 99, 100, 101, 102, 103, 104, 105, 106, 107, 108, 109, 110, 111, 112, 113, 114, 115, 116, 117, 118, 119, 120, 121, 122, 123, 124, 125, 126, 127, 128, 129, 130, 131, 132, 133, 134, 135, 136, 137, 138, 139, 140, 141, 214, 215, 216, 217, 218, 219, 220, 221, 222, 223, 224, 225, 226, 227, 228, 229, 230, 231, 211, 212, 213, 241, 242, 243, 244, 246, 247, 248, 249, 250, 251] (by decide +kernel) (by decide +kernel)
set_option maxRecDepth 20000 in
theorem gX15_step_X15_copy : GoodIn wsX15_step (wsV RX15 169 RX15 yX15_copy wsX15_copy) := goodIn_app (goodIn_of _ (by decide +kernel)) ggX15_step_X15_copy
set_option maxRecDepth 20000 in
theorem ggX15_step_X15_read : GoodIn wsX15_step wsX15_read := goodIn_r _ [182, 16, 3, 8, 9, 80, 2, 26, 27, 28, 29, 30, 31, 32, 33, 34, 35, 36, 37, 38, 39, 40, 41, 42, 43, 44, 45, 46, 47, 48, 49, 50, 51, 52, 53, 54, 55, 56, 57, 58, 59, 60, 61, 62, 63, 64, 158, 159, 160, 14, 161, 162, 77, 88, 82, 83, 84, 85, 86, 87, 89, 90, 91, 92, 93, 94, 95, 96, 97, 98, 99, 100, 101, 102, 103, 104, 105, 106, 107, 108, 109, 110, 111, 112, 113, 114, 115, 116, 117, 118, 119, 120, 121, 122, 123, 124, 125, 126, 127, 128, 129, 130, 131, 132, 133, 134, 135, 136, 137, 138, 139, 140, 141, 183, 184, 185, 186, 146, 187, 188, 189, 190, 5, 22, 157, 142, 143, 144, 145, 214, 215, 216, 217, 218, 219, 220, 221, 222, 223, 224, 225, 226, 227, 228, 229, 230, 231, 211, 212, 213, 241, 242, 243, 244, 246, 247, 248, 249, 250, 251, 245] (by decide +kernel) (by decide +kernel)
set_option maxRecDepth 20000 in
theorem gX15_step_X15_read : GoodIn wsX15_step (wsV RX15 178 RX15 yX15_read wsX15_read) := goodIn_app (goodIn_of _ (by decide +kernel)) ggX15_step_X15_read
set_option maxRecDepth 20000 in
theorem ggX15_step_X15_write : GoodIn wsX15_step wsX15_write := goodIn_r _ [194, 16, 3, 8, 9, 4, 80, 2, 5, 22, 157, 26, 27, 28, 29, 30, 31, 32, 33, 34, 35, 36, 37, 38, 39, 40, 41, 42, 43, 44, 45, 46, 47, 48, 49, 50, 51, 52, 53, 54, 55, 56, 57, 58, 59, 60, 61, 62, 63, 64, 158, 159, 160, 14, 161, 162, 77, 88, 183, 184, 185, 186, 146, 142, 143, 144, 145, 87, 214, 215, 216, 217, 218, 219, 220, 221, 222, 223, 224, 225, 226, 227, 228, 229, 230, 231, 211, 212, 213, 241, 242, 243, 244, 245, 246, 247, 248, 249, 250, 251] (by decide +kernel) (by decide +kernel)
set_option maxRecDepth 20000 in
theorem gX15_step_X15_write : GoodIn wsX15_step (wsV RX15 181 RX15 yX15_write wsX15_write) := goodIn_app (goodIn_of _ (by decide +kernel)) ggX15_step_X15_write
set_option maxRecDepth 20000 in
theorem ggX15_step_X15_loseAll : GoodIn wsX15_step wsX15_loseAll := goodIn_r _ [198, 16, 21, 26, 27, 28, 29, 30, 31, 32, 33, 34, 35, 36, 37, 38, 39, 40, 41, 42, 43, 44, 45, 46, 47, 48, 49, 50, 51, 52, 53, 54, 55, 56, 57, 58, 59, 60, 61, 62, 63, 64, 167, 168, 169, 14, 170, 8, 73, 74, 75, 76, 77, 78, 79, 80, 81, 82, 83, 84, 85, 86, 87, 88, 89, 90, 91, 92, 93, 94, 95, 96, 97, 98, 99, 100, 101, 102, 103, 104, 105, 106, 107, 108, 109, 110, 111, 112, 113, 114, 115, 116, 117, 118, 119, 120, 121, 122, 123, 124, 125, 126, 127, 128, 129, 130, 131, 132, 133, 134, 135, 136, 137, 138, 139, 140, 141, 142, 143, 144, 145, 146, 171, 172, 173, 174, 22, 152, 153, 154, 155, 156, 157, 158, 159, 160, 161, 162, 214, 215, 216, 217, 218, 219, 220, 221, 222, 223, 224, 225, 226, 227, 228, 229, 230, 231, 246, 247, 248, 249, 250, 251, 241, 242, 243, 244, 245] (by decide +kernel) (by decide +kernel)
set_option maxRecDepth 20000 in
theorem gX15_step_X15_loseAll : GoodIn wsX15_step (wsV RX15 97 RX15 yX15_loseAll wsX15_loseAll) := goodIn_app (goodIn_of _ (by decide +kernel)) ggX15_step_X15_loseAll
set_option maxRecDepth 20000 in
theorem ggX15_step_X15_goOn : GoodIn wsX15_step wsX15_goOn := goodIn_r _ [202, 6, 7, 16, 203, 204, 3, 205, 206, 43, 44, 36, 45, 38, 46, 47, 48, 49, 50, 51, 52, 53, 54, 55, 56, 57, 58, 214, 215, 216, 217, 218, 219, 220, 221, 222, 223, 224, 225, 226, 227, 228, 229, 230, 231, 232, 233, 234, 235, 236, 237, 238, 239, 240, 246, 247, 211, 212, 213, 248, 249, 250] (by decide +kernel) (by decide +kernel)
set_option maxRecDepth 20000 in
theorem gX15_step_X15_goOn : GoodIn wsX15_step (wsV RX15 190 RX15 yX15_goOn wsX15_goOn) := goodIn_app (goodIn_of _ (by decide +kernel)) ggX15_step_X15_goOn
set_option maxRecDepth 20000 in
theorem ggX15_step_X15_link : GoodIn wsX15_step wsX15_link := goodIn_r _ [210, 78, 81, 73, 74, 75, 14, 76, 77, 79, 80, 82, 83, 84, 85, 86, 87, 88, 89, 90, 91, 36, 92, 93, 94, 58, 38, 95, 96, 97, 98, 99, 100, 101, 102, 103, 104, 105, 106, 107, 108, 109, 110, 111, 112, 113, 114, 115, 116, 117, 118, 119, 120, 121, 122, 123, 124, 125, 126, 127, 128, 129, 130, 131, 132, 133, 134, 135, 136, 137, 138, 139, 140, 141, 241, 242, 243, 244, 214, 215, 216, 217, 218, 219, 220, 221, 222, 223, 224, 225, 226, 227, 228, 229, 230, 231, 248, 249, 250] (by decide +kernel) (by decide +kernel)
set_option maxRecDepth 20000 in
theorem gX15_step_X15_link : GoodIn wsX15_step (wsV RX15 193 RX15 yX15_link wsX15_link) := goodIn_app (goodIn_of _ (by decide +kernel)) ggX15_step_X15_link
set_option maxRecDepth 20000 in
theorem ggX15_step_X15_panic : GoodIn wsX15_step wsX15_panic := goodIn_r _ [161, 162, 77, 88, 214, 215, 216, 217, 218, 219, 220, 221, 222, 223, 224, 225, 226, 227, 228, 229, 230, 231] (by decide +kernel) (by decide +kernel)
set_option maxRecDepth 20000 in
theorem gX15_step_X15_panic : GoodIn wsX15_step (wsV RX15 124 RX15 yX15_panic wsX15_panic) := goodIn_app (goodIn_of _ (by decide +kernel)) ggX15_step_X15_panic
theorem dX15_step_0 : decode cX15_step 0 = .ok (.aload_n 2, 1) := by decide +kernel
theorem dX15_step_1 : decode cX15_step 1 = .ok (.getfield 159, 3) := by decide +kernel
theorem dX15_step_4 : decode cX15_step 4 = .ok (.tableswitch 307 0 16 #[84, 92, 100, 108, 108, 126, 134, 142, 153, 307, 191, 194, 200, 225, 263, 279, 288], 84) := by decide +kernel
theorem dX15_step_88 : decode cX15_step 88 = .ok (.aload_n 0, 1) := by decide +kernel
theorem dX15_step_89 : decode cX15_step 89 = .ok (.aload_n 2, 1) := by decide +kernel
theorem dX15_step_90 : decode cX15_step 90 = .ok (.invokevirtual 162, 3) := by decide +kernel
theorem dX15_step_93 : decode cX15_step 93 = .ok (.goto 218, 3) := by decide +kernel
theorem dX15_step_96 : decode cX15_step 96 = .ok (.aload_n 0, 1) := by decide +kernel
theorem dX15_step_97 : decode cX15_step 97 = .ok (.aload_n 2, 1) := by decide +kernel
theorem dX15_step_98 : decode cX15_step 98 = .ok (.invokevirtual 166, 3) := by decide +kernel
theorem dX15_step_101 : decode cX15_step 101 = .ok (.goto 210, 3) := by decide +kernel
theorem dX15_step_104 : decode cX15_step 104 = .ok (.aload_n 0, 1) := by decide +kernel
theorem dX15_step_105 : decode cX15_step 105 = .ok (.aload_n 2, 1) := by decide +kernel
theorem dX15_step_106 : decode cX15_step 106 = .ok (.invokevirtual 169, 3) := by decide +kernel
theorem dX15_step_109 : decode cX15_step 109 = .ok (.goto 202, 3) := by decide +kernel
theorem dX15_step_112 : decode cX15_step 112 = .ok (.aload_n 0, 1) := by decide +kernel
theorem dX15_step_113 : decode cX15_step 113 = .ok (.getfield 61, 3) := by decide +kernel
theorem dX15_step_116 : decode cX15_step 116 = .ok (.aload_n 2, 1) := by decide +kernel
theorem dX15_step_117 : decode cX15_step 117 = .ok (.getfield 172, 3) := by decide +kernel
theorem dX15_step_120 : decode cX15_step 120 = .ok (.iconst 3, 1) := by decide +kernel
theorem dX15_step_121 : decode cX15_step 121 = .ok (.idiv, 1) := by decide +kernel
theorem dX15_step_122 : decode cX15_step 122 = .ok (.aload_n 2, 1) := by decide +kernel
theorem dX15_step_123 : decode cX15_step 123 = .ok (.getfield 175, 3) := by decide +kernel
theorem dX15_step_126 : decode cX15_step 126 = .ok (.iastore, 1) := by decide +kernel
theorem dX15_step_127 : decode cX15_step 127 = .ok (.goto 184, 3) := by decide +kernel
theorem dX15_step_130 : decode cX15_step 130 = .ok (.aload_n 0, 1) := by decide +kernel
theorem dX15_step_131 : decode cX15_step 131 = .ok (.aload_n 2, 1) := by decide +kernel
theorem dX15_step_132 : decode cX15_step 132 = .ok (.invokevirtual 178, 3) := by decide +kernel
theorem dX15_step_135 : decode cX15_step 135 = .ok (.goto 176, 3) := by decide +kernel
theorem dX15_step_138 : decode cX15_step 138 = .ok (.aload_n 0, 1) := by decide +kernel
theorem dX15_step_139 : decode cX15_step 139 = .ok (.aload_n 2, 1) := by decide +kernel
theorem dX15_step_140 : decode cX15_step 140 = .ok (.invokevirtual 181, 3) := by decide +kernel
theorem dX15_step_143 : decode cX15_step 143 = .ok (.goto 168, 3) := by decide +kernel
theorem dX15_step_146 : decode cX15_step 146 = .ok (.aload_n 0, 1) := by decide +kernel
theorem dX15_step_147 : decode cX15_step 147 = .ok (.aload_n 2, 1) := by decide +kernel
theorem dX15_step_148 : decode cX15_step 148 = .ok (.getfield 172, 3) := by decide +kernel
theorem dX15_step_151 : decode cX15_step 151 = .ok (.invokevirtual 97, 3) := by decide +kernel
theorem dX15_step_154 : decode cX15_step 154 = .ok (.goto 157, 3) := by decide +kernel
theorem dX15_step_157 : decode cX15_step 157 = .ok (.aload_n 0, 1) := by decide +kernel
theorem dX15_step_158 : decode cX15_step 158 = .ok (.getfield 45, 3) := by decide +kernel
theorem dX15_step_161 : decode cX15_step 161 = .ok (.aload_n 2, 1) := by decide +kernel
theorem dX15_step_162 : decode cX15_step 162 = .ok (.getfield 172, 3) := by decide +kernel
theorem dX15_step_165 : decode cX15_step 165 = .ok (.iaload, 1) := by decide +kernel
theorem dX15_step_166 : decode cX15_step 166 = .ok (.ifCond .le 17, 3) := by decide +kernel
theorem dX15_step_169 : decode cX15_step 169 = .ok (.aload_n 0, 1) := by decide +kernel
theorem dX15_step_170 : decode cX15_step 170 = .ok (.getfield 26, 3) := by decide +kernel
theorem dX15_step_173 : decode cX15_step 173 = .ok (.getfield 184, 3) := by decide +kernel
theorem dX15_step_176 : decode cX15_step 176 = .ok (.iload_n 1, 1) := by decide +kernel
theorem dX15_step_177 : decode cX15_step 177 = .ok (.aaload, 1) := by decide +kernel
theorem dX15_step_178 : decode cX15_step 178 = .ok (.iconst 0, 1) := by decide +kernel
theorem dX15_step_179 : decode cX15_step 179 = .ok (.iaload, 1) := by decide +kernel
theorem dX15_step_180 : decode cX15_step 180 = .ok (.goto 14, 3) := by decide +kernel
theorem dX15_step_183 : decode cX15_step 183 = .ok (.aload_n 0, 1) := by decide +kernel
theorem dX15_step_184 : decode cX15_step 184 = .ok (.getfield 26, 3) := by decide +kernel
theorem dX15_step_187 : decode cX15_step 187 = .ok (.getfield 184, 3) := by decide +kernel
theorem dX15_step_190 : decode cX15_step 190 = .ok (.iload_n 1, 1) := by decide +kernel
theorem dX15_step_191 : decode cX15_step 191 = .ok (.aaload, 1) := by decide +kernel
theorem dX15_step_192 : decode cX15_step 192 = .ok (.iconst 1, 1) := by decide +kernel
theorem dX15_step_193 : decode cX15_step 193 = .ok (.iaload, 1) := by decide +kernel
theorem dX15_step_194 : decode cX15_step 194 = .ok (.ireturn, 1) := by decide +kernel
theorem dX15_step_195 : decode cX15_step 195 = .ok (.goto 116, 3) := by decide +kernel
theorem dX15_step_198 : decode cX15_step 198 = .ok (.aload_n 0, 1) := by decide +kernel
theorem dX15_step_199 : decode cX15_step 199 = .ok (.iload_n 1, 1) := by decide +kernel
theorem dX15_step_200 : decode cX15_step 200 = .ok (.invokevirtual 190, 3) := by decide +kernel
theorem dX15_step_203 : decode cX15_step 203 = .ok (.ireturn, 1) := by decide +kernel
theorem dX15_step_204 : decode cX15_step 204 = .ok (.aload_n 0, 1) := by decide +kernel
theorem dX15_step_205 : decode cX15_step 205 = .ok (.aload_n 0, 1) := by decide +kernel
theorem dX15_step_206 : decode cX15_step 206 = .ok (.getfield 57, 3) := by decide +kernel
theorem dX15_step_209 : decode cX15_step 209 = .ok (.aload_n 2, 1) := by decide +kernel
theorem dX15_step_210 : decode cX15_step 210 = .ok (.getfield 172, 3) := by decide +kernel
theorem dX15_step_213 : decode cX15_step 213 = .ok (.aaload, 1) := by decide +kernel
theorem dX15_step_214 : decode cX15_step 214 = .ok (.aload_n 0, 1) := by decide +kernel
theorem dX15_step_215 : decode cX15_step 215 = .ok (.getfield 57, 3) := by decide +kernel
theorem dX15_step_218 : decode cX15_step 218 = .ok (.aload_n 2, 1) := by decide +kernel
theorem dX15_step_219 : decode cX15_step 219 = .ok (.getfield 175, 3) := by decide +kernel
theorem dX15_step_222 : decode cX15_step 222 = .ok (.aaload, 1) := by decide +kernel
theorem dX15_step_223 : decode cX15_step 223 = .ok (.invokevirtual 193, 3) := by decide +kernel
theorem dX15_step_226 : decode cX15_step 226 = .ok (.goto 85, 3) := by decide +kernel
theorem dX15_step_229 : decode cX15_step 229 = .ok (.aload_n 0, 1) := by decide +kernel
theorem dX15_step_230 : decode cX15_step 230 = .ok (.getfield 57, 3) := by decide +kernel
theorem dX15_step_233 : decode cX15_step 233 = .ok (.aload_n 2, 1) := by decide +kernel
theorem dX15_step_234 : decode cX15_step 234 = .ok (.getfield 172, 3) := by decide +kernel
theorem dX15_step_237 : decode cX15_step 237 = .ok (.aaload, 1) := by decide +kernel
theorem dX15_step_238 : decode cX15_step 238 = .ok (.getfield 196, 3) := by decide +kernel
theorem dX15_step_241 : decode cX15_step 241 = .ok (.ifCond .eq 10, 3) := by decide +kernel
theorem dX15_step_244 : decode cX15_step 244 = .ok (.aload_n 0, 1) := by decide +kernel
theorem dX15_step_245 : decode cX15_step 245 = .ok (.invokevirtual 124, 3) := by decide +kernel
theorem dX15_step_248 : decode cX15_step 248 = .ok (.goto 63, 3) := by decide +kernel
theorem dX15_step_251 : decode cX15_step 251 = .ok (.aload_n 0, 1) := by decide +kernel
theorem dX15_step_252 : decode cX15_step 252 = .ok (.getfield 57, 3) := by decide +kernel
theorem dX15_step_255 : decode cX15_step 255 = .ok (.aload_n 2, 1) := by decide +kernel
theorem dX15_step_256 : decode cX15_step 256 = .ok (.getfield 172, 3) := by decide +kernel
theorem dX15_step_259 : decode cX15_step 259 = .ok (.aaload, 1) := by decide +kernel
theorem dX15_step_260 : decode cX15_step 260 = .ok (.iconst 1, 1) := by decide +kernel
theorem dX15_step_261 : decode cX15_step 261 = .ok (.putfield 196, 3) := by decide +kernel
theorem dX15_step_264 : decode cX15_step 264 = .ok (.goto 47, 3) := by decide +kernel
theorem dX15_step_267 : decode cX15_step 267 = .ok (.aload_n 0, 1) := by decide +kernel
theorem dX15_step_268 : decode cX15_step 268 = .ok (.getfield 57, 3) := by decide +kernel
theorem dX15_step_271 : decode cX15_step 271 = .ok (.aload_n 2, 1) := by decide +kernel
theorem dX15_step_272 : decode cX15_step 272 = .ok (.getfield 172, 3) := by decide +kernel
theorem dX15_step_275 : decode cX15_step 275 = .ok (.aaload, 1) := by decide +kernel
theorem dX15_step_276 : decode cX15_step 276 = .ok (.iconst 0, 1) := by decide +kernel
theorem dX15_step_277 : decode cX15_step 277 = .ok (.putfield 196, 3) := by decide +kernel
theorem dX15_step_280 : decode cX15_step 280 = .ok (.goto 31, 3) := by decide +kernel
theorem dX15_step_283 : decode cX15_step 283 = .ok (.aload_n 0, 1) := by decide +kernel
theorem dX15_step_284 : decode cX15_step 284 = .ok (.invokevirtual 124, 3) := by decide +kernel
theorem dX15_step_287 : decode cX15_step 287 = .ok (.aload_n 0, 1) := by decide +kernel
theorem dX15_step_288 : decode cX15_step 288 = .ok (.getfield 39, 3) := by decide +kernel
theorem dX15_step_291 : decode cX15_step 291 = .ok (.ireturn, 1) := by decide +kernel
theorem dX15_step_292 : decode cX15_step 292 = .ok (.aload_n 0, 1) := by decide +kernel
theorem dX15_step_293 : decode cX15_step 293 = .ok (.getfield 45, 3) := by decide +kernel
theorem dX15_step_296 : decode cX15_step 296 = .ok (.aload_n 2, 1) := by decide +kernel
theorem dX15_step_297 : decode cX15_step 297 = .ok (.getfield 172, 3) := by decide +kernel
theorem dX15_step_300 : decode cX15_step 300 = .ok (.dup2, 1) := by decide +kernel
theorem dX15_step_301 : decode cX15_step 301 = .ok (.iaload, 1) := by decide +kernel
theorem dX15_step_302 : decode cX15_step 302 = .ok (.aload_n 2, 1) := by decide +kernel
theorem dX15_step_303 : decode cX15_step 303 = .ok (.getfield 175, 3) := by decide +kernel
theorem dX15_step_306 : decode cX15_step 306 = .ok (.iadd, 1) := by decide +kernel
theorem dX15_step_307 : decode cX15_step 307 = .ok (.iastore, 1) := by decide +kernel
theorem dX15_step_308 : decode cX15_step 308 = .ok (.goto 3, 3) := by decide +kernel
theorem dX15_step_311 : decode cX15_step 311 = .ok (.aload_n 0, 1) := by decide +kernel
theorem dX15_step_312 : decode cX15_step 312 = .ok (.getfield 26, 3) := by decide +kernel
theorem dX15_step_315 : decode cX15_step 315 = .ok (.getfield 184, 3) := by decide +kernel
theorem dX15_step_318 : decode cX15_step 318 = .ok (.iload_n 1, 1) := by decide +kernel
theorem dX15_step_319 : decode cX15_step 319 = .ok (.aaload, 1) := by decide +kernel
theorem dX15_step_320 : decode cX15_step 320 = .ok (.iconst 0, 1) := by decide +kernel
theorem dX15_step_321 : decode cX15_step 321 = .ok (.iaload, 1) := by decide +kernel
theorem dX15_step_322 : decode cX15_step 322 = .ok (.ireturn, 1) := by decide +kernel
set_option maxRecDepth 20000 in
theorem ggX15_goOn_Jx4a65c_get_915e3 : GoodIn wsX15_goOn wsJx4a65c_get_915e3 := goodIn_r _ [12, 13, 14, 15, 16, 17, 18, 19, 20, 21, 22, 23, 24, 11, 25, 26, 59, 60, 61] (by decide +kernel) (by decide +kernel)
set_option maxRecDepth 20000 in
theorem gX15_goOn_Jx4a65c_get_915e3 : GoodIn wsX15_goOn (wsV RX15 80 RJx4a65c yJx4a65c_get_915e3 wsJx4a65c_get_915e3) := goodIn_app (goodIn_of _ (by decide +kernel)) ggX15_goOn_Jx4a65c_get_915e3
theorem dX15_goOn_0 : decode cX15_goOn 0 = .ok (.aload_n 0, 1) := by decide +kernel
theorem dX15_goOn_1 : decode cX15_goOn 1 = .ok (.getfield 26, 3) := by decide +kernel
theorem dX15_goOn_4 : decode cX15_goOn 4 = .ok (.getfield 184, 3) := by decide +kernel
theorem dX15_goOn_7 : decode cX15_goOn 7 = .ok (.iload_n 1, 1) := by decide +kernel
theorem dX15_goOn_8 : decode cX15_goOn 8 = .ok (.aaload, 1) := by decide +kernel
theorem dX15_goOn_9 : decode cX15_goOn 9 = .ok (.arraylength, 1) := by decide +kernel
theorem dX15_goOn_10 : decode cX15_goOn 10 = .ok (.iconst 1, 1) := by decide +kernel
theorem dX15_goOn_11 : decode cX15_goOn 11 = .ok (.if_icmp .ne 15, 3) := by decide +kernel
theorem dX15_goOn_14 : decode cX15_goOn 14 = .ok (.aload_n 0, 1) := by decide +kernel
theorem dX15_goOn_15 : decode cX15_goOn 15 = .ok (.getfield 26, 3) := by decide +kernel
theorem dX15_goOn_18 : decode cX15_goOn 18 = .ok (.getfield 184, 3) := by decide +kernel
theorem dX15_goOn_21 : decode cX15_goOn 21 = .ok (.iload_n 1, 1) := by decide +kernel
theorem dX15_goOn_22 : decode cX15_goOn 22 = .ok (.aaload, 1) := by decide +kernel
theorem dX15_goOn_23 : decode cX15_goOn 23 = .ok (.iconst 0, 1) := by decide +kernel
theorem dX15_goOn_24 : decode cX15_goOn 24 = .ok (.iaload, 1) := by decide +kernel
theorem dX15_goOn_25 : decode cX15_goOn 25 = .ok (.ireturn, 1) := by decide +kernel
theorem dX15_goOn_26 : decode cX15_goOn 26 = .ok (.aload_n 0, 1) := by decide +kernel
theorem dX15_goOn_27 : decode cX15_goOn 27 = .ok (.getfield 22, 3) := by decide +kernel
theorem dX15_goOn_30 : decode cX15_goOn 30 = .ok (.getfield 30, 3) := by decide +kernel
theorem dX15_goOn_33 : decode cX15_goOn 33 = .ok (.aload_n 0, 1) := by decide +kernel
theorem dX15_goOn_34 : decode cX15_goOn 34 = .ok (.getfield 26, 3) := by decide +kernel
theorem dX15_goOn_37 : decode cX15_goOn 37 = .ok (.getfield 184, 3) := by decide +kernel
theorem dX15_goOn_40 : decode cX15_goOn 40 = .ok (.iload_n 1, 1) := by decide +kernel
theorem dX15_goOn_41 : decode cX15_goOn 41 = .ok (.aaload, 1) := by decide +kernel
theorem dX15_goOn_42 : decode cX15_goOn 42 = .ok (.iconst 0, 1) := by decide +kernel
theorem dX15_goOn_43 : decode cX15_goOn 43 = .ok (.iaload, 1) := by decide +kernel
theorem dX15_goOn_44 : decode cX15_goOn 44 = .ok (.iconst 1, 1) := by decide +kernel
theorem dX15_goOn_45 : decode cX15_goOn 45 = .ok (.isub, 1) := by decide +kernel
theorem dX15_goOn_46 : decode cX15_goOn 46 = .ok (.invokevirtual 80, 3) := by decide +kernel
theorem dX15_goOn_49 : decode cX15_goOn 49 = .ok (.checkcast 84, 3) := by decide +kernel
theorem dX15_goOn_52 : decode cX15_goOn 52 = .ok (.getfield 172, 3) := by decide +kernel
theorem dX15_goOn_55 : decode cX15_goOn 55 = .ok (.istore_n 2, 1) := by decide +kernel
theorem dX15_goOn_56 : decode cX15_goOn 56 = .ok (.aload_n 0, 1) := by decide +kernel
theorem dX15_goOn_57 : decode cX15_goOn 57 = .ok (.getfield 64, 3) := by decide +kernel
theorem dX15_goOn_60 : decode cX15_goOn 60 = .ok (.iload_n 1, 1) := by decide +kernel
theorem dX15_goOn_61 : decode cX15_goOn 61 = .ok (.dup2, 1) := by decide +kernel
theorem dX15_goOn_62 : decode cX15_goOn 62 = .ok (.iaload, 1) := by decide +kernel
theorem dX15_goOn_63 : decode cX15_goOn 63 = .ok (.iconst 1, 1) := by decide +kernel
theorem dX15_goOn_64 : decode cX15_goOn 64 = .ok (.iadd, 1) := by decide +kernel
theorem dX15_goOn_65 : decode cX15_goOn 65 = .ok (.iastore, 1) := by decide +kernel
theorem dX15_goOn_66 : decode cX15_goOn 66 = .ok (.aload_n 0, 1) := by decide +kernel
theorem dX15_goOn_67 : decode cX15_goOn 67 = .ok (.getfield 64, 3) := by decide +kernel
theorem dX15_goOn_70 : decode cX15_goOn 70 = .ok (.iload_n 1, 1) := by decide +kernel
theorem dX15_goOn_71 : decode cX15_goOn 71 = .ok (.iaload, 1) := by decide +kernel
theorem dX15_goOn_72 : decode cX15_goOn 72 = .ok (.iload_n 2, 1) := by decide +kernel
theorem dX15_goOn_73 : decode cX15_goOn 73 = .ok (.if_icmp .ge 15, 3) := by decide +kernel
theorem dX15_goOn_76 : decode cX15_goOn 76 = .ok (.aload_n 0, 1) := by decide +kernel
theorem dX15_goOn_77 : decode cX15_goOn 77 = .ok (.getfield 26, 3) := by decide +kernel
theorem dX15_goOn_80 : decode cX15_goOn 80 = .ok (.getfield 184, 3) := by decide +kernel
theorem dX15_goOn_83 : decode cX15_goOn 83 = .ok (.iload_n 1, 1) := by decide +kernel
theorem dX15_goOn_84 : decode cX15_goOn 84 = .ok (.aaload, 1) := by decide +kernel
theorem dX15_goOn_85 : decode cX15_goOn 85 = .ok (.iconst 0, 1) := by decide +kernel
theorem dX15_goOn_86 : decode cX15_goOn 86 = .ok (.iaload, 1) := by decide +kernel
theorem dX15_goOn_87 : decode cX15_goOn 87 = .ok (.ireturn, 1) := by decide +kernel
theorem dX15_goOn_88 : decode cX15_goOn 88 = .ok (.aload_n 0, 1) := by decide +kernel
theorem dX15_goOn_89 : decode cX15_goOn 89 = .ok (.getfield 64, 3) := by decide +kernel
theorem dX15_goOn_92 : decode cX15_goOn 92 = .ok (.iload_n 1, 1) := by decide +kernel
theorem dX15_goOn_93 : decode cX15_goOn 93 = .ok (.iconst 0, 1) := by decide +kernel
theorem dX15_goOn_94 : decode cX15_goOn 94 = .ok (.iastore, 1) := by decide +kernel
theorem dX15_goOn_95 : decode cX15_goOn 95 = .ok (.aload_n 0, 1) := by decide +kernel
theorem dX15_goOn_96 : decode cX15_goOn 96 = .ok (.getfield 26, 3) := by decide +kernel
theorem dX15_goOn_99 : decode cX15_goOn 99 = .ok (.getfield 184, 3) := by decide +kernel
theorem dX15_goOn_102 : decode cX15_goOn 102 = .ok (.iload_n 1, 1) := by decide +kernel
theorem dX15_goOn_103 : decode cX15_goOn 103 = .ok (.aaload, 1) := by decide +kernel
theorem dX15_goOn_104 : decode cX15_goOn 104 = .ok (.iconst 1, 1) := by decide +kernel
theorem dX15_goOn_105 : decode cX15_goOn 105 = .ok (.iaload, 1) := by decide +kernel
theorem dX15_goOn_106 : decode cX15_goOn 106 = .ok (.ireturn, 1) := by decide +kernel
set_option maxRecDepth 20000 in
theorem ggX15_make_X14_kindOf : GoodIn wsX15_make wsX14_kindOf := goodIn_r _ [19, 20, 21, 22, 23, 24, 25, 26, 27, 28, 29, 30, 31, 32, 33, 34, 35, 36, 37, 38, 39, 40, 41, 42, 43, 44, 45, 46, 47, 48, 49, 50, 51, 52, 53, 179, 180, 181, 182, 183, 184] (by decide +kernel) (by decide +kernel)
set_option maxRecDepth 20000 in
theorem gX15_make_X14_kindOf : GoodIn wsX15_make (wsV RX15 135 RX14 yX14_kindOf wsX14_kindOf) := goodIn_app (goodIn_of _ (by decide +kernel)) ggX15_make_X14_kindOf
set_option maxRecDepth 20000 in
theorem ggX15_make_X13_init : GoodIn wsX15_make wsX13_init := goodIn_r _ [56, 57, 58, 59, 60, 61, 174, 175, 176, 177] (by decide +kernel) (by decide +kernel)
set_option maxRecDepth 20000 in
theorem gX15_make_X13_init : GoodIn wsX15_make (wsX13_init) := ggX15_make_X13_init
set_option maxRecDepth 20000 in
theorem ggX15_make_X15_letDown : GoodIn wsX15_make wsX15_letDown := goodIn_r _ [66, 67, 68, 69, 70, 71, 72, 73, 74, 65, 75, 76, 77, 78, 79, 80, 81, 25, 82, 83, 84, 47, 27, 85, 86, 87, 88, 89, 90, 91, 92, 93, 94, 95, 96, 97, 98, 99, 100, 101, 102, 103, 104, 105, 106, 107, 108, 109, 110, 111, 112, 113, 114, 115, 116, 117, 118, 119, 120, 121, 122, 123, 124, 125, 126, 127, 128, 129, 130, 131, 153, 154, 155, 156, 157, 158, 159, 160, 161, 162, 163, 164, 165, 166, 167, 168, 169, 170, 174, 175, 176, 177, 181, 182, 183] (by decide +kernel) (by decide +kernel)
set_option maxRecDepth 20000 in
theorem gX15_make_X15_letDown : GoodIn wsX15_make (wsV RX15 143 RX15 yX15_letDown wsX15_letDown) := goodIn_app (goodIn_of _ (by decide +kernel)) ggX15_make_X15_letDown
set_option maxRecDepth 20000 in
theorem ggX15_make_X14_leaves : GoodIn wsX15_make wsX14_leaves := goodIn_r _ [135, 77, 136, 16, 17, 18, 19, 20, 21, 22, 23, 24, 25, 26, 27, 28, 29, 30, 31, 32, 33, 34, 35, 36, 37, 38, 39, 40, 41, 42, 43, 44, 45, 46, 47, 48, 49, 50, 51, 52, 53, 179, 180, 181, 182, 183, 184] (by decide +kernel) (by decide +kernel)
set_option maxRecDepth 20000 in
theorem gX15_make_X14_leaves : GoodIn wsX15_make (wsV RX15 147 RX14 yX14_leaves wsX14_leaves) := goodIn_app (goodIn_of _ (by decide +kernel)) ggX15_make_X14_leaves
set_option maxRecDepth 20000 in
theorem ggX15_make_X10_init : GoodIn wsX15_make wsX10_init := goodIn_r _ [139, 140, 58, 59, 141, 178] (by decide +kernel) (by decide +kernel)
set_option maxRecDepth 20000 in
theorem gX15_make_X10_init : GoodIn wsX15_make (wsX10_init) := ggX15_make_X10_init
set_option maxRecDepth 20000 in
theorem ggX15_make_X15_drop : GoodIn wsX15_make wsX15_drop := goodIn_r _ [145, 67, 146, 147, 72, 73, 74, 65, 75, 76, 77, 78, 79, 80, 81, 25, 82, 83, 84, 47, 27, 85, 86, 87, 88, 89, 90, 91, 92, 93, 94, 95, 96, 97, 98, 99, 100, 101, 102, 103, 104, 105, 106, 107, 108, 109, 110, 111, 112, 113, 114, 115, 116, 117, 118, 119, 120, 121, 122, 123, 124, 125, 126, 127, 128, 129, 130, 131, 148, 149, 150, 151, 152, 153, 154, 155, 156, 157, 158, 159, 160, 161, 162, 163, 164, 165, 166, 167, 168, 169, 170, 178, 181, 182, 183] (by decide +kernel) (by decide +kernel)
set_option maxRecDepth 20000 in
theorem gX15_make_X15_drop : GoodIn wsX15_make (wsV RX15 155 RX15 yX15_drop wsX15_drop) := goodIn_app (goodIn_of _ (by decide +kernel)) ggX15_make_X15_drop
theorem dX15_make_0 : decode cX15_make 0 = .ok (.aload_n 0, 1) := by decide +kernel
theorem dX15_make_1 : decode cX15_make 1 = .ok (.getfield 22, 3) := by decide +kernel
theorem dX15_make_4 : decode cX15_make 4 = .ok (.aload_n 1, 1) := by decide +kernel
theorem dX15_make_5 : decode cX15_make 5 = .ok (.getfield 172, 3) := by decide +kernel
theorem dX15_make_8 : decode cX15_make 8 = .ok (.invokevirtual 135, 3) := by decide +kernel
theorem dX15_make_11 : decode cX15_make 11 = .ok (.istore_n 2, 1) := by decide +kernel
theorem dX15_make_12 : decode cX15_make 12 = .ok (.iload_n 2, 1) := by decide +kernel
theorem dX15_make_13 : decode cX15_make 13 = .ok (.ifCond .ne 17, 3) := by decide +kernel
theorem dX15_make_16 : decode cX15_make 16 = .ok (.aload_n 0, 1) := by decide +kernel
theorem dX15_make_17 : decode cX15_make 17 = .ok (.getfield 45, 3) := by decide +kernel
theorem dX15_make_20 : decode cX15_make 20 = .ok (.aload_n 1, 1) := by decide +kernel
theorem dX15_make_21 : decode cX15_make 21 = .ok (.getfield 172, 3) := by decide +kernel
theorem dX15_make_24 : decode cX15_make 24 = .ok (.aload_n 1, 1) := by decide +kernel
theorem dX15_make_25 : decode cX15_make 25 = .ok (.getfield 175, 3) := by decide +kernel
theorem dX15_make_28 : decode cX15_make 28 = .ok (.iastore, 1) := by decide +kernel
theorem dX15_make_29 : decode cX15_make 29 = .ok (.return_, 1) := by decide +kernel
theorem dX15_make_30 : decode cX15_make 30 = .ok (.iload_n 2, 1) := by decide +kernel
theorem dX15_make_31 : decode cX15_make 31 = .ok (.iconst 5, 1) := by decide +kernel
theorem dX15_make_32 : decode cX15_make 32 = .ok (.if_icmp .ne 49, 3) := by decide +kernel
theorem dX15_make_35 : decode cX15_make 35 = .ok (.aload_n 0, 1) := by decide +kernel
theorem dX15_make_36 : decode cX15_make 36 = .ok (.getfield 57, 3) := by decide +kernel
theorem dX15_make_39 : decode cX15_make 39 = .ok (.aload_n 1, 1) := by decide +kernel
theorem dX15_make_40 : decode cX15_make 40 = .ok (.getfield 172, 3) := by decide +kernel
theorem dX15_make_43 : decode cX15_make 43 = .ok (.aaload, 1) := by decide +kernel
theorem dX15_make_44 : decode cX15_make 44 = .ok (.astore_n 3, 1) := by decide +kernel
theorem dX15_make_45 : decode cX15_make 45 = .ok (.aload_n 0, 1) := by decide +kernel
theorem dX15_make_46 : decode cX15_make 46 = .ok (.getfield 57, 3) := by decide +kernel
theorem dX15_make_49 : decode cX15_make 49 = .ok (.aload_n 1, 1) := by decide +kernel
theorem dX15_make_50 : decode cX15_make 50 = .ok (.getfield 172, 3) := by decide +kernel
theorem dX15_make_53 : decode cX15_make 53 = .ok (.new 55, 3) := by decide +kernel
theorem dX15_make_56 : decode cX15_make 56 = .ok (.dup, 1) := by decide +kernel
theorem dX15_make_57 : decode cX15_make 57 = .ok (.aload_n 1, 1) := by decide +kernel
theorem dX15_make_58 : decode cX15_make 58 = .ok (.getfield 175, 3) := by decide +kernel
theorem dX15_make_61 : decode cX15_make 61 = .ok (.invokespecial 199, 3) := by decide +kernel
theorem dX15_make_64 : decode cX15_make 64 = .ok (.aastore, 1) := by decide +kernel
theorem dX15_make_65 : decode cX15_make 65 = .ok (.aload_n 0, 1) := by decide +kernel
theorem dX15_make_66 : decode cX15_make 66 = .ok (.dup, 1) := by decide +kernel
theorem dX15_make_67 : decode cX15_make 67 = .ok (.getfield 107, 3) := by decide +kernel
theorem dX15_make_70 : decode cX15_make 70 = .ok (.iconst 1, 1) := by decide +kernel
theorem dX15_make_71 : decode cX15_make 71 = .ok (.iadd, 1) := by decide +kernel
theorem dX15_make_72 : decode cX15_make 72 = .ok (.putfield 107, 3) := by decide +kernel
theorem dX15_make_75 : decode cX15_make 75 = .ok (.aload_n 0, 1) := by decide +kernel
theorem dX15_make_76 : decode cX15_make 76 = .ok (.aload_n 3, 1) := by decide +kernel
theorem dX15_make_77 : decode cX15_make 77 = .ok (.invokevirtual 143, 3) := by decide +kernel
theorem dX15_make_80 : decode cX15_make 80 = .ok (.return_, 1) := by decide +kernel
theorem dX15_make_81 : decode cX15_make 81 = .ok (.aload_n 0, 1) := by decide +kernel
theorem dX15_make_82 : decode cX15_make 82 = .ok (.getfield 22, 3) := by decide +kernel
theorem dX15_make_85 : decode cX15_make 85 = .ok (.aload_n 1, 1) := by decide +kernel
theorem dX15_make_86 : decode cX15_make 86 = .ok (.getfield 172, 3) := by decide +kernel
theorem dX15_make_89 : decode cX15_make 89 = .ok (.invokevirtual 147, 3) := by decide +kernel
theorem dX15_make_92 : decode cX15_make 92 = .ok (.astore_n 3, 1) := by decide +kernel
theorem dX15_make_93 : decode cX15_make 93 = .ok (.aload_n 3, 1) := by decide +kernel
theorem dX15_make_94 : decode cX15_make 94 = .ok (.arraylength, 1) := by decide +kernel
theorem dX15_make_95 : decode cX15_make 95 = .ok (.anewarray 49, 3) := by decide +kernel
theorem dX15_make_98 : decode cX15_make 98 = .ok (.astore 4, 2) := by decide +kernel
theorem dX15_make_100 : decode cX15_make 100 = .ok (.iconst 0, 1) := by decide +kernel
theorem dX15_make_101 : decode cX15_make 101 = .ok (.istore 5, 2) := by decide +kernel
theorem dX15_make_103 : decode cX15_make 103 = .ok (.iload 5, 2) := by decide +kernel
theorem dX15_make_105 : decode cX15_make 105 = .ok (.aload_n 3, 1) := by decide +kernel
theorem dX15_make_106 : decode cX15_make 106 = .ok (.arraylength, 1) := by decide +kernel
theorem dX15_make_107 : decode cX15_make 107 = .ok (.if_icmp .ge 56, 3) := by decide +kernel
theorem dX15_make_110 : decode cX15_make 110 = .ok (.aload 4, 2) := by decide +kernel
theorem dX15_make_112 : decode cX15_make 112 = .ok (.iload 5, 2) := by decide +kernel
theorem dX15_make_114 : decode cX15_make 114 = .ok (.aload_n 0, 1) := by decide +kernel
theorem dX15_make_115 : decode cX15_make 115 = .ok (.getfield 51, 3) := by decide +kernel
theorem dX15_make_118 : decode cX15_make 118 = .ok (.aload_n 3, 1) := by decide +kernel
theorem dX15_make_119 : decode cX15_make 119 = .ok (.iload 5, 2) := by decide +kernel
theorem dX15_make_121 : decode cX15_make 121 = .ok (.iaload, 1) := by decide +kernel
theorem dX15_make_122 : decode cX15_make 122 = .ok (.aaload, 1) := by decide +kernel
theorem dX15_make_123 : decode cX15_make 123 = .ok (.aastore, 1) := by decide +kernel
theorem dX15_make_124 : decode cX15_make 124 = .ok (.aload_n 0, 1) := by decide +kernel
theorem dX15_make_125 : decode cX15_make 125 = .ok (.getfield 51, 3) := by decide +kernel
theorem dX15_make_128 : decode cX15_make 128 = .ok (.aload_n 3, 1) := by decide +kernel
theorem dX15_make_129 : decode cX15_make 129 = .ok (.iload 5, 2) := by decide +kernel
theorem dX15_make_131 : decode cX15_make 131 = .ok (.iaload, 1) := by decide +kernel
theorem dX15_make_132 : decode cX15_make 132 = .ok (.new 49, 3) := by decide +kernel
theorem dX15_make_135 : decode cX15_make 135 = .ok (.dup, 1) := by decide +kernel
theorem dX15_make_136 : decode cX15_make 136 = .ok (.aload_n 1, 1) := by decide +kernel
theorem dX15_make_137 : decode cX15_make 137 = .ok (.getfield 175, 3) := by decide +kernel
theorem dX15_make_140 : decode cX15_make 140 = .ok (.iload 5, 2) := by decide +kernel
theorem dX15_make_142 : decode cX15_make 142 = .ok (.iadd, 1) := by decide +kernel
theorem dX15_make_143 : decode cX15_make 143 = .ok (.invokespecial 201, 3) := by decide +kernel
theorem dX15_make_146 : decode cX15_make 146 = .ok (.aastore, 1) := by decide +kernel
theorem dX15_make_147 : decode cX15_make 147 = .ok (.aload_n 0, 1) := by decide +kernel
theorem dX15_make_148 : decode cX15_make 148 = .ok (.dup, 1) := by decide +kernel
theorem dX15_make_149 : decode cX15_make 149 = .ok (.getfield 101, 3) := by decide +kernel
theorem dX15_make_152 : decode cX15_make 152 = .ok (.iconst 1, 1) := by decide +kernel
theorem dX15_make_153 : decode cX15_make 153 = .ok (.iadd, 1) := by decide +kernel
theorem dX15_make_154 : decode cX15_make 154 = .ok (.putfield 101, 3) := by decide +kernel
theorem dX15_make_157 : decode cX15_make 157 = .ok (.iinc 5 1, 3) := by decide +kernel
theorem dX15_make_160 : decode cX15_make 160 = .ok (.goto (-57), 3) := by decide +kernel
theorem dX15_make_163 : decode cX15_make 163 = .ok (.aload 4, 2) := by decide +kernel
theorem dX15_make_165 : decode cX15_make 165 = .ok (.astore 5, 2) := by decide +kernel
theorem dX15_make_167 : decode cX15_make 167 = .ok (.aload 5, 2) := by decide +kernel
theorem dX15_make_169 : decode cX15_make 169 = .ok (.arraylength, 1) := by decide +kernel
theorem dX15_make_170 : decode cX15_make 170 = .ok (.istore 6, 2) := by decide +kernel
theorem dX15_make_172 : decode cX15_make 172 = .ok (.iconst 0, 1) := by decide +kernel
theorem dX15_make_173 : decode cX15_make 173 = .ok (.istore 7, 2) := by decide +kernel
theorem dX15_make_175 : decode cX15_make 175 = .ok (.iload 7, 2) := by decide +kernel
theorem dX15_make_177 : decode cX15_make 177 = .ok (.iload 6, 2) := by decide +kernel
theorem dX15_make_179 : decode cX15_make 179 = .ok (.if_icmp .ge 22, 3) := by decide +kernel
theorem dX15_make_182 : decode cX15_make 182 = .ok (.aload 5, 2) := by decide +kernel
theorem dX15_make_184 : decode cX15_make 184 = .ok (.iload 7, 2) := by decide +kernel
theorem dX15_make_186 : decode cX15_make 186 = .ok (.aaload, 1) := by decide +kernel
theorem dX15_make_187 : decode cX15_make 187 = .ok (.astore 8, 2) := by decide +kernel
theorem dX15_make_189 : decode cX15_make 189 = .ok (.aload_n 0, 1) := by decide +kernel
theorem dX15_make_190 : decode cX15_make 190 = .ok (.aload 8, 2) := by decide +kernel
theorem dX15_make_192 : decode cX15_make 192 = .ok (.invokevirtual 155, 3) := by decide +kernel
theorem dX15_make_195 : decode cX15_make 195 = .ok (.iinc 7 1, 3) := by decide +kernel
theorem dX15_make_198 : decode cX15_make 198 = .ok (.goto (-23), 3) := by decide +kernel
theorem dX15_make_201 : decode cX15_make 201 = .ok (.return_, 1) := by decide +kernel
set_option maxRecDepth 20000 in
theorem ggX15_move_X14_kindOf : GoodIn wsX15_move wsX14_kindOf := goodIn_r _ [12, 13, 14, 15, 16, 17, 18, 19, 20, 21, 22, 23, 24, 25, 26, 27, 28, 29, 30, 31, 32, 33, 34, 35, 36, 37, 38, 39, 40, 41, 42, 43, 44, 45, 46, 162, 163, 164, 165, 166, 167] (by decide +kernel) (by decide +kernel)
set_option maxRecDepth 20000 in
theorem gX15_move_X14_kindOf : GoodIn wsX15_move (wsV RX15 135 RX14 yX14_kindOf wsX14_kindOf) := goodIn_app (goodIn_of _ (by decide +kernel)) ggX15_move_X14_kindOf
set_option maxRecDepth 20000 in
theorem ggX15_move_X15_takeNode : GoodIn wsX15_move wsX15_takeNode := goodIn_r _ [51, 5, 141, 142, 143, 144, 145, 146, 147, 148, 149, 150, 151, 152, 153, 154, 155, 156, 157, 158] (by decide +kernel) (by decide +kernel)
set_option maxRecDepth 20000 in
theorem gX15_move_X15_takeNode : GoodIn wsX15_move (wsV RX15 139 RX15 yX15_takeNode wsX15_takeNode) := goodIn_app (goodIn_of _ (by decide +kernel)) ggX15_move_X15_takeNode
set_option maxRecDepth 20000 in
theorem ggX15_move_X15_letDown : GoodIn wsX15_move wsX15_letDown := goodIn_r _ [55, 56, 57, 58, 59, 60, 61, 62, 63, 50, 64, 65, 66, 67, 68, 69, 70, 18, 71, 72, 73, 40, 20, 74, 75, 76, 77, 78, 79, 80, 81, 82, 83, 84, 85, 86, 87, 88, 89, 90, 91, 92, 93, 94, 95, 96, 97, 98, 99, 100, 101, 102, 103, 104, 105, 106, 107, 108, 109, 110, 111, 112, 113, 114, 115, 116, 117, 118, 119, 120, 141, 142, 143, 144, 145, 146, 147, 148, 149, 150, 151, 152, 153, 154, 155, 156, 157, 158, 168, 169, 170, 171, 164, 165, 166] (by decide +kernel) (by decide +kernel)
set_option maxRecDepth 20000 in
theorem gX15_move_X15_letDown : GoodIn wsX15_move (wsV RX15 143 RX15 yX15_letDown wsX15_letDown) := goodIn_app (goodIn_of _ (by decide +kernel)) ggX15_move_X15_letDown
set_option maxRecDepth 20000 in
theorem ggX15_move_X14_leaves : GoodIn wsX15_move wsX14_leaves := goodIn_r _ [124, 66, 125, 9, 10, 11, 12, 13, 14, 15, 16, 17, 18, 19, 20, 21, 22, 23, 24, 25, 26, 27, 28, 29, 30, 31, 32, 33, 34, 35, 36, 37, 38, 39, 40, 41, 42, 43, 44, 45, 46, 162, 163, 164, 165, 166, 167] (by decide +kernel) (by decide +kernel)
set_option maxRecDepth 20000 in
theorem gX15_move_X14_leaves : GoodIn wsX15_move (wsV RX15 147 RX14 yX14_leaves wsX14_leaves) := goodIn_app (goodIn_of _ (by decide +kernel)) ggX15_move_X14_leaves
set_option maxRecDepth 20000 in
theorem ggX15_move_X15_takeBox : GoodIn wsX15_move wsX15_takeBox := goodIn_r _ [129, 7, 141, 142, 143, 144, 145, 146, 147, 148, 149, 150, 151, 152, 153, 154, 155, 156, 157, 158] (by decide +kernel) (by decide +kernel)
set_option maxRecDepth 20000 in
theorem gX15_move_X15_takeBox : GoodIn wsX15_move (wsV RX15 151 RX15 yX15_takeBox wsX15_takeBox) := goodIn_app (goodIn_of _ (by decide +kernel)) ggX15_move_X15_takeBox
set_option maxRecDepth 20000 in
theorem ggX15_move_X15_drop : GoodIn wsX15_move wsX15_drop := goodIn_r _ [133, 56, 134, 135, 61, 62, 63, 50, 64, 65, 66, 67, 68, 69, 70, 18, 71, 72, 73, 40, 20, 74, 75, 76, 77, 78, 79, 80, 81, 82, 83, 84, 85, 86, 87, 88, 89, 90, 91, 92, 93, 94, 95, 96, 97, 98, 99, 100, 101, 102, 103, 104, 105, 106, 107, 108, 109, 110, 111, 112, 113, 114, 115, 116, 117, 118, 119, 120, 136, 137, 138, 139, 140, 141, 142, 143, 144, 145, 146, 147, 148, 149, 150, 151, 152, 153, 154, 155, 156, 157, 158, 172, 164, 165, 166] (by decide +kernel) (by decide +kernel)
set_option maxRecDepth 20000 in
theorem gX15_move_X15_drop : GoodIn wsX15_move (wsV RX15 155 RX15 yX15_drop wsX15_drop) := goodIn_app (goodIn_of _ (by decide +kernel)) ggX15_move_X15_drop
theorem dX15_move_0 : decode cX15_move 0 = .ok (.aload_n 0, 1) := by decide +kernel
theorem dX15_move_1 : decode cX15_move 1 = .ok (.getfield 22, 3) := by decide +kernel
theorem dX15_move_4 : decode cX15_move 4 = .ok (.aload_n 1, 1) := by decide +kernel
theorem dX15_move_5 : decode cX15_move 5 = .ok (.getfield 172, 3) := by decide +kernel
theorem dX15_move_8 : decode cX15_move 8 = .ok (.invokevirtual 135, 3) := by decide +kernel
theorem dX15_move_11 : decode cX15_move 11 = .ok (.istore_n 2, 1) := by decide +kernel
theorem dX15_move_12 : decode cX15_move 12 = .ok (.iload_n 2, 1) := by decide +kernel
theorem dX15_move_13 : decode cX15_move 13 = .ok (.iconst 4, 1) := by decide +kernel
theorem dX15_move_14 : decode cX15_move 14 = .ok (.if_icmp .ne 26, 3) := by decide +kernel
theorem dX15_move_17 : decode cX15_move 17 = .ok (.aload_n 0, 1) := by decide +kernel
theorem dX15_move_18 : decode cX15_move 18 = .ok (.getfield 61, 3) := by decide +kernel
theorem dX15_move_21 : decode cX15_move 21 = .ok (.aload_n 1, 1) := by decide +kernel
theorem dX15_move_22 : decode cX15_move 22 = .ok (.getfield 172, 3) := by decide +kernel
theorem dX15_move_25 : decode cX15_move 25 = .ok (.iconst 3, 1) := by decide +kernel
theorem dX15_move_26 : decode cX15_move 26 = .ok (.idiv, 1) := by decide +kernel
theorem dX15_move_27 : decode cX15_move 27 = .ok (.aload_n 0, 1) := by decide +kernel
theorem dX15_move_28 : decode cX15_move 28 = .ok (.getfield 61, 3) := by decide +kernel
theorem dX15_move_31 : decode cX15_move 31 = .ok (.aload_n 1, 1) := by decide +kernel
theorem dX15_move_32 : decode cX15_move 32 = .ok (.getfield 175, 3) := by decide +kernel
theorem dX15_move_35 : decode cX15_move 35 = .ok (.iconst 3, 1) := by decide +kernel
theorem dX15_move_36 : decode cX15_move 36 = .ok (.idiv, 1) := by decide +kernel
theorem dX15_move_37 : decode cX15_move 37 = .ok (.iaload, 1) := by decide +kernel
theorem dX15_move_38 : decode cX15_move 38 = .ok (.iastore, 1) := by decide +kernel
theorem dX15_move_39 : decode cX15_move 39 = .ok (.return_, 1) := by decide +kernel
theorem dX15_move_40 : decode cX15_move 40 = .ok (.iload_n 2, 1) := by decide +kernel
theorem dX15_move_41 : decode cX15_move 41 = .ok (.iconst 5, 1) := by decide +kernel
theorem dX15_move_42 : decode cX15_move 42 = .ok (.if_icmp .ne 40, 3) := by decide +kernel
theorem dX15_move_45 : decode cX15_move 45 = .ok (.aload_n 0, 1) := by decide +kernel
theorem dX15_move_46 : decode cX15_move 46 = .ok (.aload_n 1, 1) := by decide +kernel
theorem dX15_move_47 : decode cX15_move 47 = .ok (.getfield 175, 3) := by decide +kernel
theorem dX15_move_50 : decode cX15_move 50 = .ok (.invokevirtual 139, 3) := by decide +kernel
theorem dX15_move_53 : decode cX15_move 53 = .ok (.astore_n 3, 1) := by decide +kernel
theorem dX15_move_54 : decode cX15_move 54 = .ok (.aload_n 0, 1) := by decide +kernel
theorem dX15_move_55 : decode cX15_move 55 = .ok (.getfield 57, 3) := by decide +kernel
theorem dX15_move_58 : decode cX15_move 58 = .ok (.aload_n 1, 1) := by decide +kernel
theorem dX15_move_59 : decode cX15_move 59 = .ok (.getfield 172, 3) := by decide +kernel
theorem dX15_move_62 : decode cX15_move 62 = .ok (.aaload, 1) := by decide +kernel
theorem dX15_move_63 : decode cX15_move 63 = .ok (.astore 4, 2) := by decide +kernel
theorem dX15_move_65 : decode cX15_move 65 = .ok (.aload_n 0, 1) := by decide +kernel
theorem dX15_move_66 : decode cX15_move 66 = .ok (.getfield 57, 3) := by decide +kernel
theorem dX15_move_69 : decode cX15_move 69 = .ok (.aload_n 1, 1) := by decide +kernel
theorem dX15_move_70 : decode cX15_move 70 = .ok (.getfield 172, 3) := by decide +kernel
theorem dX15_move_73 : decode cX15_move 73 = .ok (.aload_n 3, 1) := by decide +kernel
theorem dX15_move_74 : decode cX15_move 74 = .ok (.aastore, 1) := by decide +kernel
theorem dX15_move_75 : decode cX15_move 75 = .ok (.aload_n 0, 1) := by decide +kernel
theorem dX15_move_76 : decode cX15_move 76 = .ok (.aload 4, 2) := by decide +kernel
theorem dX15_move_78 : decode cX15_move 78 = .ok (.invokevirtual 143, 3) := by decide +kernel
theorem dX15_move_81 : decode cX15_move 81 = .ok (.return_, 1) := by decide +kernel
theorem dX15_move_82 : decode cX15_move 82 = .ok (.aload_n 0, 1) := by decide +kernel
theorem dX15_move_83 : decode cX15_move 83 = .ok (.getfield 22, 3) := by decide +kernel
theorem dX15_move_86 : decode cX15_move 86 = .ok (.aload_n 1, 1) := by decide +kernel
theorem dX15_move_87 : decode cX15_move 87 = .ok (.getfield 172, 3) := by decide +kernel
theorem dX15_move_90 : decode cX15_move 90 = .ok (.invokevirtual 147, 3) := by decide +kernel
theorem dX15_move_93 : decode cX15_move 93 = .ok (.astore_n 3, 1) := by decide +kernel
theorem dX15_move_94 : decode cX15_move 94 = .ok (.aload_n 0, 1) := by decide +kernel
theorem dX15_move_95 : decode cX15_move 95 = .ok (.getfield 22, 3) := by decide +kernel
theorem dX15_move_98 : decode cX15_move 98 = .ok (.aload_n 1, 1) := by decide +kernel
theorem dX15_move_99 : decode cX15_move 99 = .ok (.getfield 175, 3) := by decide +kernel
theorem dX15_move_102 : decode cX15_move 102 = .ok (.invokevirtual 147, 3) := by decide +kernel
theorem dX15_move_105 : decode cX15_move 105 = .ok (.astore 4, 2) := by decide +kernel
theorem dX15_move_107 : decode cX15_move 107 = .ok (.aload_n 3, 1) := by decide +kernel
theorem dX15_move_108 : decode cX15_move 108 = .ok (.arraylength, 1) := by decide +kernel
theorem dX15_move_109 : decode cX15_move 109 = .ok (.anewarray 49, 3) := by decide +kernel
theorem dX15_move_112 : decode cX15_move 112 = .ok (.astore 5, 2) := by decide +kernel
theorem dX15_move_114 : decode cX15_move 114 = .ok (.aload_n 3, 1) := by decide +kernel
theorem dX15_move_115 : decode cX15_move 115 = .ok (.arraylength, 1) := by decide +kernel
theorem dX15_move_116 : decode cX15_move 116 = .ok (.anewarray 49, 3) := by decide +kernel
theorem dX15_move_119 : decode cX15_move 119 = .ok (.astore 6, 2) := by decide +kernel
theorem dX15_move_121 : decode cX15_move 121 = .ok (.iconst 0, 1) := by decide +kernel
theorem dX15_move_122 : decode cX15_move 122 = .ok (.istore 7, 2) := by decide +kernel
theorem dX15_move_124 : decode cX15_move 124 = .ok (.iload 7, 2) := by decide +kernel
theorem dX15_move_126 : decode cX15_move 126 = .ok (.aload_n 3, 1) := by decide +kernel
theorem dX15_move_127 : decode cX15_move 127 = .ok (.arraylength, 1) := by decide +kernel
theorem dX15_move_128 : decode cX15_move 128 = .ok (.if_icmp .ge 23, 3) := by decide +kernel
theorem dX15_move_131 : decode cX15_move 131 = .ok (.aload 5, 2) := by decide +kernel
theorem dX15_move_133 : decode cX15_move 133 = .ok (.iload 7, 2) := by decide +kernel
theorem dX15_move_135 : decode cX15_move 135 = .ok (.aload_n 0, 1) := by decide +kernel
theorem dX15_move_136 : decode cX15_move 136 = .ok (.aload 4, 2) := by decide +kernel
theorem dX15_move_138 : decode cX15_move 138 = .ok (.iload 7, 2) := by decide +kernel
theorem dX15_move_140 : decode cX15_move 140 = .ok (.iaload, 1) := by decide +kernel
theorem dX15_move_141 : decode cX15_move 141 = .ok (.invokevirtual 151, 3) := by decide +kernel
theorem dX15_move_144 : decode cX15_move 144 = .ok (.aastore, 1) := by decide +kernel
theorem dX15_move_145 : decode cX15_move 145 = .ok (.iinc 7 1, 3) := by decide +kernel
theorem dX15_move_148 : decode cX15_move 148 = .ok (.goto (-24), 3) := by decide +kernel
theorem dX15_move_151 : decode cX15_move 151 = .ok (.iconst 0, 1) := by decide +kernel
theorem dX15_move_152 : decode cX15_move 152 = .ok (.istore 7, 2) := by decide +kernel
theorem dX15_move_154 : decode cX15_move 154 = .ok (.iload 7, 2) := by decide +kernel
theorem dX15_move_156 : decode cX15_move 156 = .ok (.aload_n 3, 1) := by decide +kernel
theorem dX15_move_157 : decode cX15_move 157 = .ok (.arraylength, 1) := by decide +kernel
theorem dX15_move_158 : decode cX15_move 158 = .ok (.if_icmp .ge 37, 3) := by decide +kernel
theorem dX15_move_161 : decode cX15_move 161 = .ok (.aload 6, 2) := by decide +kernel
theorem dX15_move_163 : decode cX15_move 163 = .ok (.iload 7, 2) := by decide +kernel
theorem dX15_move_165 : decode cX15_move 165 = .ok (.aload_n 0, 1) := by decide +kernel
theorem dX15_move_166 : decode cX15_move 166 = .ok (.getfield 51, 3) := by decide +kernel
theorem dX15_move_169 : decode cX15_move 169 = .ok (.aload_n 3, 1) := by decide +kernel
theorem dX15_move_170 : decode cX15_move 170 = .ok (.iload 7, 2) := by decide +kernel
theorem dX15_move_172 : decode cX15_move 172 = .ok (.iaload, 1) := by decide +kernel
theorem dX15_move_173 : decode cX15_move 173 = .ok (.aaload, 1) := by decide +kernel
theorem dX15_move_174 : decode cX15_move 174 = .ok (.aastore, 1) := by decide +kernel
theorem dX15_move_175 : decode cX15_move 175 = .ok (.aload_n 0, 1) := by decide +kernel
theorem dX15_move_176 : decode cX15_move 176 = .ok (.getfield 51, 3) := by decide +kernel
theorem dX15_move_179 : decode cX15_move 179 = .ok (.aload_n 3, 1) := by decide +kernel
theorem dX15_move_180 : decode cX15_move 180 = .ok (.iload 7, 2) := by decide +kernel
theorem dX15_move_182 : decode cX15_move 182 = .ok (.iaload, 1) := by decide +kernel
theorem dX15_move_183 : decode cX15_move 183 = .ok (.aload 5, 2) := by decide +kernel
theorem dX15_move_185 : decode cX15_move 185 = .ok (.iload 7, 2) := by decide +kernel
theorem dX15_move_187 : decode cX15_move 187 = .ok (.aaload, 1) := by decide +kernel
theorem dX15_move_188 : decode cX15_move 188 = .ok (.aastore, 1) := by decide +kernel
theorem dX15_move_189 : decode cX15_move 189 = .ok (.iinc 7 1, 3) := by decide +kernel
theorem dX15_move_192 : decode cX15_move 192 = .ok (.goto (-38), 3) := by decide +kernel
theorem dX15_move_195 : decode cX15_move 195 = .ok (.aload 6, 2) := by decide +kernel
theorem dX15_move_197 : decode cX15_move 197 = .ok (.astore 7, 2) := by decide +kernel
theorem dX15_move_199 : decode cX15_move 199 = .ok (.aload 7, 2) := by decide +kernel
theorem dX15_move_201 : decode cX15_move 201 = .ok (.arraylength, 1) := by decide +kernel
theorem dX15_move_202 : decode cX15_move 202 = .ok (.istore 8, 2) := by decide +kernel
theorem dX15_move_204 : decode cX15_move 204 = .ok (.iconst 0, 1) := by decide +kernel
theorem dX15_move_205 : decode cX15_move 205 = .ok (.istore 9, 2) := by decide +kernel
theorem dX15_move_207 : decode cX15_move 207 = .ok (.iload 9, 2) := by decide +kernel
theorem dX15_move_209 : decode cX15_move 209 = .ok (.iload 8, 2) := by decide +kernel
theorem dX15_move_211 : decode cX15_move 211 = .ok (.if_icmp .ge 22, 3) := by decide +kernel
theorem dX15_move_214 : decode cX15_move 214 = .ok (.aload 7, 2) := by decide +kernel
theorem dX15_move_216 : decode cX15_move 216 = .ok (.iload 9, 2) := by decide +kernel
theorem dX15_move_218 : decode cX15_move 218 = .ok (.aaload, 1) := by decide +kernel
theorem dX15_move_219 : decode cX15_move 219 = .ok (.astore 10, 2) := by decide +kernel
theorem dX15_move_221 : decode cX15_move 221 = .ok (.aload_n 0, 1) := by decide +kernel
theorem dX15_move_222 : decode cX15_move 222 = .ok (.aload 10, 2) := by decide +kernel
theorem dX15_move_224 : decode cX15_move 224 = .ok (.invokevirtual 155, 3) := by decide +kernel
theorem dX15_move_227 : decode cX15_move 227 = .ok (.iinc 9 1, 3) := by decide +kernel
theorem dX15_move_230 : decode cX15_move 230 = .ok (.goto (-23), 3) := by decide +kernel
theorem dX15_move_233 : decode cX15_move 233 = .ok (.return_, 1) := by decide +kernel
set_option maxRecDepth 20000 in
theorem ggX15_copy_X14_kindOf : GoodIn wsX15_copy wsX14_kindOf := goodIn_r _ [12, 13, 14, 15, 16, 17, 18, 19, 20, 21, 22, 23, 24, 25, 26, 27, 28, 29, 30, 31, 32, 33, 34, 35, 36, 37, 38, 39, 40, 41, 42, 43, 44, 45, 46, 141, 142, 143, 144, 145, 146] (by decide +kernel) (by decide +kernel)
set_option maxRecDepth 20000 in
theorem gX15_copy_X14_kindOf : GoodIn wsX15_copy (wsV RX15 135 RX14 yX14_kindOf wsX14_kindOf) := goodIn_app (goodIn_of _ (by decide +kernel)) ggX15_copy_X14_kindOf
set_option maxRecDepth 20000 in
theorem ggX15_copy_X15_letDown : GoodIn wsX15_copy wsX15_letDown := goodIn_r _ [51, 52, 7, 53, 54, 55, 56, 57, 58, 50, 59, 60, 61, 62, 63, 64, 65, 18, 66, 67, 68, 40, 20, 69, 70, 71, 72, 73, 74, 75, 76, 77, 78, 79, 80, 81, 82, 83, 84, 85, 86, 87, 88, 89, 90, 91, 92, 93, 94, 95, 96, 97, 98, 99, 100, 101, 102, 103, 104, 105, 106, 107, 108, 109, 110, 111, 112, 113, 114, 115, 116, 117, 118, 119, 120, 121, 122, 123, 124, 125, 126, 127, 128, 129, 130, 131, 132, 133, 137, 138, 139, 140, 143, 144, 145] (by decide +kernel) (by decide +kernel)
set_option maxRecDepth 20000 in
theorem gX15_copy_X15_letDown : GoodIn wsX15_copy (wsV RX15 143 RX15 yX15_letDown wsX15_letDown) := goodIn_app (goodIn_of _ (by decide +kernel)) ggX15_copy_X15_letDown
theorem dX15_copy_0 : decode cX15_copy 0 = .ok (.aload_n 0, 1) := by decide +kernel
theorem dX15_copy_1 : decode cX15_copy 1 = .ok (.getfield 22, 3) := by decide +kernel
theorem dX15_copy_4 : decode cX15_copy 4 = .ok (.aload_n 1, 1) := by decide +kernel
theorem dX15_copy_5 : decode cX15_copy 5 = .ok (.getfield 172, 3) := by decide +kernel
theorem dX15_copy_8 : decode cX15_copy 8 = .ok (.invokevirtual 135, 3) := by decide +kernel
theorem dX15_copy_11 : decode cX15_copy 11 = .ok (.istore_n 2, 1) := by decide +kernel
theorem dX15_copy_12 : decode cX15_copy 12 = .ok (.iload_n 2, 1) := by decide +kernel
theorem dX15_copy_13 : decode cX15_copy 13 = .ok (.ifCond .ne 21, 3) := by decide +kernel
theorem dX15_copy_16 : decode cX15_copy 16 = .ok (.aload_n 0, 1) := by decide +kernel
theorem dX15_copy_17 : decode cX15_copy 17 = .ok (.getfield 45, 3) := by decide +kernel
theorem dX15_copy_20 : decode cX15_copy 20 = .ok (.aload_n 1, 1) := by decide +kernel
theorem dX15_copy_21 : decode cX15_copy 21 = .ok (.getfield 172, 3) := by decide +kernel
theorem dX15_copy_24 : decode cX15_copy 24 = .ok (.aload_n 0, 1) := by decide +kernel
theorem dX15_copy_25 : decode cX15_copy 25 = .ok (.getfield 45, 3) := by decide +kernel
theorem dX15_copy_28 : decode cX15_copy 28 = .ok (.aload_n 1, 1) := by decide +kernel
theorem dX15_copy_29 : decode cX15_copy 29 = .ok (.getfield 175, 3) := by decide +kernel
theorem dX15_copy_32 : decode cX15_copy 32 = .ok (.iaload, 1) := by decide +kernel
theorem dX15_copy_33 : decode cX15_copy 33 = .ok (.iastore, 1) := by decide +kernel
theorem dX15_copy_34 : decode cX15_copy 34 = .ok (.iload_n 2, 1) := by decide +kernel
theorem dX15_copy_35 : decode cX15_copy 35 = .ok (.iconst 3, 1) := by decide +kernel
theorem dX15_copy_36 : decode cX15_copy 36 = .ok (.if_icmp .ne 25, 3) := by decide +kernel
theorem dX15_copy_39 : decode cX15_copy 39 = .ok (.aload_n 0, 1) := by decide +kernel
theorem dX15_copy_40 : decode cX15_copy 40 = .ok (.getfield 61, 3) := by decide +kernel
theorem dX15_copy_43 : decode cX15_copy 43 = .ok (.aload_n 1, 1) := by decide +kernel
theorem dX15_copy_44 : decode cX15_copy 44 = .ok (.getfield 172, 3) := by decide +kernel
theorem dX15_copy_47 : decode cX15_copy 47 = .ok (.iconst 3, 1) := by decide +kernel
theorem dX15_copy_48 : decode cX15_copy 48 = .ok (.idiv, 1) := by decide +kernel
theorem dX15_copy_49 : decode cX15_copy 49 = .ok (.aload_n 0, 1) := by decide +kernel
theorem dX15_copy_50 : decode cX15_copy 50 = .ok (.getfield 61, 3) := by decide +kernel
theorem dX15_copy_53 : decode cX15_copy 53 = .ok (.aload_n 1, 1) := by decide +kernel
theorem dX15_copy_54 : decode cX15_copy 54 = .ok (.getfield 175, 3) := by decide +kernel
theorem dX15_copy_57 : decode cX15_copy 57 = .ok (.iconst 3, 1) := by decide +kernel
theorem dX15_copy_58 : decode cX15_copy 58 = .ok (.idiv, 1) := by decide +kernel
theorem dX15_copy_59 : decode cX15_copy 59 = .ok (.iaload, 1) := by decide +kernel
theorem dX15_copy_60 : decode cX15_copy 60 = .ok (.iastore, 1) := by decide +kernel
theorem dX15_copy_61 : decode cX15_copy 61 = .ok (.iload_n 2, 1) := by decide +kernel
theorem dX15_copy_62 : decode cX15_copy 62 = .ok (.iconst 5, 1) := by decide +kernel
theorem dX15_copy_63 : decode cX15_copy 63 = .ok (.if_icmp .eq 4, 3) := by decide +kernel
theorem dX15_copy_66 : decode cX15_copy 66 = .ok (.return_, 1) := by decide +kernel
theorem dX15_copy_67 : decode cX15_copy 67 = .ok (.aload_n 0, 1) := by decide +kernel
theorem dX15_copy_68 : decode cX15_copy 68 = .ok (.getfield 57, 3) := by decide +kernel
theorem dX15_copy_71 : decode cX15_copy 71 = .ok (.aload_n 1, 1) := by decide +kernel
theorem dX15_copy_72 : decode cX15_copy 72 = .ok (.getfield 175, 3) := by decide +kernel
theorem dX15_copy_75 : decode cX15_copy 75 = .ok (.aaload, 1) := by decide +kernel
theorem dX15_copy_76 : decode cX15_copy 76 = .ok (.dup, 1) := by decide +kernel
theorem dX15_copy_77 : decode cX15_copy 77 = .ok (.getfield 127, 3) := by decide +kernel
theorem dX15_copy_80 : decode cX15_copy 80 = .ok (.iconst 1, 1) := by decide +kernel
theorem dX15_copy_81 : decode cX15_copy 81 = .ok (.iadd, 1) := by decide +kernel
theorem dX15_copy_82 : decode cX15_copy 82 = .ok (.putfield 127, 3) := by decide +kernel
theorem dX15_copy_85 : decode cX15_copy 85 = .ok (.aload_n 0, 1) := by decide +kernel
theorem dX15_copy_86 : decode cX15_copy 86 = .ok (.getfield 57, 3) := by decide +kernel
theorem dX15_copy_89 : decode cX15_copy 89 = .ok (.aload_n 1, 1) := by decide +kernel
theorem dX15_copy_90 : decode cX15_copy 90 = .ok (.getfield 172, 3) := by decide +kernel
theorem dX15_copy_93 : decode cX15_copy 93 = .ok (.aaload, 1) := by decide +kernel
theorem dX15_copy_94 : decode cX15_copy 94 = .ok (.astore_n 3, 1) := by decide +kernel
theorem dX15_copy_95 : decode cX15_copy 95 = .ok (.aload_n 0, 1) := by decide +kernel
theorem dX15_copy_96 : decode cX15_copy 96 = .ok (.getfield 57, 3) := by decide +kernel
theorem dX15_copy_99 : decode cX15_copy 99 = .ok (.aload_n 1, 1) := by decide +kernel
theorem dX15_copy_100 : decode cX15_copy 100 = .ok (.getfield 172, 3) := by decide +kernel
theorem dX15_copy_103 : decode cX15_copy 103 = .ok (.aload_n 0, 1) := by decide +kernel
theorem dX15_copy_104 : decode cX15_copy 104 = .ok (.getfield 57, 3) := by decide +kernel
theorem dX15_copy_107 : decode cX15_copy 107 = .ok (.aload_n 1, 1) := by decide +kernel
theorem dX15_copy_108 : decode cX15_copy 108 = .ok (.getfield 175, 3) := by decide +kernel
theorem dX15_copy_111 : decode cX15_copy 111 = .ok (.aaload, 1) := by decide +kernel
theorem dX15_copy_112 : decode cX15_copy 112 = .ok (.aastore, 1) := by decide +kernel
theorem dX15_copy_113 : decode cX15_copy 113 = .ok (.aload_n 0, 1) := by decide +kernel
theorem dX15_copy_114 : decode cX15_copy 114 = .ok (.aload_n 3, 1) := by decide +kernel
theorem dX15_copy_115 : decode cX15_copy 115 = .ok (.invokevirtual 143, 3) := by decide +kernel
theorem dX15_copy_118 : decode cX15_copy 118 = .ok (.return_, 1) := by decide +kernel
set_option maxRecDepth 20000 in
theorem ggX15_link_X15_letDown : GoodIn wsX15_link wsX15_letDown := goodIn_r _ [7, 8, 1, 9, 10, 2, 11, 12, 13, 6, 14, 15, 16, 17, 18, 19, 20, 21, 22, 23, 24, 25, 26, 27, 28, 29, 30, 31, 32, 33, 34, 35, 36, 37, 38, 39, 40, 41, 42, 43, 44, 45, 46, 47, 48, 49, 50, 51, 52, 53, 54, 55, 56, 57, 58, 59, 60, 61, 62, 63, 64, 65, 66, 67, 68, 69, 70, 71, 72, 73, 78, 79, 80, 81, 82, 83, 84, 85, 86, 87, 88, 89, 90, 91, 92, 93, 94, 95, 74, 75, 76, 77, 96, 97, 98] (by decide +kernel) (by decide +kernel)
set_option maxRecDepth 20000 in
theorem gX15_link_X15_letDown : GoodIn wsX15_link (wsV RX15 143 RX15 yX15_letDown wsX15_letDown) := goodIn_app (goodIn_of _ (by decide +kernel)) ggX15_link_X15_letDown
theorem dX15_link_0 : decode cX15_link 0 = .ok (.aload_n 2, 1) := by decide +kernel
theorem dX15_link_1 : decode cX15_link 1 = .ok (.dup, 1) := by decide +kernel
theorem dX15_link_2 : decode cX15_link 2 = .ok (.getfield 127, 3) := by decide +kernel
theorem dX15_link_5 : decode cX15_link 5 = .ok (.iconst 1, 1) := by decide +kernel
theorem dX15_link_6 : decode cX15_link 6 = .ok (.iadd, 1) := by decide +kernel
theorem dX15_link_7 : decode cX15_link 7 = .ok (.putfield 127, 3) := by decide +kernel
theorem dX15_link_10 : decode cX15_link 10 = .ok (.aload_n 1, 1) := by decide +kernel
theorem dX15_link_11 : decode cX15_link 11 = .ok (.getfield 131, 3) := by decide +kernel
theorem dX15_link_14 : decode cX15_link 14 = .ok (.astore_n 3, 1) := by decide +kernel
theorem dX15_link_15 : decode cX15_link 15 = .ok (.aload_n 1, 1) := by decide +kernel
theorem dX15_link_16 : decode cX15_link 16 = .ok (.aload_n 2, 1) := by decide +kernel
theorem dX15_link_17 : decode cX15_link 17 = .ok (.putfield 131, 3) := by decide +kernel
theorem dX15_link_20 : decode cX15_link 20 = .ok (.aload_n 0, 1) := by decide +kernel
theorem dX15_link_21 : decode cX15_link 21 = .ok (.aload_n 3, 1) := by decide +kernel
theorem dX15_link_22 : decode cX15_link 22 = .ok (.invokevirtual 143, 3) := by decide +kernel
theorem dX15_link_25 : decode cX15_link 25 = .ok (.return_, 1) := by decide +kernel
set_option maxRecDepth 20000 in
theorem ggX15_numberAt_X14_kindOf : GoodIn wsX15_numberAt wsX14_kindOf := goodIn_r _ [9, 10, 11, 12, 13, 14, 15, 16, 17, 18, 19, 20, 21, 22, 23, 24, 25, 26, 27, 28, 29, 30, 31, 32, 33, 34, 35, 36, 37, 38, 39, 40, 41, 42, 43, 69, 70, 71, 72, 73, 74] (by decide +kernel) (by decide +kernel)
set_option maxRecDepth 20000 in
theorem gX15_numberAt_X14_kindOf : GoodIn wsX15_numberAt (wsV RX15 135 RX14 yX14_kindOf wsX14_kindOf) := goodIn_app (goodIn_of _ (by decide +kernel)) ggX15_numberAt_X14_kindOf
set_option maxRecDepth 20000 in
theorem ggX15_numberAt_X14_leaves : GoodIn wsX15_numberAt wsX14_leaves := goodIn_r _ [47, 48, 49, 6, 7, 8, 9, 10, 11, 12, 13, 14, 15, 16, 17, 18, 19, 20, 21, 22, 23, 24, 25, 26, 27, 28, 29, 30, 31, 32, 33, 34, 35, 36, 37, 38, 39, 40, 41, 42, 43, 69, 70, 71, 72, 73, 74] (by decide +kernel) (by decide +kernel)
set_option maxRecDepth 20000 in
theorem gX15_numberAt_X14_leaves : GoodIn wsX15_numberAt (wsV RX15 147 RX14 yX14_leaves wsX14_leaves) := goodIn_app (goodIn_of _ (by decide +kernel)) ggX15_numberAt_X14_leaves
theorem dX15_numberAt_0 : decode cX15_numberAt 0 = .ok (.aload_n 0, 1) := by decide +kernel
theorem dX15_numberAt_1 : decode cX15_numberAt 1 = .ok (.getfield 22, 3) := by decide +kernel
theorem dX15_numberAt_4 : decode cX15_numberAt 4 = .ok (.iload_n 1, 1) := by decide +kernel
theorem dX15_numberAt_5 : decode cX15_numberAt 5 = .ok (.invokevirtual 135, 3) := by decide +kernel
theorem dX15_numberAt_8 : decode cX15_numberAt 8 = .ok (.ifCond .ne 10, 3) := by decide +kernel
theorem dX15_numberAt_11 : decode cX15_numberAt 11 = .ok (.aload_n 0, 1) := by decide +kernel
theorem dX15_numberAt_12 : decode cX15_numberAt 12 = .ok (.getfield 45, 3) := by decide +kernel
theorem dX15_numberAt_15 : decode cX15_numberAt 15 = .ok (.iload_n 1, 1) := by decide +kernel
theorem dX15_numberAt_16 : decode cX15_numberAt 16 = .ok (.iaload, 1) := by decide +kernel
theorem dX15_numberAt_17 : decode cX15_numberAt 17 = .ok (.ireturn, 1) := by decide +kernel
theorem dX15_numberAt_18 : decode cX15_numberAt 18 = .ok (.iconst 0, 1) := by decide +kernel
theorem dX15_numberAt_19 : decode cX15_numberAt 19 = .ok (.istore_n 2, 1) := by decide +kernel
theorem dX15_numberAt_20 : decode cX15_numberAt 20 = .ok (.aload_n 0, 1) := by decide +kernel
theorem dX15_numberAt_21 : decode cX15_numberAt 21 = .ok (.getfield 22, 3) := by decide +kernel
theorem dX15_numberAt_24 : decode cX15_numberAt 24 = .ok (.iload_n 1, 1) := by decide +kernel
theorem dX15_numberAt_25 : decode cX15_numberAt 25 = .ok (.invokevirtual 147, 3) := by decide +kernel
theorem dX15_numberAt_28 : decode cX15_numberAt 28 = .ok (.astore_n 3, 1) := by decide +kernel
theorem dX15_numberAt_29 : decode cX15_numberAt 29 = .ok (.aload_n 3, 1) := by decide +kernel
theorem dX15_numberAt_30 : decode cX15_numberAt 30 = .ok (.arraylength, 1) := by decide +kernel
theorem dX15_numberAt_31 : decode cX15_numberAt 31 = .ok (.istore 4, 2) := by decide +kernel
theorem dX15_numberAt_33 : decode cX15_numberAt 33 = .ok (.iconst 0, 1) := by decide +kernel
theorem dX15_numberAt_34 : decode cX15_numberAt 34 = .ok (.istore 5, 2) := by decide +kernel
theorem dX15_numberAt_36 : decode cX15_numberAt 36 = .ok (.iload 5, 2) := by decide +kernel
theorem dX15_numberAt_38 : decode cX15_numberAt 38 = .ok (.iload 4, 2) := by decide +kernel
theorem dX15_numberAt_40 : decode cX15_numberAt 40 = .ok (.if_icmp .ge 28, 3) := by decide +kernel
theorem dX15_numberAt_43 : decode cX15_numberAt 43 = .ok (.aload_n 3, 1) := by decide +kernel
theorem dX15_numberAt_44 : decode cX15_numberAt 44 = .ok (.iload 5, 2) := by decide +kernel
theorem dX15_numberAt_46 : decode cX15_numberAt 46 = .ok (.iaload, 1) := by decide +kernel
theorem dX15_numberAt_47 : decode cX15_numberAt 47 = .ok (.istore 6, 2) := by decide +kernel
theorem dX15_numberAt_49 : decode cX15_numberAt 49 = .ok (.iload_n 2, 1) := by decide +kernel
theorem dX15_numberAt_50 : decode cX15_numberAt 50 = .ok (.aload_n 0, 1) := by decide +kernel
theorem dX15_numberAt_51 : decode cX15_numberAt 51 = .ok (.getfield 51, 3) := by decide +kernel
theorem dX15_numberAt_54 : decode cX15_numberAt 54 = .ok (.iload 6, 2) := by decide +kernel
theorem dX15_numberAt_56 : decode cX15_numberAt 56 = .ok (.aaload, 1) := by decide +kernel
theorem dX15_numberAt_57 : decode cX15_numberAt 57 = .ok (.getfield 117, 3) := by decide +kernel
theorem dX15_numberAt_60 : decode cX15_numberAt 60 = .ok (.iadd, 1) := by decide +kernel
theorem dX15_numberAt_61 : decode cX15_numberAt 61 = .ok (.istore_n 2, 1) := by decide +kernel
theorem dX15_numberAt_62 : decode cX15_numberAt 62 = .ok (.iinc 5 1, 3) := by decide +kernel
theorem dX15_numberAt_65 : decode cX15_numberAt 65 = .ok (.goto (-29), 3) := by decide +kernel
theorem dX15_numberAt_68 : decode cX15_numberAt 68 = .ok (.iload_n 2, 1) := by decide +kernel
theorem dX15_numberAt_69 : decode cX15_numberAt 69 = .ok (.ireturn, 1) := by decide +kernel
set_option maxRecDepth 20000 in
theorem ggX15_read_X14_kindOf : GoodIn wsX15_read wsX14_kindOf := goodIn_r _ [11, 12, 13, 14, 15, 16, 17, 18, 19, 20, 21, 22, 23, 24, 25, 26, 27, 28, 29, 30, 31, 32, 33, 34, 35, 36, 37, 38, 39, 40, 41, 42, 43, 44, 45, 154, 155, 156, 157, 158, 159] (by decide +kernel) (by decide +kernel)
set_option maxRecDepth 20000 in
theorem gX15_read_X14_kindOf : GoodIn wsX15_read (wsV RX15 135 RX14 yX14_kindOf wsX14_kindOf) := goodIn_app (goodIn_of _ (by decide +kernel)) ggX15_read_X14_kindOf
set_option maxRecDepth 20000 in
theorem ggX15_read_X15_panic : GoodIn wsX15_read wsX15_panic := goodIn_r _ [50, 51, 52, 53, 129, 130, 131, 132, 133, 134, 135, 136, 137, 138, 139, 140, 141, 142, 143, 144, 145, 146] (by decide +kernel) (by decide +kernel)
set_option maxRecDepth 20000 in
theorem gX15_read_X15_panic : GoodIn wsX15_read (wsV RX15 124 RX15 yX15_panic wsX15_panic) := goodIn_app (goodIn_of _ (by decide +kernel)) ggX15_read_X15_panic
set_option maxRecDepth 20000 in
theorem ggX15_read_X15_tell : GoodIn wsX15_read wsX15_tell := goodIn_r _ [57, 58, 59, 53, 60, 61, 62, 17, 63, 64, 65, 39, 19, 66, 67, 68, 69, 70, 71, 72, 73, 74, 75, 76, 77, 78, 79, 80, 81, 82, 83, 84, 85, 86, 87, 88, 89, 90, 91, 92, 93, 94, 95, 96, 97, 98, 99, 100, 101, 102, 103, 104, 105, 106, 107, 108, 109, 110, 111, 112, 129, 130, 131, 132, 133, 134, 135, 136, 137, 138, 139, 140, 141, 142, 143, 144, 145, 146, 156, 157, 158] (by decide +kernel) (by decide +kernel)
set_option maxRecDepth 20000 in
theorem gX15_read_X15_tell : GoodIn wsX15_read (wsV RX15 120 RX15 yX15_tell wsX15_tell) := goodIn_app (goodIn_of _ (by decide +kernel)) ggX15_read_X15_tell
set_option maxRecDepth 20000 in
theorem ggX15_read_X14_isBorrow : GoodIn wsX15_read wsX14_isBorrow := goodIn_r _ [116, 117, 8, 9, 10, 11, 12, 13, 14, 15, 16, 17, 18, 19, 20, 21, 22, 23, 24, 25, 26, 27, 28, 29, 30, 31, 32, 33, 34, 35, 36, 37, 38, 39, 40, 41, 42, 43, 44, 45, 154, 155, 156, 157, 158, 159] (by decide +kernel) (by decide +kernel)
set_option maxRecDepth 20000 in
theorem gX15_read_X14_isBorrow : GoodIn wsX15_read (wsV RX15 202 RX14 yX14_isBorrow wsX14_isBorrow) := goodIn_app (goodIn_of _ (by decide +kernel)) ggX15_read_X14_isBorrow
set_option maxRecDepth 20000 in
theorem ggX15_read_X15_numberAt : GoodIn wsX15_read wsX15_numberAt := goodIn_r _ [121, 1, 122, 123, 124, 7, 8, 9, 10, 11, 12, 13, 14, 15, 16, 17, 18, 19, 20, 21, 22, 23, 24, 25, 26, 27, 28, 29, 30, 31, 32, 33, 34, 35, 36, 37, 38, 39, 40, 41, 42, 43, 44, 45, 125, 126, 127, 128, 59, 117, 129, 130, 131, 132, 133, 134, 135, 136, 137, 138, 139, 140, 141, 142, 143, 144, 145, 146, 160, 154, 155, 156, 157, 158, 159] (by decide +kernel) (by decide +kernel)
set_option maxRecDepth 20000 in
theorem gX15_read_X15_numberAt : GoodIn wsX15_read (wsV RX15 205 RX15 yX15_numberAt wsX15_numberAt) := goodIn_app (goodIn_of _ (by decide +kernel)) ggX15_read_X15_numberAt
theorem dX15_read_0 : decode cX15_read 0 = .ok (.aload_n 0, 1) := by decide +kernel
theorem dX15_read_1 : decode cX15_read 1 = .ok (.getfield 22, 3) := by decide +kernel
theorem dX15_read_4 : decode cX15_read 4 = .ok (.aload_n 1, 1) := by decide +kernel
theorem dX15_read_5 : decode cX15_read 5 = .ok (.getfield 172, 3) := by decide +kernel
theorem dX15_read_8 : decode cX15_read 8 = .ok (.invokevirtual 135, 3) := by decide +kernel
theorem dX15_read_11 : decode cX15_read 11 = .ok (.iconst 5, 1) := by decide +kernel
theorem dX15_read_12 : decode cX15_read 12 = .ok (.if_icmp .ne 43, 3) := by decide +kernel
theorem dX15_read_15 : decode cX15_read 15 = .ok (.aload_n 0, 1) := by decide +kernel
theorem dX15_read_16 : decode cX15_read 16 = .ok (.getfield 57, 3) := by decide +kernel
theorem dX15_read_19 : decode cX15_read 19 = .ok (.aload_n 1, 1) := by decide +kernel
theorem dX15_read_20 : decode cX15_read 20 = .ok (.getfield 172, 3) := by decide +kernel
theorem dX15_read_23 : decode cX15_read 23 = .ok (.aaload, 1) := by decide +kernel
theorem dX15_read_24 : decode cX15_read 24 = .ok (.getfield 196, 3) := by decide +kernel
theorem dX15_read_27 : decode cX15_read 27 = .ok (.ifCond .eq 10, 3) := by decide +kernel
theorem dX15_read_30 : decode cX15_read 30 = .ok (.aload_n 0, 1) := by decide +kernel
theorem dX15_read_31 : decode cX15_read 31 = .ok (.invokevirtual 124, 3) := by decide +kernel
theorem dX15_read_34 : decode cX15_read 34 = .ok (.goto 20, 3) := by decide +kernel
theorem dX15_read_37 : decode cX15_read 37 = .ok (.aload_n 0, 1) := by decide +kernel
theorem dX15_read_38 : decode cX15_read 38 = .ok (.iconst 0, 1) := by decide +kernel
theorem dX15_read_39 : decode cX15_read 39 = .ok (.aload_n 0, 1) := by decide +kernel
theorem dX15_read_40 : decode cX15_read 40 = .ok (.getfield 57, 3) := by decide +kernel
theorem dX15_read_43 : decode cX15_read 43 = .ok (.aload_n 1, 1) := by decide +kernel
theorem dX15_read_44 : decode cX15_read 44 = .ok (.getfield 172, 3) := by decide +kernel
theorem dX15_read_47 : decode cX15_read 47 = .ok (.aaload, 1) := by decide +kernel
theorem dX15_read_48 : decode cX15_read 48 = .ok (.getfield 130, 3) := by decide +kernel
theorem dX15_read_51 : decode cX15_read 51 = .ok (.invokevirtual 120, 3) := by decide +kernel
theorem dX15_read_54 : decode cX15_read 54 = .ok (.return_, 1) := by decide +kernel
theorem dX15_read_55 : decode cX15_read 55 = .ok (.aload_n 0, 1) := by decide +kernel
theorem dX15_read_56 : decode cX15_read 56 = .ok (.iconst 0, 1) := by decide +kernel
theorem dX15_read_57 : decode cX15_read 57 = .ok (.aload_n 0, 1) := by decide +kernel
theorem dX15_read_58 : decode cX15_read 58 = .ok (.aload_n 0, 1) := by decide +kernel
theorem dX15_read_59 : decode cX15_read 59 = .ok (.getfield 22, 3) := by decide +kernel
theorem dX15_read_62 : decode cX15_read 62 = .ok (.aload_n 1, 1) := by decide +kernel
theorem dX15_read_63 : decode cX15_read 63 = .ok (.getfield 172, 3) := by decide +kernel
theorem dX15_read_66 : decode cX15_read 66 = .ok (.invokevirtual 202, 3) := by decide +kernel
theorem dX15_read_69 : decode cX15_read 69 = .ok (.ifCond .eq 17, 3) := by decide +kernel
theorem dX15_read_72 : decode cX15_read 72 = .ok (.aload_n 0, 1) := by decide +kernel
theorem dX15_read_73 : decode cX15_read 73 = .ok (.getfield 61, 3) := by decide +kernel
theorem dX15_read_76 : decode cX15_read 76 = .ok (.aload_n 1, 1) := by decide +kernel
theorem dX15_read_77 : decode cX15_read 77 = .ok (.getfield 172, 3) := by decide +kernel
theorem dX15_read_80 : decode cX15_read 80 = .ok (.iconst 3, 1) := by decide +kernel
theorem dX15_read_81 : decode cX15_read 81 = .ok (.idiv, 1) := by decide +kernel
theorem dX15_read_82 : decode cX15_read 82 = .ok (.iaload, 1) := by decide +kernel
theorem dX15_read_83 : decode cX15_read 83 = .ok (.goto 7, 3) := by decide +kernel
theorem dX15_read_86 : decode cX15_read 86 = .ok (.aload_n 1, 1) := by decide +kernel
theorem dX15_read_87 : decode cX15_read 87 = .ok (.getfield 172, 3) := by decide +kernel
theorem dX15_read_90 : decode cX15_read 90 = .ok (.invokevirtual 205, 3) := by decide +kernel
theorem dX15_read_93 : decode cX15_read 93 = .ok (.invokevirtual 120, 3) := by decide +kernel
theorem dX15_read_96 : decode cX15_read 96 = .ok (.return_, 1) := by decide +kernel
set_option maxRecDepth 20000 in
theorem ggX15_write_X14_kindOf : GoodIn wsX15_write wsX14_kindOf := goodIn_r _ [15, 16, 17, 18, 19, 20, 21, 22, 23, 24, 25, 26, 27, 28, 29, 30, 31, 32, 33, 34, 35, 36, 37, 38, 39, 40, 41, 42, 43, 44, 45, 46, 47, 48, 49, 94, 95, 96, 97, 98, 99] (by decide +kernel) (by decide +kernel)
set_option maxRecDepth 20000 in
theorem gX15_write_X14_kindOf : GoodIn wsX15_write (wsV RX15 135 RX14 yX14_kindOf wsX14_kindOf) := goodIn_app (goodIn_of _ (by decide +kernel)) ggX15_write_X14_kindOf
set_option maxRecDepth 20000 in
theorem ggX15_write_X15_panic : GoodIn wsX15_write wsX15_panic := goodIn_r _ [54, 55, 56, 57, 68, 69, 70, 71, 72, 73, 74, 75, 76, 77, 78, 79, 80, 81, 82, 83, 84, 85] (by decide +kernel) (by decide +kernel)
set_option maxRecDepth 20000 in
theorem gX15_write_X15_panic : GoodIn wsX15_write (wsV RX15 124 RX15 yX15_panic wsX15_panic) := goodIn_app (goodIn_of _ (by decide +kernel)) ggX15_write_X15_panic
set_option maxRecDepth 20000 in
theorem ggX15_write_X14_isBorrow : GoodIn wsX15_write wsX14_isBorrow := goodIn_r _ [61, 62, 12, 13, 14, 15, 16, 17, 18, 19, 20, 21, 22, 23, 24, 25, 26, 27, 28, 29, 30, 31, 32, 33, 34, 35, 36, 37, 38, 39, 40, 41, 42, 43, 44, 45, 46, 47, 48, 49, 94, 95, 96, 97, 98, 99] (by decide +kernel) (by decide +kernel)
set_option maxRecDepth 20000 in
theorem gX15_write_X14_isBorrow : GoodIn wsX15_write (wsV RX15 202 RX14 yX14_isBorrow wsX14_isBorrow) := goodIn_app (goodIn_of _ (by decide +kernel)) ggX15_write_X14_isBorrow
set_option maxRecDepth 20000 in
theorem ggX15_write_X14_leaves : GoodIn wsX15_write wsX14_leaves := goodIn_r _ [66, 67, 62, 12, 13, 14, 15, 16, 17, 18, 19, 20, 21, 22, 23, 24, 25, 26, 27, 28, 29, 30, 31, 32, 33, 34, 35, 36, 37, 38, 39, 40, 41, 42, 43, 44, 45, 46, 47, 48, 49, 94, 95, 96, 97, 98, 99] (by decide +kernel) (by decide +kernel)
set_option maxRecDepth 20000 in
theorem gX15_write_X14_leaves : GoodIn wsX15_write (wsV RX15 147 RX14 yX14_leaves wsX14_leaves) := goodIn_app (goodIn_of _ (by decide +kernel)) ggX15_write_X14_leaves
theorem dX15_write_0 : decode cX15_write 0 = .ok (.aload_n 0, 1) := by decide +kernel
theorem dX15_write_1 : decode cX15_write 1 = .ok (.getfield 22, 3) := by decide +kernel
theorem dX15_write_4 : decode cX15_write 4 = .ok (.aload_n 1, 1) := by decide +kernel
theorem dX15_write_5 : decode cX15_write 5 = .ok (.getfield 172, 3) := by decide +kernel
theorem dX15_write_8 : decode cX15_write 8 = .ok (.invokevirtual 135, 3) := by decide +kernel
theorem dX15_write_11 : decode cX15_write 11 = .ok (.iconst 5, 1) := by decide +kernel
theorem dX15_write_12 : decode cX15_write 12 = .ok (.if_icmp .ne 42, 3) := by decide +kernel
theorem dX15_write_15 : decode cX15_write 15 = .ok (.aload_n 0, 1) := by decide +kernel
theorem dX15_write_16 : decode cX15_write 16 = .ok (.getfield 57, 3) := by decide +kernel
theorem dX15_write_19 : decode cX15_write 19 = .ok (.aload_n 1, 1) := by decide +kernel
theorem dX15_write_20 : decode cX15_write 20 = .ok (.getfield 172, 3) := by decide +kernel
theorem dX15_write_23 : decode cX15_write 23 = .ok (.aaload, 1) := by decide +kernel
theorem dX15_write_24 : decode cX15_write 24 = .ok (.getfield 196, 3) := by decide +kernel
theorem dX15_write_27 : decode cX15_write 27 = .ok (.ifCond .eq 10, 3) := by decide +kernel
theorem dX15_write_30 : decode cX15_write 30 = .ok (.aload_n 0, 1) := by decide +kernel
theorem dX15_write_31 : decode cX15_write 31 = .ok (.invokevirtual 124, 3) := by decide +kernel
theorem dX15_write_34 : decode cX15_write 34 = .ok (.goto 19, 3) := by decide +kernel
theorem dX15_write_37 : decode cX15_write 37 = .ok (.aload_n 0, 1) := by decide +kernel
theorem dX15_write_38 : decode cX15_write 38 = .ok (.getfield 57, 3) := by decide +kernel
theorem dX15_write_41 : decode cX15_write 41 = .ok (.aload_n 1, 1) := by decide +kernel
theorem dX15_write_42 : decode cX15_write 42 = .ok (.getfield 172, 3) := by decide +kernel
theorem dX15_write_45 : decode cX15_write 45 = .ok (.aaload, 1) := by decide +kernel
theorem dX15_write_46 : decode cX15_write 46 = .ok (.aload_n 1, 1) := by decide +kernel
theorem dX15_write_47 : decode cX15_write 47 = .ok (.getfield 175, 3) := by decide +kernel
theorem dX15_write_50 : decode cX15_write 50 = .ok (.putfield 130, 3) := by decide +kernel
theorem dX15_write_53 : decode cX15_write 53 = .ok (.return_, 1) := by decide +kernel
theorem dX15_write_54 : decode cX15_write 54 = .ok (.aload_n 0, 1) := by decide +kernel
theorem dX15_write_55 : decode cX15_write 55 = .ok (.getfield 22, 3) := by decide +kernel
theorem dX15_write_58 : decode cX15_write 58 = .ok (.aload_n 1, 1) := by decide +kernel
theorem dX15_write_59 : decode cX15_write 59 = .ok (.getfield 172, 3) := by decide +kernel
theorem dX15_write_62 : decode cX15_write 62 = .ok (.invokevirtual 202, 3) := by decide +kernel
theorem dX15_write_65 : decode cX15_write 65 = .ok (.ifCond .eq 17, 3) := by decide +kernel
theorem dX15_write_68 : decode cX15_write 68 = .ok (.aload_n 0, 1) := by decide +kernel
theorem dX15_write_69 : decode cX15_write 69 = .ok (.getfield 61, 3) := by decide +kernel
theorem dX15_write_72 : decode cX15_write 72 = .ok (.aload_n 1, 1) := by decide +kernel
theorem dX15_write_73 : decode cX15_write 73 = .ok (.getfield 172, 3) := by decide +kernel
theorem dX15_write_76 : decode cX15_write 76 = .ok (.iconst 3, 1) := by decide +kernel
theorem dX15_write_77 : decode cX15_write 77 = .ok (.idiv, 1) := by decide +kernel
theorem dX15_write_78 : decode cX15_write 78 = .ok (.iaload, 1) := by decide +kernel
theorem dX15_write_79 : decode cX15_write 79 = .ok (.goto 7, 3) := by decide +kernel
theorem dX15_write_82 : decode cX15_write 82 = .ok (.aload_n 1, 1) := by decide +kernel
theorem dX15_write_83 : decode cX15_write 83 = .ok (.getfield 172, 3) := by decide +kernel
theorem dX15_write_86 : decode cX15_write 86 = .ok (.istore_n 2, 1) := by decide +kernel
theorem dX15_write_87 : decode cX15_write 87 = .ok (.aload_n 0, 1) := by decide +kernel
theorem dX15_write_88 : decode cX15_write 88 = .ok (.getfield 22, 3) := by decide +kernel
theorem dX15_write_91 : decode cX15_write 91 = .ok (.iload_n 2, 1) := by decide +kernel
theorem dX15_write_92 : decode cX15_write 92 = .ok (.invokevirtual 135, 3) := by decide +kernel
theorem dX15_write_95 : decode cX15_write 95 = .ok (.ifCond .ne 16, 3) := by decide +kernel
theorem dX15_write_98 : decode cX15_write 98 = .ok (.aload_n 0, 1) := by decide +kernel
theorem dX15_write_99 : decode cX15_write 99 = .ok (.getfield 45, 3) := by decide +kernel
theorem dX15_write_102 : decode cX15_write 102 = .ok (.iload_n 2, 1) := by decide +kernel
theorem dX15_write_103 : decode cX15_write 103 = .ok (.aload_n 1, 1) := by decide +kernel
theorem dX15_write_104 : decode cX15_write 104 = .ok (.getfield 175, 3) := by decide +kernel
theorem dX15_write_107 : decode cX15_write 107 = .ok (.iastore, 1) := by decide +kernel
theorem dX15_write_108 : decode cX15_write 108 = .ok (.goto 52, 3) := by decide +kernel
theorem dX15_write_111 : decode cX15_write 111 = .ok (.aload_n 0, 1) := by decide +kernel
theorem dX15_write_112 : decode cX15_write 112 = .ok (.getfield 22, 3) := by decide +kernel
theorem dX15_write_115 : decode cX15_write 115 = .ok (.iload_n 2, 1) := by decide +kernel
theorem dX15_write_116 : decode cX15_write 116 = .ok (.invokevirtual 147, 3) := by decide +kernel
theorem dX15_write_119 : decode cX15_write 119 = .ok (.astore_n 3, 1) := by decide +kernel
theorem dX15_write_120 : decode cX15_write 120 = .ok (.aload_n 3, 1) := by decide +kernel
theorem dX15_write_121 : decode cX15_write 121 = .ok (.arraylength, 1) := by decide +kernel
theorem dX15_write_122 : decode cX15_write 122 = .ok (.istore 4, 2) := by decide +kernel
theorem dX15_write_124 : decode cX15_write 124 = .ok (.iconst 0, 1) := by decide +kernel
theorem dX15_write_125 : decode cX15_write 125 = .ok (.istore 5, 2) := by decide +kernel
theorem dX15_write_127 : decode cX15_write 127 = .ok (.iload 5, 2) := by decide +kernel
theorem dX15_write_129 : decode cX15_write 129 = .ok (.iload 4, 2) := by decide +kernel
theorem dX15_write_131 : decode cX15_write 131 = .ok (.if_icmp .ge 29, 3) := by decide +kernel
theorem dX15_write_134 : decode cX15_write 134 = .ok (.aload_n 3, 1) := by decide +kernel
theorem dX15_write_135 : decode cX15_write 135 = .ok (.iload 5, 2) := by decide +kernel
theorem dX15_write_137 : decode cX15_write 137 = .ok (.iaload, 1) := by decide +kernel
theorem dX15_write_138 : decode cX15_write 138 = .ok (.istore 6, 2) := by decide +kernel
theorem dX15_write_140 : decode cX15_write 140 = .ok (.aload_n 0, 1) := by decide +kernel
theorem dX15_write_141 : decode cX15_write 141 = .ok (.getfield 51, 3) := by decide +kernel
theorem dX15_write_144 : decode cX15_write 144 = .ok (.iload 6, 2) := by decide +kernel
theorem dX15_write_146 : decode cX15_write 146 = .ok (.aaload, 1) := by decide +kernel
theorem dX15_write_147 : decode cX15_write 147 = .ok (.aload_n 1, 1) := by decide +kernel
theorem dX15_write_148 : decode cX15_write 148 = .ok (.getfield 175, 3) := by decide +kernel
theorem dX15_write_151 : decode cX15_write 151 = .ok (.putfield 117, 3) := by decide +kernel
theorem dX15_write_154 : decode cX15_write 154 = .ok (.iinc 5 1, 3) := by decide +kernel
theorem dX15_write_157 : decode cX15_write 157 = .ok (.goto (-30), 3) := by decide +kernel
theorem dX15_write_160 : decode cX15_write 160 = .ok (.return_, 1) := by decide +kernel
set_option maxRecDepth 20000 in
theorem ggX15_told_X15_outcome : GoodIn wsX15_told wsX15_outcome := goodIn_r _ [13, 14, 15, 8, 26, 27, 28, 29, 30, 31, 32, 33, 34, 35, 36, 37, 38, 39, 40, 41, 42, 43] (by decide +kernel) (by decide +kernel)
set_option maxRecDepth 20000 in
theorem gX15_told_X15_outcome : GoodIn wsX15_told (wsV RX15 208 RX15 yX15_outcome wsX15_outcome) := goodIn_app (goodIn_of _ (by decide +kernel)) ggX15_told_X15_outcome
set_option maxRecDepth 20000 in
theorem ggX15_told_Jx4a65c_size_8abf5 : GoodIn wsX15_told wsJx4a65c_size_8abf5 := goodIn_r _ [20, 21, 44, 45, 46] (by decide +kernel) (by decide +kernel)
set_option maxRecDepth 20000 in
theorem gX15_told_Jx4a65c_size_8abf5 : GoodIn wsX15_told (wsV RX15 35 RJx4a65c yJx4a65c_size_8abf5 wsJx4a65c_size_8abf5) := goodIn_app (goodIn_of _ (by decide +kernel)) ggX15_told_Jx4a65c_size_8abf5
set_option maxRecDepth 20000 in
theorem ggX15_told_X15_leaked : GoodIn wsX15_told wsX15_leaked := goodIn_r _ [25, 4, 6, 5, 7, 26, 27, 28, 29, 30, 31, 32, 33, 34, 35, 36, 37, 38, 39, 40, 41, 42, 43] (by decide +kernel) (by decide +kernel)
set_option maxRecDepth 20000 in
theorem gX15_told_X15_leaked : GoodIn wsX15_told (wsV RX15 211 RX15 yX15_leaked wsX15_leaked) := goodIn_app (goodIn_of _ (by decide +kernel)) ggX15_told_X15_leaked
theorem dX15_told_0 : decode cX15_told 0 = .ok (.bipush 9, 2) := by decide +kernel
theorem dX15_told_2 : decode cX15_told 2 = .ok (.newarray .int, 2) := by decide +kernel
theorem dX15_told_4 : decode cX15_told 4 = .ok (.dup, 1) := by decide +kernel
theorem dX15_told_5 : decode cX15_told 5 = .ok (.iconst 0, 1) := by decide +kernel
theorem dX15_told_6 : decode cX15_told 6 = .ok (.aload_n 0, 1) := by decide +kernel
theorem dX15_told_7 : decode cX15_told 7 = .ok (.invokevirtual 208, 3) := by decide +kernel
theorem dX15_told_10 : decode cX15_told 10 = .ok (.iastore, 1) := by decide +kernel
theorem dX15_told_11 : decode cX15_told 11 = .ok (.dup, 1) := by decide +kernel
theorem dX15_told_12 : decode cX15_told 12 = .ok (.iconst 1, 1) := by decide +kernel
theorem dX15_told_13 : decode cX15_told 13 = .ok (.aload_n 0, 1) := by decide +kernel
theorem dX15_told_14 : decode cX15_told 14 = .ok (.getfield 73, 3) := by decide +kernel
theorem dX15_told_17 : decode cX15_told 17 = .ok (.iastore, 1) := by decide +kernel
theorem dX15_told_18 : decode cX15_told 18 = .ok (.dup, 1) := by decide +kernel
theorem dX15_told_19 : decode cX15_told 19 = .ok (.iconst 2, 1) := by decide +kernel
theorem dX15_told_20 : decode cX15_told 20 = .ok (.aload_n 0, 1) := by decide +kernel
theorem dX15_told_21 : decode cX15_told 21 = .ok (.getfield 12, 3) := by decide +kernel
theorem dX15_told_24 : decode cX15_told 24 = .ok (.invokevirtual 35, 3) := by decide +kernel
theorem dX15_told_27 : decode cX15_told 27 = .ok (.iastore, 1) := by decide +kernel
theorem dX15_told_28 : decode cX15_told 28 = .ok (.dup, 1) := by decide +kernel
theorem dX15_told_29 : decode cX15_told 29 = .ok (.iconst 3, 1) := by decide +kernel
theorem dX15_told_30 : decode cX15_told 30 = .ok (.aload_n 0, 1) := by decide +kernel
theorem dX15_told_31 : decode cX15_told 31 = .ok (.getfield 101, 3) := by decide +kernel
theorem dX15_told_34 : decode cX15_told 34 = .ok (.iastore, 1) := by decide +kernel
theorem dX15_told_35 : decode cX15_told 35 = .ok (.dup, 1) := by decide +kernel
theorem dX15_told_36 : decode cX15_told 36 = .ok (.iconst 4, 1) := by decide +kernel
theorem dX15_told_37 : decode cX15_told 37 = .ok (.aload_n 0, 1) := by decide +kernel
theorem dX15_told_38 : decode cX15_told 38 = .ok (.getfield 107, 3) := by decide +kernel
theorem dX15_told_41 : decode cX15_told 41 = .ok (.iastore, 1) := by decide +kernel
theorem dX15_told_42 : decode cX15_told 42 = .ok (.dup, 1) := by decide +kernel
theorem dX15_told_43 : decode cX15_told 43 = .ok (.iconst 5, 1) := by decide +kernel
theorem dX15_told_44 : decode cX15_told 44 = .ok (.aload_n 0, 1) := by decide +kernel
theorem dX15_told_45 : decode cX15_told 45 = .ok (.getfield 104, 3) := by decide +kernel
theorem dX15_told_48 : decode cX15_told 48 = .ok (.iastore, 1) := by decide +kernel
theorem dX15_told_49 : decode cX15_told 49 = .ok (.dup, 1) := by decide +kernel
theorem dX15_told_50 : decode cX15_told 50 = .ok (.bipush 6, 2) := by decide +kernel
theorem dX15_told_52 : decode cX15_told 52 = .ok (.aload_n 0, 1) := by decide +kernel
theorem dX15_told_53 : decode cX15_told 53 = .ok (.getfield 110, 3) := by decide +kernel
theorem dX15_told_56 : decode cX15_told 56 = .ok (.iastore, 1) := by decide +kernel
theorem dX15_told_57 : decode cX15_told 57 = .ok (.dup, 1) := by decide +kernel
theorem dX15_told_58 : decode cX15_told 58 = .ok (.bipush 7, 2) := by decide +kernel
theorem dX15_told_60 : decode cX15_told 60 = .ok (.aload_n 0, 1) := by decide +kernel
theorem dX15_told_61 : decode cX15_told 61 = .ok (.invokevirtual 211, 3) := by decide +kernel
theorem dX15_told_64 : decode cX15_told 64 = .ok (.iastore, 1) := by decide +kernel
theorem dX15_told_65 : decode cX15_told 65 = .ok (.dup, 1) := by decide +kernel
theorem dX15_told_66 : decode cX15_told 66 = .ok (.bipush 8, 2) := by decide +kernel
theorem dX15_told_68 : decode cX15_told 68 = .ok (.aload_n 0, 1) := by decide +kernel
theorem dX15_told_69 : decode cX15_told 69 = .ok (.getfield 18, 3) := by decide +kernel
theorem dX15_told_72 : decode cX15_told 72 = .ok (.iastore, 1) := by decide +kernel
theorem dX15_told_73 : decode cX15_told 73 = .ok (.astore_n 2, 1) := by decide +kernel
theorem dX15_told_74 : decode cX15_told 74 = .ok (.aload_n 2, 1) := by decide +kernel
theorem dX15_told_75 : decode cX15_told 75 = .ok (.iload_n 1, 1) := by decide +kernel
theorem dX15_told_76 : decode cX15_told 76 = .ok (.iaload, 1) := by decide +kernel
theorem dX15_told_77 : decode cX15_told 77 = .ok (.ireturn, 1) := by decide +kernel
theorem dX16_isIn_0 : decode cX16_isIn 0 = .ok (.iload_n 0, 1) := by decide +kernel
theorem dX16_isIn_1 : decode cX16_isIn 1 = .ok (.iload_n 1, 1) := by decide +kernel
theorem dX16_isIn_2 : decode cX16_isIn 2 = .ok (.if_icmp .lt 12, 3) := by decide +kernel
theorem dX16_isIn_5 : decode cX16_isIn 5 = .ok (.iload_n 0, 1) := by decide +kernel
theorem dX16_isIn_6 : decode cX16_isIn 6 = .ok (.iload_n 2, 1) := by decide +kernel
theorem dX16_isIn_7 : decode cX16_isIn 7 = .ok (.if_icmp .gt 7, 3) := by decide +kernel
theorem dX16_isIn_10 : decode cX16_isIn 10 = .ok (.iconst 1, 1) := by decide +kernel
theorem dX16_isIn_11 : decode cX16_isIn 11 = .ok (.goto 4, 3) := by decide +kernel
theorem dX16_isIn_14 : decode cX16_isIn 14 = .ok (.iconst 0, 1) := by decide +kernel
theorem dX16_isIn_15 : decode cX16_isIn 15 = .ok (.ireturn, 1) := by decide +kernel
theorem dX16_has_0 : decode cX16_has 0 = .ok (.iload_n 0, 1) := by decide +kernel
theorem dX16_has_1 : decode cX16_has 1 = .ok (.iload_n 1, 1) := by decide +kernel
theorem dX16_has_2 : decode cX16_has 2 = .ok (.ishr, 1) := by decide +kernel
theorem dX16_has_3 : decode cX16_has 3 = .ok (.iconst 1, 1) := by decide +kernel
theorem dX16_has_4 : decode cX16_has 4 = .ok (.iand, 1) := by decide +kernel
theorem dX16_has_5 : decode cX16_has 5 = .ok (.iconst 1, 1) := by decide +kernel
theorem dX16_has_6 : decode cX16_has 6 = .ok (.if_icmp .ne 7, 3) := by decide +kernel
theorem dX16_has_9 : decode cX16_has 9 = .ok (.iconst 1, 1) := by decide +kernel
theorem dX16_has_10 : decode cX16_has 10 = .ok (.goto 4, 3) := by decide +kernel
theorem dX16_has_13 : decode cX16_has 13 = .ok (.iconst 0, 1) := by decide +kernel
theorem dX16_has_14 : decode cX16_has 14 = .ok (.ireturn, 1) := by decide +kernel
set_option maxRecDepth 20000 in
theorem ggX16_init_X14_init : GoodIn wsX16_init wsX14_init := goodIn_r _ [9, 10, 2, 3, 11, 12, 13, 14, 15, 16, 17, 18, 19, 20, 21, 22, 23, 24, 25, 26, 27, 28, 29, 30, 37, 38, 39, 31, 32] (by decide +kernel) (by decide +kernel)
set_option maxRecDepth 20000 in
theorem gX16_init_X14_init_n9 : GoodIn wsX16_init (wsX14_init) := ggX16_init_X14_init
theorem dX16_init_0 : decode cX16_init 0 = .ok (.aload_n 0, 1) := by decide +kernel
theorem dX16_init_1 : decode cX16_init 1 = .ok (.invokespecial 1, 3) := by decide +kernel
theorem dX16_init_4 : decode cX16_init 4 = .ok (.aload_n 0, 1) := by decide +kernel
theorem dX16_init_5 : decode cX16_init 5 = .ok (.new 7, 3) := by decide +kernel
theorem dX16_init_8 : decode cX16_init 8 = .ok (.dup, 1) := by decide +kernel
theorem dX16_init_9 : decode cX16_init 9 = .ok (.invokespecial 9, 3) := by decide +kernel
theorem dX16_init_12 : decode cX16_init 12 = .ok (.putfield 10, 3) := by decide +kernel
theorem dX16_init_15 : decode cX16_init 15 = .ok (.return_, 1) := by decide +kernel
theorem dX16_thrown_0 : decode cX16_thrown 0 = .ok (.aload_n 0, 1) := by decide +kernel
theorem dX16_thrown_1 : decode cX16_thrown 1 = .ok (.getfield 16, 3) := by decide +kernel
theorem dX16_thrown_4 : decode cX16_thrown 4 = .ok (.ireturn, 1) := by decide +kernel
theorem dX16_refuse_0 : decode cX16_refuse 0 = .ok (.iload_n 1, 1) := by decide +kernel
theorem dX16_refuse_1 : decode cX16_refuse 1 = .ok (.ifCond .eq 15, 3) := by decide +kernel
theorem dX16_refuse_4 : decode cX16_refuse 4 = .ok (.aload_n 0, 1) := by decide +kernel
theorem dX16_refuse_5 : decode cX16_refuse 5 = .ok (.getfield 16, 3) := by decide +kernel
theorem dX16_refuse_8 : decode cX16_refuse 8 = .ok (.ifCond .ne 8, 3) := by decide +kernel
theorem dX16_refuse_11 : decode cX16_refuse 11 = .ok (.aload_n 0, 1) := by decide +kernel
theorem dX16_refuse_12 : decode cX16_refuse 12 = .ok (.iload_n 2, 1) := by decide +kernel
theorem dX16_refuse_13 : decode cX16_refuse 13 = .ok (.putfield 16, 3) := by decide +kernel
theorem dX16_refuse_16 : decode cX16_refuse 16 = .ok (.aload_n 0, 1) := by decide +kernel
theorem dX16_refuse_17 : decode cX16_refuse 17 = .ok (.getfield 16, 3) := by decide +kernel
theorem dX16_refuse_20 : decode cX16_refuse 20 = .ok (.ifCond .le 7, 3) := by decide +kernel
theorem dX16_refuse_23 : decode cX16_refuse 23 = .ok (.iconst 1, 1) := by decide +kernel
theorem dX16_refuse_24 : decode cX16_refuse 24 = .ok (.goto 4, 3) := by decide +kernel
theorem dX16_refuse_27 : decode cX16_refuse 27 = .ok (.iconst 0, 1) := by decide +kernel
theorem dX16_refuse_28 : decode cX16_refuse 28 = .ok (.ireturn, 1) := by decide +kernel
set_option maxRecDepth 20000 in
theorem ggX16_start_X16_refuse : GoodIn wsX16_start wsX16_refuse := goodIn_r _ [6, 1, 7, 8, 9, 10] (by decide +kernel) (by decide +kernel)
set_option maxRecDepth 20000 in
theorem gX16_start_X16_refuse : GoodIn wsX16_start (wsV RX16 20 RX16 yX16_refuse wsX16_refuse) := goodIn_app (goodIn_of _ (by decide +kernel)) ggX16_start_X16_refuse
theorem dX16_start_0 : decode cX16_start 0 = .ok (.aload_n 0, 1) := by decide +kernel
theorem dX16_start_1 : decode cX16_start 1 = .ok (.iconst 0, 1) := by decide +kernel
theorem dX16_start_2 : decode cX16_start 2 = .ok (.putfield 16, 3) := by decide +kernel
theorem dX16_start_5 : decode cX16_start 5 = .ok (.aload_n 0, 1) := by decide +kernel
theorem dX16_start_6 : decode cX16_start 6 = .ok (.iload_n 1, 1) := by decide +kernel
theorem dX16_start_7 : decode cX16_start 7 = .ok (.iload_n 2, 1) := by decide +kernel
theorem dX16_start_8 : decode cX16_start 8 = .ok (.invokevirtual 20, 3) := by decide +kernel
theorem dX16_start_11 : decode cX16_start 11 = .ok (.ireturn, 1) := by decide +kernel
set_option maxRecDepth 20000 in
theorem ggX16_check_X11_init : GoodIn wsX16_check wsX11_init := goodIn_r _ [7, 8, 9, 10, 11, 12, 13, 14, 15, 16, 17, 18, 19, 20, 21, 22, 23, 24, 25, 26, 27, 28, 29, 30, 31, 32, 33, 34, 35, 3, 36, 37, 38, 39, 40, 41, 42, 43, 44, 45, 46, 47, 48, 49, 50, 51, 52, 53, 54, 55, 56, 57, 58, 59, 60, 61, 62, 63, 64, 65, 66, 67, 68, 69, 70, 71, 72, 73, 74, 75, 76, 77, 78, 79, 80, 81, 82, 83, 84, 85, 86, 87, 88, 89, 90, 91, 92, 93, 94, 95, 96, 97, 98, 99, 100, 101, 102, 103, 104, 105, 106, 107, 108, 109, 110, 111, 112, 113, 114, 115, 116, 117, 118, 119, 120, 121, 122, 123, 124, 125, 126, 127, 128, 129, 130, 131, 132, 133, 134, 135, 136, 137, 138, 139, 140, 141, 142, 143, 144, 145, 146, 147, 148, 149, 150, 151, 152, 153, 154, 155, 156, 157, 158, 159, 160, 161, 162, 163, 164, 165, 166, 167, 168, 169, 170, 171, 172, 173, 174, 175, 176, 177, 178, 179, 180, 181, 182, 183, 184, 185, 186, 187, 188, 189, 190, 191, 192, 193, 194, 195, 196, 197, 198, 199, 200, 201, 202, 203, 204, 205, 206, 207, 208, 209, 210, 211, 212, 213, 214, 215, 216, 217, 218, 219, 220, 221, 222, 223, 224, 225, 226, 227, 228, 229, 230, 231, 232, 233, 234, 235, 236, 237, 238, 239, 240, 241, 242, 243, 244, 245, 246, 247, 248, 249, 250, 251, 252, 253, 254, 255, 256, 257, 258, 259, 260, 265, 266, 267, 268, 269, 270, 271, 272, 273] (by decide +kernel) (by decide +kernel)
set_option maxRecDepth 20000 in
theorem gX16_check_X11_init : GoodIn wsX16_check (wsX11_init) := ggX16_check_X11_init
theorem dX16_check_0 : decode cX16_check 0 = .ok (.new 24, 3) := by decide +kernel
theorem dX16_check_3 : decode cX16_check 3 = .ok (.dup, 1) := by decide +kernel
theorem dX16_check_4 : decode cX16_check 4 = .ok (.aload_n 0, 1) := by decide +kernel
theorem dX16_check_5 : decode cX16_check 5 = .ok (.getfield 10, 3) := by decide +kernel
theorem dX16_check_8 : decode cX16_check 8 = .ok (.invokespecial 26, 3) := by decide +kernel
theorem dX16_check_11 : decode cX16_check 11 = .ok (.areturn, 1) := by decide +kernel
set_option maxRecDepth 20000 in
theorem ggX16_variable_X16_isIn : GoodIn wsX16_variable wsX16_isIn := goodIn_r _ [6] (by decide +kernel) (by decide +kernel)
set_option maxRecDepth 20000 in
theorem gX16_variable_X16_isIn : GoodIn wsX16_variable (va_wsS RX16 29 yX16_isIn wsX16_isIn) := goodIn_app (goodIn_of _ (by decide +kernel)) ggX16_variable_X16_isIn
set_option maxRecDepth 20000 in
theorem ggX16_variable_X16_start : GoodIn wsX16_variable wsX16_start := goodIn_r _ [10, 11, 12, 13, 14, 5, 15, 95, 96, 97, 98] (by decide +kernel) (by decide +kernel)
set_option maxRecDepth 20000 in
theorem gX16_variable_X16_start : GoodIn wsX16_variable (wsV RX16 33 RX16 yX16_start wsX16_start) := goodIn_app (goodIn_of _ (by decide +kernel)) ggX16_variable_X16_start
set_option maxRecDepth 20000 in
theorem ggX16_variable_Jx4a65c_size_8abf5 : GoodIn wsX16_variable wsJx4a65c_size_8abf5 := goodIn_r _ [20, 21, 101, 102, 103] (by decide +kernel) (by decide +kernel)
set_option maxRecDepth 20000 in
theorem gX16_variable_Jx4a65c_size_8abf5 : GoodIn wsX16_variable (wsV RX16 40 RJx4a65c yJx4a65c_size_8abf5 wsJx4a65c_size_8abf5) := goodIn_app (goodIn_of _ (by decide +kernel)) ggX16_variable_Jx4a65c_size_8abf5
set_option maxRecDepth 20000 in
theorem ggX16_variable_X16_refuse : GoodIn wsX16_variable wsX16_refuse := goodIn_r _ [15, 11, 95, 96, 97, 98] (by decide +kernel) (by decide +kernel)
set_option maxRecDepth 20000 in
theorem gX16_variable_X16_refuse : GoodIn wsX16_variable (wsV RX16 20 RX16 yX16_refuse wsX16_refuse) := goodIn_app (goodIn_of _ (by decide +kernel)) ggX16_variable_X16_refuse
set_option maxRecDepth 20000 in
theorem ggX16_variable_J6_valueOf_2dffe : GoodIn wsX16_variable wsJ6_valueOf_2dffe := goodIn_r _ [25, 26, 27, 28, 29, 24, 30, 31, 32, 33, 34, 35, 36, 37, 38, 39, 40, 104] (by decide +kernel) (by decide +kernel)
set_option maxRecDepth 20000 in
theorem gX16_variable_J6_valueOf_2dffe : GoodIn wsX16_variable (va_wsS RX16 46 yJ6_valueOf_2dffe wsJ6_valueOf_2dffe) := goodIn_app (goodIn_of _ (by decide +kernel)) ggX16_variable_J6_valueOf_2dffe
set_option maxRecDepth 20000 in
theorem ggX16_variable_Jx4a65c_add_9ea2d : GoodIn wsX16_variable wsJx4a65c_add_9ea2d := goodIn_r _ [44, 45, 46, 47, 21, 48, 49, 50, 19, 51, 52, 53, 54, 55, 56, 57, 58, 59, 60, 61, 62, 63, 64, 65, 66, 67, 68, 69, 70, 71, 72, 73, 74, 75, 76, 77, 78, 79, 80, 81, 82, 83, 84, 85, 86, 87, 88, 89, 90, 91, 92, 93, 94, 101, 102, 103] (by decide +kernel) (by decide +kernel)
set_option maxRecDepth 20000 in
theorem gX16_variable_Jx4a65c_add_9ea2d : GoodIn wsX16_variable (wsV RX16 52 RJx4a65c yJx4a65c_add_9ea2d wsJx4a65c_add_9ea2d) := goodIn_app (goodIn_of _ (by decide +kernel)) ggX16_variable_Jx4a65c_add_9ea2d
theorem dX16_variable_0 : decode cX16_variable 0 = .ok (.aload_n 0, 1) := by decide +kernel
theorem dX16_variable_1 : decode cX16_variable 1 = .ok (.iload_n 1, 1) := by decide +kernel
theorem dX16_variable_2 : decode cX16_variable 2 = .ok (.iconst 0, 1) := by decide +kernel
theorem dX16_variable_3 : decode cX16_variable 3 = .ok (.iconst 5, 1) := by decide +kernel
theorem dX16_variable_4 : decode cX16_variable 4 = .ok (.invokestatic 29, 3) := by decide +kernel
theorem dX16_variable_7 : decode cX16_variable 7 = .ok (.ifCond .ne 7, 3) := by decide +kernel
theorem dX16_variable_10 : decode cX16_variable 10 = .ok (.iconst 1, 1) := by decide +kernel
theorem dX16_variable_11 : decode cX16_variable 11 = .ok (.goto 4, 3) := by decide +kernel
theorem dX16_variable_14 : decode cX16_variable 14 = .ok (.iconst 0, 1) := by decide +kernel
theorem dX16_variable_15 : decode cX16_variable 15 = .ok (.iconst 1, 1) := by decide +kernel
theorem dX16_variable_16 : decode cX16_variable 16 = .ok (.invokevirtual 33, 3) := by decide +kernel
theorem dX16_variable_19 : decode cX16_variable 19 = .ok (.ifCond .ne 31, 3) := by decide +kernel
theorem dX16_variable_22 : decode cX16_variable 22 = .ok (.aload_n 0, 1) := by decide +kernel
theorem dX16_variable_23 : decode cX16_variable 23 = .ok (.aload_n 0, 1) := by decide +kernel
theorem dX16_variable_24 : decode cX16_variable 24 = .ok (.getfield 10, 3) := by decide +kernel
theorem dX16_variable_27 : decode cX16_variable 27 = .ok (.getfield 36, 3) := by decide +kernel
theorem dX16_variable_30 : decode cX16_variable 30 = .ok (.invokevirtual 40, 3) := by decide +kernel
theorem dX16_variable_33 : decode cX16_variable 33 = .ok (.bipush 8, 2) := by decide +kernel
theorem dX16_variable_35 : decode cX16_variable 35 = .ok (.if_icmp .ne 7, 3) := by decide +kernel
theorem dX16_variable_38 : decode cX16_variable 38 = .ok (.iconst 1, 1) := by decide +kernel
theorem dX16_variable_39 : decode cX16_variable 39 = .ok (.goto 4, 3) := by decide +kernel
theorem dX16_variable_42 : decode cX16_variable 42 = .ok (.iconst 0, 1) := by decide +kernel
theorem dX16_variable_43 : decode cX16_variable 43 = .ok (.iconst 2, 1) := by decide +kernel
theorem dX16_variable_44 : decode cX16_variable 44 = .ok (.invokevirtual 20, 3) := by decide +kernel
theorem dX16_variable_47 : decode cX16_variable 47 = .ok (.ifCond .eq 5, 3) := by decide +kernel
theorem dX16_variable_50 : decode cX16_variable 50 = .ok (.iconst 0, 1) := by decide +kernel
theorem dX16_variable_51 : decode cX16_variable 51 = .ok (.ireturn, 1) := by decide +kernel
theorem dX16_variable_52 : decode cX16_variable 52 = .ok (.aload_n 0, 1) := by decide +kernel
theorem dX16_variable_53 : decode cX16_variable 53 = .ok (.getfield 10, 3) := by decide +kernel
theorem dX16_variable_56 : decode cX16_variable 56 = .ok (.getfield 36, 3) := by decide +kernel
theorem dX16_variable_59 : decode cX16_variable 59 = .ok (.iload_n 1, 1) := by decide +kernel
theorem dX16_variable_60 : decode cX16_variable 60 = .ok (.invokestatic 46, 3) := by decide +kernel
theorem dX16_variable_63 : decode cX16_variable 63 = .ok (.invokevirtual 52, 3) := by decide +kernel
theorem dX16_variable_66 : decode cX16_variable 66 = .ok (.pop, 1) := by decide +kernel
theorem dX16_variable_67 : decode cX16_variable 67 = .ok (.aload_n 0, 1) := by decide +kernel
theorem dX16_variable_68 : decode cX16_variable 68 = .ok (.getfield 10, 3) := by decide +kernel
theorem dX16_variable_71 : decode cX16_variable 71 = .ok (.getfield 36, 3) := by decide +kernel
theorem dX16_variable_74 : decode cX16_variable 74 = .ok (.invokevirtual 40, 3) := by decide +kernel
theorem dX16_variable_77 : decode cX16_variable 77 = .ok (.iconst 1, 1) := by decide +kernel
theorem dX16_variable_78 : decode cX16_variable 78 = .ok (.isub, 1) := by decide +kernel
theorem dX16_variable_79 : decode cX16_variable 79 = .ok (.ireturn, 1) := by decide +kernel
set_option maxRecDepth 20000 in
theorem ggX16_add_X14_isLine : GoodIn wsX16_add wsX14_isLine := goodIn_r _ [10, 11, 12, 13, 9, 14, 15, 16, 17, 18, 19, 20, 21, 22, 23, 24, 25, 26, 27, 28, 29, 30, 31, 32, 33, 34, 35, 36, 37, 38, 39, 40, 41, 42, 43, 44, 45, 46, 47, 48, 49, 50, 51, 52, 53, 54, 55, 56, 57, 58, 59, 60, 61, 62, 63, 183, 184, 185, 186, 187, 188] (by decide +kernel) (by decide +kernel)
set_option maxRecDepth 20000 in
theorem gX16_add_X14_isLine : GoodIn wsX16_add (wsV RX16 56 RX14 yX14_isLine wsX14_isLine) := goodIn_app (goodIn_of _ (by decide +kernel)) ggX16_add_X14_isLine
set_option maxRecDepth 20000 in
theorem ggX16_add_X16_start : GoodIn wsX16_add wsX16_start := goodIn_r _ [67, 68, 69, 70, 71, 24, 72, 176, 177, 178, 179] (by decide +kernel) (by decide +kernel)
set_option maxRecDepth 20000 in
theorem gX16_add_X16_start : GoodIn wsX16_add (wsV RX16 33 RX16 yX16_start wsX16_start) := goodIn_app (goodIn_of _ (by decide +kernel)) ggX16_add_X16_start
set_option maxRecDepth 20000 in
theorem ggX16_add_X12_init : GoodIn wsX16_add wsX12_init := goodIn_r _ [75, 76, 77, 78, 79, 80, 81, 180, 181, 182] (by decide +kernel) (by decide +kernel)
set_option maxRecDepth 20000 in
theorem gX16_add_X12_init : GoodIn wsX16_add (wsX12_init) := ggX16_add_X12_init
set_option maxRecDepth 20000 in
theorem ggX16_add_Jx4a65c_size_8abf5 : GoodIn wsX16_add wsJx4a65c_size_8abf5 := goodIn_r _ [21, 22, 185, 186, 187] (by decide +kernel) (by decide +kernel)
set_option maxRecDepth 20000 in
theorem gX16_add_Jx4a65c_size_8abf5 : GoodIn wsX16_add (wsV RX16 40 RJx4a65c yJx4a65c_size_8abf5 wsJx4a65c_size_8abf5) := goodIn_app (goodIn_of _ (by decide +kernel)) ggX16_add_Jx4a65c_size_8abf5
set_option maxRecDepth 20000 in
theorem ggX16_add_X12_isLoan : GoodIn wsX16_add wsX12_isLoan := goodIn_r _ [86, 79, 180, 181, 182] (by decide +kernel) (by decide +kernel)
set_option maxRecDepth 20000 in
theorem gX16_add_X12_isLoan : GoodIn wsX16_add (wsV RX16 67 RX12 yX12_isLoan wsX12_isLoan) := goodIn_app (goodIn_of _ (by decide +kernel)) ggX16_add_X12_isLoan
set_option maxRecDepth 20000 in
theorem ggX16_add_X14_loans : GoodIn wsX16_add wsX14_loans := goodIn_r _ [90, 91, 92, 93, 94, 95, 20, 96, 97, 98, 99, 100, 101, 102, 103, 104, 77, 78, 105, 106, 107, 108, 109, 110, 111, 112, 113, 114, 115, 116, 117, 118, 119, 120, 121, 122, 123, 84, 85, 4, 86, 79, 183, 184, 189, 190, 191, 192, 185, 186, 187, 180, 181, 182] (by decide +kernel) (by decide +kernel)
set_option maxRecDepth 20000 in
theorem gX16_add_X14_loans : GoodIn wsX16_add (wsV RX16 71 RX14 yX14_loans wsX14_loans) := goodIn_app (goodIn_of _ (by decide +kernel)) ggX16_add_X14_loans
set_option maxRecDepth 20000 in
theorem ggX16_add_X16_refuse : GoodIn wsX16_add wsX16_refuse := goodIn_r _ [72, 68, 176, 177, 178, 179] (by decide +kernel) (by decide +kernel)
set_option maxRecDepth 20000 in
theorem gX16_add_X16_refuse : GoodIn wsX16_add (wsV RX16 20 RX16 yX16_refuse wsX16_refuse) := goodIn_app (goodIn_of _ (by decide +kernel)) ggX16_add_X16_refuse
set_option maxRecDepth 20000 in
theorem ggX16_add_Jx4a65c_add_9ea2d : GoodIn wsX16_add wsJx4a65c_add_9ea2d := goodIn_r _ [127, 128, 107, 42, 22, 129, 130, 131, 20, 132, 133, 134, 135, 136, 137, 138, 139, 140, 141, 142, 143, 144, 145, 146, 147, 148, 149, 150, 151, 152, 153, 154, 155, 156, 157, 158, 159, 160, 161, 162, 163, 164, 165, 166, 167, 168, 169, 170, 171, 172, 173, 174, 175, 185, 186, 187] (by decide +kernel) (by decide +kernel)
set_option maxRecDepth 20000 in
theorem gX16_add_Jx4a65c_add_9ea2d : GoodIn wsX16_add (wsV RX16 52 RJx4a65c yJx4a65c_add_9ea2d wsJx4a65c_add_9ea2d) := goodIn_app (goodIn_of _ (by decide +kernel)) ggX16_add_Jx4a65c_add_9ea2d
theorem dX16_add_0 : decode cX16_add 0 = .ok (.aload_n 0, 1) := by decide +kernel
theorem dX16_add_1 : decode cX16_add 1 = .ok (.aload_n 0, 1) := by decide +kernel
theorem dX16_add_2 : decode cX16_add 2 = .ok (.getfield 10, 3) := by decide +kernel
theorem dX16_add_5 : decode cX16_add 5 = .ok (.iload_n 1, 1) := by decide +kernel
theorem dX16_add_6 : decode cX16_add 6 = .ok (.iload_n 2, 1) := by decide +kernel
theorem dX16_add_7 : decode cX16_add 7 = .ok (.iload_n 3, 1) := by decide +kernel
theorem dX16_add_8 : decode cX16_add 8 = .ok (.invokevirtual 56, 3) := by decide +kernel
theorem dX16_add_11 : decode cX16_add 11 = .ok (.ifCond .ne 7, 3) := by decide +kernel
theorem dX16_add_14 : decode cX16_add 14 = .ok (.iconst 1, 1) := by decide +kernel
theorem dX16_add_15 : decode cX16_add 15 = .ok (.goto 4, 3) := by decide +kernel
theorem dX16_add_18 : decode cX16_add 18 = .ok (.iconst 0, 1) := by decide +kernel
theorem dX16_add_19 : decode cX16_add 19 = .ok (.iconst 1, 1) := by decide +kernel
theorem dX16_add_20 : decode cX16_add 20 = .ok (.invokevirtual 33, 3) := by decide +kernel
theorem dX16_add_23 : decode cX16_add 23 = .ok (.ifCond .eq 5, 3) := by decide +kernel
theorem dX16_add_26 : decode cX16_add 26 = .ok (.iconst 0, 1) := by decide +kernel
theorem dX16_add_27 : decode cX16_add 27 = .ok (.ireturn, 1) := by decide +kernel
theorem dX16_add_28 : decode cX16_add 28 = .ok (.new 59, 3) := by decide +kernel
theorem dX16_add_31 : decode cX16_add 31 = .ok (.dup, 1) := by decide +kernel
theorem dX16_add_32 : decode cX16_add 32 = .ok (.iload_n 1, 1) := by decide +kernel
theorem dX16_add_33 : decode cX16_add 33 = .ok (.iload_n 2, 1) := by decide +kernel
theorem dX16_add_34 : decode cX16_add 34 = .ok (.iload_n 3, 1) := by decide +kernel
theorem dX16_add_35 : decode cX16_add 35 = .ok (.invokespecial 61, 3) := by decide +kernel
theorem dX16_add_38 : decode cX16_add 38 = .ok (.astore 4, 2) := by decide +kernel
theorem dX16_add_40 : decode cX16_add 40 = .ok (.aload_n 0, 1) := by decide +kernel
theorem dX16_add_41 : decode cX16_add 41 = .ok (.aload_n 0, 1) := by decide +kernel
theorem dX16_add_42 : decode cX16_add 42 = .ok (.getfield 10, 3) := by decide +kernel
theorem dX16_add_45 : decode cX16_add 45 = .ok (.getfield 64, 3) := by decide +kernel
theorem dX16_add_48 : decode cX16_add 48 = .ok (.invokevirtual 40, 3) := by decide +kernel
theorem dX16_add_51 : decode cX16_add 51 = .ok (.bipush 32, 2) := by decide +kernel
theorem dX16_add_53 : decode cX16_add 53 = .ok (.if_icmp .eq 23, 3) := by decide +kernel
theorem dX16_add_56 : decode cX16_add 56 = .ok (.aload 4, 2) := by decide +kernel
theorem dX16_add_58 : decode cX16_add 58 = .ok (.invokevirtual 67, 3) := by decide +kernel
theorem dX16_add_61 : decode cX16_add 61 = .ok (.ifCond .eq 19, 3) := by decide +kernel
theorem dX16_add_64 : decode cX16_add 64 = .ok (.aload_n 0, 1) := by decide +kernel
theorem dX16_add_65 : decode cX16_add 65 = .ok (.getfield 10, 3) := by decide +kernel
theorem dX16_add_68 : decode cX16_add 68 = .ok (.invokevirtual 71, 3) := by decide +kernel
theorem dX16_add_71 : decode cX16_add 71 = .ok (.bipush 16, 2) := by decide +kernel
theorem dX16_add_73 : decode cX16_add 73 = .ok (.if_icmp .ne 7, 3) := by decide +kernel
theorem dX16_add_76 : decode cX16_add 76 = .ok (.iconst 1, 1) := by decide +kernel
theorem dX16_add_77 : decode cX16_add 77 = .ok (.goto 4, 3) := by decide +kernel
theorem dX16_add_80 : decode cX16_add 80 = .ok (.iconst 0, 1) := by decide +kernel
theorem dX16_add_81 : decode cX16_add 81 = .ok (.iconst 2, 1) := by decide +kernel
theorem dX16_add_82 : decode cX16_add 82 = .ok (.invokevirtual 20, 3) := by decide +kernel
theorem dX16_add_85 : decode cX16_add 85 = .ok (.ifCond .eq 5, 3) := by decide +kernel
theorem dX16_add_88 : decode cX16_add 88 = .ok (.iconst 0, 1) := by decide +kernel
theorem dX16_add_89 : decode cX16_add 89 = .ok (.ireturn, 1) := by decide +kernel
theorem dX16_add_90 : decode cX16_add 90 = .ok (.aload_n 0, 1) := by decide +kernel
theorem dX16_add_91 : decode cX16_add 91 = .ok (.getfield 10, 3) := by decide +kernel
theorem dX16_add_94 : decode cX16_add 94 = .ok (.getfield 64, 3) := by decide +kernel
theorem dX16_add_97 : decode cX16_add 97 = .ok (.aload 4, 2) := by decide +kernel
theorem dX16_add_99 : decode cX16_add 99 = .ok (.invokevirtual 52, 3) := by decide +kernel
theorem dX16_add_102 : decode cX16_add 102 = .ok (.pop, 1) := by decide +kernel
theorem dX16_add_103 : decode cX16_add 103 = .ok (.aload_n 0, 1) := by decide +kernel
theorem dX16_add_104 : decode cX16_add 104 = .ok (.getfield 10, 3) := by decide +kernel
theorem dX16_add_107 : decode cX16_add 107 = .ok (.getfield 64, 3) := by decide +kernel
theorem dX16_add_110 : decode cX16_add 110 = .ok (.invokevirtual 40, 3) := by decide +kernel
theorem dX16_add_113 : decode cX16_add 113 = .ok (.iconst 1, 1) := by decide +kernel
theorem dX16_add_114 : decode cX16_add 114 = .ok (.isub, 1) := by decide +kernel
theorem dX16_add_115 : decode cX16_add 115 = .ok (.ireturn, 1) := by decide +kernel
set_option maxRecDepth 20000 in
theorem ggX16_isNoLine_Jx4a65c_size_8abf5 : GoodIn wsX16_isNoLine wsJx4a65c_size_8abf5 := goodIn_r _ [7, 8, 19, 20, 21] (by decide +kernel) (by decide +kernel)
set_option maxRecDepth 20000 in
theorem gX16_isNoLine_Jx4a65c_size_8abf5 : GoodIn wsX16_isNoLine (wsV RX16 40 RJx4a65c yJx4a65c_size_8abf5 wsJx4a65c_size_8abf5) := goodIn_app (goodIn_of _ (by decide +kernel)) ggX16_isNoLine_Jx4a65c_size_8abf5
set_option maxRecDepth 20000 in
theorem ggX16_isNoLine_X16_isIn : GoodIn wsX16_isNoLine wsX16_isIn := goodIn_r _ [12] (by decide +kernel) (by decide +kernel)
set_option maxRecDepth 20000 in
theorem gX16_isNoLine_X16_isIn : GoodIn wsX16_isNoLine (va_wsS RX16 29 yX16_isIn wsX16_isIn) := goodIn_app (goodIn_of _ (by decide +kernel)) ggX16_isNoLine_X16_isIn
theorem dX16_isNoLine_0 : decode cX16_isNoLine 0 = .ok (.iload_n 1, 1) := by decide +kernel
theorem dX16_isNoLine_1 : decode cX16_isNoLine 1 = .ok (.iconst 0, 1) := by decide +kernel
theorem dX16_isNoLine_2 : decode cX16_isNoLine 2 = .ok (.aload_n 0, 1) := by decide +kernel
theorem dX16_isNoLine_3 : decode cX16_isNoLine 3 = .ok (.getfield 10, 3) := by decide +kernel
theorem dX16_isNoLine_6 : decode cX16_isNoLine 6 = .ok (.getfield 64, 3) := by decide +kernel
theorem dX16_isNoLine_9 : decode cX16_isNoLine 9 = .ok (.invokevirtual 40, 3) := by decide +kernel
theorem dX16_isNoLine_12 : decode cX16_isNoLine 12 = .ok (.iconst 1, 1) := by decide +kernel
theorem dX16_isNoLine_13 : decode cX16_isNoLine 13 = .ok (.isub, 1) := by decide +kernel
theorem dX16_isNoLine_14 : decode cX16_isNoLine 14 = .ok (.invokestatic 29, 3) := by decide +kernel
theorem dX16_isNoLine_17 : decode cX16_isNoLine 17 = .ok (.ifCond .ne 7, 3) := by decide +kernel
theorem dX16_isNoLine_20 : decode cX16_isNoLine 20 = .ok (.iconst 1, 1) := by decide +kernel
theorem dX16_isNoLine_21 : decode cX16_isNoLine 21 = .ok (.goto 4, 3) := by decide +kernel
theorem dX16_isNoLine_24 : decode cX16_isNoLine 24 = .ok (.iconst 0, 1) := by decide +kernel
theorem dX16_isNoLine_25 : decode cX16_isNoLine 25 = .ok (.ireturn, 1) := by decide +kernel
set_option maxRecDepth 20000 in
theorem ggX16_isNoPoint_Jx4a65c_size_8abf5 : GoodIn wsX16_isNoPoint wsJx4a65c_size_8abf5 := goodIn_r _ [7, 8, 19, 20, 21] (by decide +kernel) (by decide +kernel)
set_option maxRecDepth 20000 in
theorem gX16_isNoPoint_Jx4a65c_size_8abf5 : GoodIn wsX16_isNoPoint (wsV RX16 40 RJx4a65c yJx4a65c_size_8abf5 wsJx4a65c_size_8abf5) := goodIn_app (goodIn_of _ (by decide +kernel)) ggX16_isNoPoint_Jx4a65c_size_8abf5
set_option maxRecDepth 20000 in
theorem ggX16_isNoPoint_X16_isIn : GoodIn wsX16_isNoPoint wsX16_isIn := goodIn_r _ [12] (by decide +kernel) (by decide +kernel)
set_option maxRecDepth 20000 in
theorem gX16_isNoPoint_X16_isIn : GoodIn wsX16_isNoPoint (va_wsS RX16 29 yX16_isIn wsX16_isIn) := goodIn_app (goodIn_of _ (by decide +kernel)) ggX16_isNoPoint_X16_isIn
theorem dX16_isNoPoint_0 : decode cX16_isNoPoint 0 = .ok (.iload_n 1, 1) := by decide +kernel
theorem dX16_isNoPoint_1 : decode cX16_isNoPoint 1 = .ok (.iconst 0, 1) := by decide +kernel
theorem dX16_isNoPoint_2 : decode cX16_isNoPoint 2 = .ok (.aload_n 0, 1) := by decide +kernel
theorem dX16_isNoPoint_3 : decode cX16_isNoPoint 3 = .ok (.getfield 10, 3) := by decide +kernel
theorem dX16_isNoPoint_6 : decode cX16_isNoPoint 6 = .ok (.getfield 64, 3) := by decide +kernel
theorem dX16_isNoPoint_9 : decode cX16_isNoPoint 9 = .ok (.invokevirtual 40, 3) := by decide +kernel
theorem dX16_isNoPoint_12 : decode cX16_isNoPoint 12 = .ok (.invokestatic 29, 3) := by decide +kernel
theorem dX16_isNoPoint_15 : decode cX16_isNoPoint 15 = .ok (.ifCond .ne 7, 3) := by decide +kernel
theorem dX16_isNoPoint_18 : decode cX16_isNoPoint 18 = .ok (.iconst 1, 1) := by decide +kernel
theorem dX16_isNoPoint_19 : decode cX16_isNoPoint 19 = .ok (.goto 4, 3) := by decide +kernel
theorem dX16_isNoPoint_22 : decode cX16_isNoPoint 22 = .ok (.iconst 0, 1) := by decide +kernel
theorem dX16_isNoPoint_23 : decode cX16_isNoPoint 23 = .ok (.ireturn, 1) := by decide +kernel
set_option maxRecDepth 20000 in
theorem ggX16_put_X16_isNoLine : GoodIn wsX16_put wsX16_isNoLine := goodIn_r _ [12, 1, 2, 13, 14, 15, 16, 17, 18, 19, 20, 11, 21, 135, 136, 137, 138, 139, 140, 144, 145, 146] (by decide +kernel) (by decide +kernel)
set_option maxRecDepth 20000 in
theorem gX16_put_X16_isNoLine : GoodIn wsX16_put (wsV RX16 74 RX16 yX16_isNoLine wsX16_isNoLine) := goodIn_app (goodIn_of _ (by decide +kernel)) ggX16_put_X16_isNoLine
set_option maxRecDepth 20000 in
theorem ggX16_put_X16_start : GoodIn wsX16_put wsX16_start := goodIn_r _ [25, 26, 27, 28, 29, 11, 30, 135, 136, 137, 138] (by decide +kernel) (by decide +kernel)
set_option maxRecDepth 20000 in
theorem gX16_put_X16_start : GoodIn wsX16_put (wsV RX16 33 RX16 yX16_start wsX16_start) := goodIn_app (goodIn_of _ (by decide +kernel)) ggX16_put_X16_start
set_option maxRecDepth 20000 in
theorem ggX16_put_X14_isLine : GoodIn wsX16_put wsX14_isLine := goodIn_r _ [35, 36, 37, 38, 34, 39, 40, 41, 42, 14, 15, 16, 17, 18, 20, 11, 21, 43, 44, 45, 46, 47, 48, 49, 50, 51, 52, 53, 54, 55, 56, 57, 58, 59, 60, 61, 62, 63, 64, 65, 66, 67, 68, 69, 70, 71, 72, 73, 74, 75, 76, 77, 78, 79, 80, 139, 140, 144, 145, 146, 147] (by decide +kernel) (by decide +kernel)
set_option maxRecDepth 20000 in
theorem gX16_put_X14_isLine : GoodIn wsX16_put (wsV RX16 56 RX14 yX14_isLine wsX14_isLine) := goodIn_app (goodIn_of _ (by decide +kernel)) ggX16_put_X14_isLine
set_option maxRecDepth 20000 in
theorem ggX16_put_X16_refuse : GoodIn wsX16_put wsX16_refuse := goodIn_r _ [30, 26, 135, 136, 137, 138] (by decide +kernel) (by decide +kernel)
set_option maxRecDepth 20000 in
theorem gX16_put_X16_refuse : GoodIn wsX16_put (wsV RX16 20 RX16 yX16_refuse wsX16_refuse) := goodIn_app (goodIn_of _ (by decide +kernel)) ggX16_put_X16_refuse
set_option maxRecDepth 20000 in
theorem ggX16_put_Jx4a65c_get_915e3 : GoodIn wsX16_put wsJx4a65c_get_915e3 := goodIn_r _ [46, 18, 47, 48, 49, 50, 51, 52, 53, 54, 55, 56, 57, 16, 58, 59, 144, 145, 146] (by decide +kernel) (by decide +kernel)
set_option maxRecDepth 20000 in
theorem gX16_put_Jx4a65c_get_915e3 : GoodIn wsX16_put (wsV RX16 78 RJx4a65c yJx4a65c_get_915e3 wsJx4a65c_get_915e3) := goodIn_app (goodIn_of _ (by decide +kernel)) ggX16_put_Jx4a65c_get_915e3
set_option maxRecDepth 20000 in
theorem ggX16_put_X12_init : GoodIn wsX16_put wsX12_init := goodIn_r _ [84, 85, 86, 87, 88, 89, 90, 141, 142, 143] (by decide +kernel) (by decide +kernel)
set_option maxRecDepth 20000 in
theorem gX16_put_X12_init : GoodIn wsX16_put (wsX12_init) := ggX16_put_X12_init
set_option maxRecDepth 20000 in
theorem ggX16_put_Jx4a65c_set_bcc79 : GoodIn wsX16_put wsJx4a65c_set_bcc79 := goodIn_r _ [94, 18, 59, 47, 48, 49, 50, 51, 52, 53, 54, 55, 56, 57, 16, 58, 144, 145, 146] (by decide +kernel) (by decide +kernel)
set_option maxRecDepth 20000 in
theorem gX16_put_Jx4a65c_set_bcc79 : GoodIn wsX16_put (wsV RX16 82 RJx4a65c yJx4a65c_set_bcc79 wsJx4a65c_set_bcc79) := goodIn_app (goodIn_of _ (by decide +kernel)) ggX16_put_Jx4a65c_set_bcc79
set_option maxRecDepth 20000 in
theorem ggX16_put_X14_loans : GoodIn wsX16_put wsX14_loans := goodIn_r _ [98, 99, 100, 101, 102, 103, 16, 104, 105, 106, 107, 108, 109, 110, 111, 112, 86, 87, 113, 114, 115, 116, 117, 118, 119, 120, 121, 122, 123, 124, 125, 126, 127, 128, 129, 130, 131, 132, 133, 6, 134, 88, 139, 140, 148, 149, 150, 151, 144, 145, 146, 141, 142, 143] (by decide +kernel) (by decide +kernel)
set_option maxRecDepth 20000 in
theorem gX16_put_X14_loans : GoodIn wsX16_put (wsV RX16 71 RX14 yX14_loans wsX14_loans) := goodIn_app (goodIn_of _ (by decide +kernel)) ggX16_put_X14_loans
theorem dX16_put_0 : decode cX16_put 0 = .ok (.aload_n 0, 1) := by decide +kernel
theorem dX16_put_1 : decode cX16_put 1 = .ok (.aload_n 0, 1) := by decide +kernel
theorem dX16_put_2 : decode cX16_put 2 = .ok (.iload_n 1, 1) := by decide +kernel
theorem dX16_put_3 : decode cX16_put 3 = .ok (.invokevirtual 74, 3) := by decide +kernel
theorem dX16_put_6 : decode cX16_put 6 = .ok (.iconst 1, 1) := by decide +kernel
theorem dX16_put_7 : decode cX16_put 7 = .ok (.invokevirtual 33, 3) := by decide +kernel
theorem dX16_put_10 : decode cX16_put 10 = .ok (.ifCond .ne 30, 3) := by decide +kernel
theorem dX16_put_13 : decode cX16_put 13 = .ok (.aload_n 0, 1) := by decide +kernel
theorem dX16_put_14 : decode cX16_put 14 = .ok (.aload_n 0, 1) := by decide +kernel
theorem dX16_put_15 : decode cX16_put 15 = .ok (.getfield 10, 3) := by decide +kernel
theorem dX16_put_18 : decode cX16_put 18 = .ok (.iload_n 2, 1) := by decide +kernel
theorem dX16_put_19 : decode cX16_put 19 = .ok (.iload_n 3, 1) := by decide +kernel
theorem dX16_put_20 : decode cX16_put 20 = .ok (.iload 4, 2) := by decide +kernel
theorem dX16_put_22 : decode cX16_put 22 = .ok (.invokevirtual 56, 3) := by decide +kernel
theorem dX16_put_25 : decode cX16_put 25 = .ok (.ifCond .ne 7, 3) := by decide +kernel
theorem dX16_put_28 : decode cX16_put 28 = .ok (.iconst 1, 1) := by decide +kernel
theorem dX16_put_29 : decode cX16_put 29 = .ok (.goto 4, 3) := by decide +kernel
theorem dX16_put_32 : decode cX16_put 32 = .ok (.iconst 0, 1) := by decide +kernel
theorem dX16_put_33 : decode cX16_put 33 = .ok (.iconst 2, 1) := by decide +kernel
theorem dX16_put_34 : decode cX16_put 34 = .ok (.invokevirtual 20, 3) := by decide +kernel
theorem dX16_put_37 : decode cX16_put 37 = .ok (.ifCond .eq 5, 3) := by decide +kernel
theorem dX16_put_40 : decode cX16_put 40 = .ok (.iconst 0, 1) := by decide +kernel
theorem dX16_put_41 : decode cX16_put 41 = .ok (.ireturn, 1) := by decide +kernel
theorem dX16_put_42 : decode cX16_put 42 = .ok (.aload_n 0, 1) := by decide +kernel
theorem dX16_put_43 : decode cX16_put 43 = .ok (.getfield 10, 3) := by decide +kernel
theorem dX16_put_46 : decode cX16_put 46 = .ok (.getfield 64, 3) := by decide +kernel
theorem dX16_put_49 : decode cX16_put 49 = .ok (.iload_n 1, 1) := by decide +kernel
theorem dX16_put_50 : decode cX16_put 50 = .ok (.invokevirtual 78, 3) := by decide +kernel
theorem dX16_put_53 : decode cX16_put 53 = .ok (.checkcast 59, 3) := by decide +kernel
theorem dX16_put_56 : decode cX16_put 56 = .ok (.astore 5, 2) := by decide +kernel
theorem dX16_put_58 : decode cX16_put 58 = .ok (.aload_n 0, 1) := by decide +kernel
theorem dX16_put_59 : decode cX16_put 59 = .ok (.getfield 10, 3) := by decide +kernel
theorem dX16_put_62 : decode cX16_put 62 = .ok (.getfield 64, 3) := by decide +kernel
theorem dX16_put_65 : decode cX16_put 65 = .ok (.iload_n 1, 1) := by decide +kernel
theorem dX16_put_66 : decode cX16_put 66 = .ok (.new 59, 3) := by decide +kernel
theorem dX16_put_69 : decode cX16_put 69 = .ok (.dup, 1) := by decide +kernel
theorem dX16_put_70 : decode cX16_put 70 = .ok (.iload_n 2, 1) := by decide +kernel
theorem dX16_put_71 : decode cX16_put 71 = .ok (.iload_n 3, 1) := by decide +kernel
theorem dX16_put_72 : decode cX16_put 72 = .ok (.iload 4, 2) := by decide +kernel
theorem dX16_put_74 : decode cX16_put 74 = .ok (.invokespecial 61, 3) := by decide +kernel
theorem dX16_put_77 : decode cX16_put 77 = .ok (.invokevirtual 82, 3) := by decide +kernel
theorem dX16_put_80 : decode cX16_put 80 = .ok (.pop, 1) := by decide +kernel
theorem dX16_put_81 : decode cX16_put 81 = .ok (.aload_n 0, 1) := by decide +kernel
theorem dX16_put_82 : decode cX16_put 82 = .ok (.getfield 10, 3) := by decide +kernel
theorem dX16_put_85 : decode cX16_put 85 = .ok (.invokevirtual 71, 3) := by decide +kernel
theorem dX16_put_88 : decode cX16_put 88 = .ok (.bipush 16, 2) := by decide +kernel
theorem dX16_put_90 : decode cX16_put 90 = .ok (.if_icmp .le 26, 3) := by decide +kernel
theorem dX16_put_93 : decode cX16_put 93 = .ok (.aload_n 0, 1) := by decide +kernel
theorem dX16_put_94 : decode cX16_put 94 = .ok (.getfield 10, 3) := by decide +kernel
theorem dX16_put_97 : decode cX16_put 97 = .ok (.getfield 64, 3) := by decide +kernel
theorem dX16_put_100 : decode cX16_put 100 = .ok (.iload_n 1, 1) := by decide +kernel
theorem dX16_put_101 : decode cX16_put 101 = .ok (.aload 5, 2) := by decide +kernel
theorem dX16_put_103 : decode cX16_put 103 = .ok (.invokevirtual 82, 3) := by decide +kernel
theorem dX16_put_106 : decode cX16_put 106 = .ok (.pop, 1) := by decide +kernel
theorem dX16_put_107 : decode cX16_put 107 = .ok (.aload_n 0, 1) := by decide +kernel
theorem dX16_put_108 : decode cX16_put 108 = .ok (.iconst 1, 1) := by decide +kernel
theorem dX16_put_109 : decode cX16_put 109 = .ok (.iconst 3, 1) := by decide +kernel
theorem dX16_put_110 : decode cX16_put 110 = .ok (.invokevirtual 20, 3) := by decide +kernel
theorem dX16_put_113 : decode cX16_put 113 = .ok (.pop, 1) := by decide +kernel
theorem dX16_put_114 : decode cX16_put 114 = .ok (.iconst 0, 1) := by decide +kernel
theorem dX16_put_115 : decode cX16_put 115 = .ok (.ireturn, 1) := by decide +kernel
theorem dX16_put_116 : decode cX16_put 116 = .ok (.aload 5, 2) := by decide +kernel
theorem dX16_put_118 : decode cX16_put 118 = .ok (.getfield 86, 3) := by decide +kernel
theorem dX16_put_121 : decode cX16_put 121 = .ok (.ireturn, 1) := by decide +kernel
set_option maxRecDepth 20000 in
theorem ggX16_cut_Jx4a65c_isEmpty_aae02 : GoodIn wsX16_cut wsJx4a65c_isEmpty_aae02 := goodIn_r _ [9, 10, 57, 58, 59] (by decide +kernel) (by decide +kernel)
set_option maxRecDepth 20000 in
theorem gX16_cut_Jx4a65c_isEmpty_aae02 : GoodIn wsX16_cut (wsV RX16 89 RJx4a65c yJx4a65c_isEmpty_aae02 wsJx4a65c_isEmpty_aae02) := goodIn_app (goodIn_of _ (by decide +kernel)) ggX16_cut_Jx4a65c_isEmpty_aae02
set_option maxRecDepth 20000 in
theorem ggX16_cut_X16_start : GoodIn wsX16_cut wsX16_start := goodIn_r _ [15, 16, 17, 18, 19, 14, 20, 48, 49, 50, 51] (by decide +kernel) (by decide +kernel)
set_option maxRecDepth 20000 in
theorem gX16_cut_X16_start : GoodIn wsX16_cut (wsV RX16 33 RX16 yX16_start wsX16_start) := goodIn_app (goodIn_of _ (by decide +kernel)) ggX16_cut_X16_start
set_option maxRecDepth 20000 in
theorem ggX16_cut_Jx4a65c_size_8abf5 : GoodIn wsX16_cut wsJx4a65c_size_8abf5 := goodIn_r _ [24, 10, 57, 58, 59] (by decide +kernel) (by decide +kernel)
set_option maxRecDepth 20000 in
theorem gX16_cut_Jx4a65c_size_8abf5 : GoodIn wsX16_cut (wsV RX16 40 RJx4a65c yJx4a65c_size_8abf5 wsJx4a65c_size_8abf5) := goodIn_app (goodIn_of _ (by decide +kernel)) ggX16_cut_Jx4a65c_size_8abf5
set_option maxRecDepth 20000 in
theorem ggX16_cut_Jx4a65c_remove_915e3 : GoodIn wsX16_cut wsJx4a65c_remove_915e3 := goodIn_r _ [28, 10, 29, 30, 31, 32, 33, 34, 35, 36, 37, 38, 39, 40, 8, 41, 42, 43, 44, 45, 46, 47, 57, 58, 59] (by decide +kernel) (by decide +kernel)
set_option maxRecDepth 20000 in
theorem gX16_cut_Jx4a65c_remove_915e3 : GoodIn wsX16_cut (wsV RX16 92 RJx4a65c yJx4a65c_remove_915e3 wsJx4a65c_remove_915e3) := goodIn_app (goodIn_of _ (by decide +kernel)) ggX16_cut_Jx4a65c_remove_915e3
theorem dX16_cut_0 : decode cX16_cut 0 = .ok (.aload_n 0, 1) := by decide +kernel
theorem dX16_cut_1 : decode cX16_cut 1 = .ok (.aload_n 0, 1) := by decide +kernel
theorem dX16_cut_2 : decode cX16_cut 2 = .ok (.getfield 10, 3) := by decide +kernel
theorem dX16_cut_5 : decode cX16_cut 5 = .ok (.getfield 64, 3) := by decide +kernel
theorem dX16_cut_8 : decode cX16_cut 8 = .ok (.invokevirtual 89, 3) := by decide +kernel
theorem dX16_cut_11 : decode cX16_cut 11 = .ok (.iconst 1, 1) := by decide +kernel
theorem dX16_cut_12 : decode cX16_cut 12 = .ok (.invokevirtual 33, 3) := by decide +kernel
theorem dX16_cut_15 : decode cX16_cut 15 = .ok (.ifCond .eq 7, 3) := by decide +kernel
theorem dX16_cut_18 : decode cX16_cut 18 = .ok (.iconst 0, 1) := by decide +kernel
theorem dX16_cut_19 : decode cX16_cut 19 = .ok (.goto 31, 3) := by decide +kernel
theorem dX16_cut_22 : decode cX16_cut 22 = .ok (.aload_n 0, 1) := by decide +kernel
theorem dX16_cut_23 : decode cX16_cut 23 = .ok (.getfield 10, 3) := by decide +kernel
theorem dX16_cut_26 : decode cX16_cut 26 = .ok (.getfield 64, 3) := by decide +kernel
theorem dX16_cut_29 : decode cX16_cut 29 = .ok (.aload_n 0, 1) := by decide +kernel
theorem dX16_cut_30 : decode cX16_cut 30 = .ok (.getfield 10, 3) := by decide +kernel
theorem dX16_cut_33 : decode cX16_cut 33 = .ok (.getfield 64, 3) := by decide +kernel
theorem dX16_cut_36 : decode cX16_cut 36 = .ok (.invokevirtual 40, 3) := by decide +kernel
theorem dX16_cut_39 : decode cX16_cut 39 = .ok (.iconst 1, 1) := by decide +kernel
theorem dX16_cut_40 : decode cX16_cut 40 = .ok (.isub, 1) := by decide +kernel
theorem dX16_cut_41 : decode cX16_cut 41 = .ok (.invokevirtual 92, 3) := by decide +kernel
theorem dX16_cut_44 : decode cX16_cut 44 = .ok (.checkcast 59, 3) := by decide +kernel
theorem dX16_cut_47 : decode cX16_cut 47 = .ok (.getfield 86, 3) := by decide +kernel
theorem dX16_cut_50 : decode cX16_cut 50 = .ok (.ireturn, 1) := by decide +kernel
set_option maxRecDepth 20000 in
theorem ggX16_ofLineNow_Jx4a65c_get_915e3 : GoodIn wsX16_ofLineNow wsJx4a65c_get_915e3 := goodIn_r _ [13, 14, 15, 16, 17, 18, 19, 20, 21, 22, 23, 24, 25, 12, 26, 27, 52, 53, 54] (by decide +kernel) (by decide +kernel)
set_option maxRecDepth 20000 in
theorem gX16_ofLineNow_Jx4a65c_get_915e3 : GoodIn wsX16_ofLineNow (wsV RX16 78 RJx4a65c yJx4a65c_get_915e3 wsJx4a65c_get_915e3) := goodIn_app (goodIn_of _ (by decide +kernel)) ggX16_ofLineNow_Jx4a65c_get_915e3
set_option maxRecDepth 20000 in
theorem ggX16_ofLineNow_X11_isWhole : GoodIn wsX16_ofLineNow wsX11_isWhole := goodIn_r _ [32, 33, 43, 44, 45, 46, 47, 48, 49, 50, 51] (by decide +kernel) (by decide +kernel)
set_option maxRecDepth 20000 in
theorem gX16_ofLineNow_X11_isWhole : GoodIn wsX16_ofLineNow (wsV RX16 101 RX11 yX11_isWhole wsX11_isWhole) := goodIn_app (goodIn_of _ (by decide +kernel)) ggX16_ofLineNow_X11_isWhole
theorem dX16_ofLineNow_0 : decode cX16_ofLineNow 0 = .ok (.aload_n 0, 1) := by decide +kernel
theorem dX16_ofLineNow_1 : decode cX16_ofLineNow 1 = .ok (.getfield 10, 3) := by decide +kernel
theorem dX16_ofLineNow_4 : decode cX16_ofLineNow 4 = .ok (.getfield 64, 3) := by decide +kernel
theorem dX16_ofLineNow_7 : decode cX16_ofLineNow 7 = .ok (.iload_n 2, 1) := by decide +kernel
theorem dX16_ofLineNow_8 : decode cX16_ofLineNow 8 = .ok (.invokevirtual 78, 3) := by decide +kernel
theorem dX16_ofLineNow_11 : decode cX16_ofLineNow 11 = .ok (.checkcast 59, 3) := by decide +kernel
theorem dX16_ofLineNow_14 : decode cX16_ofLineNow 14 = .ok (.astore 4, 2) := by decide +kernel
theorem dX16_ofLineNow_16 : decode cX16_ofLineNow 16 = .ok (.iload_n 3, 1) := by decide +kernel
theorem dX16_ofLineNow_17 : decode cX16_ofLineNow 17 = .ok (.iconst 3, 1) := by decide +kernel
theorem dX16_ofLineNow_18 : decode cX16_ofLineNow 18 = .ok (.if_icmp .ge 34, 3) := by decide +kernel
theorem dX16_ofLineNow_21 : decode cX16_ofLineNow 21 = .ok (.iload_n 3, 1) := by decide +kernel
theorem dX16_ofLineNow_22 : decode cX16_ofLineNow 22 = .ok (.ifCond .ne 11, 3) := by decide +kernel
theorem dX16_ofLineNow_25 : decode cX16_ofLineNow 25 = .ok (.aload 4, 2) := by decide +kernel
theorem dX16_ofLineNow_27 : decode cX16_ofLineNow 27 = .ok (.getfield 86, 3) := by decide +kernel
theorem dX16_ofLineNow_30 : decode cX16_ofLineNow 30 = .ok (.goto 21, 3) := by decide +kernel
theorem dX16_ofLineNow_33 : decode cX16_ofLineNow 33 = .ok (.iload_n 3, 1) := by decide +kernel
theorem dX16_ofLineNow_34 : decode cX16_ofLineNow 34 = .ok (.iconst 1, 1) := by decide +kernel
theorem dX16_ofLineNow_35 : decode cX16_ofLineNow 35 = .ok (.if_icmp .ne 11, 3) := by decide +kernel
theorem dX16_ofLineNow_38 : decode cX16_ofLineNow 38 = .ok (.aload 4, 2) := by decide +kernel
theorem dX16_ofLineNow_40 : decode cX16_ofLineNow 40 = .ok (.getfield 95, 3) := by decide +kernel
theorem dX16_ofLineNow_43 : decode cX16_ofLineNow 43 = .ok (.goto 8, 3) := by decide +kernel
theorem dX16_ofLineNow_46 : decode cX16_ofLineNow 46 = .ok (.aload 4, 2) := by decide +kernel
theorem dX16_ofLineNow_48 : decode cX16_ofLineNow 48 = .ok (.getfield 98, 3) := by decide +kernel
theorem dX16_ofLineNow_51 : decode cX16_ofLineNow 51 = .ok (.ireturn, 1) := by decide +kernel
theorem dX16_ofLineNow_52 : decode cX16_ofLineNow 52 = .ok (.iload_n 3, 1) := by decide +kernel
theorem dX16_ofLineNow_53 : decode cX16_ofLineNow 53 = .ok (.iconst 5, 1) := by decide +kernel
theorem dX16_ofLineNow_54 : decode cX16_ofLineNow 54 = .ok (.if_icmp .ne 25, 3) := by decide +kernel
theorem dX16_ofLineNow_57 : decode cX16_ofLineNow 57 = .ok (.aload_n 1, 1) := by decide +kernel
theorem dX16_ofLineNow_58 : decode cX16_ofLineNow 58 = .ok (.invokevirtual 101, 3) := by decide +kernel
theorem dX16_ofLineNow_61 : decode cX16_ofLineNow 61 = .ok (.ifCond .eq 16, 3) := by decide +kernel
theorem dX16_ofLineNow_64 : decode cX16_ofLineNow 64 = .ok (.aload_n 1, 1) := by decide +kernel
theorem dX16_ofLineNow_65 : decode cX16_ofLineNow 65 = .ok (.getfield 104, 3) := by decide +kernel
theorem dX16_ofLineNow_68 : decode cX16_ofLineNow 68 = .ok (.iload_n 2, 1) := by decide +kernel
theorem dX16_ofLineNow_69 : decode cX16_ofLineNow 69 = .ok (.baload, 1) := by decide +kernel
theorem dX16_ofLineNow_70 : decode cX16_ofLineNow 70 = .ok (.ifCond .ne 7, 3) := by decide +kernel
theorem dX16_ofLineNow_73 : decode cX16_ofLineNow 73 = .ok (.iconst 1, 1) := by decide +kernel
theorem dX16_ofLineNow_74 : decode cX16_ofLineNow 74 = .ok (.goto 4, 3) := by decide +kernel
theorem dX16_ofLineNow_77 : decode cX16_ofLineNow 77 = .ok (.iconst 0, 1) := by decide +kernel
theorem dX16_ofLineNow_78 : decode cX16_ofLineNow 78 = .ok (.ireturn, 1) := by decide +kernel
theorem dX16_ofLineNow_79 : decode cX16_ofLineNow 79 = .ok (.aload_n 1, 1) := by decide +kernel
theorem dX16_ofLineNow_80 : decode cX16_ofLineNow 80 = .ok (.invokevirtual 101, 3) := by decide +kernel
theorem dX16_ofLineNow_83 : decode cX16_ofLineNow 83 = .ok (.ifCond .eq 29, 3) := by decide +kernel
theorem dX16_ofLineNow_86 : decode cX16_ofLineNow 86 = .ok (.aload_n 1, 1) := by decide +kernel
theorem dX16_ofLineNow_87 : decode cX16_ofLineNow 87 = .ok (.getfield 108, 3) := by decide +kernel
theorem dX16_ofLineNow_90 : decode cX16_ofLineNow 90 = .ok (.iload_n 2, 1) := by decide +kernel
theorem dX16_ofLineNow_91 : decode cX16_ofLineNow 91 = .ok (.aaload, 1) := by decide +kernel
theorem dX16_ofLineNow_92 : decode cX16_ofLineNow 92 = .ok (.arraylength, 1) := by decide +kernel
theorem dX16_ofLineNow_93 : decode cX16_ofLineNow 93 = .ok (.iload_n 3, 1) := by decide +kernel
theorem dX16_ofLineNow_94 : decode cX16_ofLineNow 94 = .ok (.iconst 3, 1) := by decide +kernel
theorem dX16_ofLineNow_95 : decode cX16_ofLineNow 95 = .ok (.isub, 1) := by decide +kernel
theorem dX16_ofLineNow_96 : decode cX16_ofLineNow 96 = .ok (.if_icmp .le 16, 3) := by decide +kernel
theorem dX16_ofLineNow_99 : decode cX16_ofLineNow 99 = .ok (.aload_n 1, 1) := by decide +kernel
theorem dX16_ofLineNow_100 : decode cX16_ofLineNow 100 = .ok (.getfield 108, 3) := by decide +kernel
theorem dX16_ofLineNow_103 : decode cX16_ofLineNow 103 = .ok (.iload_n 2, 1) := by decide +kernel
theorem dX16_ofLineNow_104 : decode cX16_ofLineNow 104 = .ok (.aaload, 1) := by decide +kernel
theorem dX16_ofLineNow_105 : decode cX16_ofLineNow 105 = .ok (.iload_n 3, 1) := by decide +kernel
theorem dX16_ofLineNow_106 : decode cX16_ofLineNow 106 = .ok (.iconst 3, 1) := by decide +kernel
theorem dX16_ofLineNow_107 : decode cX16_ofLineNow 107 = .ok (.isub, 1) := by decide +kernel
theorem dX16_ofLineNow_108 : decode cX16_ofLineNow 108 = .ok (.iaload, 1) := by decide +kernel
theorem dX16_ofLineNow_109 : decode cX16_ofLineNow 109 = .ok (.goto 4, 3) := by decide +kernel
theorem dX16_ofLineNow_112 : decode cX16_ofLineNow 112 = .ok (.iconst (-1), 1) := by decide +kernel
theorem dX16_ofLineNow_113 : decode cX16_ofLineNow 113 = .ok (.ireturn, 1) := by decide +kernel
set_option maxRecDepth 20000 in
theorem ggX16_ofLine_X16_isNoLine : GoodIn wsX16_ofLine wsX16_isNoLine := goodIn_r _ [5, 6, 7, 8, 9, 10, 11, 12, 13, 14, 15, 4, 16, 287, 288, 289, 290, 291, 292, 293, 294, 295] (by decide +kernel) (by decide +kernel)
set_option maxRecDepth 20000 in
theorem gX16_ofLine_X16_isNoLine : GoodIn wsX16_ofLine (wsV RX16 74 RX16 yX16_isNoLine wsX16_isNoLine) := goodIn_app (goodIn_of _ (by decide +kernel)) ggX16_ofLine_X16_isNoLine
set_option maxRecDepth 20000 in
theorem ggX16_ofLine_X16_start : GoodIn wsX16_ofLine wsX16_start := goodIn_r _ [20, 21, 22, 23, 24, 4, 25, 287, 288, 289, 290] (by decide +kernel) (by decide +kernel)
set_option maxRecDepth 20000 in
theorem gX16_ofLine_X16_start : GoodIn wsX16_ofLine (wsV RX16 33 RX16 yX16_start wsX16_start) := goodIn_app (goodIn_of _ (by decide +kernel)) ggX16_ofLine_X16_start
set_option maxRecDepth 20000 in
theorem ggX16_ofLine_X16_isIn : GoodIn wsX16_ofLine wsX16_isIn := goodIn_r _ [16] (by decide +kernel) (by decide +kernel)
set_option maxRecDepth 20000 in
theorem gX16_ofLine_X16_isIn : GoodIn wsX16_ofLine (va_wsS RX16 29 yX16_isIn wsX16_isIn) := goodIn_app (goodIn_of _ (by decide +kernel)) ggX16_ofLine_X16_isIn
set_option maxRecDepth 20000 in
theorem ggX16_ofLine_X16_refuse : GoodIn wsX16_ofLine wsX16_refuse := goodIn_r _ [25, 21, 287, 288, 289, 290] (by decide +kernel) (by decide +kernel)
set_option maxRecDepth 20000 in
theorem gX16_ofLine_X16_refuse : GoodIn wsX16_ofLine (wsV RX16 20 RX16 yX16_refuse wsX16_refuse) := goodIn_app (goodIn_of _ (by decide +kernel)) ggX16_ofLine_X16_refuse
set_option maxRecDepth 20000 in
theorem ggX16_ofLine_X16_check : GoodIn wsX16_ofLine wsX16_check := goodIn_r _ [29, 30, 31, 32, 6, 33, 34, 35, 36, 37, 38, 39, 40, 41, 42, 43, 44, 45, 46, 47, 48, 49, 50, 51, 52, 53, 54, 55, 9, 10, 11, 12, 13, 56, 57, 58, 59, 60, 61, 62, 63, 64, 65, 66, 67, 68, 69, 70, 71, 72, 73, 74, 75, 76, 77, 78, 79, 80, 81, 82, 83, 84, 85, 86, 87, 88, 89, 90, 91, 92, 93, 94, 95, 96, 97, 98, 99, 100, 101, 102, 103, 104, 105, 106, 107, 108, 109, 110, 111, 112, 113, 114, 115, 116, 117, 118, 119, 120, 121, 122, 123, 124, 125, 126, 127, 128, 129, 130, 131, 132, 133, 134, 135, 136, 137, 138, 139, 140, 141, 142, 143, 144, 145, 146, 147, 148, 149, 150, 151, 152, 153, 154, 155, 156, 157, 158, 159, 160, 161, 162, 163, 164, 165, 166, 167, 168, 169, 170, 171, 172, 173, 174, 175, 176, 177, 178, 179, 180, 181, 182, 183, 184, 185, 186, 187, 188, 189, 190, 191, 192, 193, 194, 195, 196, 197, 198, 199, 200, 201, 202, 203, 204, 205, 206, 207, 208, 209, 210, 211, 212, 213, 214, 215, 216, 15, 4, 16, 217, 218, 219, 220, 221, 222, 223, 224, 225, 226, 227, 228, 229, 230, 231, 232, 233, 234, 235, 236, 237, 238, 239, 240, 241, 242, 243, 244, 245, 246, 247, 248, 249, 250, 251, 252, 253, 254, 255, 256, 257, 258, 259, 260, 261, 262, 263, 264, 265, 266, 267, 268, 269, 270, 271, 296, 297, 298, 299, 300, 301, 302, 303, 304, 287, 288, 289, 290, 291, 292, 293, 294, 295, 305, 306, 307, 308] (by decide +kernel) (by decide +kernel)
set_option maxRecDepth 20000 in
theorem gX16_ofLine_X16_check : GoodIn wsX16_ofLine (wsV RX16 112 RX16 yX16_check wsX16_check) := goodIn_app (goodIn_of _ (by decide +kernel)) ggX16_ofLine_X16_check
set_option maxRecDepth 20000 in
theorem ggX16_ofLine_X16_ofLineNow : GoodIn wsX16_ofLine wsX16_ofLineNow := goodIn_r _ [275, 6, 7, 276, 277, 278, 279, 280, 281, 282, 81, 82, 11, 83, 13, 84, 85, 86, 87, 88, 89, 90, 91, 92, 93, 94, 95, 69, 283, 284, 285, 32, 286, 39, 287, 288, 289, 290, 291, 292, 305, 306, 307, 296, 297, 298, 299, 300, 301, 302, 303, 304, 293, 294, 295] (by decide +kernel) (by decide +kernel)
set_option maxRecDepth 20000 in
theorem gX16_ofLine_X16_ofLineNow : GoodIn wsX16_ofLine (wsV RX16 116 RX16 yX16_ofLineNow wsX16_ofLineNow) := goodIn_app (goodIn_of _ (by decide +kernel)) ggX16_ofLine_X16_ofLineNow
theorem dX16_ofLine_0 : decode cX16_ofLine 0 = .ok (.aload_n 0, 1) := by decide +kernel
theorem dX16_ofLine_1 : decode cX16_ofLine 1 = .ok (.aload_n 0, 1) := by decide +kernel
theorem dX16_ofLine_2 : decode cX16_ofLine 2 = .ok (.iload_n 1, 1) := by decide +kernel
theorem dX16_ofLine_3 : decode cX16_ofLine 3 = .ok (.invokevirtual 74, 3) := by decide +kernel
theorem dX16_ofLine_6 : decode cX16_ofLine 6 = .ok (.iconst 1, 1) := by decide +kernel
theorem dX16_ofLine_7 : decode cX16_ofLine 7 = .ok (.invokevirtual 33, 3) := by decide +kernel
theorem dX16_ofLine_10 : decode cX16_ofLine 10 = .ok (.ifCond .ne 25, 3) := by decide +kernel
theorem dX16_ofLine_13 : decode cX16_ofLine 13 = .ok (.aload_n 0, 1) := by decide +kernel
theorem dX16_ofLine_14 : decode cX16_ofLine 14 = .ok (.iload_n 2, 1) := by decide +kernel
theorem dX16_ofLine_15 : decode cX16_ofLine 15 = .ok (.iconst 0, 1) := by decide +kernel
theorem dX16_ofLine_16 : decode cX16_ofLine 16 = .ok (.iconst 5, 1) := by decide +kernel
theorem dX16_ofLine_17 : decode cX16_ofLine 17 = .ok (.invokestatic 29, 3) := by decide +kernel
theorem dX16_ofLine_20 : decode cX16_ofLine 20 = .ok (.ifCond .ne 7, 3) := by decide +kernel
theorem dX16_ofLine_23 : decode cX16_ofLine 23 = .ok (.iconst 1, 1) := by decide +kernel
theorem dX16_ofLine_24 : decode cX16_ofLine 24 = .ok (.goto 4, 3) := by decide +kernel
theorem dX16_ofLine_27 : decode cX16_ofLine 27 = .ok (.iconst 0, 1) := by decide +kernel
theorem dX16_ofLine_28 : decode cX16_ofLine 28 = .ok (.iconst 2, 1) := by decide +kernel
theorem dX16_ofLine_29 : decode cX16_ofLine 29 = .ok (.invokevirtual 20, 3) := by decide +kernel
theorem dX16_ofLine_32 : decode cX16_ofLine 32 = .ok (.ifCond .eq 7, 3) := by decide +kernel
theorem dX16_ofLine_35 : decode cX16_ofLine 35 = .ok (.iconst 0, 1) := by decide +kernel
theorem dX16_ofLine_36 : decode cX16_ofLine 36 = .ok (.goto 13, 3) := by decide +kernel
theorem dX16_ofLine_39 : decode cX16_ofLine 39 = .ok (.aload_n 0, 1) := by decide +kernel
theorem dX16_ofLine_40 : decode cX16_ofLine 40 = .ok (.aload_n 0, 1) := by decide +kernel
theorem dX16_ofLine_41 : decode cX16_ofLine 41 = .ok (.invokevirtual 112, 3) := by decide +kernel
theorem dX16_ofLine_44 : decode cX16_ofLine 44 = .ok (.iload_n 1, 1) := by decide +kernel
theorem dX16_ofLine_45 : decode cX16_ofLine 45 = .ok (.iload_n 2, 1) := by decide +kernel
theorem dX16_ofLine_46 : decode cX16_ofLine 46 = .ok (.invokevirtual 116, 3) := by decide +kernel
theorem dX16_ofLine_49 : decode cX16_ofLine 49 = .ok (.ireturn, 1) := by decide +kernel
set_option maxRecDepth 20000 in
theorem ggX16_state_X16_isNoPoint : GoodIn wsX16_state wsX16_isNoPoint := goodIn_r _ [6, 1, 7, 8, 9, 10, 11, 12, 13, 14, 15, 5, 16, 277, 278, 279, 280, 281, 282, 283, 284, 285] (by decide +kernel) (by decide +kernel)
set_option maxRecDepth 20000 in
theorem gX16_state_X16_isNoPoint : GoodIn wsX16_state (wsV RX16 120 RX16 yX16_isNoPoint wsX16_isNoPoint) := goodIn_app (goodIn_of _ (by decide +kernel)) ggX16_state_X16_isNoPoint
set_option maxRecDepth 20000 in
theorem ggX16_state_X14_kindOf : GoodIn wsX16_state wsX14_kindOf := goodIn_r _ [21, 22, 23, 24, 9, 10, 11, 12, 13, 15, 5, 16, 25, 26, 27, 28, 29, 30, 31, 32, 33, 34, 35, 36, 37, 38, 39, 40, 41, 42, 43, 44, 45, 46, 47, 281, 282, 283, 284, 285, 286] (by decide +kernel) (by decide +kernel)
set_option maxRecDepth 20000 in
theorem gX16_state_X14_kindOf : GoodIn wsX16_state (wsV RX16 123 RX14 yX14_kindOf wsX14_kindOf) := goodIn_app (goodIn_of _ (by decide +kernel)) ggX16_state_X14_kindOf
set_option maxRecDepth 20000 in
theorem ggX16_state_X16_start : GoodIn wsX16_state wsX16_start := goodIn_r _ [51, 52, 53, 54, 55, 5, 56, 277, 278, 279, 280] (by decide +kernel) (by decide +kernel)
set_option maxRecDepth 20000 in
theorem gX16_state_X16_start : GoodIn wsX16_state (wsV RX16 33 RX16 yX16_start wsX16_start) := goodIn_app (goodIn_of _ (by decide +kernel)) ggX16_state_X16_start
set_option maxRecDepth 20000 in
theorem ggX16_state_X16_check : GoodIn wsX16_state wsX16_check := goodIn_r _ [60, 61, 62, 63, 1, 64, 65, 66, 67, 68, 69, 70, 71, 72, 73, 74, 75, 76, 77, 78, 79, 80, 81, 82, 83, 84, 85, 86, 9, 10, 11, 12, 13, 87, 88, 89, 90, 91, 92, 93, 94, 95, 96, 97, 98, 99, 41, 100, 101, 102, 103, 104, 105, 106, 107, 108, 109, 110, 26, 27, 28, 29, 30, 31, 32, 33, 34, 35, 36, 37, 38, 39, 40, 111, 112, 113, 114, 115, 43, 44, 45, 46, 47, 116, 117, 118, 119, 120, 121, 122, 123, 124, 125, 126, 127, 128, 129, 130, 131, 132, 133, 134, 135, 136, 137, 138, 139, 140, 141, 142, 143, 144, 145, 146, 147, 148, 149, 150, 151, 152, 153, 154, 155, 156, 157, 158, 159, 160, 161, 162, 163, 164, 165, 166, 167, 168, 169, 170, 171, 172, 173, 174, 175, 176, 177, 178, 179, 180, 181, 182, 183, 184, 185, 186, 187, 188, 189, 190, 191, 192, 193, 194, 195, 196, 197, 198, 199, 200, 201, 202, 203, 204, 205, 206, 207, 208, 209, 210, 211, 212, 213, 214, 215, 216, 217, 20, 218, 219, 18, 19, 21, 22, 23, 24, 15, 5, 16, 25, 42, 220, 221, 222, 223, 224, 225, 226, 227, 228, 229, 230, 231, 232, 233, 234, 235, 236, 237, 238, 239, 240, 241, 242, 243, 244, 245, 246, 247, 248, 249, 250, 251, 252, 253, 254, 255, 256, 257, 258, 259, 260, 261, 262, 263, 264, 265, 266, 267, 268, 269, 270, 271, 272, 287, 288, 289, 290, 291, 292, 293, 294, 295, 277, 278, 279, 280, 281, 282, 283, 284, 285, 296, 297, 298, 286] (by decide +kernel) (by decide +kernel)
set_option maxRecDepth 20000 in
theorem gX16_state_X16_check : GoodIn wsX16_state (wsV RX16 112 RX16 yX16_check wsX16_check) := goodIn_app (goodIn_of _ (by decide +kernel)) ggX16_state_X16_check
set_option maxRecDepth 20000 in
theorem ggX16_state_X11_state : GoodIn wsX16_state wsX11_state := goodIn_r _ [276, 78, 71, 81, 80, 215, 216, 217, 20, 218, 83, 219, 18, 19, 21, 22, 23, 24, 9, 10, 11, 12, 13, 15, 5, 16, 25, 26, 27, 28, 29, 30, 31, 32, 33, 34, 35, 36, 37, 38, 39, 40, 41, 42, 43, 44, 45, 46, 47, 287, 288, 289, 290, 291, 292, 293, 294, 295, 281, 282, 283, 284, 285, 286] (by decide +kernel) (by decide +kernel)
set_option maxRecDepth 20000 in
theorem gX16_state_X11_state : GoodIn wsX16_state (wsV RX16 127 RX11 yX11_state wsX11_state) := goodIn_app (goodIn_of _ (by decide +kernel)) ggX16_state_X11_state
theorem dX16_state_0 : decode cX16_state 0 = .ok (.aload_n 0, 1) := by decide +kernel
theorem dX16_state_1 : decode cX16_state 1 = .ok (.aload_n 0, 1) := by decide +kernel
theorem dX16_state_2 : decode cX16_state 2 = .ok (.iload_n 1, 1) := by decide +kernel
theorem dX16_state_3 : decode cX16_state 3 = .ok (.invokevirtual 120, 3) := by decide +kernel
theorem dX16_state_6 : decode cX16_state 6 = .ok (.ifCond .ne 15, 3) := by decide +kernel
theorem dX16_state_9 : decode cX16_state 9 = .ok (.aload_n 0, 1) := by decide +kernel
theorem dX16_state_10 : decode cX16_state 10 = .ok (.getfield 10, 3) := by decide +kernel
theorem dX16_state_13 : decode cX16_state 13 = .ok (.iload_n 2, 1) := by decide +kernel
theorem dX16_state_14 : decode cX16_state 14 = .ok (.invokevirtual 123, 3) := by decide +kernel
theorem dX16_state_17 : decode cX16_state 17 = .ok (.iconst (-1), 1) := by decide +kernel
theorem dX16_state_18 : decode cX16_state 18 = .ok (.if_icmp .ne 7, 3) := by decide +kernel
theorem dX16_state_21 : decode cX16_state 21 = .ok (.iconst 1, 1) := by decide +kernel
theorem dX16_state_22 : decode cX16_state 22 = .ok (.goto 4, 3) := by decide +kernel
theorem dX16_state_25 : decode cX16_state 25 = .ok (.iconst 0, 1) := by decide +kernel
theorem dX16_state_26 : decode cX16_state 26 = .ok (.iconst 1, 1) := by decide +kernel
theorem dX16_state_27 : decode cX16_state 27 = .ok (.invokevirtual 33, 3) := by decide +kernel
theorem dX16_state_30 : decode cX16_state 30 = .ok (.ifCond .eq 7, 3) := by decide +kernel
theorem dX16_state_33 : decode cX16_state 33 = .ok (.iconst 0, 1) := by decide +kernel
theorem dX16_state_34 : decode cX16_state 34 = .ok (.goto 12, 3) := by decide +kernel
theorem dX16_state_37 : decode cX16_state 37 = .ok (.aload_n 0, 1) := by decide +kernel
theorem dX16_state_38 : decode cX16_state 38 = .ok (.invokevirtual 112, 3) := by decide +kernel
theorem dX16_state_41 : decode cX16_state 41 = .ok (.iload_n 1, 1) := by decide +kernel
theorem dX16_state_42 : decode cX16_state 42 = .ok (.iload_n 2, 1) := by decide +kernel
theorem dX16_state_43 : decode cX16_state 43 = .ok (.invokevirtual 127, 3) := by decide +kernel
theorem dX16_state_46 : decode cX16_state 46 = .ok (.ireturn, 1) := by decide +kernel
set_option maxRecDepth 20000 in
theorem ggX16_isNoBorrow_Jx4a65c_size_8abf5 : GoodIn wsX16_isNoBorrow wsJx4a65c_size_8abf5 := goodIn_r _ [7, 8, 54, 55, 56] (by decide +kernel) (by decide +kernel)
set_option maxRecDepth 20000 in
theorem gX16_isNoBorrow_Jx4a65c_size_8abf5 : GoodIn wsX16_isNoBorrow (wsV RX16 40 RJx4a65c yJx4a65c_size_8abf5 wsJx4a65c_size_8abf5) := goodIn_app (goodIn_of _ (by decide +kernel)) ggX16_isNoBorrow_Jx4a65c_size_8abf5
set_option maxRecDepth 20000 in
theorem ggX16_isNoBorrow_X16_isIn : GoodIn wsX16_isNoBorrow wsX16_isIn := goodIn_r _ [12] (by decide +kernel) (by decide +kernel)
set_option maxRecDepth 20000 in
theorem gX16_isNoBorrow_X16_isIn : GoodIn wsX16_isNoBorrow (va_wsS RX16 29 yX16_isIn wsX16_isIn) := goodIn_app (goodIn_of _ (by decide +kernel)) ggX16_isNoBorrow_X16_isIn
set_option maxRecDepth 20000 in
theorem ggX16_isNoBorrow_X14_isBorrow : GoodIn wsX16_isNoBorrow wsX14_isBorrow := goodIn_r _ [17, 18, 19, 20, 16, 21, 22, 23, 24, 4, 5, 6, 7, 8, 10, 11, 12, 25, 26, 27, 28, 29, 30, 31, 32, 33, 34, 35, 36, 37, 38, 39, 40, 41, 42, 43, 44, 45, 46, 47, 52, 53, 54, 55, 56, 57] (by decide +kernel) (by decide +kernel)
set_option maxRecDepth 20000 in
theorem gX16_isNoBorrow_X14_isBorrow : GoodIn wsX16_isNoBorrow (wsV RX16 131 RX14 yX14_isBorrow wsX14_isBorrow) := goodIn_app (goodIn_of _ (by decide +kernel)) ggX16_isNoBorrow_X14_isBorrow
theorem dX16_isNoBorrow_0 : decode cX16_isNoBorrow 0 = .ok (.iload_n 1, 1) := by decide +kernel
theorem dX16_isNoBorrow_1 : decode cX16_isNoBorrow 1 = .ok (.iconst 0, 1) := by decide +kernel
theorem dX16_isNoBorrow_2 : decode cX16_isNoBorrow 2 = .ok (.aload_n 0, 1) := by decide +kernel
theorem dX16_isNoBorrow_3 : decode cX16_isNoBorrow 3 = .ok (.getfield 10, 3) := by decide +kernel
theorem dX16_isNoBorrow_6 : decode cX16_isNoBorrow 6 = .ok (.getfield 36, 3) := by decide +kernel
theorem dX16_isNoBorrow_9 : decode cX16_isNoBorrow 9 = .ok (.invokevirtual 40, 3) := by decide +kernel
theorem dX16_isNoBorrow_12 : decode cX16_isNoBorrow 12 = .ok (.iconst 1, 1) := by decide +kernel
theorem dX16_isNoBorrow_13 : decode cX16_isNoBorrow 13 = .ok (.isub, 1) := by decide +kernel
theorem dX16_isNoBorrow_14 : decode cX16_isNoBorrow 14 = .ok (.invokestatic 29, 3) := by decide +kernel
theorem dX16_isNoBorrow_17 : decode cX16_isNoBorrow 17 = .ok (.ifCond .eq 16, 3) := by decide +kernel
theorem dX16_isNoBorrow_20 : decode cX16_isNoBorrow 20 = .ok (.aload_n 0, 1) := by decide +kernel
theorem dX16_isNoBorrow_21 : decode cX16_isNoBorrow 21 = .ok (.getfield 10, 3) := by decide +kernel
theorem dX16_isNoBorrow_24 : decode cX16_isNoBorrow 24 = .ok (.iconst 3, 1) := by decide +kernel
theorem dX16_isNoBorrow_25 : decode cX16_isNoBorrow 25 = .ok (.iload_n 1, 1) := by decide +kernel
theorem dX16_isNoBorrow_26 : decode cX16_isNoBorrow 26 = .ok (.imul, 1) := by decide +kernel
theorem dX16_isNoBorrow_27 : decode cX16_isNoBorrow 27 = .ok (.invokevirtual 131, 3) := by decide +kernel
theorem dX16_isNoBorrow_30 : decode cX16_isNoBorrow 30 = .ok (.ifCond .ne 7, 3) := by decide +kernel
theorem dX16_isNoBorrow_33 : decode cX16_isNoBorrow 33 = .ok (.iconst 1, 1) := by decide +kernel
theorem dX16_isNoBorrow_34 : decode cX16_isNoBorrow 34 = .ok (.goto 4, 3) := by decide +kernel
theorem dX16_isNoBorrow_37 : decode cX16_isNoBorrow 37 = .ok (.iconst 0, 1) := by decide +kernel
theorem dX16_isNoBorrow_38 : decode cX16_isNoBorrow 38 = .ok (.ireturn, 1) := by decide +kernel
set_option maxRecDepth 20000 in
theorem ggX16_holds_X16_isNoPoint : GoodIn wsX16_holds wsX16_isNoPoint := goodIn_r _ [6, 7, 8, 9, 10, 11, 12, 13, 14, 15, 16, 5, 17, 288, 289, 290, 291, 292, 293, 294, 295, 296] (by decide +kernel) (by decide +kernel)
set_option maxRecDepth 20000 in
theorem gX16_holds_X16_isNoPoint : GoodIn wsX16_holds (wsV RX16 120 RX16 yX16_isNoPoint wsX16_isNoPoint) := goodIn_app (goodIn_of _ (by decide +kernel)) ggX16_holds_X16_isNoPoint
set_option maxRecDepth 20000 in
theorem ggX16_holds_X16_isNoBorrow : GoodIn wsX16_holds wsX16_isNoBorrow := goodIn_r _ [21, 7, 22, 9, 10, 11, 12, 13, 14, 15, 16, 5, 17, 23, 24, 25, 26, 27, 28, 29, 30, 31, 32, 33, 34, 35, 36, 37, 38, 39, 40, 41, 42, 43, 44, 45, 46, 47, 48, 49, 50, 51, 52, 53, 54, 55, 56, 57, 288, 289, 290, 291, 292, 293, 294, 295, 296, 297] (by decide +kernel) (by decide +kernel)
set_option maxRecDepth 20000 in
theorem gX16_holds_X16_isNoBorrow : GoodIn wsX16_holds (wsV RX16 134 RX16 yX16_isNoBorrow wsX16_isNoBorrow) := goodIn_app (goodIn_of _ (by decide +kernel)) ggX16_holds_X16_isNoBorrow
set_option maxRecDepth 20000 in
theorem ggX16_holds_X16_start : GoodIn wsX16_holds wsX16_start := goodIn_r _ [61, 62, 63, 64, 65, 5, 66, 288, 289, 290, 291] (by decide +kernel) (by decide +kernel)
set_option maxRecDepth 20000 in
theorem gX16_holds_X16_start : GoodIn wsX16_holds (wsV RX16 33 RX16 yX16_start wsX16_start) := goodIn_app (goodIn_of _ (by decide +kernel)) ggX16_holds_X16_start
set_option maxRecDepth 20000 in
theorem ggX16_holds_X16_check : GoodIn wsX16_holds wsX16_check := goodIn_r _ [70, 71, 72, 73, 7, 74, 75, 76, 77, 78, 79, 80, 81, 82, 83, 84, 85, 86, 87, 88, 89, 90, 91, 92, 93, 94, 95, 96, 10, 11, 12, 13, 14, 97, 98, 99, 100, 101, 102, 103, 104, 105, 106, 107, 108, 109, 51, 110, 111, 112, 113, 114, 115, 116, 117, 118, 119, 120, 36, 37, 38, 39, 40, 41, 42, 43, 44, 45, 46, 47, 48, 49, 50, 121, 122, 123, 124, 125, 53, 54, 55, 56, 57, 126, 127, 128, 129, 130, 131, 132, 133, 134, 135, 136, 137, 138, 139, 140, 141, 142, 143, 144, 145, 146, 147, 148, 149, 150, 151, 152, 153, 154, 155, 156, 157, 158, 159, 160, 161, 162, 163, 164, 165, 166, 167, 168, 169, 170, 171, 172, 173, 174, 175, 176, 177, 178, 179, 180, 181, 182, 183, 184, 185, 186, 187, 188, 189, 190, 191, 192, 193, 194, 195, 196, 197, 198, 199, 200, 201, 202, 203, 204, 205, 206, 207, 208, 209, 210, 211, 212, 213, 214, 215, 216, 217, 218, 219, 220, 221, 222, 223, 224, 225, 226, 227, 26, 228, 28, 29, 30, 31, 32, 33, 34, 16, 5, 17, 35, 52, 229, 230, 231, 232, 233, 234, 235, 236, 237, 238, 239, 240, 241, 242, 243, 244, 245, 246, 247, 248, 249, 250, 251, 252, 253, 254, 255, 256, 257, 258, 24, 25, 27, 259, 260, 261, 262, 263, 264, 265, 266, 267, 268, 269, 270, 271, 272, 273, 274, 275, 276, 277, 278, 279, 280, 281, 282, 283, 284, 285, 286, 287, 288, 289, 290, 291, 292, 293, 294, 295, 296, 298, 299, 300, 297] (by decide +kernel) (by decide +kernel)
set_option maxRecDepth 20000 in
theorem gX16_holds_X16_check : GoodIn wsX16_holds (wsV RX16 112 RX16 yX16_check wsX16_check) := goodIn_app (goodIn_of _ (by decide +kernel)) ggX16_holds_X16_check
theorem dX16_holds_0 : decode cX16_holds 0 = .ok (.aload_n 0, 1) := by decide +kernel
theorem dX16_holds_1 : decode cX16_holds 1 = .ok (.aload_n 0, 1) := by decide +kernel
theorem dX16_holds_2 : decode cX16_holds 2 = .ok (.iload_n 1, 1) := by decide +kernel
theorem dX16_holds_3 : decode cX16_holds 3 = .ok (.invokevirtual 120, 3) := by decide +kernel
theorem dX16_holds_6 : decode cX16_holds 6 = .ok (.ifCond .ne 11, 3) := by decide +kernel
theorem dX16_holds_9 : decode cX16_holds 9 = .ok (.aload_n 0, 1) := by decide +kernel
theorem dX16_holds_10 : decode cX16_holds 10 = .ok (.iload_n 2, 1) := by decide +kernel
theorem dX16_holds_11 : decode cX16_holds 11 = .ok (.invokevirtual 134, 3) := by decide +kernel
theorem dX16_holds_14 : decode cX16_holds 14 = .ok (.ifCond .eq 7, 3) := by decide +kernel
theorem dX16_holds_17 : decode cX16_holds 17 = .ok (.iconst 1, 1) := by decide +kernel
theorem dX16_holds_18 : decode cX16_holds 18 = .ok (.goto 4, 3) := by decide +kernel
theorem dX16_holds_21 : decode cX16_holds 21 = .ok (.iconst 0, 1) := by decide +kernel
theorem dX16_holds_22 : decode cX16_holds 22 = .ok (.iconst 1, 1) := by decide +kernel
theorem dX16_holds_23 : decode cX16_holds 23 = .ok (.invokevirtual 33, 3) := by decide +kernel
theorem dX16_holds_26 : decode cX16_holds 26 = .ok (.ifCond .eq 7, 3) := by decide +kernel
theorem dX16_holds_29 : decode cX16_holds 29 = .ok (.iconst 0, 1) := by decide +kernel
theorem dX16_holds_30 : decode cX16_holds 30 = .ok (.goto 14, 3) := by decide +kernel
theorem dX16_holds_33 : decode cX16_holds 33 = .ok (.aload_n 0, 1) := by decide +kernel
theorem dX16_holds_34 : decode cX16_holds 34 = .ok (.invokevirtual 112, 3) := by decide +kernel
theorem dX16_holds_37 : decode cX16_holds 37 = .ok (.getfield 137, 3) := by decide +kernel
theorem dX16_holds_40 : decode cX16_holds 40 = .ok (.iload_n 1, 1) := by decide +kernel
theorem dX16_holds_41 : decode cX16_holds 41 = .ok (.aaload, 1) := by decide +kernel
theorem dX16_holds_42 : decode cX16_holds 42 = .ok (.iload_n 2, 1) := by decide +kernel
theorem dX16_holds_43 : decode cX16_holds 43 = .ok (.iaload, 1) := by decide +kernel
theorem dX16_holds_44 : decode cX16_holds 44 = .ok (.ireturn, 1) := by decide +kernel
set_option maxRecDepth 20000 in
theorem ggX16_isWanted_X16_isNoPoint : GoodIn wsX16_isWanted wsX16_isNoPoint := goodIn_r _ [6, 7, 8, 9, 10, 11, 12, 13, 14, 15, 16, 5, 17, 288, 289, 290, 291, 292, 293, 294, 295, 296] (by decide +kernel) (by decide +kernel)
set_option maxRecDepth 20000 in
theorem gX16_isWanted_X16_isNoPoint : GoodIn wsX16_isWanted (wsV RX16 120 RX16 yX16_isNoPoint wsX16_isNoPoint) := goodIn_app (goodIn_of _ (by decide +kernel)) ggX16_isWanted_X16_isNoPoint
set_option maxRecDepth 20000 in
theorem ggX16_isWanted_X16_isNoBorrow : GoodIn wsX16_isWanted wsX16_isNoBorrow := goodIn_r _ [21, 7, 22, 9, 10, 11, 12, 13, 14, 15, 16, 5, 17, 23, 24, 25, 26, 27, 28, 29, 30, 31, 32, 33, 34, 35, 36, 37, 38, 39, 40, 41, 42, 43, 44, 45, 46, 47, 48, 49, 50, 51, 52, 53, 54, 55, 56, 57, 288, 289, 290, 291, 292, 293, 294, 295, 296, 297] (by decide +kernel) (by decide +kernel)
set_option maxRecDepth 20000 in
theorem gX16_isWanted_X16_isNoBorrow : GoodIn wsX16_isWanted (wsV RX16 134 RX16 yX16_isNoBorrow wsX16_isNoBorrow) := goodIn_app (goodIn_of _ (by decide +kernel)) ggX16_isWanted_X16_isNoBorrow
set_option maxRecDepth 20000 in
theorem ggX16_isWanted_X16_start : GoodIn wsX16_isWanted wsX16_start := goodIn_r _ [61, 62, 63, 64, 65, 5, 66, 288, 289, 290, 291] (by decide +kernel) (by decide +kernel)
set_option maxRecDepth 20000 in
theorem gX16_isWanted_X16_start : GoodIn wsX16_isWanted (wsV RX16 33 RX16 yX16_start wsX16_start) := goodIn_app (goodIn_of _ (by decide +kernel)) ggX16_isWanted_X16_start
set_option maxRecDepth 20000 in
theorem ggX16_isWanted_X16_check : GoodIn wsX16_isWanted wsX16_check := goodIn_r _ [70, 71, 72, 73, 7, 74, 75, 76, 77, 78, 79, 80, 81, 82, 83, 84, 85, 86, 87, 88, 89, 90, 91, 92, 93, 94, 95, 96, 10, 11, 12, 13, 14, 97, 98, 99, 100, 101, 102, 103, 104, 105, 106, 107, 108, 109, 51, 110, 111, 112, 113, 114, 115, 116, 117, 118, 119, 120, 36, 37, 38, 39, 40, 41, 42, 43, 44, 45, 46, 47, 48, 49, 50, 121, 122, 123, 124, 125, 53, 54, 55, 56, 57, 126, 127, 128, 129, 130, 131, 132, 133, 134, 135, 136, 137, 138, 139, 140, 141, 142, 143, 144, 145, 146, 147, 148, 149, 150, 151, 152, 153, 154, 155, 156, 157, 158, 159, 160, 161, 162, 163, 164, 165, 166, 167, 168, 169, 170, 171, 172, 173, 174, 175, 176, 177, 178, 179, 180, 181, 182, 183, 184, 185, 186, 187, 188, 189, 190, 191, 192, 193, 194, 195, 196, 197, 198, 199, 200, 201, 202, 203, 204, 205, 206, 207, 208, 209, 210, 211, 212, 213, 214, 215, 216, 217, 218, 219, 220, 221, 222, 223, 224, 225, 226, 227, 26, 228, 28, 29, 30, 31, 32, 33, 34, 16, 5, 17, 35, 52, 229, 230, 231, 232, 233, 234, 235, 236, 237, 238, 239, 240, 241, 242, 243, 244, 245, 246, 247, 248, 249, 250, 251, 252, 253, 254, 255, 256, 257, 258, 24, 25, 27, 259, 260, 261, 262, 263, 264, 265, 266, 267, 268, 269, 270, 271, 272, 273, 274, 275, 276, 277, 278, 279, 280, 281, 282, 283, 284, 285, 286, 287, 288, 289, 290, 291, 292, 293, 294, 295, 296, 298, 299, 300, 297] (by decide +kernel) (by decide +kernel)
set_option maxRecDepth 20000 in
theorem gX16_isWanted_X16_check : GoodIn wsX16_isWanted (wsV RX16 112 RX16 yX16_check wsX16_check) := goodIn_app (goodIn_of _ (by decide +kernel)) ggX16_isWanted_X16_check
theorem dX16_isWanted_0 : decode cX16_isWanted 0 = .ok (.aload_n 0, 1) := by decide +kernel
theorem dX16_isWanted_1 : decode cX16_isWanted 1 = .ok (.aload_n 0, 1) := by decide +kernel
theorem dX16_isWanted_2 : decode cX16_isWanted 2 = .ok (.iload_n 1, 1) := by decide +kernel
theorem dX16_isWanted_3 : decode cX16_isWanted 3 = .ok (.invokevirtual 120, 3) := by decide +kernel
theorem dX16_isWanted_6 : decode cX16_isWanted 6 = .ok (.ifCond .ne 11, 3) := by decide +kernel
theorem dX16_isWanted_9 : decode cX16_isWanted 9 = .ok (.aload_n 0, 1) := by decide +kernel
theorem dX16_isWanted_10 : decode cX16_isWanted 10 = .ok (.iload_n 2, 1) := by decide +kernel
theorem dX16_isWanted_11 : decode cX16_isWanted 11 = .ok (.invokevirtual 134, 3) := by decide +kernel
theorem dX16_isWanted_14 : decode cX16_isWanted 14 = .ok (.ifCond .eq 7, 3) := by decide +kernel
theorem dX16_isWanted_17 : decode cX16_isWanted 17 = .ok (.iconst 1, 1) := by decide +kernel
theorem dX16_isWanted_18 : decode cX16_isWanted 18 = .ok (.goto 4, 3) := by decide +kernel
theorem dX16_isWanted_21 : decode cX16_isWanted 21 = .ok (.iconst 0, 1) := by decide +kernel
theorem dX16_isWanted_22 : decode cX16_isWanted 22 = .ok (.iconst 1, 1) := by decide +kernel
theorem dX16_isWanted_23 : decode cX16_isWanted 23 = .ok (.invokevirtual 33, 3) := by decide +kernel
theorem dX16_isWanted_26 : decode cX16_isWanted 26 = .ok (.ifCond .ne 21, 3) := by decide +kernel
theorem dX16_isWanted_29 : decode cX16_isWanted 29 = .ok (.aload_n 0, 1) := by decide +kernel
theorem dX16_isWanted_30 : decode cX16_isWanted 30 = .ok (.invokevirtual 112, 3) := by decide +kernel
theorem dX16_isWanted_33 : decode cX16_isWanted 33 = .ok (.getfield 140, 3) := by decide +kernel
theorem dX16_isWanted_36 : decode cX16_isWanted 36 = .ok (.iload_n 1, 1) := by decide +kernel
theorem dX16_isWanted_37 : decode cX16_isWanted 37 = .ok (.aaload, 1) := by decide +kernel
theorem dX16_isWanted_38 : decode cX16_isWanted 38 = .ok (.iload_n 2, 1) := by decide +kernel
theorem dX16_isWanted_39 : decode cX16_isWanted 39 = .ok (.baload, 1) := by decide +kernel
theorem dX16_isWanted_40 : decode cX16_isWanted 40 = .ok (.ifCond .eq 7, 3) := by decide +kernel
theorem dX16_isWanted_43 : decode cX16_isWanted 43 = .ok (.iconst 1, 1) := by decide +kernel
theorem dX16_isWanted_44 : decode cX16_isWanted 44 = .ok (.goto 4, 3) := by decide +kernel
theorem dX16_isWanted_47 : decode cX16_isWanted 47 = .ok (.iconst 0, 1) := by decide +kernel
theorem dX16_isWanted_48 : decode cX16_isWanted 48 = .ok (.ireturn, 1) := by decide +kernel
set_option maxRecDepth 20000 in
theorem ggX16_inTheWay_X16_isNoPoint : GoodIn wsX16_inTheWay wsX16_isNoPoint := goodIn_r _ [6, 1, 7, 8, 9, 10, 11, 12, 13, 14, 15, 5, 16, 319, 320, 321, 322, 323, 324, 325, 326, 327] (by decide +kernel) (by decide +kernel)
set_option maxRecDepth 20000 in
theorem gX16_inTheWay_X16_isNoPoint : GoodIn wsX16_inTheWay (wsV RX16 120 RX16 yX16_isNoPoint wsX16_isNoPoint) := goodIn_app (goodIn_of _ (by decide +kernel)) ggX16_inTheWay_X16_isNoPoint
set_option maxRecDepth 20000 in
theorem ggX16_inTheWay_X14_kindOf : GoodIn wsX16_inTheWay wsX14_kindOf := goodIn_r _ [21, 22, 23, 24, 9, 10, 11, 12, 13, 15, 5, 16, 25, 26, 27, 28, 29, 30, 31, 32, 33, 34, 35, 36, 37, 38, 39, 40, 41, 42, 43, 44, 45, 46, 47, 323, 324, 325, 326, 327, 328] (by decide +kernel) (by decide +kernel)
set_option maxRecDepth 20000 in
theorem gX16_inTheWay_X14_kindOf : GoodIn wsX16_inTheWay (wsV RX16 123 RX14 yX14_kindOf wsX14_kindOf) := goodIn_app (goodIn_of _ (by decide +kernel)) ggX16_inTheWay_X14_kindOf
set_option maxRecDepth 20000 in
theorem ggX16_inTheWay_X16_start : GoodIn wsX16_inTheWay wsX16_start := goodIn_r _ [51, 52, 53, 54, 55, 5, 56, 319, 320, 321, 322] (by decide +kernel) (by decide +kernel)
set_option maxRecDepth 20000 in
theorem gX16_inTheWay_X16_start : GoodIn wsX16_inTheWay (wsV RX16 33 RX16 yX16_start wsX16_start) := goodIn_app (goodIn_of _ (by decide +kernel)) ggX16_inTheWay_X16_start
set_option maxRecDepth 20000 in
theorem ggX16_inTheWay_X16_check : GoodIn wsX16_inTheWay wsX16_check := goodIn_r _ [60, 61, 62, 63, 1, 64, 65, 66, 67, 68, 69, 70, 71, 72, 73, 74, 75, 76, 77, 78, 79, 80, 81, 82, 83, 84, 85, 86, 9, 10, 11, 12, 13, 87, 88, 89, 90, 91, 92, 93, 94, 95, 96, 97, 98, 99, 41, 100, 101, 102, 103, 104, 105, 106, 107, 108, 109, 110, 26, 27, 28, 29, 30, 31, 32, 33, 34, 35, 36, 37, 38, 39, 40, 111, 112, 113, 114, 115, 43, 44, 45, 46, 47, 116, 117, 118, 119, 120, 121, 122, 123, 124, 125, 126, 127, 128, 129, 130, 131, 132, 133, 134, 135, 136, 137, 138, 139, 140, 141, 142, 143, 144, 145, 146, 147, 148, 149, 150, 151, 152, 153, 154, 155, 156, 157, 158, 159, 160, 161, 162, 163, 164, 165, 166, 167, 168, 169, 170, 171, 172, 173, 174, 175, 176, 177, 178, 179, 180, 181, 182, 183, 184, 185, 186, 187, 188, 189, 190, 191, 192, 193, 194, 195, 196, 197, 198, 199, 200, 201, 202, 203, 204, 205, 206, 207, 208, 209, 210, 211, 212, 213, 214, 215, 216, 217, 20, 218, 219, 18, 19, 21, 22, 23, 24, 15, 5, 16, 25, 42, 220, 221, 222, 223, 224, 225, 226, 227, 228, 229, 230, 231, 232, 233, 234, 235, 236, 237, 238, 239, 240, 241, 242, 243, 244, 245, 246, 247, 248, 249, 250, 251, 252, 253, 254, 255, 256, 257, 258, 259, 260, 261, 262, 263, 264, 265, 266, 267, 268, 269, 270, 271, 272, 329, 330, 331, 332, 333, 334, 335, 336, 337, 319, 320, 321, 322, 323, 324, 325, 326, 327, 338, 339, 340, 328] (by decide +kernel) (by decide +kernel)
set_option maxRecDepth 20000 in
theorem gX16_inTheWay_X16_check : GoodIn wsX16_inTheWay (wsV RX16 112 RX16 yX16_check wsX16_check) := goodIn_app (goodIn_of _ (by decide +kernel)) ggX16_inTheWay_X16_check
set_option maxRecDepth 20000 in
theorem ggX16_inTheWay_X11_inTheWay : GoodIn wsX16_inTheWay wsX11_inTheWay := goodIn_r _ [276, 71, 72, 93, 209, 76, 84, 85, 277, 278, 279, 20, 280, 234, 235, 281, 282, 283, 11, 284, 285, 286, 287, 288, 289, 290, 291, 292, 68, 69, 293, 294, 136, 295, 296, 297, 298, 299, 300, 301, 302, 303, 304, 305, 306, 307, 308, 309, 236, 227, 228, 223, 229, 225, 310, 311, 312, 313, 24, 9, 10, 12, 13, 25, 26, 27, 28, 29, 30, 31, 32, 33, 34, 35, 36, 37, 38, 39, 40, 41, 110, 314, 315, 316, 86, 317, 5, 318, 329, 330, 331, 332, 333, 334, 335, 336, 337, 323, 324, 338, 339, 340, 341, 342, 343, 344, 325, 326, 327] (by decide +kernel) (by decide +kernel)
set_option maxRecDepth 20000 in
theorem gX16_inTheWay_X11_inTheWay : GoodIn wsX16_inTheWay (wsV RX16 144 RX11 yX11_inTheWay wsX11_inTheWay) := goodIn_app (goodIn_of _ (by decide +kernel)) ggX16_inTheWay_X11_inTheWay
theorem dX16_inTheWay_0 : decode cX16_inTheWay 0 = .ok (.aload_n 0, 1) := by decide +kernel
theorem dX16_inTheWay_1 : decode cX16_inTheWay 1 = .ok (.aload_n 0, 1) := by decide +kernel
theorem dX16_inTheWay_2 : decode cX16_inTheWay 2 = .ok (.iload_n 1, 1) := by decide +kernel
theorem dX16_inTheWay_3 : decode cX16_inTheWay 3 = .ok (.invokevirtual 120, 3) := by decide +kernel
theorem dX16_inTheWay_6 : decode cX16_inTheWay 6 = .ok (.ifCond .ne 15, 3) := by decide +kernel
theorem dX16_inTheWay_9 : decode cX16_inTheWay 9 = .ok (.aload_n 0, 1) := by decide +kernel
theorem dX16_inTheWay_10 : decode cX16_inTheWay 10 = .ok (.getfield 10, 3) := by decide +kernel
theorem dX16_inTheWay_13 : decode cX16_inTheWay 13 = .ok (.iload_n 2, 1) := by decide +kernel
theorem dX16_inTheWay_14 : decode cX16_inTheWay 14 = .ok (.invokevirtual 123, 3) := by decide +kernel
theorem dX16_inTheWay_17 : decode cX16_inTheWay 17 = .ok (.iconst (-1), 1) := by decide +kernel
theorem dX16_inTheWay_18 : decode cX16_inTheWay 18 = .ok (.if_icmp .ne 7, 3) := by decide +kernel
theorem dX16_inTheWay_21 : decode cX16_inTheWay 21 = .ok (.iconst 1, 1) := by decide +kernel
theorem dX16_inTheWay_22 : decode cX16_inTheWay 22 = .ok (.goto 4, 3) := by decide +kernel
theorem dX16_inTheWay_25 : decode cX16_inTheWay 25 = .ok (.iconst 0, 1) := by decide +kernel
theorem dX16_inTheWay_26 : decode cX16_inTheWay 26 = .ok (.iconst 1, 1) := by decide +kernel
theorem dX16_inTheWay_27 : decode cX16_inTheWay 27 = .ok (.invokevirtual 33, 3) := by decide +kernel
theorem dX16_inTheWay_30 : decode cX16_inTheWay 30 = .ok (.ifCond .eq 7, 3) := by decide +kernel
theorem dX16_inTheWay_33 : decode cX16_inTheWay 33 = .ok (.iconst 0, 1) := by decide +kernel
theorem dX16_inTheWay_34 : decode cX16_inTheWay 34 = .ok (.goto 12, 3) := by decide +kernel
theorem dX16_inTheWay_37 : decode cX16_inTheWay 37 = .ok (.aload_n 0, 1) := by decide +kernel
theorem dX16_inTheWay_38 : decode cX16_inTheWay 38 = .ok (.invokevirtual 112, 3) := by decide +kernel
theorem dX16_inTheWay_41 : decode cX16_inTheWay 41 = .ok (.iload_n 1, 1) := by decide +kernel
theorem dX16_inTheWay_42 : decode cX16_inTheWay 42 = .ok (.iload_n 2, 1) := by decide +kernel
theorem dX16_inTheWay_43 : decode cX16_inTheWay 43 = .ok (.invokevirtual 144, 3) := by decide +kernel
theorem dX16_inTheWay_46 : decode cX16_inTheWay 46 = .ok (.ireturn, 1) := by decide +kernel
set_option maxRecDepth 20000 in
theorem ggX16_ofLoanNow_X14_lineOf : GoodIn wsX16_ofLoanNow wsX14_lineOf := goodIn_r _ [10, 11, 12, 13, 14, 15, 16, 17, 18, 19, 20, 21, 22, 23, 24, 25, 26, 27, 28, 29, 30, 31, 32, 33, 34, 35, 36, 37, 38, 39, 40, 41, 93, 94, 98, 99, 100, 95, 96, 97] (by decide +kernel) (by decide +kernel)
set_option maxRecDepth 20000 in
theorem gX16_ofLoanNow_X14_lineOf : GoodIn wsX16_ofLoanNow (wsV RX16 147 RX14 yX14_lineOf wsX14_lineOf) := goodIn_app (goodIn_of _ (by decide +kernel)) ggX16_ofLoanNow_X14_lineOf
set_option maxRecDepth 20000 in
theorem ggX16_ofLoanNow_Jx4a65c_get_915e3 : GoodIn wsX16_ofLoanNow wsJx4a65c_get_915e3 := goodIn_r _ [22, 18, 23, 24, 25, 26, 27, 28, 29, 30, 31, 32, 33, 16, 34, 35, 98, 99, 100] (by decide +kernel) (by decide +kernel)
set_option maxRecDepth 20000 in
theorem gX16_ofLoanNow_Jx4a65c_get_915e3 : GoodIn wsX16_ofLoanNow (wsV RX16 78 RJx4a65c yJx4a65c_get_915e3 wsJx4a65c_get_915e3) := goodIn_app (goodIn_of _ (by decide +kernel)) ggX16_ofLoanNow_Jx4a65c_get_915e3
set_option maxRecDepth 20000 in
theorem ggX16_ofLoanNow_X11_lastUse : GoodIn wsX16_ofLoanNow wsX11_lastUse := goodIn_r _ [47, 48, 49, 50, 51, 52, 53, 54, 14, 15, 16, 17, 18, 55, 56, 57, 9, 58, 59, 60, 61, 62, 63, 64, 13, 65, 66, 67, 19, 20, 21, 22, 23, 24, 25, 26, 27, 28, 29, 30, 31, 32, 33, 34, 35, 68, 69, 70, 71, 72, 73, 74, 75, 76, 77, 78, 79, 80, 81, 82, 83, 84, 85, 86, 87, 88, 101, 102, 103, 104, 105, 106, 107, 108, 109, 93, 94, 98, 99, 100, 110, 95, 96, 97] (by decide +kernel) (by decide +kernel)
set_option maxRecDepth 20000 in
theorem gX16_ofLoanNow_X11_lastUse : GoodIn wsX16_ofLoanNow (wsV RX16 150 RX11 yX11_lastUse wsX11_lastUse) := goodIn_app (goodIn_of _ (by decide +kernel)) ggX16_ofLoanNow_X11_lastUse
theorem dX16_ofLoanNow_0 : decode cX16_ofLoanNow 0 = .ok (.aload_n 0, 1) := by decide +kernel
theorem dX16_ofLoanNow_1 : decode cX16_ofLoanNow 1 = .ok (.getfield 10, 3) := by decide +kernel
theorem dX16_ofLoanNow_4 : decode cX16_ofLoanNow 4 = .ok (.iload_n 2, 1) := by decide +kernel
theorem dX16_ofLoanNow_5 : decode cX16_ofLoanNow 5 = .ok (.invokevirtual 147, 3) := by decide +kernel
theorem dX16_ofLoanNow_8 : decode cX16_ofLoanNow 8 = .ok (.istore 4, 2) := by decide +kernel
theorem dX16_ofLoanNow_10 : decode cX16_ofLoanNow 10 = .ok (.aload_n 0, 1) := by decide +kernel
theorem dX16_ofLoanNow_11 : decode cX16_ofLoanNow 11 = .ok (.getfield 10, 3) := by decide +kernel
theorem dX16_ofLoanNow_14 : decode cX16_ofLoanNow 14 = .ok (.getfield 64, 3) := by decide +kernel
theorem dX16_ofLoanNow_17 : decode cX16_ofLoanNow 17 = .ok (.iload 4, 2) := by decide +kernel
theorem dX16_ofLoanNow_19 : decode cX16_ofLoanNow 19 = .ok (.invokevirtual 78, 3) := by decide +kernel
theorem dX16_ofLoanNow_22 : decode cX16_ofLoanNow 22 = .ok (.checkcast 59, 3) := by decide +kernel
theorem dX16_ofLoanNow_25 : decode cX16_ofLoanNow 25 = .ok (.astore 5, 2) := by decide +kernel
theorem dX16_ofLoanNow_27 : decode cX16_ofLoanNow 27 = .ok (.iload_n 3, 1) := by decide +kernel
theorem dX16_ofLoanNow_28 : decode cX16_ofLoanNow 28 = .ok (.ifCond .ne 8, 3) := by decide +kernel
theorem dX16_ofLoanNow_31 : decode cX16_ofLoanNow 31 = .ok (.iload 4, 2) := by decide +kernel
theorem dX16_ofLoanNow_33 : decode cX16_ofLoanNow 33 = .ok (.goto 36, 3) := by decide +kernel
theorem dX16_ofLoanNow_36 : decode cX16_ofLoanNow 36 = .ok (.iload_n 3, 1) := by decide +kernel
theorem dX16_ofLoanNow_37 : decode cX16_ofLoanNow 37 = .ok (.iconst 1, 1) := by decide +kernel
theorem dX16_ofLoanNow_38 : decode cX16_ofLoanNow 38 = .ok (.if_icmp .ne 11, 3) := by decide +kernel
theorem dX16_ofLoanNow_41 : decode cX16_ofLoanNow 41 = .ok (.aload 5, 2) := by decide +kernel
theorem dX16_ofLoanNow_43 : decode cX16_ofLoanNow 43 = .ok (.getfield 98, 3) := by decide +kernel
theorem dX16_ofLoanNow_46 : decode cX16_ofLoanNow 46 = .ok (.goto 23, 3) := by decide +kernel
theorem dX16_ofLoanNow_49 : decode cX16_ofLoanNow 49 = .ok (.iload_n 3, 1) := by decide +kernel
theorem dX16_ofLoanNow_50 : decode cX16_ofLoanNow 50 = .ok (.iconst 2, 1) := by decide +kernel
theorem dX16_ofLoanNow_51 : decode cX16_ofLoanNow 51 = .ok (.if_icmp .ne 13, 3) := by decide +kernel
theorem dX16_ofLoanNow_54 : decode cX16_ofLoanNow 54 = .ok (.aload 5, 2) := by decide +kernel
theorem dX16_ofLoanNow_56 : decode cX16_ofLoanNow 56 = .ok (.getfield 86, 3) := by decide +kernel
theorem dX16_ofLoanNow_59 : decode cX16_ofLoanNow 59 = .ok (.iconst 3, 1) := by decide +kernel
theorem dX16_ofLoanNow_60 : decode cX16_ofLoanNow 60 = .ok (.isub, 1) := by decide +kernel
theorem dX16_ofLoanNow_61 : decode cX16_ofLoanNow 61 = .ok (.goto 8, 3) := by decide +kernel
theorem dX16_ofLoanNow_64 : decode cX16_ofLoanNow 64 = .ok (.aload_n 1, 1) := by decide +kernel
theorem dX16_ofLoanNow_65 : decode cX16_ofLoanNow 65 = .ok (.iload_n 2, 1) := by decide +kernel
theorem dX16_ofLoanNow_66 : decode cX16_ofLoanNow 66 = .ok (.invokevirtual 150, 3) := by decide +kernel
theorem dX16_ofLoanNow_69 : decode cX16_ofLoanNow 69 = .ok (.ireturn, 1) := by decide +kernel
set_option maxRecDepth 20000 in
theorem ggX16_ofLoan_X14_loans : GoodIn wsX16_ofLoan wsX14_loans := goodIn_r _ [6, 7, 8, 9, 10, 11, 12, 13, 14, 15, 16, 17, 18, 19, 20, 21, 22, 23, 24, 25, 26, 27, 28, 29, 30, 31, 32, 33, 34, 35, 36, 37, 38, 39, 40, 41, 42, 43, 44, 45, 46, 47, 322, 323, 324, 325, 326, 327, 328, 329, 330, 331, 332, 333] (by decide +kernel) (by decide +kernel)
set_option maxRecDepth 20000 in
theorem gX16_ofLoan_X14_loans : GoodIn wsX16_ofLoan (wsV RX16 71 RX14 yX14_loans wsX14_loans) := goodIn_app (goodIn_of _ (by decide +kernel)) ggX16_ofLoan_X14_loans
set_option maxRecDepth 20000 in
theorem ggX16_ofLoan_X16_isIn : GoodIn wsX16_ofLoan wsX16_isIn := goodIn_r _ [51] (by decide +kernel) (by decide +kernel)
set_option maxRecDepth 20000 in
theorem gX16_ofLoan_X16_isIn : GoodIn wsX16_ofLoan (va_wsS RX16 29 yX16_isIn wsX16_isIn) := goodIn_app (goodIn_of _ (by decide +kernel)) ggX16_ofLoan_X16_isIn
set_option maxRecDepth 20000 in
theorem ggX16_ofLoan_X16_start : GoodIn wsX16_ofLoan wsX16_start := goodIn_r _ [55, 56, 57, 58, 59, 50, 60, 318, 319, 320, 321] (by decide +kernel) (by decide +kernel)
set_option maxRecDepth 20000 in
theorem gX16_ofLoan_X16_start : GoodIn wsX16_ofLoan (wsV RX16 33 RX16 yX16_start wsX16_start) := goodIn_app (goodIn_of _ (by decide +kernel)) ggX16_ofLoan_X16_start
set_option maxRecDepth 20000 in
theorem ggX16_ofLoan_X16_refuse : GoodIn wsX16_ofLoan wsX16_refuse := goodIn_r _ [60, 56, 318, 319, 320, 321] (by decide +kernel) (by decide +kernel)
set_option maxRecDepth 20000 in
theorem gX16_ofLoan_X16_refuse : GoodIn wsX16_ofLoan (wsV RX16 20 RX16 yX16_refuse wsX16_refuse) := goodIn_app (goodIn_of _ (by decide +kernel)) ggX16_ofLoan_X16_refuse
set_option maxRecDepth 20000 in
theorem ggX16_ofLoan_X16_check : GoodIn wsX16_ofLoan wsX16_check := goodIn_r _ [64, 65, 66, 67, 1, 68, 69, 70, 71, 22, 23, 72, 73, 74, 75, 76, 77, 78, 79, 80, 81, 82, 83, 84, 85, 86, 87, 88, 89, 90, 12, 91, 92, 93, 94, 95, 96, 97, 98, 99, 100, 101, 102, 103, 104, 105, 106, 107, 108, 109, 110, 111, 112, 113, 114, 115, 116, 117, 118, 119, 120, 121, 122, 123, 124, 125, 126, 127, 128, 129, 130, 131, 132, 133, 134, 135, 136, 137, 138, 139, 140, 141, 142, 143, 144, 145, 146, 147, 148, 149, 150, 151, 152, 153, 154, 155, 156, 157, 158, 159, 160, 161, 162, 26, 163, 164, 165, 166, 167, 168, 169, 170, 171, 172, 173, 174, 175, 176, 177, 178, 179, 180, 181, 182, 183, 184, 185, 186, 187, 188, 189, 190, 191, 192, 193, 194, 195, 196, 197, 198, 199, 200, 201, 202, 203, 204, 205, 206, 207, 208, 209, 210, 211, 212, 213, 214, 215, 216, 217, 218, 219, 220, 221, 222, 223, 224, 225, 226, 227, 228, 229, 230, 231, 232, 233, 234, 235, 236, 237, 238, 239, 240, 241, 242, 243, 5, 244, 245, 246, 247, 248, 249, 250, 251, 49, 50, 51, 252, 253, 254, 255, 256, 45, 257, 47, 258, 43, 44, 46, 259, 260, 261, 262, 7, 8, 42, 263, 264, 265, 266, 267, 268, 269, 270, 271, 272, 273, 274, 275, 276, 277, 278, 279, 280, 281, 282, 283, 284, 285, 286, 287, 288, 289, 290, 291, 292, 293, 294, 295, 296, 297, 298, 334, 335, 336, 337, 338, 339, 340, 341, 342, 318, 319, 320, 321, 322, 323, 328, 329, 330, 331, 332, 333, 343] (by decide +kernel) (by decide +kernel)
set_option maxRecDepth 20000 in
theorem gX16_ofLoan_X16_check : GoodIn wsX16_ofLoan (wsV RX16 112 RX16 yX16_check wsX16_check) := goodIn_app (goodIn_of _ (by decide +kernel)) ggX16_ofLoan_X16_check
set_option maxRecDepth 20000 in
theorem ggX16_ofLoan_X16_ofLoanNow : GoodIn wsX16_ofLoan wsX16_ofLoanNow := goodIn_r _ [302, 1, 303, 304, 305, 306, 307, 308, 309, 5, 310, 7, 8, 251, 89, 90, 12, 91, 92, 252, 118, 119, 120, 121, 122, 123, 124, 125, 126, 127, 128, 129, 130, 131, 132, 106, 42, 43, 44, 45, 46, 47, 311, 312, 313, 314, 67, 315, 75, 73, 78, 74, 99, 86, 88, 275, 276, 277, 278, 245, 246, 247, 248, 249, 250, 49, 50, 51, 253, 138, 139, 140, 141, 142, 117, 279, 280, 281, 282, 283, 284, 285, 286, 287, 85, 288, 289, 316, 317, 318, 319, 320, 321, 322, 323, 331, 332, 333, 328, 329, 330, 334, 335, 336, 337, 338, 339, 340, 341, 342, 343] (by decide +kernel) (by decide +kernel)
set_option maxRecDepth 20000 in
theorem gX16_ofLoan_X16_ofLoanNow : GoodIn wsX16_ofLoan (wsV RX16 153 RX16 yX16_ofLoanNow wsX16_ofLoanNow) := goodIn_app (goodIn_of _ (by decide +kernel)) ggX16_ofLoan_X16_ofLoanNow
