theorem dX8_init_36 : decode cX8_init 36 = .ok (.newarray .int, 2) := by decide +kernel
theorem dX8_init_38 : decode cX8_init 38 = .ok (.putfield 25, 3) := by decide +kernel
theorem dX8_init_41 : decode cX8_init 41 = .ok (.aload_n 0, 1) := by decide +kernel
theorem dX8_init_42 : decode cX8_init 42 = .ok (.bipush 34, 2) := by decide +kernel
theorem dX8_init_44 : decode cX8_init 44 = .ok (.newarray .int, 2) := by decide +kernel
theorem dX8_init_46 : decode cX8_init 46 = .ok (.putfield 28, 3) := by decide +kernel
theorem dX8_init_49 : decode cX8_init 49 = .ok (.aload_n 0, 1) := by decide +kernel
theorem dX8_init_50 : decode cX8_init 50 = .ok (.bipush 34, 2) := by decide +kernel
theorem dX8_init_52 : decode cX8_init 52 = .ok (.newarray .int, 2) := by decide +kernel
theorem dX8_init_54 : decode cX8_init 54 = .ok (.putfield 31, 3) := by decide +kernel
theorem dX8_init_57 : decode cX8_init 57 = .ok (.aload_n 0, 1) := by decide +kernel
theorem dX8_init_58 : decode cX8_init 58 = .ok (.iconst 0, 1) := by decide +kernel
theorem dX8_init_59 : decode cX8_init 59 = .ok (.putfield 34, 3) := by decide +kernel
theorem dX8_init_62 : decode cX8_init 62 = .ok (.aload_n 0, 1) := by decide +kernel
theorem dX8_init_63 : decode cX8_init 63 = .ok (.iconst (-1), 1) := by decide +kernel
theorem dX8_init_64 : decode cX8_init 64 = .ok (.putfield 38, 3) := by decide +kernel
theorem dX8_init_67 : decode cX8_init 67 = .ok (.return_, 1) := by decide +kernel
theorem dX8_isWhole_0 : decode cX8_isWhole 0 = .ok (.aload_n 0, 1) := by decide +kernel
theorem dX8_isWhole_1 : decode cX8_isWhole 1 = .ok (.getfield 38, 3) := by decide +kernel
theorem dX8_isWhole_4 : decode cX8_isWhole 4 = .ok (.iconst (-1), 1) := by decide +kernel
theorem dX8_isWhole_5 : decode cX8_isWhole 5 = .ok (.if_icmp .ne 7, 3) := by decide +kernel
theorem dX8_isWhole_8 : decode cX8_isWhole 8 = .ok (.iconst 1, 1) := by decide +kernel
theorem dX8_isWhole_9 : decode cX8_isWhole 9 = .ok (.goto 4, 3) := by decide +kernel
theorem dX8_isWhole_12 : decode cX8_isWhole 12 = .ok (.iconst 0, 1) := by decide +kernel
theorem dX8_isWhole_13 : decode cX8_isWhole 13 = .ok (.ireturn, 1) := by decide +kernel
theorem dX8_firstAt_0 : decode cX8_firstAt 0 = .ok (.aload_n 0, 1) := by decide +kernel
theorem dX8_firstAt_1 : decode cX8_firstAt 1 = .ok (.invokevirtual 41, 3) := by decide +kernel
theorem dX8_firstAt_4 : decode cX8_firstAt 4 = .ok (.ifCond .eq 23, 3) := by decide +kernel
theorem dX8_firstAt_7 : decode cX8_firstAt 7 = .ok (.aload_n 0, 1) := by decide +kernel
theorem dX8_firstAt_8 : decode cX8_firstAt 8 = .ok (.getfield 9, 3) := by decide +kernel
theorem dX8_firstAt_11 : decode cX8_firstAt 11 = .ok (.iload_n 1, 1) := by decide +kernel
theorem dX8_firstAt_12 : decode cX8_firstAt 12 = .ok (.invokevirtual 45, 3) := by decide +kernel
theorem dX8_firstAt_15 : decode cX8_firstAt 15 = .ok (.ifCond .eq 12, 3) := by decide +kernel
theorem dX8_firstAt_18 : decode cX8_firstAt 18 = .ok (.aload_n 0, 1) := by decide +kernel
theorem dX8_firstAt_19 : decode cX8_firstAt 19 = .ok (.getfield 15, 3) := by decide +kernel
theorem dX8_firstAt_22 : decode cX8_firstAt 22 = .ok (.iload_n 1, 1) := by decide +kernel
theorem dX8_firstAt_23 : decode cX8_firstAt 23 = .ok (.iaload, 1) := by decide +kernel
theorem dX8_firstAt_24 : decode cX8_firstAt 24 = .ok (.goto 4, 3) := by decide +kernel
theorem dX8_firstAt_27 : decode cX8_firstAt 27 = .ok (.iconst (-1), 1) := by decide +kernel
theorem dX8_firstAt_28 : decode cX8_firstAt 28 = .ok (.ireturn, 1) := by decide +kernel
theorem dX8_secondAt_0 : decode cX8_secondAt 0 = .ok (.aload_n 0, 1) := by decide +kernel
theorem dX8_secondAt_1 : decode cX8_secondAt 1 = .ok (.invokevirtual 41, 3) := by decide +kernel
theorem dX8_secondAt_4 : decode cX8_secondAt 4 = .ok (.ifCond .eq 23, 3) := by decide +kernel
theorem dX8_secondAt_7 : decode cX8_secondAt 7 = .ok (.aload_n 0, 1) := by decide +kernel
theorem dX8_secondAt_8 : decode cX8_secondAt 8 = .ok (.getfield 9, 3) := by decide +kernel
theorem dX8_secondAt_11 : decode cX8_secondAt 11 = .ok (.iload_n 1, 1) := by decide +kernel
theorem dX8_secondAt_12 : decode cX8_secondAt 12 = .ok (.invokevirtual 45, 3) := by decide +kernel
theorem dX8_secondAt_15 : decode cX8_secondAt 15 = .ok (.ifCond .eq 12, 3) := by decide +kernel
theorem dX8_secondAt_18 : decode cX8_secondAt 18 = .ok (.aload_n 0, 1) := by decide +kernel
theorem dX8_secondAt_19 : decode cX8_secondAt 19 = .ok (.getfield 19, 3) := by decide +kernel
theorem dX8_secondAt_22 : decode cX8_secondAt 22 = .ok (.iload_n 1, 1) := by decide +kernel
theorem dX8_secondAt_23 : decode cX8_secondAt 23 = .ok (.iaload, 1) := by decide +kernel
theorem dX8_secondAt_24 : decode cX8_secondAt 24 = .ok (.goto 4, 3) := by decide +kernel
theorem dX8_secondAt_27 : decode cX8_secondAt 27 = .ok (.iconst (-1), 1) := by decide +kernel
theorem dX8_secondAt_28 : decode cX8_secondAt 28 = .ok (.ireturn, 1) := by decide +kernel
theorem dX8_openerAt_0 : decode cX8_openerAt 0 = .ok (.aload_n 0, 1) := by decide +kernel
theorem dX8_openerAt_1 : decode cX8_openerAt 1 = .ok (.getfield 9, 3) := by decide +kernel
theorem dX8_openerAt_4 : decode cX8_openerAt 4 = .ok (.iload_n 1, 1) := by decide +kernel
theorem dX8_openerAt_5 : decode cX8_openerAt 5 = .ok (.invokevirtual 45, 3) := by decide +kernel
theorem dX8_openerAt_8 : decode cX8_openerAt 8 = .ok (.ifCond .eq 12, 3) := by decide +kernel
theorem dX8_openerAt_11 : decode cX8_openerAt 11 = .ok (.aload_n 0, 1) := by decide +kernel
theorem dX8_openerAt_12 : decode cX8_openerAt 12 = .ok (.getfield 22, 3) := by decide +kernel
theorem dX8_openerAt_15 : decode cX8_openerAt 15 = .ok (.iload_n 1, 1) := by decide +kernel
theorem dX8_openerAt_16 : decode cX8_openerAt 16 = .ok (.iaload, 1) := by decide +kernel
theorem dX8_openerAt_17 : decode cX8_openerAt 17 = .ok (.goto 4, 3) := by decide +kernel
theorem dX8_openerAt_20 : decode cX8_openerAt 20 = .ok (.iconst (-1), 1) := by decide +kernel
theorem dX8_openerAt_21 : decode cX8_openerAt 21 = .ok (.ireturn, 1) := by decide +kernel
theorem dX8_look_0 : decode cX8_look 0 = .ok (.aload_n 0, 1) := by decide +kernel
theorem dX8_look_1 : decode cX8_look 1 = .ok (.getfield 22, 3) := by decide +kernel
theorem dX8_look_4 : decode cX8_look 4 = .ok (.iconst (-1), 1) := by decide +kernel
theorem dX8_look_5 : decode cX8_look 5 = .ok (.invokestatic 51, 3) := by decide +kernel
theorem dX8_look_8 : decode cX8_look 8 = .ok (.aload_n 0, 1) := by decide +kernel
theorem dX8_look_9 : decode cX8_look 9 = .ok (.getfield 25, 3) := by decide +kernel
theorem dX8_look_12 : decode cX8_look 12 = .ok (.iconst (-1), 1) := by decide +kernel
theorem dX8_look_13 : decode cX8_look 13 = .ok (.invokestatic 51, 3) := by decide +kernel
theorem dX8_look_16 : decode cX8_look 16 = .ok (.aload_n 0, 1) := by decide +kernel
theorem dX8_look_17 : decode cX8_look 17 = .ok (.getfield 28, 3) := by decide +kernel
theorem dX8_look_20 : decode cX8_look 20 = .ok (.iconst (-1), 1) := by decide +kernel
theorem dX8_look_21 : decode cX8_look 21 = .ok (.invokestatic 51, 3) := by decide +kernel
theorem dX8_look_24 : decode cX8_look 24 = .ok (.aload_n 0, 1) := by decide +kernel
theorem dX8_look_25 : decode cX8_look 25 = .ok (.iconst 0, 1) := by decide +kernel
theorem dX8_look_26 : decode cX8_look 26 = .ok (.putfield 34, 3) := by decide +kernel
theorem dX8_look_29 : decode cX8_look 29 = .ok (.aload_n 0, 1) := by decide +kernel
theorem dX8_look_30 : decode cX8_look 30 = .ok (.iconst (-1), 1) := by decide +kernel
theorem dX8_look_31 : decode cX8_look 31 = .ok (.putfield 38, 3) := by decide +kernel
theorem dX8_look_34 : decode cX8_look 34 = .ok (.iconst 0, 1) := by decide +kernel
theorem dX8_look_35 : decode cX8_look 35 = .ok (.istore_n 1, 1) := by decide +kernel
theorem dX8_look_36 : decode cX8_look 36 = .ok (.iload_n 1, 1) := by decide +kernel
theorem dX8_look_37 : decode cX8_look 37 = .ok (.aload_n 0, 1) := by decide +kernel
theorem dX8_look_38 : decode cX8_look 38 = .ok (.getfield 9, 3) := by decide +kernel
theorem dX8_look_41 : decode cX8_look 41 = .ok (.getfield 57, 3) := by decide +kernel
theorem dX8_look_44 : decode cX8_look 44 = .ok (.if_icmp .ge 30, 3) := by decide +kernel
theorem dX8_look_47 : decode cX8_look 47 = .ok (.aload_n 0, 1) := by decide +kernel
theorem dX8_look_48 : decode cX8_look 48 = .ok (.getfield 38, 3) := by decide +kernel
theorem dX8_look_51 : decode cX8_look 51 = .ok (.iconst (-1), 1) := by decide +kernel
theorem dX8_look_52 : decode cX8_look 52 = .ok (.if_icmp .ne 22, 3) := by decide +kernel
theorem dX8_look_55 : decode cX8_look 55 = .ok (.aload_n 0, 1) := by decide +kernel
theorem dX8_look_56 : decode cX8_look 56 = .ok (.iload_n 1, 1) := by decide +kernel
theorem dX8_look_57 : decode cX8_look 57 = .ok (.invokevirtual 60, 3) := by decide +kernel
theorem dX8_look_60 : decode cX8_look 60 = .ok (.ifCond .ne 8, 3) := by decide +kernel
theorem dX8_look_63 : decode cX8_look 63 = .ok (.aload_n 0, 1) := by decide +kernel
theorem dX8_look_64 : decode cX8_look 64 = .ok (.iload_n 1, 1) := by decide +kernel
theorem dX8_look_65 : decode cX8_look 65 = .ok (.putfield 38, 3) := by decide +kernel
theorem dX8_look_68 : decode cX8_look 68 = .ok (.iinc 1 1, 3) := by decide +kernel
theorem dX8_look_71 : decode cX8_look 71 = .ok (.goto (-35), 3) := by decide +kernel
theorem dX8_look_74 : decode cX8_look 74 = .ok (.aload_n 0, 1) := by decide +kernel
theorem dX8_look_75 : decode cX8_look 75 = .ok (.getfield 38, 3) := by decide +kernel
theorem dX8_look_78 : decode cX8_look 78 = .ok (.iconst (-1), 1) := by decide +kernel
theorem dX8_look_79 : decode cX8_look 79 = .ok (.if_icmp .ne 18, 3) := by decide +kernel
theorem dX8_look_82 : decode cX8_look 82 = .ok (.aload_n 0, 1) := by decide +kernel
theorem dX8_look_83 : decode cX8_look 83 = .ok (.getfield 34, 3) := by decide +kernel
theorem dX8_look_86 : decode cX8_look 86 = .ok (.ifCond .le 11, 3) := by decide +kernel
theorem dX8_look_89 : decode cX8_look 89 = .ok (.aload_n 0, 1) := by decide +kernel
theorem dX8_look_90 : decode cX8_look 90 = .ok (.aload_n 0, 1) := by decide +kernel
theorem dX8_look_91 : decode cX8_look 91 = .ok (.invokevirtual 63, 3) := by decide +kernel
theorem dX8_look_94 : decode cX8_look 94 = .ok (.putfield 38, 3) := by decide +kernel
theorem dX8_look_97 : decode cX8_look 97 = .ok (.aload_n 0, 1) := by decide +kernel
theorem dX8_look_98 : decode cX8_look 98 = .ok (.getfield 38, 3) := by decide +kernel
theorem dX8_look_101 : decode cX8_look 101 = .ok (.iconst (-1), 1) := by decide +kernel
theorem dX8_look_102 : decode cX8_look 102 = .ok (.if_icmp .ne 27, 3) := by decide +kernel
theorem dX8_look_105 : decode cX8_look 105 = .ok (.iconst 0, 1) := by decide +kernel
theorem dX8_look_106 : decode cX8_look 106 = .ok (.istore_n 1, 1) := by decide +kernel
theorem dX8_look_107 : decode cX8_look 107 = .ok (.iload_n 1, 1) := by decide +kernel
theorem dX8_look_108 : decode cX8_look 108 = .ok (.aload_n 0, 1) := by decide +kernel
theorem dX8_look_109 : decode cX8_look 109 = .ok (.getfield 9, 3) := by decide +kernel
theorem dX8_look_112 : decode cX8_look 112 = .ok (.getfield 57, 3) := by decide +kernel
theorem dX8_look_115 : decode cX8_look 115 = .ok (.if_icmp .ge 14, 3) := by decide +kernel
theorem dX8_look_118 : decode cX8_look 118 = .ok (.aload_n 0, 1) := by decide +kernel
theorem dX8_look_119 : decode cX8_look 119 = .ok (.iload_n 1, 1) := by decide +kernel
theorem dX8_look_120 : decode cX8_look 120 = .ok (.invokevirtual 67, 3) := by decide +kernel
theorem dX8_look_123 : decode cX8_look 123 = .ok (.iinc 1 1, 3) := by decide +kernel
theorem dX8_look_126 : decode cX8_look 126 = .ok (.goto (-19), 3) := by decide +kernel
theorem dX8_look_129 : decode cX8_look 129 = .ok (.return_, 1) := by decide +kernel
theorem dX8_lastOpen_0 : decode cX8_lastOpen 0 = .ok (.aload_n 0, 1) := by decide +kernel
theorem dX8_lastOpen_1 : decode cX8_lastOpen 1 = .ok (.getfield 31, 3) := by decide +kernel
theorem dX8_lastOpen_4 : decode cX8_lastOpen 4 = .ok (.aload_n 0, 1) := by decide +kernel
theorem dX8_lastOpen_5 : decode cX8_lastOpen 5 = .ok (.getfield 34, 3) := by decide +kernel
theorem dX8_lastOpen_8 : decode cX8_lastOpen 8 = .ok (.iconst 1, 1) := by decide +kernel
theorem dX8_lastOpen_9 : decode cX8_lastOpen 9 = .ok (.isub, 1) := by decide +kernel
theorem dX8_lastOpen_10 : decode cX8_lastOpen 10 = .ok (.invokestatic 71, 3) := by decide +kernel
theorem dX8_lastOpen_13 : decode cX8_lastOpen 13 = .ok (.ifCond .eq 17, 3) := by decide +kernel
theorem dX8_lastOpen_16 : decode cX8_lastOpen 16 = .ok (.aload_n 0, 1) := by decide +kernel
theorem dX8_lastOpen_17 : decode cX8_lastOpen 17 = .ok (.getfield 31, 3) := by decide +kernel
theorem dX8_lastOpen_20 : decode cX8_lastOpen 20 = .ok (.aload_n 0, 1) := by decide +kernel
theorem dX8_lastOpen_21 : decode cX8_lastOpen 21 = .ok (.getfield 34, 3) := by decide +kernel
theorem dX8_lastOpen_24 : decode cX8_lastOpen 24 = .ok (.iconst 1, 1) := by decide +kernel
theorem dX8_lastOpen_25 : decode cX8_lastOpen 25 = .ok (.isub, 1) := by decide +kernel
theorem dX8_lastOpen_26 : decode cX8_lastOpen 26 = .ok (.iaload, 1) := by decide +kernel
theorem dX8_lastOpen_27 : decode cX8_lastOpen 27 = .ok (.goto 4, 3) := by decide +kernel
theorem dX8_lastOpen_30 : decode cX8_lastOpen 30 = .ok (.iconst (-1), 1) := by decide +kernel
theorem dX8_lastOpen_31 : decode cX8_lastOpen 31 = .ok (.ireturn, 1) := by decide +kernel
theorem dX8_isMatched_0 : decode cX8_isMatched 0 = .ok (.aload_n 0, 1) := by decide +kernel
theorem dX8_isMatched_1 : decode cX8_isMatched 1 = .ok (.getfield 9, 3) := by decide +kernel
theorem dX8_isMatched_4 : decode cX8_isMatched 4 = .ok (.iload_n 1, 1) := by decide +kernel
theorem dX8_isMatched_5 : decode cX8_isMatched 5 = .ok (.invokevirtual 75, 3) := by decide +kernel
theorem dX8_isMatched_8 : decode cX8_isMatched 8 = .ok (.istore_n 2, 1) := by decide +kernel
theorem dX8_isMatched_9 : decode cX8_isMatched 9 = .ok (.iload_n 2, 1) := by decide +kernel
theorem dX8_isMatched_10 : decode cX8_isMatched 10 = .ok (.bipush 8, 2) := by decide +kernel
theorem dX8_isMatched_12 : decode cX8_isMatched 12 = .ok (.if_icmp .eq 9, 3) := by decide +kernel
theorem dX8_isMatched_15 : decode cX8_isMatched 15 = .ok (.iload_n 2, 1) := by decide +kernel
theorem dX8_isMatched_16 : decode cX8_isMatched 16 = .ok (.bipush 10, 2) := by decide +kernel
theorem dX8_isMatched_18 : decode cX8_isMatched 18 = .ok (.if_icmp .ne 39, 3) := by decide +kernel
theorem dX8_isMatched_21 : decode cX8_isMatched 21 = .ok (.aload_n 0, 1) := by decide +kernel
theorem dX8_isMatched_22 : decode cX8_isMatched 22 = .ok (.getfield 31, 3) := by decide +kernel
theorem dX8_isMatched_25 : decode cX8_isMatched 25 = .ok (.aload_n 0, 1) := by decide +kernel
theorem dX8_isMatched_26 : decode cX8_isMatched 26 = .ok (.getfield 34, 3) := by decide +kernel
theorem dX8_isMatched_29 : decode cX8_isMatched 29 = .ok (.invokestatic 71, 3) := by decide +kernel
theorem dX8_isMatched_32 : decode cX8_isMatched 32 = .ok (.ifCond .eq 23, 3) := by decide +kernel
theorem dX8_isMatched_35 : decode cX8_isMatched 35 = .ok (.aload_n 0, 1) := by decide +kernel
theorem dX8_isMatched_36 : decode cX8_isMatched 36 = .ok (.getfield 31, 3) := by decide +kernel
theorem dX8_isMatched_39 : decode cX8_isMatched 39 = .ok (.aload_n 0, 1) := by decide +kernel
theorem dX8_isMatched_40 : decode cX8_isMatched 40 = .ok (.getfield 34, 3) := by decide +kernel
theorem dX8_isMatched_43 : decode cX8_isMatched 43 = .ok (.iload_n 1, 1) := by decide +kernel
theorem dX8_isMatched_44 : decode cX8_isMatched 44 = .ok (.iastore, 1) := by decide +kernel
theorem dX8_isMatched_45 : decode cX8_isMatched 45 = .ok (.aload_n 0, 1) := by decide +kernel
theorem dX8_isMatched_46 : decode cX8_isMatched 46 = .ok (.dup, 1) := by decide +kernel
theorem dX8_isMatched_47 : decode cX8_isMatched 47 = .ok (.getfield 34, 3) := by decide +kernel
theorem dX8_isMatched_50 : decode cX8_isMatched 50 = .ok (.iconst 1, 1) := by decide +kernel
theorem dX8_isMatched_51 : decode cX8_isMatched 51 = .ok (.iadd, 1) := by decide +kernel
theorem dX8_isMatched_52 : decode cX8_isMatched 52 = .ok (.putfield 34, 3) := by decide +kernel
theorem dX8_isMatched_55 : decode cX8_isMatched 55 = .ok (.iconst 1, 1) := by decide +kernel
theorem dX8_isMatched_56 : decode cX8_isMatched 56 = .ok (.ireturn, 1) := by decide +kernel
theorem dX8_isMatched_57 : decode cX8_isMatched 57 = .ok (.iload_n 2, 1) := by decide +kernel
theorem dX8_isMatched_58 : decode cX8_isMatched 58 = .ok (.bipush 9, 2) := by decide +kernel
theorem dX8_isMatched_60 : decode cX8_isMatched 60 = .ok (.if_icmp .eq 11, 3) := by decide +kernel
theorem dX8_isMatched_63 : decode cX8_isMatched 63 = .ok (.iload_n 2, 1) := by decide +kernel
theorem dX8_isMatched_64 : decode cX8_isMatched 64 = .ok (.bipush 11, 2) := by decide +kernel
theorem dX8_isMatched_66 : decode cX8_isMatched 66 = .ok (.if_icmp .eq 5, 3) := by decide +kernel
theorem dX8_isMatched_69 : decode cX8_isMatched 69 = .ok (.iconst 1, 1) := by decide +kernel
theorem dX8_isMatched_70 : decode cX8_isMatched 70 = .ok (.ireturn, 1) := by decide +kernel
theorem dX8_isMatched_71 : decode cX8_isMatched 71 = .ok (.aload_n 0, 1) := by decide +kernel
theorem dX8_isMatched_72 : decode cX8_isMatched 72 = .ok (.invokevirtual 63, 3) := by decide +kernel
theorem dX8_isMatched_75 : decode cX8_isMatched 75 = .ok (.istore_n 3, 1) := by decide +kernel
theorem dX8_isMatched_76 : decode cX8_isMatched 76 = .ok (.aload_n 0, 1) := by decide +kernel
theorem dX8_isMatched_77 : decode cX8_isMatched 77 = .ok (.getfield 22, 3) := by decide +kernel
theorem dX8_isMatched_80 : decode cX8_isMatched 80 = .ok (.iload_n 1, 1) := by decide +kernel
theorem dX8_isMatched_81 : decode cX8_isMatched 81 = .ok (.invokestatic 71, 3) := by decide +kernel
theorem dX8_isMatched_84 : decode cX8_isMatched 84 = .ok (.ifCond .eq 14, 3) := by decide +kernel
theorem dX8_isMatched_87 : decode cX8_isMatched 87 = .ok (.aload_n 0, 1) := by decide +kernel
theorem dX8_isMatched_88 : decode cX8_isMatched 88 = .ok (.getfield 25, 3) := by decide +kernel
theorem dX8_isMatched_91 : decode cX8_isMatched 91 = .ok (.iload_n 3, 1) := by decide +kernel
theorem dX8_isMatched_92 : decode cX8_isMatched 92 = .ok (.invokestatic 71, 3) := by decide +kernel
theorem dX8_isMatched_95 : decode cX8_isMatched 95 = .ok (.ifCond .ne 5, 3) := by decide +kernel
theorem dX8_isMatched_98 : decode cX8_isMatched 98 = .ok (.iconst 0, 1) := by decide +kernel
theorem dX8_isMatched_99 : decode cX8_isMatched 99 = .ok (.ireturn, 1) := by decide +kernel
theorem dX8_isMatched_100 : decode cX8_isMatched 100 = .ok (.iload_n 2, 1) := by decide +kernel
theorem dX8_isMatched_101 : decode cX8_isMatched 101 = .ok (.bipush 9, 2) := by decide +kernel
theorem dX8_isMatched_103 : decode cX8_isMatched 103 = .ok (.if_icmp .ne 38, 3) := by decide +kernel
theorem dX8_isMatched_106 : decode cX8_isMatched 106 = .ok (.aload_n 0, 1) := by decide +kernel
theorem dX8_isMatched_107 : decode cX8_isMatched 107 = .ok (.getfield 9, 3) := by decide +kernel
theorem dX8_isMatched_110 : decode cX8_isMatched 110 = .ok (.iload_n 3, 1) := by decide +kernel
theorem dX8_isMatched_111 : decode cX8_isMatched 111 = .ok (.invokevirtual 75, 3) := by decide +kernel
theorem dX8_isMatched_114 : decode cX8_isMatched 114 = .ok (.bipush 8, 2) := by decide +kernel
theorem dX8_isMatched_116 : decode cX8_isMatched 116 = .ok (.if_icmp .ne 13, 3) := by decide +kernel
theorem dX8_isMatched_119 : decode cX8_isMatched 119 = .ok (.aload_n 0, 1) := by decide +kernel
theorem dX8_isMatched_120 : decode cX8_isMatched 120 = .ok (.getfield 25, 3) := by decide +kernel
theorem dX8_isMatched_123 : decode cX8_isMatched 123 = .ok (.iload_n 3, 1) := by decide +kernel
theorem dX8_isMatched_124 : decode cX8_isMatched 124 = .ok (.iaload, 1) := by decide +kernel
theorem dX8_isMatched_125 : decode cX8_isMatched 125 = .ok (.iconst (-1), 1) := by decide +kernel
theorem dX8_isMatched_126 : decode cX8_isMatched 126 = .ok (.if_icmp .eq 5, 3) := by decide +kernel
theorem dX8_isMatched_129 : decode cX8_isMatched 129 = .ok (.iconst 0, 1) := by decide +kernel
theorem dX8_isMatched_130 : decode cX8_isMatched 130 = .ok (.ireturn, 1) := by decide +kernel
theorem dX8_isMatched_131 : decode cX8_isMatched 131 = .ok (.aload_n 0, 1) := by decide +kernel
theorem dX8_isMatched_132 : decode cX8_isMatched 132 = .ok (.getfield 25, 3) := by decide +kernel
theorem dX8_isMatched_135 : decode cX8_isMatched 135 = .ok (.iload_n 3, 1) := by decide +kernel
theorem dX8_isMatched_136 : decode cX8_isMatched 136 = .ok (.iload_n 1, 1) := by decide +kernel
theorem dX8_isMatched_137 : decode cX8_isMatched 137 = .ok (.iastore, 1) := by decide +kernel
theorem dX8_isMatched_138 : decode cX8_isMatched 138 = .ok (.goto 20, 3) := by decide +kernel
theorem dX8_isMatched_141 : decode cX8_isMatched 141 = .ok (.aload_n 0, 1) := by decide +kernel
theorem dX8_isMatched_142 : decode cX8_isMatched 142 = .ok (.getfield 28, 3) := by decide +kernel
theorem dX8_isMatched_145 : decode cX8_isMatched 145 = .ok (.iload_n 3, 1) := by decide +kernel
theorem dX8_isMatched_146 : decode cX8_isMatched 146 = .ok (.iload_n 1, 1) := by decide +kernel
theorem dX8_isMatched_147 : decode cX8_isMatched 147 = .ok (.iastore, 1) := by decide +kernel
theorem dX8_isMatched_148 : decode cX8_isMatched 148 = .ok (.aload_n 0, 1) := by decide +kernel
theorem dX8_isMatched_149 : decode cX8_isMatched 149 = .ok (.dup, 1) := by decide +kernel
theorem dX8_isMatched_150 : decode cX8_isMatched 150 = .ok (.getfield 34, 3) := by decide +kernel
theorem dX8_isMatched_153 : decode cX8_isMatched 153 = .ok (.iconst 1, 1) := by decide +kernel
theorem dX8_isMatched_154 : decode cX8_isMatched 154 = .ok (.isub, 1) := by decide +kernel
theorem dX8_isMatched_155 : decode cX8_isMatched 155 = .ok (.putfield 34, 3) := by decide +kernel
theorem dX8_isMatched_158 : decode cX8_isMatched 158 = .ok (.aload_n 0, 1) := by decide +kernel
theorem dX8_isMatched_159 : decode cX8_isMatched 159 = .ok (.getfield 22, 3) := by decide +kernel
theorem dX8_isMatched_162 : decode cX8_isMatched 162 = .ok (.iload_n 1, 1) := by decide +kernel
theorem dX8_isMatched_163 : decode cX8_isMatched 163 = .ok (.iload_n 3, 1) := by decide +kernel
theorem dX8_isMatched_164 : decode cX8_isMatched 164 = .ok (.iastore, 1) := by decide +kernel
theorem dX8_isMatched_165 : decode cX8_isMatched 165 = .ok (.iconst 1, 1) := by decide +kernel
theorem dX8_isMatched_166 : decode cX8_isMatched 166 = .ok (.ireturn, 1) := by decide +kernel
theorem dX8_setNext_0 : decode cX8_setNext 0 = .ok (.aload_n 0, 1) := by decide +kernel
theorem dX8_setNext_1 : decode cX8_setNext 1 = .ok (.getfield 15, 3) := by decide +kernel
theorem dX8_setNext_4 : decode cX8_setNext 4 = .ok (.iload_n 1, 1) := by decide +kernel
theorem dX8_setNext_5 : decode cX8_setNext 5 = .ok (.invokestatic 71, 3) := by decide +kernel
theorem dX8_setNext_8 : decode cX8_setNext 8 = .ok (.ifCond .ne 4, 3) := by decide +kernel
theorem dX8_setNext_11 : decode cX8_setNext 11 = .ok (.return_, 1) := by decide +kernel
theorem dX8_setNext_12 : decode cX8_setNext 12 = .ok (.iload_n 1, 1) := by decide +kernel
theorem dX8_setNext_13 : decode cX8_setNext 13 = .ok (.iconst 1, 1) := by decide +kernel
theorem dX8_setNext_14 : decode cX8_setNext 14 = .ok (.iadd, 1) := by decide +kernel
theorem dX8_setNext_15 : decode cX8_setNext 15 = .ok (.istore_n 2, 1) := by decide +kernel
theorem dX8_setNext_16 : decode cX8_setNext 16 = .ok (.iconst (-1), 1) := by decide +kernel
theorem dX8_setNext_17 : decode cX8_setNext 17 = .ok (.istore_n 3, 1) := by decide +kernel
theorem dX8_setNext_18 : decode cX8_setNext 18 = .ok (.aload_n 0, 1) := by decide +kernel
theorem dX8_setNext_19 : decode cX8_setNext 19 = .ok (.getfield 22, 3) := by decide +kernel
theorem dX8_setNext_22 : decode cX8_setNext 22 = .ok (.iload_n 1, 1) := by decide +kernel
theorem dX8_setNext_23 : decode cX8_setNext 23 = .ok (.iaload, 1) := by decide +kernel
theorem dX8_setNext_24 : decode cX8_setNext 24 = .ok (.istore 4, 2) := by decide +kernel
theorem dX8_setNext_26 : decode cX8_setNext 26 = .ok (.aload_n 0, 1) := by decide +kernel
theorem dX8_setNext_27 : decode cX8_setNext 27 = .ok (.getfield 9, 3) := by decide +kernel
theorem dX8_setNext_30 : decode cX8_setNext 30 = .ok (.iload_n 1, 1) := by decide +kernel
theorem dX8_setNext_31 : decode cX8_setNext 31 = .ok (.invokevirtual 75, 3) := by decide +kernel
theorem dX8_setNext_34 : decode cX8_setNext 34 = .ok (.tableswitch 135 8 15 #[46, 77, 135, 104, 135, 135, 135, 130], 46) := by decide +kernel
theorem dX8_setNext_80 : decode cX8_setNext 80 = .ok (.aload_n 0, 1) := by decide +kernel
theorem dX8_setNext_81 : decode cX8_setNext 81 = .ok (.getfield 25, 3) := by decide +kernel
theorem dX8_setNext_84 : decode cX8_setNext 84 = .ok (.iload_n 1, 1) := by decide +kernel
theorem dX8_setNext_85 : decode cX8_setNext 85 = .ok (.iaload, 1) := by decide +kernel
theorem dX8_setNext_86 : decode cX8_setNext 86 = .ok (.iconst (-1), 1) := by decide +kernel
theorem dX8_setNext_87 : decode cX8_setNext 87 = .ok (.if_icmp .ne 12, 3) := by decide +kernel
theorem dX8_setNext_90 : decode cX8_setNext 90 = .ok (.aload_n 0, 1) := by decide +kernel
theorem dX8_setNext_91 : decode cX8_setNext 91 = .ok (.getfield 28, 3) := by decide +kernel
theorem dX8_setNext_94 : decode cX8_setNext 94 = .ok (.iload_n 1, 1) := by decide +kernel
theorem dX8_setNext_95 : decode cX8_setNext 95 = .ok (.iaload, 1) := by decide +kernel
theorem dX8_setNext_96 : decode cX8_setNext 96 = .ok (.goto 11, 3) := by decide +kernel
theorem dX8_setNext_99 : decode cX8_setNext 99 = .ok (.aload_n 0, 1) := by decide +kernel
theorem dX8_setNext_100 : decode cX8_setNext 100 = .ok (.getfield 25, 3) := by decide +kernel
theorem dX8_setNext_103 : decode cX8_setNext 103 = .ok (.iload_n 1, 1) := by decide +kernel
theorem dX8_setNext_104 : decode cX8_setNext 104 = .ok (.iaload, 1) := by decide +kernel
theorem dX8_setNext_105 : decode cX8_setNext 105 = .ok (.iconst 1, 1) := by decide +kernel
theorem dX8_setNext_106 : decode cX8_setNext 106 = .ok (.iadd, 1) := by decide +kernel
theorem dX8_setNext_107 : decode cX8_setNext 107 = .ok (.istore_n 3, 1) := by decide +kernel
theorem dX8_setNext_108 : decode cX8_setNext 108 = .ok (.goto 61, 3) := by decide +kernel
theorem dX8_setNext_111 : decode cX8_setNext 111 = .ok (.aload_n 0, 1) := by decide +kernel
theorem dX8_setNext_112 : decode cX8_setNext 112 = .ok (.getfield 28, 3) := by decide +kernel
theorem dX8_setNext_115 : decode cX8_setNext 115 = .ok (.iload 4, 2) := by decide +kernel
theorem dX8_setNext_117 : decode cX8_setNext 117 = .ok (.invokestatic 71, 3) := by decide +kernel
theorem dX8_setNext_120 : decode cX8_setNext 120 = .ok (.ifCond .eq 13, 3) := by decide +kernel
theorem dX8_setNext_123 : decode cX8_setNext 123 = .ok (.aload_n 0, 1) := by decide +kernel
theorem dX8_setNext_124 : decode cX8_setNext 124 = .ok (.getfield 28, 3) := by decide +kernel
theorem dX8_setNext_127 : decode cX8_setNext 127 = .ok (.iload 4, 2) := by decide +kernel
theorem dX8_setNext_129 : decode cX8_setNext 129 = .ok (.iaload, 1) := by decide +kernel
theorem dX8_setNext_130 : decode cX8_setNext 130 = .ok (.goto 4, 3) := by decide +kernel
theorem dX8_setNext_133 : decode cX8_setNext 133 = .ok (.iconst (-1), 1) := by decide +kernel
theorem dX8_setNext_134 : decode cX8_setNext 134 = .ok (.istore_n 2, 1) := by decide +kernel
theorem dX8_setNext_135 : decode cX8_setNext 135 = .ok (.goto 34, 3) := by decide +kernel
theorem dX8_setNext_138 : decode cX8_setNext 138 = .ok (.aload_n 0, 1) := by decide +kernel
theorem dX8_setNext_139 : decode cX8_setNext 139 = .ok (.getfield 9, 3) := by decide +kernel
theorem dX8_setNext_142 : decode cX8_setNext 142 = .ok (.iload 4, 2) := by decide +kernel
theorem dX8_setNext_144 : decode cX8_setNext 144 = .ok (.invokevirtual 75, 3) := by decide +kernel
theorem dX8_setNext_147 : decode cX8_setNext 147 = .ok (.bipush 10, 2) := by decide +kernel
theorem dX8_setNext_149 : decode cX8_setNext 149 = .ok (.if_icmp .ne 20, 3) := by decide +kernel
theorem dX8_setNext_152 : decode cX8_setNext 152 = .ok (.iload 4, 2) := by decide +kernel
theorem dX8_setNext_154 : decode cX8_setNext 154 = .ok (.iconst 1, 1) := by decide +kernel
theorem dX8_setNext_155 : decode cX8_setNext 155 = .ok (.iadd, 1) := by decide +kernel
theorem dX8_setNext_156 : decode cX8_setNext 156 = .ok (.istore_n 2, 1) := by decide +kernel
theorem dX8_setNext_157 : decode cX8_setNext 157 = .ok (.iload_n 1, 1) := by decide +kernel
theorem dX8_setNext_158 : decode cX8_setNext 158 = .ok (.iconst 1, 1) := by decide +kernel
theorem dX8_setNext_159 : decode cX8_setNext 159 = .ok (.iadd, 1) := by decide +kernel
theorem dX8_setNext_160 : decode cX8_setNext 160 = .ok (.istore_n 3, 1) := by decide +kernel
theorem dX8_setNext_161 : decode cX8_setNext 161 = .ok (.goto 8, 3) := by decide +kernel
theorem dX8_setNext_164 : decode cX8_setNext 164 = .ok (.iconst (-1), 1) := by decide +kernel
theorem dX8_setNext_165 : decode cX8_setNext 165 = .ok (.istore_n 2, 1) := by decide +kernel
theorem dX8_setNext_166 : decode cX8_setNext 166 = .ok (.goto 3, 3) := by decide +kernel
theorem dX8_setNext_169 : decode cX8_setNext 169 = .ok (.aload_n 0, 1) := by decide +kernel
theorem dX8_setNext_170 : decode cX8_setNext 170 = .ok (.getfield 15, 3) := by decide +kernel
theorem dX8_setNext_173 : decode cX8_setNext 173 = .ok (.iload_n 1, 1) := by decide +kernel
theorem dX8_setNext_174 : decode cX8_setNext 174 = .ok (.iload_n 2, 1) := by decide +kernel
theorem dX8_setNext_175 : decode cX8_setNext 175 = .ok (.iastore, 1) := by decide +kernel
theorem dX8_setNext_176 : decode cX8_setNext 176 = .ok (.aload_n 0, 1) := by decide +kernel
theorem dX8_setNext_177 : decode cX8_setNext 177 = .ok (.getfield 19, 3) := by decide +kernel
theorem dX8_setNext_180 : decode cX8_setNext 180 = .ok (.iload_n 1, 1) := by decide +kernel
theorem dX8_setNext_181 : decode cX8_setNext 181 = .ok (.iload_n 3, 1) := by decide +kernel
theorem dX8_setNext_182 : decode cX8_setNext 182 = .ok (.iastore, 1) := by decide +kernel
theorem dX8_setNext_183 : decode cX8_setNext 183 = .ok (.return_, 1) := by decide +kernel
theorem dX9_init_0 : decode cX9_init 0 = .ok (.aload_n 0, 1) := by decide +kernel
theorem dX9_init_1 : decode cX9_init 1 = .ok (.invokespecial 3, 3) := by decide +kernel
theorem dX9_init_4 : decode cX9_init 4 = .ok (.aload_n 0, 1) := by decide +kernel
theorem dX9_init_5 : decode cX9_init 5 = .ok (.new 9, 3) := by decide +kernel
theorem dX9_init_8 : decode cX9_init 8 = .ok (.dup, 1) := by decide +kernel
theorem dX9_init_9 : decode cX9_init 9 = .ok (.invokespecial 11, 3) := by decide +kernel
theorem dX9_init_12 : decode cX9_init 12 = .ok (.putfield 12, 3) := by decide +kernel
theorem dX9_init_15 : decode cX9_init 15 = .ok (.aload_n 0, 1) := by decide +kernel
theorem dX9_init_16 : decode cX9_init 16 = .ok (.new 16, 3) := by decide +kernel
theorem dX9_init_19 : decode cX9_init 19 = .ok (.dup, 1) := by decide +kernel
theorem dX9_init_20 : decode cX9_init 20 = .ok (.aload_n 0, 1) := by decide +kernel
theorem dX9_init_21 : decode cX9_init 21 = .ok (.getfield 12, 3) := by decide +kernel
theorem dX9_init_24 : decode cX9_init 24 = .ok (.invokespecial 18, 3) := by decide +kernel
theorem dX9_init_27 : decode cX9_init 27 = .ok (.putfield 21, 3) := by decide +kernel
theorem dX9_init_30 : decode cX9_init 30 = .ok (.aload_n 0, 1) := by decide +kernel
theorem dX9_init_31 : decode cX9_init 31 = .ok (.new 25, 3) := by decide +kernel
theorem dX9_init_34 : decode cX9_init 34 = .ok (.dup, 1) := by decide +kernel
theorem dX9_init_35 : decode cX9_init 35 = .ok (.aload_n 0, 1) := by decide +kernel
theorem dX9_init_36 : decode cX9_init 36 = .ok (.getfield 12, 3) := by decide +kernel
theorem dX9_init_39 : decode cX9_init 39 = .ok (.aload_n 0, 1) := by decide +kernel
theorem dX9_init_40 : decode cX9_init 40 = .ok (.getfield 21, 3) := by decide +kernel
theorem dX9_init_43 : decode cX9_init 43 = .ok (.getfield 27, 3) := by decide +kernel
theorem dX9_init_46 : decode cX9_init 46 = .ok (.invokespecial 31, 3) := by decide +kernel
theorem dX9_init_49 : decode cX9_init 49 = .ok (.putfield 34, 3) := by decide +kernel
theorem dX9_init_52 : decode cX9_init 52 = .ok (.aload_n 0, 1) := by decide +kernel
theorem dX9_init_53 : decode cX9_init 53 = .ok (.new 9, 3) := by decide +kernel
theorem dX9_init_56 : decode cX9_init 56 = .ok (.dup, 1) := by decide +kernel
theorem dX9_init_57 : decode cX9_init 57 = .ok (.invokespecial 11, 3) := by decide +kernel
theorem dX9_init_60 : decode cX9_init 60 = .ok (.putfield 38, 3) := by decide +kernel
theorem dX9_init_63 : decode cX9_init 63 = .ok (.aload_n 0, 1) := by decide +kernel
theorem dX9_init_64 : decode cX9_init 64 = .ok (.new 16, 3) := by decide +kernel
theorem dX9_init_67 : decode cX9_init 67 = .ok (.dup, 1) := by decide +kernel
theorem dX9_init_68 : decode cX9_init 68 = .ok (.aload_n 0, 1) := by decide +kernel
theorem dX9_init_69 : decode cX9_init 69 = .ok (.getfield 38, 3) := by decide +kernel
theorem dX9_init_72 : decode cX9_init 72 = .ok (.invokespecial 18, 3) := by decide +kernel
theorem dX9_init_75 : decode cX9_init 75 = .ok (.putfield 41, 3) := by decide +kernel
theorem dX9_init_78 : decode cX9_init 78 = .ok (.aload_n 0, 1) := by decide +kernel
theorem dX9_init_79 : decode cX9_init 79 = .ok (.new 25, 3) := by decide +kernel
theorem dX9_init_82 : decode cX9_init 82 = .ok (.dup, 1) := by decide +kernel
theorem dX9_init_83 : decode cX9_init 83 = .ok (.aload_n 0, 1) := by decide +kernel
theorem dX9_init_84 : decode cX9_init 84 = .ok (.getfield 38, 3) := by decide +kernel
theorem dX9_init_87 : decode cX9_init 87 = .ok (.aload_n 0, 1) := by decide +kernel
theorem dX9_init_88 : decode cX9_init 88 = .ok (.getfield 41, 3) := by decide +kernel
theorem dX9_init_91 : decode cX9_init 91 = .ok (.getfield 27, 3) := by decide +kernel
theorem dX9_init_94 : decode cX9_init 94 = .ok (.invokespecial 31, 3) := by decide +kernel
theorem dX9_init_97 : decode cX9_init 97 = .ok (.putfield 44, 3) := by decide +kernel
theorem dX9_init_100 : decode cX9_init 100 = .ok (.aload_n 0, 1) := by decide +kernel
theorem dX9_init_101 : decode cX9_init 101 = .ok (.iconst 0, 1) := by decide +kernel
theorem dX9_init_102 : decode cX9_init 102 = .ok (.putfield 47, 3) := by decide +kernel
theorem dX9_init_105 : decode cX9_init 105 = .ok (.aload_n 0, 1) := by decide +kernel
theorem dX9_init_106 : decode cX9_init 106 = .ok (.getfield 21, 3) := by decide +kernel
theorem dX9_init_109 : decode cX9_init 109 = .ok (.invokevirtual 51, 3) := by decide +kernel
theorem dX9_init_112 : decode cX9_init 112 = .ok (.return_, 1) := by decide +kernel
theorem dX9_variable_0 : decode cX9_variable 0 = .ok (.iload_n 1, 1) := by decide +kernel
theorem dX9_variable_1 : decode cX9_variable 1 = .ok (.ifCond .lt 8, 3) := by decide +kernel
theorem dX9_variable_4 : decode cX9_variable 4 = .ok (.iload_n 1, 1) := by decide +kernel
theorem dX9_variable_5 : decode cX9_variable 5 = .ok (.iconst 5, 1) := by decide +kernel
theorem dX9_variable_6 : decode cX9_variable 6 = .ok (.if_icmp .le 13, 3) := by decide +kernel
theorem dX9_variable_9 : decode cX9_variable 9 = .ok (.new 54, 3) := by decide +kernel
theorem dX9_variable_12 : decode cX9_variable 12 = .ok (.dup, 1) := by decide +kernel
theorem dX9_variable_13 : decode cX9_variable 13 = .ok (.ldc 56, 2) := by decide +kernel
theorem dX9_variable_15 : decode cX9_variable 15 = .ok (.invokespecial 58, 3) := by decide +kernel
theorem dX9_variable_18 : decode cX9_variable 18 = .ok (.athrow, 1) := by decide +kernel
theorem dX9_variable_19 : decode cX9_variable 19 = .ok (.aload_n 0, 1) := by decide +kernel
theorem dX9_variable_20 : decode cX9_variable 20 = .ok (.getfield 12, 3) := by decide +kernel
theorem dX9_variable_23 : decode cX9_variable 23 = .ok (.getfield 61, 3) := by decide +kernel
theorem dX9_variable_26 : decode cX9_variable 26 = .ok (.bipush 8, 2) := by decide +kernel
theorem dX9_variable_28 : decode cX9_variable 28 = .ok (.if_icmp .lt 13, 3) := by decide +kernel
theorem dX9_variable_31 : decode cX9_variable 31 = .ok (.new 64, 3) := by decide +kernel
theorem dX9_variable_34 : decode cX9_variable 34 = .ok (.dup, 1) := by decide +kernel
theorem dX9_variable_35 : decode cX9_variable 35 = .ok (.ldc 66, 2) := by decide +kernel
theorem dX9_variable_37 : decode cX9_variable 37 = .ok (.invokespecial 68, 3) := by decide +kernel
theorem dX9_variable_40 : decode cX9_variable 40 = .ok (.athrow, 1) := by decide +kernel
theorem dX9_variable_41 : decode cX9_variable 41 = .ok (.aload_n 0, 1) := by decide +kernel
theorem dX9_variable_42 : decode cX9_variable 42 = .ok (.getfield 12, 3) := by decide +kernel
theorem dX9_variable_45 : decode cX9_variable 45 = .ok (.iload_n 1, 1) := by decide +kernel
theorem dX9_variable_46 : decode cX9_variable 46 = .ok (.invokevirtual 69, 3) := by decide +kernel
theorem dX9_variable_49 : decode cX9_variable 49 = .ok (.istore_n 2, 1) := by decide +kernel
theorem dX9_variable_50 : decode cX9_variable 50 = .ok (.aload_n 0, 1) := by decide +kernel
theorem dX9_variable_51 : decode cX9_variable 51 = .ok (.getfield 21, 3) := by decide +kernel
theorem dX9_variable_54 : decode cX9_variable 54 = .ok (.invokevirtual 51, 3) := by decide +kernel
theorem dX9_variable_57 : decode cX9_variable 57 = .ok (.iload_n 2, 1) := by decide +kernel
theorem dX9_variable_58 : decode cX9_variable 58 = .ok (.ireturn, 1) := by decide +kernel
theorem dX9_add_0 : decode cX9_add 0 = .ok (.aload_n 0, 1) := by decide +kernel
theorem dX9_add_1 : decode cX9_add 1 = .ok (.getfield 12, 3) := by decide +kernel
theorem dX9_add_4 : decode cX9_add 4 = .ok (.iload_n 1, 1) := by decide +kernel
theorem dX9_add_5 : decode cX9_add 5 = .ok (.iload_n 2, 1) := by decide +kernel
theorem dX9_add_6 : decode cX9_add 6 = .ok (.iload_n 3, 1) := by decide +kernel
theorem dX9_add_7 : decode cX9_add 7 = .ok (.invokevirtual 73, 3) := by decide +kernel
theorem dX9_add_10 : decode cX9_add 10 = .ok (.ifCond .ne 13, 3) := by decide +kernel
theorem dX9_add_13 : decode cX9_add 13 = .ok (.new 54, 3) := by decide +kernel
theorem dX9_add_16 : decode cX9_add 16 = .ok (.dup, 1) := by decide +kernel
theorem dX9_add_17 : decode cX9_add 17 = .ok (.ldc 77, 2) := by decide +kernel
theorem dX9_add_19 : decode cX9_add 19 = .ok (.invokespecial 58, 3) := by decide +kernel
theorem dX9_add_22 : decode cX9_add 22 = .ok (.athrow, 1) := by decide +kernel
theorem dX9_add_23 : decode cX9_add 23 = .ok (.aload_n 0, 1) := by decide +kernel
theorem dX9_add_24 : decode cX9_add 24 = .ok (.getfield 12, 3) := by decide +kernel
theorem dX9_add_27 : decode cX9_add 27 = .ok (.getfield 79, 3) := by decide +kernel
theorem dX9_add_30 : decode cX9_add 30 = .ok (.bipush 32, 2) := by decide +kernel
theorem dX9_add_32 : decode cX9_add 32 = .ok (.if_icmp .lt 13, 3) := by decide +kernel
theorem dX9_add_35 : decode cX9_add 35 = .ok (.new 64, 3) := by decide +kernel
theorem dX9_add_38 : decode cX9_add 38 = .ok (.dup, 1) := by decide +kernel
theorem dX9_add_39 : decode cX9_add 39 = .ok (.ldc 82, 2) := by decide +kernel
theorem dX9_add_41 : decode cX9_add 41 = .ok (.invokespecial 68, 3) := by decide +kernel
theorem dX9_add_44 : decode cX9_add 44 = .ok (.athrow, 1) := by decide +kernel
theorem dX9_add_45 : decode cX9_add 45 = .ok (.aload_n 0, 1) := by decide +kernel
theorem dX9_add_46 : decode cX9_add 46 = .ok (.getfield 12, 3) := by decide +kernel
theorem dX9_add_49 : decode cX9_add 49 = .ok (.invokevirtual 84, 3) := by decide +kernel
theorem dX9_add_52 : decode cX9_add 52 = .ok (.iload_n 1, 1) := by decide +kernel
theorem dX9_add_53 : decode cX9_add 53 = .ok (.invokestatic 88, 3) := by decide +kernel
theorem dX9_add_56 : decode cX9_add 56 = .ok (.iadd, 1) := by decide +kernel
theorem dX9_add_57 : decode cX9_add 57 = .ok (.bipush 16, 2) := by decide +kernel
theorem dX9_add_59 : decode cX9_add 59 = .ok (.if_icmp .le 13, 3) := by decide +kernel
theorem dX9_add_62 : decode cX9_add 62 = .ok (.new 64, 3) := by decide +kernel
theorem dX9_add_65 : decode cX9_add 65 = .ok (.dup, 1) := by decide +kernel
theorem dX9_add_66 : decode cX9_add 66 = .ok (.ldc 91, 2) := by decide +kernel
theorem dX9_add_68 : decode cX9_add 68 = .ok (.invokespecial 68, 3) := by decide +kernel
theorem dX9_add_71 : decode cX9_add 71 = .ok (.athrow, 1) := by decide +kernel
theorem dX9_add_72 : decode cX9_add 72 = .ok (.aload_n 0, 1) := by decide +kernel
theorem dX9_add_73 : decode cX9_add 73 = .ok (.getfield 12, 3) := by decide +kernel
theorem dX9_add_76 : decode cX9_add 76 = .ok (.aload_n 0, 1) := by decide +kernel
theorem dX9_add_77 : decode cX9_add 77 = .ok (.getfield 12, 3) := by decide +kernel
theorem dX9_add_80 : decode cX9_add 80 = .ok (.getfield 79, 3) := by decide +kernel
theorem dX9_add_83 : decode cX9_add 83 = .ok (.iload_n 1, 1) := by decide +kernel
theorem dX9_add_84 : decode cX9_add 84 = .ok (.iload_n 2, 1) := by decide +kernel
theorem dX9_add_85 : decode cX9_add 85 = .ok (.iload_n 3, 1) := by decide +kernel
theorem dX9_add_86 : decode cX9_add 86 = .ok (.invokevirtual 93, 3) := by decide +kernel
theorem dX9_add_89 : decode cX9_add 89 = .ok (.aload_n 0, 1) := by decide +kernel
theorem dX9_add_90 : decode cX9_add 90 = .ok (.getfield 21, 3) := by decide +kernel
theorem dX9_add_93 : decode cX9_add 93 = .ok (.invokevirtual 51, 3) := by decide +kernel
theorem dX9_add_96 : decode cX9_add 96 = .ok (.aload_n 0, 1) := by decide +kernel
theorem dX9_add_97 : decode cX9_add 97 = .ok (.getfield 12, 3) := by decide +kernel
theorem dX9_add_100 : decode cX9_add 100 = .ok (.getfield 79, 3) := by decide +kernel
theorem dX9_add_103 : decode cX9_add 103 = .ok (.iconst 1, 1) := by decide +kernel
theorem dX9_add_104 : decode cX9_add 104 = .ok (.isub, 1) := by decide +kernel
theorem dX9_add_105 : decode cX9_add 105 = .ok (.ireturn, 1) := by decide +kernel
theorem dX9_put_0 : decode cX9_put 0 = .ok (.aload_n 0, 1) := by decide +kernel
theorem dX9_put_1 : decode cX9_put 1 = .ok (.getfield 12, 3) := by decide +kernel
theorem dX9_put_4 : decode cX9_put 4 = .ok (.iload_n 1, 1) := by decide +kernel
theorem dX9_put_5 : decode cX9_put 5 = .ok (.invokevirtual 97, 3) := by decide +kernel
theorem dX9_put_8 : decode cX9_put 8 = .ok (.ifCond .ne 13, 3) := by decide +kernel
theorem dX9_put_11 : decode cX9_put 11 = .ok (.new 101, 3) := by decide +kernel
theorem dX9_put_14 : decode cX9_put 14 = .ok (.dup, 1) := by decide +kernel
theorem dX9_put_15 : decode cX9_put 15 = .ok (.ldc 103, 2) := by decide +kernel
theorem dX9_put_17 : decode cX9_put 17 = .ok (.invokespecial 105, 3) := by decide +kernel
theorem dX9_put_20 : decode cX9_put 20 = .ok (.athrow, 1) := by decide +kernel
theorem dX9_put_21 : decode cX9_put 21 = .ok (.aload_n 0, 1) := by decide +kernel
theorem dX9_put_22 : decode cX9_put 22 = .ok (.getfield 12, 3) := by decide +kernel
theorem dX9_put_25 : decode cX9_put 25 = .ok (.iload_n 2, 1) := by decide +kernel
theorem dX9_put_26 : decode cX9_put 26 = .ok (.iload_n 3, 1) := by decide +kernel
theorem dX9_put_27 : decode cX9_put 27 = .ok (.iload 4, 2) := by decide +kernel
theorem dX9_put_29 : decode cX9_put 29 = .ok (.invokevirtual 73, 3) := by decide +kernel
theorem dX9_put_32 : decode cX9_put 32 = .ok (.ifCond .ne 13, 3) := by decide +kernel
theorem dX9_put_35 : decode cX9_put 35 = .ok (.new 54, 3) := by decide +kernel
theorem dX9_put_38 : decode cX9_put 38 = .ok (.dup, 1) := by decide +kernel
theorem dX9_put_39 : decode cX9_put 39 = .ok (.ldc 77, 2) := by decide +kernel
theorem dX9_put_41 : decode cX9_put 41 = .ok (.invokespecial 58, 3) := by decide +kernel
theorem dX9_put_44 : decode cX9_put 44 = .ok (.athrow, 1) := by decide +kernel
theorem dX9_put_45 : decode cX9_put 45 = .ok (.aload_n 0, 1) := by decide +kernel
theorem dX9_put_46 : decode cX9_put 46 = .ok (.getfield 12, 3) := by decide +kernel
theorem dX9_put_49 : decode cX9_put 49 = .ok (.iload_n 1, 1) := by decide +kernel
theorem dX9_put_50 : decode cX9_put 50 = .ok (.invokevirtual 106, 3) := by decide +kernel
theorem dX9_put_53 : decode cX9_put 53 = .ok (.istore 5, 2) := by decide +kernel
theorem dX9_put_55 : decode cX9_put 55 = .ok (.aload_n 0, 1) := by decide +kernel
theorem dX9_put_56 : decode cX9_put 56 = .ok (.getfield 12, 3) := by decide +kernel
theorem dX9_put_59 : decode cX9_put 59 = .ok (.invokevirtual 84, 3) := by decide +kernel
theorem dX9_put_62 : decode cX9_put 62 = .ok (.iload 5, 2) := by decide +kernel
theorem dX9_put_64 : decode cX9_put 64 = .ok (.invokestatic 88, 3) := by decide +kernel
theorem dX9_put_67 : decode cX9_put 67 = .ok (.isub, 1) := by decide +kernel
theorem dX9_put_68 : decode cX9_put 68 = .ok (.iload_n 2, 1) := by decide +kernel
theorem dX9_put_69 : decode cX9_put 69 = .ok (.invokestatic 88, 3) := by decide +kernel
theorem dX9_put_72 : decode cX9_put 72 = .ok (.iadd, 1) := by decide +kernel
theorem dX9_put_73 : decode cX9_put 73 = .ok (.bipush 16, 2) := by decide +kernel
theorem dX9_put_75 : decode cX9_put 75 = .ok (.if_icmp .le 13, 3) := by decide +kernel
theorem dX9_put_78 : decode cX9_put 78 = .ok (.new 64, 3) := by decide +kernel
theorem dX9_put_81 : decode cX9_put 81 = .ok (.dup, 1) := by decide +kernel
theorem dX9_put_82 : decode cX9_put 82 = .ok (.ldc 91, 2) := by decide +kernel
theorem dX9_put_84 : decode cX9_put 84 = .ok (.invokespecial 68, 3) := by decide +kernel
theorem dX9_put_87 : decode cX9_put 87 = .ok (.athrow, 1) := by decide +kernel
theorem dX9_put_88 : decode cX9_put 88 = .ok (.aload_n 0, 1) := by decide +kernel
theorem dX9_put_89 : decode cX9_put 89 = .ok (.getfield 12, 3) := by decide +kernel
theorem dX9_put_92 : decode cX9_put 92 = .ok (.iload_n 1, 1) := by decide +kernel
theorem dX9_put_93 : decode cX9_put 93 = .ok (.iload_n 2, 1) := by decide +kernel
theorem dX9_put_94 : decode cX9_put 94 = .ok (.iload_n 3, 1) := by decide +kernel
theorem dX9_put_95 : decode cX9_put 95 = .ok (.iload 4, 2) := by decide +kernel
theorem dX9_put_97 : decode cX9_put 97 = .ok (.invokevirtual 109, 3) := by decide +kernel
theorem dX9_put_100 : decode cX9_put 100 = .ok (.aload_n 0, 1) := by decide +kernel
theorem dX9_put_101 : decode cX9_put 101 = .ok (.getfield 21, 3) := by decide +kernel
theorem dX9_put_104 : decode cX9_put 104 = .ok (.invokevirtual 51, 3) := by decide +kernel
theorem dX9_put_107 : decode cX9_put 107 = .ok (.iload 5, 2) := by decide +kernel
theorem dX9_put_109 : decode cX9_put 109 = .ok (.ireturn, 1) := by decide +kernel
theorem dX9_ofLine_0 : decode cX9_ofLine 0 = .ok (.aload_n 0, 1) := by decide +kernel
theorem dX9_ofLine_1 : decode cX9_ofLine 1 = .ok (.getfield 12, 3) := by decide +kernel
theorem dX9_ofLine_4 : decode cX9_ofLine 4 = .ok (.iload_n 1, 1) := by decide +kernel
theorem dX9_ofLine_5 : decode cX9_ofLine 5 = .ok (.invokevirtual 97, 3) := by decide +kernel
theorem dX9_ofLine_8 : decode cX9_ofLine 8 = .ok (.ifCond .ne 13, 3) := by decide +kernel
theorem dX9_ofLine_11 : decode cX9_ofLine 11 = .ok (.new 101, 3) := by decide +kernel
theorem dX9_ofLine_14 : decode cX9_ofLine 14 = .ok (.dup, 1) := by decide +kernel
theorem dX9_ofLine_15 : decode cX9_ofLine 15 = .ok (.ldc 103, 2) := by decide +kernel
theorem dX9_ofLine_17 : decode cX9_ofLine 17 = .ok (.invokespecial 105, 3) := by decide +kernel
theorem dX9_ofLine_20 : decode cX9_ofLine 20 = .ok (.athrow, 1) := by decide +kernel
theorem dX9_ofLine_21 : decode cX9_ofLine 21 = .ok (.iload_n 2, 1) := by decide +kernel
theorem dX9_ofLine_22 : decode cX9_ofLine 22 = .ok (.ifCond .lt 8, 3) := by decide +kernel
theorem dX9_ofLine_25 : decode cX9_ofLine 25 = .ok (.iload_n 2, 1) := by decide +kernel
theorem dX9_ofLine_26 : decode cX9_ofLine 26 = .ok (.iconst 5, 1) := by decide +kernel
theorem dX9_ofLine_27 : decode cX9_ofLine 27 = .ok (.if_icmp .le 13, 3) := by decide +kernel
theorem dX9_ofLine_30 : decode cX9_ofLine 30 = .ok (.new 54, 3) := by decide +kernel
theorem dX9_ofLine_33 : decode cX9_ofLine 33 = .ok (.dup, 1) := by decide +kernel
theorem dX9_ofLine_34 : decode cX9_ofLine 34 = .ok (.ldc 118, 2) := by decide +kernel
theorem dX9_ofLine_36 : decode cX9_ofLine 36 = .ok (.invokespecial 58, 3) := by decide +kernel
theorem dX9_ofLine_39 : decode cX9_ofLine 39 = .ok (.athrow, 1) := by decide +kernel
theorem dX9_ofLine_40 : decode cX9_ofLine 40 = .ok (.iload_n 2, 1) := by decide +kernel
theorem dX9_ofLine_41 : decode cX9_ofLine 41 = .ok (.tableswitch 86 0 4 #[35, 44, 53, 62, 74], 35) := by decide +kernel
theorem dX9_ofLine_76 : decode cX9_ofLine 76 = .ok (.aload_n 0, 1) := by decide +kernel
theorem dX9_ofLine_77 : decode cX9_ofLine 77 = .ok (.getfield 12, 3) := by decide +kernel
theorem dX9_ofLine_80 : decode cX9_ofLine 80 = .ok (.iload_n 1, 1) := by decide +kernel
theorem dX9_ofLine_81 : decode cX9_ofLine 81 = .ok (.invokevirtual 106, 3) := by decide +kernel
theorem dX9_ofLine_84 : decode cX9_ofLine 84 = .ok (.ireturn, 1) := by decide +kernel
theorem dX9_ofLine_85 : decode cX9_ofLine 85 = .ok (.aload_n 0, 1) := by decide +kernel
theorem dX9_ofLine_86 : decode cX9_ofLine 86 = .ok (.getfield 12, 3) := by decide +kernel
theorem dX9_ofLine_89 : decode cX9_ofLine 89 = .ok (.iload_n 1, 1) := by decide +kernel
theorem dX9_ofLine_90 : decode cX9_ofLine 90 = .ok (.invokevirtual 120, 3) := by decide +kernel
theorem dX9_ofLine_93 : decode cX9_ofLine 93 = .ok (.ireturn, 1) := by decide +kernel
theorem dX9_ofLine_94 : decode cX9_ofLine 94 = .ok (.aload_n 0, 1) := by decide +kernel
theorem dX9_ofLine_95 : decode cX9_ofLine 95 = .ok (.getfield 12, 3) := by decide +kernel
theorem dX9_ofLine_98 : decode cX9_ofLine 98 = .ok (.iload_n 1, 1) := by decide +kernel
theorem dX9_ofLine_99 : decode cX9_ofLine 99 = .ok (.invokevirtual 123, 3) := by decide +kernel
theorem dX9_ofLine_102 : decode cX9_ofLine 102 = .ok (.ireturn, 1) := by decide +kernel
theorem dX9_ofLine_103 : decode cX9_ofLine 103 = .ok (.aload_n 0, 1) := by decide +kernel
theorem dX9_ofLine_104 : decode cX9_ofLine 104 = .ok (.getfield 21, 3) := by decide +kernel
theorem dX9_ofLine_107 : decode cX9_ofLine 107 = .ok (.getfield 27, 3) := by decide +kernel
theorem dX9_ofLine_110 : decode cX9_ofLine 110 = .ok (.iload_n 1, 1) := by decide +kernel
theorem dX9_ofLine_111 : decode cX9_ofLine 111 = .ok (.invokevirtual 126, 3) := by decide +kernel
theorem dX9_ofLine_114 : decode cX9_ofLine 114 = .ok (.ireturn, 1) := by decide +kernel
theorem dX9_ofLine_115 : decode cX9_ofLine 115 = .ok (.aload_n 0, 1) := by decide +kernel
theorem dX9_ofLine_116 : decode cX9_ofLine 116 = .ok (.getfield 21, 3) := by decide +kernel
theorem dX9_ofLine_119 : decode cX9_ofLine 119 = .ok (.getfield 27, 3) := by decide +kernel
theorem dX9_ofLine_122 : decode cX9_ofLine 122 = .ok (.iload_n 1, 1) := by decide +kernel
theorem dX9_ofLine_123 : decode cX9_ofLine 123 = .ok (.invokevirtual 131, 3) := by decide +kernel
theorem dX9_ofLine_126 : decode cX9_ofLine 126 = .ok (.ireturn, 1) := by decide +kernel
theorem dX9_ofLine_127 : decode cX9_ofLine 127 = .ok (.aload_n 0, 1) := by decide +kernel
theorem dX9_ofLine_128 : decode cX9_ofLine 128 = .ok (.getfield 21, 3) := by decide +kernel
theorem dX9_ofLine_131 : decode cX9_ofLine 131 = .ok (.iload_n 1, 1) := by decide +kernel
theorem dX9_ofLine_132 : decode cX9_ofLine 132 = .ok (.invokevirtual 134, 3) := by decide +kernel
theorem dX9_ofLine_135 : decode cX9_ofLine 135 = .ok (.ifCond .eq 7, 3) := by decide +kernel
theorem dX9_ofLine_138 : decode cX9_ofLine 138 = .ok (.iconst 1, 1) := by decide +kernel
theorem dX9_ofLine_139 : decode cX9_ofLine 139 = .ok (.goto 4, 3) := by decide +kernel
theorem dX9_ofLine_142 : decode cX9_ofLine 142 = .ok (.iconst 0, 1) := by decide +kernel
theorem dX9_ofLine_143 : decode cX9_ofLine 143 = .ok (.ireturn, 1) := by decide +kernel
theorem dX9_state_0 : decode cX9_state 0 = .ok (.aload_n 0, 1) := by decide +kernel
theorem dX9_state_1 : decode cX9_state 1 = .ok (.getfield 12, 3) := by decide +kernel
theorem dX9_state_4 : decode cX9_state 4 = .ok (.iload_n 1, 1) := by decide +kernel
theorem dX9_state_5 : decode cX9_state 5 = .ok (.invokevirtual 137, 3) := by decide +kernel
theorem dX9_state_8 : decode cX9_state 8 = .ok (.ifCond .eq 15, 3) := by decide +kernel
theorem dX9_state_11 : decode cX9_state 11 = .ok (.aload_n 0, 1) := by decide +kernel
theorem dX9_state_12 : decode cX9_state 12 = .ok (.getfield 12, 3) := by decide +kernel
theorem dX9_state_15 : decode cX9_state 15 = .ok (.iload_n 2, 1) := by decide +kernel
theorem dX9_state_16 : decode cX9_state 16 = .ok (.invokevirtual 140, 3) := by decide +kernel
theorem dX9_state_19 : decode cX9_state 19 = .ok (.iconst (-1), 1) := by decide +kernel
theorem dX9_state_20 : decode cX9_state 20 = .ok (.if_icmp .ne 13, 3) := by decide +kernel
theorem dX9_state_23 : decode cX9_state 23 = .ok (.new 101, 3) := by decide +kernel
theorem dX9_state_26 : decode cX9_state 26 = .ok (.dup, 1) := by decide +kernel
theorem dX9_state_27 : decode cX9_state 27 = .ok (.ldc 143, 2) := by decide +kernel
theorem dX9_state_29 : decode cX9_state 29 = .ok (.invokespecial 105, 3) := by decide +kernel
theorem dX9_state_32 : decode cX9_state 32 = .ok (.athrow, 1) := by decide +kernel
theorem dX9_state_33 : decode cX9_state 33 = .ok (.aload_n 0, 1) := by decide +kernel
theorem dX9_state_34 : decode cX9_state 34 = .ok (.getfield 21, 3) := by decide +kernel
theorem dX9_state_37 : decode cX9_state 37 = .ok (.iload_n 1, 1) := by decide +kernel
theorem dX9_state_38 : decode cX9_state 38 = .ok (.iload_n 2, 1) := by decide +kernel
theorem dX9_state_39 : decode cX9_state 39 = .ok (.invokevirtual 145, 3) := by decide +kernel
theorem dX9_state_42 : decode cX9_state 42 = .ok (.ireturn, 1) := by decide +kernel
theorem dX9_holds_0 : decode cX9_holds 0 = .ok (.aload_n 0, 1) := by decide +kernel
theorem dX9_holds_1 : decode cX9_holds 1 = .ok (.getfield 12, 3) := by decide +kernel
theorem dX9_holds_4 : decode cX9_holds 4 = .ok (.iload_n 1, 1) := by decide +kernel
theorem dX9_holds_5 : decode cX9_holds 5 = .ok (.invokevirtual 137, 3) := by decide +kernel
theorem dX9_holds_8 : decode cX9_holds 8 = .ok (.ifCond .eq 14, 3) := by decide +kernel
theorem dX9_holds_11 : decode cX9_holds 11 = .ok (.aload_n 0, 1) := by decide +kernel
theorem dX9_holds_12 : decode cX9_holds 12 = .ok (.getfield 12, 3) := by decide +kernel
theorem dX9_holds_15 : decode cX9_holds 15 = .ok (.iload_n 2, 1) := by decide +kernel
theorem dX9_holds_16 : decode cX9_holds 16 = .ok (.invokevirtual 149, 3) := by decide +kernel
theorem dX9_holds_19 : decode cX9_holds 19 = .ok (.ifCond .ne 13, 3) := by decide +kernel
theorem dX9_holds_22 : decode cX9_holds 22 = .ok (.new 101, 3) := by decide +kernel
theorem dX9_holds_25 : decode cX9_holds 25 = .ok (.dup, 1) := by decide +kernel
theorem dX9_holds_26 : decode cX9_holds 26 = .ok (.ldc 152, 2) := by decide +kernel
theorem dX9_holds_28 : decode cX9_holds 28 = .ok (.invokespecial 105, 3) := by decide +kernel
theorem dX9_holds_31 : decode cX9_holds 31 = .ok (.athrow, 1) := by decide +kernel
theorem dX9_holds_32 : decode cX9_holds 32 = .ok (.aload_n 0, 1) := by decide +kernel
theorem dX9_holds_33 : decode cX9_holds 33 = .ok (.getfield 21, 3) := by decide +kernel
theorem dX9_holds_36 : decode cX9_holds 36 = .ok (.iload_n 1, 1) := by decide +kernel
theorem dX9_holds_37 : decode cX9_holds 37 = .ok (.iload_n 2, 1) := by decide +kernel
theorem dX9_holds_38 : decode cX9_holds 38 = .ok (.invokevirtual 154, 3) := by decide +kernel
theorem dX9_holds_41 : decode cX9_holds 41 = .ok (.ireturn, 1) := by decide +kernel
theorem dX9_isWanted_0 : decode cX9_isWanted 0 = .ok (.aload_n 0, 1) := by decide +kernel
theorem dX9_isWanted_1 : decode cX9_isWanted 1 = .ok (.getfield 12, 3) := by decide +kernel
theorem dX9_isWanted_4 : decode cX9_isWanted 4 = .ok (.iload_n 1, 1) := by decide +kernel
theorem dX9_isWanted_5 : decode cX9_isWanted 5 = .ok (.invokevirtual 137, 3) := by decide +kernel
theorem dX9_isWanted_8 : decode cX9_isWanted 8 = .ok (.ifCond .eq 14, 3) := by decide +kernel
theorem dX9_isWanted_11 : decode cX9_isWanted 11 = .ok (.aload_n 0, 1) := by decide +kernel
theorem dX9_isWanted_12 : decode cX9_isWanted 12 = .ok (.getfield 12, 3) := by decide +kernel
theorem dX9_isWanted_15 : decode cX9_isWanted 15 = .ok (.iload_n 2, 1) := by decide +kernel
theorem dX9_isWanted_16 : decode cX9_isWanted 16 = .ok (.invokevirtual 149, 3) := by decide +kernel
theorem dX9_isWanted_19 : decode cX9_isWanted 19 = .ok (.ifCond .ne 13, 3) := by decide +kernel
theorem dX9_isWanted_22 : decode cX9_isWanted 22 = .ok (.new 101, 3) := by decide +kernel
theorem dX9_isWanted_25 : decode cX9_isWanted 25 = .ok (.dup, 1) := by decide +kernel
theorem dX9_isWanted_26 : decode cX9_isWanted 26 = .ok (.ldc 152, 2) := by decide +kernel
theorem dX9_isWanted_28 : decode cX9_isWanted 28 = .ok (.invokespecial 105, 3) := by decide +kernel
theorem dX9_isWanted_31 : decode cX9_isWanted 31 = .ok (.athrow, 1) := by decide +kernel
theorem dX9_isWanted_32 : decode cX9_isWanted 32 = .ok (.aload_n 0, 1) := by decide +kernel
theorem dX9_isWanted_33 : decode cX9_isWanted 33 = .ok (.getfield 21, 3) := by decide +kernel
theorem dX9_isWanted_36 : decode cX9_isWanted 36 = .ok (.iload_n 1, 1) := by decide +kernel
theorem dX9_isWanted_37 : decode cX9_isWanted 37 = .ok (.invokevirtual 157, 3) := by decide +kernel
theorem dX9_isWanted_40 : decode cX9_isWanted 40 = .ok (.iconst 1, 1) := by decide +kernel
theorem dX9_isWanted_41 : decode cX9_isWanted 41 = .ok (.iload_n 2, 1) := by decide +kernel
theorem dX9_isWanted_42 : decode cX9_isWanted 42 = .ok (.ishl, 1) := by decide +kernel
theorem dX9_isWanted_43 : decode cX9_isWanted 43 = .ok (.iand, 1) := by decide +kernel
theorem dX9_isWanted_44 : decode cX9_isWanted 44 = .ok (.ifCond .eq 7, 3) := by decide +kernel
theorem dX9_isWanted_47 : decode cX9_isWanted 47 = .ok (.iconst 1, 1) := by decide +kernel
theorem dX9_isWanted_48 : decode cX9_isWanted 48 = .ok (.goto 4, 3) := by decide +kernel
theorem dX9_isWanted_51 : decode cX9_isWanted 51 = .ok (.iconst 0, 1) := by decide +kernel
theorem dX9_isWanted_52 : decode cX9_isWanted 52 = .ok (.ireturn, 1) := by decide +kernel
theorem dX9_inTheWay_0 : decode cX9_inTheWay 0 = .ok (.aload_n 0, 1) := by decide +kernel
theorem dX9_inTheWay_1 : decode cX9_inTheWay 1 = .ok (.getfield 12, 3) := by decide +kernel
theorem dX9_inTheWay_4 : decode cX9_inTheWay 4 = .ok (.iload_n 1, 1) := by decide +kernel
theorem dX9_inTheWay_5 : decode cX9_inTheWay 5 = .ok (.invokevirtual 137, 3) := by decide +kernel
theorem dX9_inTheWay_8 : decode cX9_inTheWay 8 = .ok (.ifCond .eq 15, 3) := by decide +kernel
theorem dX9_inTheWay_11 : decode cX9_inTheWay 11 = .ok (.aload_n 0, 1) := by decide +kernel
theorem dX9_inTheWay_12 : decode cX9_inTheWay 12 = .ok (.getfield 12, 3) := by decide +kernel
theorem dX9_inTheWay_15 : decode cX9_inTheWay 15 = .ok (.iload_n 2, 1) := by decide +kernel
theorem dX9_inTheWay_16 : decode cX9_inTheWay 16 = .ok (.invokevirtual 140, 3) := by decide +kernel
theorem dX9_inTheWay_19 : decode cX9_inTheWay 19 = .ok (.iconst (-1), 1) := by decide +kernel
theorem dX9_inTheWay_20 : decode cX9_inTheWay 20 = .ok (.if_icmp .ne 13, 3) := by decide +kernel
theorem dX9_inTheWay_23 : decode cX9_inTheWay 23 = .ok (.new 101, 3) := by decide +kernel
theorem dX9_inTheWay_26 : decode cX9_inTheWay 26 = .ok (.dup, 1) := by decide +kernel
theorem dX9_inTheWay_27 : decode cX9_inTheWay 27 = .ok (.ldc 143, 2) := by decide +kernel
theorem dX9_inTheWay_29 : decode cX9_inTheWay 29 = .ok (.invokespecial 105, 3) := by decide +kernel
theorem dX9_inTheWay_32 : decode cX9_inTheWay 32 = .ok (.athrow, 1) := by decide +kernel
theorem dX9_inTheWay_33 : decode cX9_inTheWay 33 = .ok (.aload_n 0, 1) := by decide +kernel
theorem dX9_inTheWay_34 : decode cX9_inTheWay 34 = .ok (.getfield 21, 3) := by decide +kernel
theorem dX9_inTheWay_37 : decode cX9_inTheWay 37 = .ok (.iload_n 1, 1) := by decide +kernel
theorem dX9_inTheWay_38 : decode cX9_inTheWay 38 = .ok (.iload_n 2, 1) := by decide +kernel
theorem dX9_inTheWay_39 : decode cX9_inTheWay 39 = .ok (.aload_n 0, 1) := by decide +kernel
theorem dX9_inTheWay_40 : decode cX9_inTheWay 40 = .ok (.getfield 21, 3) := by decide +kernel
theorem dX9_inTheWay_43 : decode cX9_inTheWay 43 = .ok (.iload_n 1, 1) := by decide +kernel
theorem dX9_inTheWay_44 : decode cX9_inTheWay 44 = .ok (.invokevirtual 157, 3) := by decide +kernel
theorem dX9_inTheWay_47 : decode cX9_inTheWay 47 = .ok (.iconst 0, 1) := by decide +kernel
theorem dX9_inTheWay_48 : decode cX9_inTheWay 48 = .ok (.invokevirtual 160, 3) := by decide +kernel
theorem dX9_inTheWay_51 : decode cX9_inTheWay 51 = .ok (.ireturn, 1) := by decide +kernel
theorem dX9_ofLoan_0 : decode cX9_ofLoan 0 = .ok (.aload_n 0, 1) := by decide +kernel
theorem dX9_ofLoan_1 : decode cX9_ofLoan 1 = .ok (.getfield 21, 3) := by decide +kernel
theorem dX9_ofLoan_4 : decode cX9_ofLoan 4 = .ok (.getfield 164, 3) := by decide +kernel
theorem dX9_ofLoan_7 : decode cX9_ofLoan 7 = .ok (.iload_n 1, 1) := by decide +kernel
theorem dX9_ofLoan_8 : decode cX9_ofLoan 8 = .ok (.invokevirtual 168, 3) := by decide +kernel
theorem dX9_ofLoan_11 : decode cX9_ofLoan 11 = .ok (.ifCond .ne 13, 3) := by decide +kernel
theorem dX9_ofLoan_14 : decode cX9_ofLoan 14 = .ok (.new 101, 3) := by decide +kernel
theorem dX9_ofLoan_17 : decode cX9_ofLoan 17 = .ok (.dup, 1) := by decide +kernel
theorem dX9_ofLoan_18 : decode cX9_ofLoan 18 = .ok (.ldc 173, 2) := by decide +kernel
theorem dX9_ofLoan_20 : decode cX9_ofLoan 20 = .ok (.invokespecial 105, 3) := by decide +kernel
theorem dX9_ofLoan_23 : decode cX9_ofLoan 23 = .ok (.athrow, 1) := by decide +kernel
theorem dX9_ofLoan_24 : decode cX9_ofLoan 24 = .ok (.iload_n 2, 1) := by decide +kernel
theorem dX9_ofLoan_25 : decode cX9_ofLoan 25 = .ok (.ifCond .lt 8, 3) := by decide +kernel
theorem dX9_ofLoan_28 : decode cX9_ofLoan 28 = .ok (.iload_n 2, 1) := by decide +kernel
theorem dX9_ofLoan_29 : decode cX9_ofLoan 29 = .ok (.iconst 3, 1) := by decide +kernel
theorem dX9_ofLoan_30 : decode cX9_ofLoan 30 = .ok (.if_icmp .le 13, 3) := by decide +kernel
theorem dX9_ofLoan_33 : decode cX9_ofLoan 33 = .ok (.new 54, 3) := by decide +kernel
theorem dX9_ofLoan_36 : decode cX9_ofLoan 36 = .ok (.dup, 1) := by decide +kernel
theorem dX9_ofLoan_37 : decode cX9_ofLoan 37 = .ok (.ldc 118, 2) := by decide +kernel
theorem dX9_ofLoan_39 : decode cX9_ofLoan 39 = .ok (.invokespecial 58, 3) := by decide +kernel
theorem dX9_ofLoan_42 : decode cX9_ofLoan 42 = .ok (.athrow, 1) := by decide +kernel
theorem dX9_ofLoan_43 : decode cX9_ofLoan 43 = .ok (.iload_n 2, 1) := by decide +kernel
theorem dX9_ofLoan_44 : decode cX9_ofLoan 44 = .ok (.tableswitch 72 0 2 #[28, 40, 52], 28) := by decide +kernel
theorem dX9_ofLoan_72 : decode cX9_ofLoan 72 = .ok (.aload_n 0, 1) := by decide +kernel
theorem dX9_ofLoan_73 : decode cX9_ofLoan 73 = .ok (.getfield 21, 3) := by decide +kernel
theorem dX9_ofLoan_76 : decode cX9_ofLoan 76 = .ok (.getfield 164, 3) := by decide +kernel
theorem dX9_ofLoan_79 : decode cX9_ofLoan 79 = .ok (.iload_n 1, 1) := by decide +kernel
theorem dX9_ofLoan_80 : decode cX9_ofLoan 80 = .ok (.invokevirtual 175, 3) := by decide +kernel
theorem dX9_ofLoan_83 : decode cX9_ofLoan 83 = .ok (.ireturn, 1) := by decide +kernel
theorem dX9_ofLoan_84 : decode cX9_ofLoan 84 = .ok (.aload_n 0, 1) := by decide +kernel
theorem dX9_ofLoan_85 : decode cX9_ofLoan 85 = .ok (.getfield 21, 3) := by decide +kernel
theorem dX9_ofLoan_88 : decode cX9_ofLoan 88 = .ok (.getfield 164, 3) := by decide +kernel
theorem dX9_ofLoan_91 : decode cX9_ofLoan 91 = .ok (.iload_n 1, 1) := by decide +kernel
theorem dX9_ofLoan_92 : decode cX9_ofLoan 92 = .ok (.invokevirtual 178, 3) := by decide +kernel
theorem dX9_ofLoan_95 : decode cX9_ofLoan 95 = .ok (.ireturn, 1) := by decide +kernel
theorem dX9_ofLoan_96 : decode cX9_ofLoan 96 = .ok (.aload_n 0, 1) := by decide +kernel
theorem dX9_ofLoan_97 : decode cX9_ofLoan 97 = .ok (.getfield 21, 3) := by decide +kernel
theorem dX9_ofLoan_100 : decode cX9_ofLoan 100 = .ok (.getfield 164, 3) := by decide +kernel
theorem dX9_ofLoan_103 : decode cX9_ofLoan 103 = .ok (.iload_n 1, 1) := by decide +kernel
theorem dX9_ofLoan_104 : decode cX9_ofLoan 104 = .ok (.invokevirtual 181, 3) := by decide +kernel
theorem dX9_ofLoan_107 : decode cX9_ofLoan 107 = .ok (.ifCond .eq 7, 3) := by decide +kernel
theorem dX9_ofLoan_110 : decode cX9_ofLoan 110 = .ok (.iconst 1, 1) := by decide +kernel
theorem dX9_ofLoan_111 : decode cX9_ofLoan 111 = .ok (.goto 4, 3) := by decide +kernel
theorem dX9_ofLoan_114 : decode cX9_ofLoan 114 = .ok (.iconst 0, 1) := by decide +kernel
theorem dX9_ofLoan_115 : decode cX9_ofLoan 115 = .ok (.ireturn, 1) := by decide +kernel
theorem dX9_ofLoan_116 : decode cX9_ofLoan 116 = .ok (.aload_n 0, 1) := by decide +kernel
theorem dX9_ofLoan_117 : decode cX9_ofLoan 117 = .ok (.getfield 21, 3) := by decide +kernel
theorem dX9_ofLoan_120 : decode cX9_ofLoan 120 = .ok (.iload_n 1, 1) := by decide +kernel
theorem dX9_ofLoan_121 : decode cX9_ofLoan 121 = .ok (.invokevirtual 184, 3) := by decide +kernel
theorem dX9_ofLoan_124 : decode cX9_ofLoan 124 = .ok (.ireturn, 1) := by decide +kernel
theorem dX9_fault_0 : decode cX9_fault 0 = .ok (.aload_n 0, 1) := by decide +kernel
theorem dX9_fault_1 : decode cX9_fault 1 = .ok (.getfield 21, 3) := by decide +kernel
theorem dX9_fault_4 : decode cX9_fault 4 = .ok (.getfield 187, 3) := by decide +kernel
theorem dX9_fault_7 : decode cX9_fault 7 = .ok (.iload_n 1, 1) := by decide +kernel
theorem dX9_fault_8 : decode cX9_fault 8 = .ok (.invokevirtual 191, 3) := by decide +kernel
theorem dX9_fault_11 : decode cX9_fault 11 = .ok (.ifCond .ne 13, 3) := by decide +kernel
theorem dX9_fault_14 : decode cX9_fault 14 = .ok (.new 101, 3) := by decide +kernel
theorem dX9_fault_17 : decode cX9_fault 17 = .ok (.dup, 1) := by decide +kernel
theorem dX9_fault_18 : decode cX9_fault 18 = .ok (.ldc 196, 2) := by decide +kernel
theorem dX9_fault_20 : decode cX9_fault 20 = .ok (.invokespecial 105, 3) := by decide +kernel
theorem dX9_fault_23 : decode cX9_fault 23 = .ok (.athrow, 1) := by decide +kernel
theorem dX9_fault_24 : decode cX9_fault 24 = .ok (.iload_n 2, 1) := by decide +kernel
theorem dX9_fault_25 : decode cX9_fault 25 = .ok (.ifCond .lt 8, 3) := by decide +kernel
theorem dX9_fault_28 : decode cX9_fault 28 = .ok (.iload_n 2, 1) := by decide +kernel
theorem dX9_fault_29 : decode cX9_fault 29 = .ok (.iconst 4, 1) := by decide +kernel
theorem dX9_fault_30 : decode cX9_fault 30 = .ok (.if_icmp .le 13, 3) := by decide +kernel
theorem dX9_fault_33 : decode cX9_fault 33 = .ok (.new 54, 3) := by decide +kernel
theorem dX9_fault_36 : decode cX9_fault 36 = .ok (.dup, 1) := by decide +kernel
theorem dX9_fault_37 : decode cX9_fault 37 = .ok (.ldc 118, 2) := by decide +kernel
theorem dX9_fault_39 : decode cX9_fault 39 = .ok (.invokespecial 58, 3) := by decide +kernel
theorem dX9_fault_42 : decode cX9_fault 42 = .ok (.athrow, 1) := by decide +kernel
theorem dX9_fault_43 : decode cX9_fault 43 = .ok (.iload_n 2, 1) := by decide +kernel
theorem dX9_fault_44 : decode cX9_fault 44 = .ok (.iconst 4, 1) := by decide +kernel
theorem dX9_fault_45 : decode cX9_fault 45 = .ok (.if_icmp .ne 23, 3) := by decide +kernel
theorem dX9_fault_48 : decode cX9_fault 48 = .ok (.aload_n 0, 1) := by decide +kernel
theorem dX9_fault_49 : decode cX9_fault 49 = .ok (.getfield 21, 3) := by decide +kernel
theorem dX9_fault_52 : decode cX9_fault 52 = .ok (.aload_n 0, 1) := by decide +kernel
theorem dX9_fault_53 : decode cX9_fault 53 = .ok (.getfield 21, 3) := by decide +kernel
theorem dX9_fault_56 : decode cX9_fault 56 = .ok (.getfield 187, 3) := by decide +kernel
theorem dX9_fault_59 : decode cX9_fault 59 = .ok (.iload_n 1, 1) := by decide +kernel
theorem dX9_fault_60 : decode cX9_fault 60 = .ok (.iconst 3, 1) := by decide +kernel
theorem dX9_fault_61 : decode cX9_fault 61 = .ok (.invokevirtual 198, 3) := by decide +kernel
theorem dX9_fault_64 : decode cX9_fault 64 = .ok (.invokevirtual 184, 3) := by decide +kernel
theorem dX9_fault_67 : decode cX9_fault 67 = .ok (.ireturn, 1) := by decide +kernel
theorem dX9_fault_68 : decode cX9_fault 68 = .ok (.aload_n 0, 1) := by decide +kernel
theorem dX9_fault_69 : decode cX9_fault 69 = .ok (.getfield 21, 3) := by decide +kernel
theorem dX9_fault_72 : decode cX9_fault 72 = .ok (.getfield 187, 3) := by decide +kernel
theorem dX9_fault_75 : decode cX9_fault 75 = .ok (.iload_n 1, 1) := by decide +kernel
theorem dX9_fault_76 : decode cX9_fault 76 = .ok (.iload_n 2, 1) := by decide +kernel
theorem dX9_fault_77 : decode cX9_fault 77 = .ok (.invokevirtual 198, 3) := by decide +kernel
theorem dX9_fault_80 : decode cX9_fault 80 = .ok (.ireturn, 1) := by decide +kernel
theorem dX9_ofVariable_0 : decode cX9_ofVariable 0 = .ok (.aload_n 0, 1) := by decide +kernel
theorem dX9_ofVariable_1 : decode cX9_ofVariable 1 = .ok (.getfield 12, 3) := by decide +kernel
theorem dX9_ofVariable_4 : decode cX9_ofVariable 4 = .ok (.iload_n 1, 1) := by decide +kernel
theorem dX9_ofVariable_5 : decode cX9_ofVariable 5 = .ok (.invokevirtual 201, 3) := by decide +kernel
theorem dX9_ofVariable_8 : decode cX9_ofVariable 8 = .ok (.ifCond .ne 13, 3) := by decide +kernel
theorem dX9_ofVariable_11 : decode cX9_ofVariable 11 = .ok (.new 101, 3) := by decide +kernel
theorem dX9_ofVariable_14 : decode cX9_ofVariable 14 = .ok (.dup, 1) := by decide +kernel
theorem dX9_ofVariable_15 : decode cX9_ofVariable 15 = .ok (.ldc 204, 2) := by decide +kernel
theorem dX9_ofVariable_17 : decode cX9_ofVariable 17 = .ok (.invokespecial 105, 3) := by decide +kernel
theorem dX9_ofVariable_20 : decode cX9_ofVariable 20 = .ok (.athrow, 1) := by decide +kernel
theorem dX9_ofVariable_21 : decode cX9_ofVariable 21 = .ok (.iload_n 2, 1) := by decide +kernel
theorem dX9_ofVariable_22 : decode cX9_ofVariable 22 = .ok (.ifCond .lt 8, 3) := by decide +kernel
theorem dX9_ofVariable_25 : decode cX9_ofVariable 25 = .ok (.iload_n 2, 1) := by decide +kernel
theorem dX9_ofVariable_26 : decode cX9_ofVariable 26 = .ok (.iconst 3, 1) := by decide +kernel
theorem dX9_ofVariable_27 : decode cX9_ofVariable 27 = .ok (.if_icmp .le 13, 3) := by decide +kernel
theorem dX9_ofVariable_30 : decode cX9_ofVariable 30 = .ok (.new 54, 3) := by decide +kernel
theorem dX9_ofVariable_33 : decode cX9_ofVariable 33 = .ok (.dup, 1) := by decide +kernel
theorem dX9_ofVariable_34 : decode cX9_ofVariable 34 = .ok (.ldc 118, 2) := by decide +kernel
theorem dX9_ofVariable_36 : decode cX9_ofVariable 36 = .ok (.invokespecial 58, 3) := by decide +kernel
theorem dX9_ofVariable_39 : decode cX9_ofVariable 39 = .ok (.athrow, 1) := by decide +kernel
theorem dX9_ofVariable_40 : decode cX9_ofVariable 40 = .ok (.iload_n 2, 1) := by decide +kernel
theorem dX9_ofVariable_41 : decode cX9_ofVariable 41 = .ok (.tableswitch 59 0 2 #[27, 38, 47], 27) := by decide +kernel
theorem dX9_ofVariable_68 : decode cX9_ofVariable 68 = .ok (.aload_n 0, 1) := by decide +kernel
theorem dX9_ofVariable_69 : decode cX9_ofVariable 69 = .ok (.getfield 12, 3) := by decide +kernel
theorem dX9_ofVariable_72 : decode cX9_ofVariable 72 = .ok (.iconst 3, 1) := by decide +kernel
theorem dX9_ofVariable_73 : decode cX9_ofVariable 73 = .ok (.iload_n 1, 1) := by decide +kernel
theorem dX9_ofVariable_74 : decode cX9_ofVariable 74 = .ok (.imul, 1) := by decide +kernel
theorem dX9_ofVariable_75 : decode cX9_ofVariable 75 = .ok (.invokevirtual 140, 3) := by decide +kernel
theorem dX9_ofVariable_78 : decode cX9_ofVariable 78 = .ok (.ireturn, 1) := by decide +kernel
theorem dX9_ofVariable_79 : decode cX9_ofVariable 79 = .ok (.aload_n 0, 1) := by decide +kernel
theorem dX9_ofVariable_80 : decode cX9_ofVariable 80 = .ok (.getfield 21, 3) := by decide +kernel
theorem dX9_ofVariable_83 : decode cX9_ofVariable 83 = .ok (.iload_n 1, 1) := by decide +kernel
theorem dX9_ofVariable_84 : decode cX9_ofVariable 84 = .ok (.invokevirtual 206, 3) := by decide +kernel
theorem dX9_ofVariable_87 : decode cX9_ofVariable 87 = .ok (.ireturn, 1) := by decide +kernel
theorem dX9_ofVariable_88 : decode cX9_ofVariable 88 = .ok (.aload_n 0, 1) := by decide +kernel
theorem dX9_ofVariable_89 : decode cX9_ofVariable 89 = .ok (.getfield 21, 3) := by decide +kernel
theorem dX9_ofVariable_92 : decode cX9_ofVariable 92 = .ok (.getfield 209, 3) := by decide +kernel
theorem dX9_ofVariable_95 : decode cX9_ofVariable 95 = .ok (.iload_n 1, 1) := by decide +kernel
theorem dX9_ofVariable_96 : decode cX9_ofVariable 96 = .ok (.invokevirtual 213, 3) := by decide +kernel
theorem dX9_ofVariable_99 : decode cX9_ofVariable 99 = .ok (.ireturn, 1) := by decide +kernel
theorem dX9_ofVariable_100 : decode cX9_ofVariable 100 = .ok (.aload_n 0, 1) := by decide +kernel
theorem dX9_ofVariable_101 : decode cX9_ofVariable 101 = .ok (.getfield 21, 3) := by decide +kernel
theorem dX9_ofVariable_104 : decode cX9_ofVariable 104 = .ok (.getfield 209, 3) := by decide +kernel
theorem dX9_ofVariable_107 : decode cX9_ofVariable 107 = .ok (.iload_n 1, 1) := by decide +kernel
theorem dX9_ofVariable_108 : decode cX9_ofVariable 108 = .ok (.invokevirtual 218, 3) := by decide +kernel
theorem dX9_ofVariable_111 : decode cX9_ofVariable 111 = .ok (.ireturn, 1) := by decide +kernel
theorem dX9_run_0 : decode cX9_run 0 = .ok (.aload_n 0, 1) := by decide +kernel
theorem dX9_run_1 : decode cX9_run 1 = .ok (.getfield 21, 3) := by decide +kernel
theorem dX9_run_4 : decode cX9_run 4 = .ok (.getfield 187, 3) := by decide +kernel
theorem dX9_run_7 : decode cX9_run 7 = .ok (.getfield 221, 3) := by decide +kernel
theorem dX9_run_10 : decode cX9_run 10 = .ok (.ifCond .le 13, 3) := by decide +kernel
theorem dX9_run_13 : decode cX9_run 13 = .ok (.new 64, 3) := by decide +kernel
theorem dX9_run_16 : decode cX9_run 16 = .ok (.dup, 1) := by decide +kernel
theorem dX9_run_17 : decode cX9_run 17 = .ok (.ldc 224, 2) := by decide +kernel
theorem dX9_run_19 : decode cX9_run 19 = .ok (.invokespecial 68, 3) := by decide +kernel
theorem dX9_run_22 : decode cX9_run 22 = .ok (.athrow, 1) := by decide +kernel
theorem dX9_run_23 : decode cX9_run 23 = .ok (.aload_n 0, 1) := by decide +kernel
theorem dX9_run_24 : decode cX9_run 24 = .ok (.dup, 1) := by decide +kernel
theorem dX9_run_25 : decode cX9_run 25 = .ok (.getfield 47, 3) := by decide +kernel
theorem dX9_run_28 : decode cX9_run 28 = .ok (.iconst 1, 1) := by decide +kernel
theorem dX9_run_29 : decode cX9_run 29 = .ok (.iadd, 1) := by decide +kernel
theorem dX9_run_30 : decode cX9_run 30 = .ok (.putfield 47, 3) := by decide +kernel
theorem dX9_run_33 : decode cX9_run 33 = .ok (.aload_n 0, 1) := by decide +kernel
theorem dX9_run_34 : decode cX9_run 34 = .ok (.getfield 34, 3) := by decide +kernel
theorem dX9_run_37 : decode cX9_run 37 = .ok (.invokevirtual 226, 3) := by decide +kernel
theorem dX9_run_40 : decode cX9_run 40 = .ok (.aload_n 0, 1) := by decide +kernel
theorem dX9_run_41 : decode cX9_run 41 = .ok (.getfield 34, 3) := by decide +kernel
theorem dX9_run_44 : decode cX9_run 44 = .ok (.getfield 229, 3) := by decide +kernel
theorem dX9_run_47 : decode cX9_run 47 = .ok (.ireturn, 1) := by decide +kernel
theorem dX9_ofRun_0 : decode cX9_ofRun 0 = .ok (.iload_n 1, 1) := by decide +kernel
theorem dX9_ofRun_1 : decode cX9_ofRun 1 = .ok (.ifCond .lt 9, 3) := by decide +kernel
theorem dX9_ofRun_4 : decode cX9_ofRun 4 = .ok (.iload_n 1, 1) := by decide +kernel
theorem dX9_ofRun_5 : decode cX9_ofRun 5 = .ok (.bipush 9, 2) := by decide +kernel
theorem dX9_ofRun_7 : decode cX9_ofRun 7 = .ok (.if_icmp .le 13, 3) := by decide +kernel
theorem dX9_ofRun_10 : decode cX9_ofRun 10 = .ok (.new 54, 3) := by decide +kernel
theorem dX9_ofRun_13 : decode cX9_ofRun 13 = .ok (.dup, 1) := by decide +kernel
theorem dX9_ofRun_14 : decode cX9_ofRun 14 = .ok (.ldc 118, 2) := by decide +kernel
theorem dX9_ofRun_16 : decode cX9_ofRun 16 = .ok (.invokespecial 58, 3) := by decide +kernel
theorem dX9_ofRun_19 : decode cX9_ofRun 19 = .ok (.athrow, 1) := by decide +kernel
theorem dX9_ofRun_20 : decode cX9_ofRun 20 = .ok (.iload_n 1, 1) := by decide +kernel
theorem dX9_ofRun_21 : decode cX9_ofRun 21 = .ok (.tableswitch 143 0 8 #[51, 59, 67, 78, 86, 97, 105, 116, 124], 51) := by decide +kernel
theorem dX9_ofRun_72 : decode cX9_ofRun 72 = .ok (.aload_n 0, 1) := by decide +kernel
theorem dX9_ofRun_73 : decode cX9_ofRun 73 = .ok (.getfield 34, 3) := by decide +kernel
theorem dX9_ofRun_76 : decode cX9_ofRun 76 = .ok (.getfield 229, 3) := by decide +kernel
theorem dX9_ofRun_79 : decode cX9_ofRun 79 = .ok (.ireturn, 1) := by decide +kernel
theorem dX9_ofRun_80 : decode cX9_ofRun 80 = .ok (.aload_n 0, 1) := by decide +kernel
theorem dX9_ofRun_81 : decode cX9_ofRun 81 = .ok (.getfield 34, 3) := by decide +kernel
theorem dX9_ofRun_84 : decode cX9_ofRun 84 = .ok (.getfield 232, 3) := by decide +kernel
theorem dX9_ofRun_87 : decode cX9_ofRun 87 = .ok (.ireturn, 1) := by decide +kernel
theorem dX9_ofRun_88 : decode cX9_ofRun 88 = .ok (.aload_n 0, 1) := by decide +kernel
theorem dX9_ofRun_89 : decode cX9_ofRun 89 = .ok (.getfield 34, 3) := by decide +kernel
theorem dX9_ofRun_92 : decode cX9_ofRun 92 = .ok (.getfield 235, 3) := by decide +kernel
theorem dX9_ofRun_95 : decode cX9_ofRun 95 = .ok (.getfield 239, 3) := by decide +kernel
theorem dX9_ofRun_98 : decode cX9_ofRun 98 = .ok (.ireturn, 1) := by decide +kernel
theorem dX9_ofRun_99 : decode cX9_ofRun 99 = .ok (.aload_n 0, 1) := by decide +kernel
theorem dX9_ofRun_100 : decode cX9_ofRun 100 = .ok (.getfield 34, 3) := by decide +kernel
theorem dX9_ofRun_103 : decode cX9_ofRun 103 = .ok (.getfield 242, 3) := by decide +kernel
theorem dX9_ofRun_106 : decode cX9_ofRun 106 = .ok (.ireturn, 1) := by decide +kernel
theorem dX9_ofRun_107 : decode cX9_ofRun 107 = .ok (.aload_n 0, 1) := by decide +kernel
theorem dX9_ofRun_108 : decode cX9_ofRun 108 = .ok (.getfield 34, 3) := by decide +kernel
theorem dX9_ofRun_111 : decode cX9_ofRun 111 = .ok (.getfield 245, 3) := by decide +kernel
theorem dX9_ofRun_114 : decode cX9_ofRun 114 = .ok (.getfield 249, 3) := by decide +kernel
theorem dX9_ofRun_117 : decode cX9_ofRun 117 = .ok (.ireturn, 1) := by decide +kernel
theorem dX9_ofRun_118 : decode cX9_ofRun 118 = .ok (.aload_n 0, 1) := by decide +kernel
theorem dX9_ofRun_119 : decode cX9_ofRun 119 = .ok (.getfield 34, 3) := by decide +kernel
theorem dX9_ofRun_122 : decode cX9_ofRun 122 = .ok (.getfield 254, 3) := by decide +kernel
theorem dX9_ofRun_125 : decode cX9_ofRun 125 = .ok (.ireturn, 1) := by decide +kernel
theorem dX9_ofRun_126 : decode cX9_ofRun 126 = .ok (.aload_n 0, 1) := by decide +kernel
theorem dX9_ofRun_127 : decode cX9_ofRun 127 = .ok (.getfield 34, 3) := by decide +kernel
theorem dX9_ofRun_130 : decode cX9_ofRun 130 = .ok (.getfield 245, 3) := by decide +kernel
theorem dX9_ofRun_133 : decode cX9_ofRun 133 = .ok (.getfield 257, 3) := by decide +kernel
theorem dX9_ofRun_136 : decode cX9_ofRun 136 = .ok (.ireturn, 1) := by decide +kernel
theorem dX9_ofRun_137 : decode cX9_ofRun 137 = .ok (.aload_n 0, 1) := by decide +kernel
theorem dX9_ofRun_138 : decode cX9_ofRun 138 = .ok (.getfield 34, 3) := by decide +kernel
theorem dX9_ofRun_141 : decode cX9_ofRun 141 = .ok (.invokevirtual 260, 3) := by decide +kernel
theorem dX9_ofRun_144 : decode cX9_ofRun 144 = .ok (.ireturn, 1) := by decide +kernel
theorem dX9_ofRun_145 : decode cX9_ofRun 145 = .ok (.aload_n 0, 1) := by decide +kernel
theorem dX9_ofRun_146 : decode cX9_ofRun 146 = .ok (.getfield 47, 3) := by decide +kernel
theorem dX9_ofRun_149 : decode cX9_ofRun 149 = .ok (.ifCond .ne 7, 3) := by decide +kernel
theorem dX9_ofRun_152 : decode cX9_ofRun 152 = .ok (.iconst 0, 1) := by decide +kernel
theorem dX9_ofRun_153 : decode cX9_ofRun 153 = .ok (.goto 10, 3) := by decide +kernel
theorem dX9_ofRun_156 : decode cX9_ofRun 156 = .ok (.aload_n 0, 1) := by decide +kernel
theorem dX9_ofRun_157 : decode cX9_ofRun 157 = .ok (.getfield 34, 3) := by decide +kernel
theorem dX9_ofRun_160 : decode cX9_ofRun 160 = .ok (.getfield 263, 3) := by decide +kernel
theorem dX9_ofRun_163 : decode cX9_ofRun 163 = .ok (.ireturn, 1) := by decide +kernel
theorem dX9_ofRun_164 : decode cX9_ofRun 164 = .ok (.aload_n 0, 1) := by decide +kernel
theorem dX9_ofRun_165 : decode cX9_ofRun 165 = .ok (.getfield 47, 3) := by decide +kernel
theorem dX9_ofRun_168 : decode cX9_ofRun 168 = .ok (.ireturn, 1) := by decide +kernel
theorem dX9_told_0 : decode cX9_told 0 = .ok (.aload_n 0, 1) := by decide +kernel
theorem dX9_told_1 : decode cX9_told 1 = .ok (.getfield 34, 3) := by decide +kernel
theorem dX9_told_4 : decode cX9_told 4 = .ok (.getfield 235, 3) := by decide +kernel
theorem dX9_told_7 : decode cX9_told 7 = .ok (.iload_n 1, 1) := by decide +kernel
theorem dX9_told_8 : decode cX9_told 8 = .ok (.invokevirtual 266, 3) := by decide +kernel
theorem dX9_told_11 : decode cX9_told 11 = .ok (.ifCond .ne 14, 3) := by decide +kernel
theorem dX9_told_14 : decode cX9_told 14 = .ok (.new 101, 3) := by decide +kernel
theorem dX9_told_17 : decode cX9_told 17 = .ok (.dup, 1) := by decide +kernel
theorem dX9_told_18 : decode cX9_told 18 = .ok (.ldc_w 269, 3) := by decide +kernel
theorem dX9_told_21 : decode cX9_told 21 = .ok (.invokespecial 105, 3) := by decide +kernel
theorem dX9_told_24 : decode cX9_told 24 = .ok (.athrow, 1) := by decide +kernel
theorem dX9_told_25 : decode cX9_told 25 = .ok (.iload_n 2, 1) := by decide +kernel
theorem dX9_told_26 : decode cX9_told 26 = .ok (.ifCond .lt 8, 3) := by decide +kernel
theorem dX9_told_29 : decode cX9_told 29 = .ok (.iload_n 2, 1) := by decide +kernel
theorem dX9_told_30 : decode cX9_told 30 = .ok (.iconst 2, 1) := by decide +kernel
theorem dX9_told_31 : decode cX9_told 31 = .ok (.if_icmp .le 13, 3) := by decide +kernel
theorem dX9_told_34 : decode cX9_told 34 = .ok (.new 54, 3) := by decide +kernel
theorem dX9_told_37 : decode cX9_told 37 = .ok (.dup, 1) := by decide +kernel
theorem dX9_told_38 : decode cX9_told 38 = .ok (.ldc 118, 2) := by decide +kernel
theorem dX9_told_40 : decode cX9_told 40 = .ok (.invokespecial 58, 3) := by decide +kernel
theorem dX9_told_43 : decode cX9_told 43 = .ok (.athrow, 1) := by decide +kernel
theorem dX9_told_44 : decode cX9_told 44 = .ok (.aload_n 0, 1) := by decide +kernel
theorem dX9_told_45 : decode cX9_told 45 = .ok (.getfield 34, 3) := by decide +kernel
theorem dX9_told_48 : decode cX9_told 48 = .ok (.getfield 235, 3) := by decide +kernel
theorem dX9_told_51 : decode cX9_told 51 = .ok (.iload_n 1, 1) := by decide +kernel
theorem dX9_told_52 : decode cX9_told 52 = .ok (.iload_n 2, 1) := by decide +kernel
theorem dX9_told_53 : decode cX9_told 53 = .ok (.invokevirtual 271, 3) := by decide +kernel
theorem dX9_told_56 : decode cX9_told 56 = .ok (.ireturn, 1) := by decide +kernel
theorem dX9_many_0 : decode cX9_many 0 = .ok (.iload_n 1, 1) := by decide +kernel
theorem dX9_many_1 : decode cX9_many 1 = .ok (.ifCond .lt 9, 3) := by decide +kernel
theorem dX9_many_4 : decode cX9_many 4 = .ok (.iload_n 1, 1) := by decide +kernel
theorem dX9_many_5 : decode cX9_many 5 = .ok (.bipush 6, 2) := by decide +kernel
theorem dX9_many_7 : decode cX9_many 7 = .ok (.if_icmp .le 13, 3) := by decide +kernel
theorem dX9_many_10 : decode cX9_many 10 = .ok (.new 54, 3) := by decide +kernel
theorem dX9_many_13 : decode cX9_many 13 = .ok (.dup, 1) := by decide +kernel
theorem dX9_many_14 : decode cX9_many 14 = .ok (.ldc 118, 2) := by decide +kernel
theorem dX9_many_16 : decode cX9_many 16 = .ok (.invokespecial 58, 3) := by decide +kernel
theorem dX9_many_19 : decode cX9_many 19 = .ok (.athrow, 1) := by decide +kernel
theorem dX9_many_20 : decode cX9_many 20 = .ok (.iload_n 1, 1) := by decide +kernel
theorem dX9_many_21 : decode cX9_many 21 = .ok (.tableswitch 96 0 5 #[39, 47, 55, 66, 77, 88], 39) := by decide +kernel
theorem dX9_many_60 : decode cX9_many 60 = .ok (.aload_n 0, 1) := by decide +kernel
theorem dX9_many_61 : decode cX9_many 61 = .ok (.getfield 12, 3) := by decide +kernel
theorem dX9_many_64 : decode cX9_many 64 = .ok (.getfield 61, 3) := by decide +kernel
theorem dX9_many_67 : decode cX9_many 67 = .ok (.ireturn, 1) := by decide +kernel
theorem dX9_many_68 : decode cX9_many 68 = .ok (.aload_n 0, 1) := by decide +kernel
theorem dX9_many_69 : decode cX9_many 69 = .ok (.getfield 12, 3) := by decide +kernel
theorem dX9_many_72 : decode cX9_many 72 = .ok (.getfield 79, 3) := by decide +kernel
theorem dX9_many_75 : decode cX9_many 75 = .ok (.ireturn, 1) := by decide +kernel
theorem dX9_many_76 : decode cX9_many 76 = .ok (.aload_n 0, 1) := by decide +kernel
theorem dX9_many_77 : decode cX9_many 77 = .ok (.getfield 21, 3) := by decide +kernel
theorem dX9_many_80 : decode cX9_many 80 = .ok (.getfield 187, 3) := by decide +kernel
theorem dX9_many_83 : decode cX9_many 83 = .ok (.getfield 221, 3) := by decide +kernel
theorem dX9_many_86 : decode cX9_many 86 = .ok (.ireturn, 1) := by decide +kernel
theorem dX9_many_87 : decode cX9_many 87 = .ok (.aload_n 0, 1) := by decide +kernel
theorem dX9_many_88 : decode cX9_many 88 = .ok (.getfield 21, 3) := by decide +kernel
theorem dX9_many_91 : decode cX9_many 91 = .ok (.getfield 164, 3) := by decide +kernel
theorem dX9_many_94 : decode cX9_many 94 = .ok (.getfield 272, 3) := by decide +kernel
theorem dX9_many_97 : decode cX9_many 97 = .ok (.ireturn, 1) := by decide +kernel
theorem dX9_many_98 : decode cX9_many 98 = .ok (.aload_n 0, 1) := by decide +kernel
theorem dX9_many_99 : decode cX9_many 99 = .ok (.getfield 21, 3) := by decide +kernel
theorem dX9_many_102 : decode cX9_many 102 = .ok (.getfield 273, 3) := by decide +kernel
theorem dX9_many_105 : decode cX9_many 105 = .ok (.invokestatic 276, 3) := by decide +kernel
theorem dX9_many_108 : decode cX9_many 108 = .ok (.ireturn, 1) := by decide +kernel
theorem dX9_many_109 : decode cX9_many 109 = .ok (.aload_n 0, 1) := by decide +kernel
theorem dX9_many_110 : decode cX9_many 110 = .ok (.getfield 21, 3) := by decide +kernel
theorem dX9_many_113 : decode cX9_many 113 = .ok (.invokevirtual 281, 3) := by decide +kernel
theorem dX9_many_116 : decode cX9_many 116 = .ok (.ireturn, 1) := by decide +kernel
theorem dX9_many_117 : decode cX9_many 117 = .ok (.aload_n 0, 1) := by decide +kernel
theorem dX9_many_118 : decode cX9_many 118 = .ok (.getfield 21, 3) := by decide +kernel
theorem dX9_many_121 : decode cX9_many 121 = .ok (.invokevirtual 284, 3) := by decide +kernel
theorem dX9_many_124 : decode cX9_many 124 = .ok (.ireturn, 1) := by decide +kernel
theorem dX9_faultsWithout_0 : decode cX9_faultsWithout 0 = .ok (.aload_n 0, 1) := by decide +kernel
theorem dX9_faultsWithout_1 : decode cX9_faultsWithout 1 = .ok (.getfield 12, 3) := by decide +kernel
theorem dX9_faultsWithout_4 : decode cX9_faultsWithout 4 = .ok (.iload_n 1, 1) := by decide +kernel
theorem dX9_faultsWithout_5 : decode cX9_faultsWithout 5 = .ok (.invokevirtual 97, 3) := by decide +kernel
theorem dX9_faultsWithout_8 : decode cX9_faultsWithout 8 = .ok (.ifCond .ne 13, 3) := by decide +kernel
theorem dX9_faultsWithout_11 : decode cX9_faultsWithout 11 = .ok (.new 101, 3) := by decide +kernel
theorem dX9_faultsWithout_14 : decode cX9_faultsWithout 14 = .ok (.dup, 1) := by decide +kernel
theorem dX9_faultsWithout_15 : decode cX9_faultsWithout 15 = .ok (.ldc 103, 2) := by decide +kernel
theorem dX9_faultsWithout_17 : decode cX9_faultsWithout 17 = .ok (.invokespecial 105, 3) := by decide +kernel
theorem dX9_faultsWithout_20 : decode cX9_faultsWithout 20 = .ok (.athrow, 1) := by decide +kernel
theorem dX9_faultsWithout_21 : decode cX9_faultsWithout 21 = .ok (.aload_n 0, 1) := by decide +kernel
theorem dX9_faultsWithout_22 : decode cX9_faultsWithout 22 = .ok (.getfield 38, 3) := by decide +kernel
theorem dX9_faultsWithout_25 : decode cX9_faultsWithout 25 = .ok (.aload_n 0, 1) := by decide +kernel
theorem dX9_faultsWithout_26 : decode cX9_faultsWithout 26 = .ok (.getfield 12, 3) := by decide +kernel
theorem dX9_faultsWithout_29 : decode cX9_faultsWithout 29 = .ok (.invokevirtual 291, 3) := by decide +kernel
theorem dX9_faultsWithout_32 : decode cX9_faultsWithout 32 = .ok (.aload_n 0, 1) := by decide +kernel
theorem dX9_faultsWithout_33 : decode cX9_faultsWithout 33 = .ok (.getfield 38, 3) := by decide +kernel
theorem dX9_faultsWithout_36 : decode cX9_faultsWithout 36 = .ok (.iload_n 1, 1) := by decide +kernel
theorem dX9_faultsWithout_37 : decode cX9_faultsWithout 37 = .ok (.invokevirtual 114, 3) := by decide +kernel
theorem dX9_faultsWithout_40 : decode cX9_faultsWithout 40 = .ok (.aload_n 0, 1) := by decide +kernel
theorem dX9_faultsWithout_41 : decode cX9_faultsWithout 41 = .ok (.getfield 41, 3) := by decide +kernel
theorem dX9_faultsWithout_44 : decode cX9_faultsWithout 44 = .ok (.invokevirtual 51, 3) := by decide +kernel
theorem dX9_faultsWithout_47 : decode cX9_faultsWithout 47 = .ok (.aload_n 0, 1) := by decide +kernel
theorem dX9_faultsWithout_48 : decode cX9_faultsWithout 48 = .ok (.getfield 41, 3) := by decide +kernel
theorem dX9_faultsWithout_51 : decode cX9_faultsWithout 51 = .ok (.getfield 187, 3) := by decide +kernel
theorem dX9_faultsWithout_54 : decode cX9_faultsWithout 54 = .ok (.getfield 221, 3) := by decide +kernel
theorem dX9_faultsWithout_57 : decode cX9_faultsWithout 57 = .ok (.ireturn, 1) := by decide +kernel
theorem dX9_couldDrop_0 : decode cX9_couldDrop 0 = .ok (.aload_n 0, 1) := by decide +kernel
theorem dX9_couldDrop_1 : decode cX9_couldDrop 1 = .ok (.getfield 12, 3) := by decide +kernel
theorem dX9_couldDrop_4 : decode cX9_couldDrop 4 = .ok (.iload_n 1, 1) := by decide +kernel
theorem dX9_couldDrop_5 : decode cX9_couldDrop 5 = .ok (.invokevirtual 137, 3) := by decide +kernel
theorem dX9_couldDrop_8 : decode cX9_couldDrop 8 = .ok (.ifCond .eq 17, 3) := by decide +kernel
theorem dX9_couldDrop_11 : decode cX9_couldDrop 11 = .ok (.aload_n 0, 1) := by decide +kernel
theorem dX9_couldDrop_12 : decode cX9_couldDrop 12 = .ok (.getfield 12, 3) := by decide +kernel
theorem dX9_couldDrop_15 : decode cX9_couldDrop 15 = .ok (.iload_n 2, 1) := by decide +kernel
theorem dX9_couldDrop_16 : decode cX9_couldDrop 16 = .ok (.invokevirtual 140, 3) := by decide +kernel
theorem dX9_couldDrop_19 : decode cX9_couldDrop 19 = .ok (.invokestatic 294, 3) := by decide +kernel
theorem dX9_couldDrop_22 : decode cX9_couldDrop 22 = .ok (.ifCond .ne 14, 3) := by decide +kernel
theorem dX9_couldDrop_25 : decode cX9_couldDrop 25 = .ok (.new 101, 3) := by decide +kernel
theorem dX9_couldDrop_28 : decode cX9_couldDrop 28 = .ok (.dup, 1) := by decide +kernel
theorem dX9_couldDrop_29 : decode cX9_couldDrop 29 = .ok (.ldc_w 297, 3) := by decide +kernel
theorem dX9_couldDrop_32 : decode cX9_couldDrop 32 = .ok (.invokespecial 105, 3) := by decide +kernel
theorem dX9_couldDrop_35 : decode cX9_couldDrop 35 = .ok (.athrow, 1) := by decide +kernel
theorem dX9_couldDrop_36 : decode cX9_couldDrop 36 = .ok (.aload_n 0, 1) := by decide +kernel
theorem dX9_couldDrop_37 : decode cX9_couldDrop 37 = .ok (.getfield 38, 3) := by decide +kernel
theorem dX9_couldDrop_40 : decode cX9_couldDrop 40 = .ok (.aload_n 0, 1) := by decide +kernel
theorem dX9_couldDrop_41 : decode cX9_couldDrop 41 = .ok (.getfield 12, 3) := by decide +kernel
theorem dX9_couldDrop_44 : decode cX9_couldDrop 44 = .ok (.invokevirtual 291, 3) := by decide +kernel
theorem dX9_couldDrop_47 : decode cX9_couldDrop 47 = .ok (.aload_n 0, 1) := by decide +kernel
theorem dX9_couldDrop_48 : decode cX9_couldDrop 48 = .ok (.getfield 38, 3) := by decide +kernel
theorem dX9_couldDrop_51 : decode cX9_couldDrop 51 = .ok (.iload_n 1, 1) := by decide +kernel
theorem dX9_couldDrop_52 : decode cX9_couldDrop 52 = .ok (.bipush 7, 2) := by decide +kernel
theorem dX9_couldDrop_54 : decode cX9_couldDrop 54 = .ok (.iload_n 2, 1) := by decide +kernel
theorem dX9_couldDrop_55 : decode cX9_couldDrop 55 = .ok (.iconst 0, 1) := by decide +kernel
theorem dX9_couldDrop_56 : decode cX9_couldDrop 56 = .ok (.invokevirtual 93, 3) := by decide +kernel
theorem dX9_couldDrop_59 : decode cX9_couldDrop 59 = .ok (.aload_n 0, 1) := by decide +kernel
theorem dX9_couldDrop_60 : decode cX9_couldDrop 60 = .ok (.getfield 41, 3) := by decide +kernel
theorem dX9_couldDrop_63 : decode cX9_couldDrop 63 = .ok (.invokevirtual 51, 3) := by decide +kernel
theorem dX9_couldDrop_66 : decode cX9_couldDrop 66 = .ok (.aload_n 0, 1) := by decide +kernel
theorem dX9_couldDrop_67 : decode cX9_couldDrop 67 = .ok (.getfield 41, 3) := by decide +kernel
theorem dX9_couldDrop_70 : decode cX9_couldDrop 70 = .ok (.getfield 27, 3) := by decide +kernel
theorem dX9_couldDrop_73 : decode cX9_couldDrop 73 = .ok (.invokevirtual 299, 3) := by decide +kernel
theorem dX9_couldDrop_76 : decode cX9_couldDrop 76 = .ok (.ifCond .eq 17, 3) := by decide +kernel
theorem dX9_couldDrop_79 : decode cX9_couldDrop 79 = .ok (.aload_n 0, 1) := by decide +kernel
theorem dX9_couldDrop_80 : decode cX9_couldDrop 80 = .ok (.getfield 41, 3) := by decide +kernel
theorem dX9_couldDrop_83 : decode cX9_couldDrop 83 = .ok (.getfield 187, 3) := by decide +kernel
theorem dX9_couldDrop_86 : decode cX9_couldDrop 86 = .ok (.iload_n 1, 1) := by decide +kernel
theorem dX9_couldDrop_87 : decode cX9_couldDrop 87 = .ok (.invokevirtual 303, 3) := by decide +kernel
theorem dX9_couldDrop_90 : decode cX9_couldDrop 90 = .ok (.goto 4, 3) := by decide +kernel
theorem dX9_couldDrop_93 : decode cX9_couldDrop 93 = .ok (.iconst 0, 1) := by decide +kernel
theorem dX9_couldDrop_94 : decode cX9_couldDrop 94 = .ok (.ireturn, 1) := by decide +kernel
theorem dX9_leakedBy_0 : decode cX9_leakedBy 0 = .ok (.aload_n 0, 1) := by decide +kernel
theorem dX9_leakedBy_1 : decode cX9_leakedBy 1 = .ok (.getfield 12, 3) := by decide +kernel
theorem dX9_leakedBy_4 : decode cX9_leakedBy 4 = .ok (.iload_n 1, 1) := by decide +kernel
theorem dX9_leakedBy_5 : decode cX9_leakedBy 5 = .ok (.invokevirtual 97, 3) := by decide +kernel
theorem dX9_leakedBy_8 : decode cX9_leakedBy 8 = .ok (.ifCond .ne 13, 3) := by decide +kernel
theorem dX9_leakedBy_11 : decode cX9_leakedBy 11 = .ok (.new 101, 3) := by decide +kernel
theorem dX9_leakedBy_14 : decode cX9_leakedBy 14 = .ok (.dup, 1) := by decide +kernel
theorem dX9_leakedBy_15 : decode cX9_leakedBy 15 = .ok (.ldc 103, 2) := by decide +kernel
theorem dX9_leakedBy_17 : decode cX9_leakedBy 17 = .ok (.invokespecial 105, 3) := by decide +kernel
theorem dX9_leakedBy_20 : decode cX9_leakedBy 20 = .ok (.athrow, 1) := by decide +kernel
theorem dX9_leakedBy_21 : decode cX9_leakedBy 21 = .ok (.aload_n 0, 1) := by decide +kernel
theorem dX9_leakedBy_22 : decode cX9_leakedBy 22 = .ok (.getfield 38, 3) := by decide +kernel
theorem dX9_leakedBy_25 : decode cX9_leakedBy 25 = .ok (.aload_n 0, 1) := by decide +kernel
theorem dX9_leakedBy_26 : decode cX9_leakedBy 26 = .ok (.getfield 12, 3) := by decide +kernel
theorem dX9_leakedBy_29 : decode cX9_leakedBy 29 = .ok (.invokevirtual 291, 3) := by decide +kernel
theorem dX9_leakedBy_32 : decode cX9_leakedBy 32 = .ok (.aload_n 0, 1) := by decide +kernel
theorem dX9_leakedBy_33 : decode cX9_leakedBy 33 = .ok (.getfield 38, 3) := by decide +kernel
theorem dX9_leakedBy_36 : decode cX9_leakedBy 36 = .ok (.iload_n 1, 1) := by decide +kernel
theorem dX9_leakedBy_37 : decode cX9_leakedBy 37 = .ok (.bipush 15, 2) := by decide +kernel
theorem dX9_leakedBy_39 : decode cX9_leakedBy 39 = .ok (.iconst 0, 1) := by decide +kernel
theorem dX9_leakedBy_40 : decode cX9_leakedBy 40 = .ok (.iconst 0, 1) := by decide +kernel
theorem dX9_leakedBy_41 : decode cX9_leakedBy 41 = .ok (.invokevirtual 109, 3) := by decide +kernel
theorem dX9_leakedBy_44 : decode cX9_leakedBy 44 = .ok (.aload_n 0, 1) := by decide +kernel
theorem dX9_leakedBy_45 : decode cX9_leakedBy 45 = .ok (.getfield 41, 3) := by decide +kernel
theorem dX9_leakedBy_48 : decode cX9_leakedBy 48 = .ok (.invokevirtual 51, 3) := by decide +kernel
theorem dX9_leakedBy_51 : decode cX9_leakedBy 51 = .ok (.aload_n 0, 1) := by decide +kernel
theorem dX9_leakedBy_52 : decode cX9_leakedBy 52 = .ok (.getfield 41, 3) := by decide +kernel
theorem dX9_leakedBy_55 : decode cX9_leakedBy 55 = .ok (.getfield 187, 3) := by decide +kernel
theorem dX9_leakedBy_58 : decode cX9_leakedBy 58 = .ok (.getfield 221, 3) := by decide +kernel
theorem dX9_leakedBy_61 : decode cX9_leakedBy 61 = .ok (.ifCond .le 5, 3) := by decide +kernel
theorem dX9_leakedBy_64 : decode cX9_leakedBy 64 = .ok (.iconst (-1), 1) := by decide +kernel
theorem dX9_leakedBy_65 : decode cX9_leakedBy 65 = .ok (.ireturn, 1) := by decide +kernel
theorem dX9_leakedBy_66 : decode cX9_leakedBy 66 = .ok (.aload_n 0, 1) := by decide +kernel
theorem dX9_leakedBy_67 : decode cX9_leakedBy 67 = .ok (.getfield 44, 3) := by decide +kernel
theorem dX9_leakedBy_70 : decode cX9_leakedBy 70 = .ok (.invokevirtual 226, 3) := by decide +kernel
theorem dX9_leakedBy_73 : decode cX9_leakedBy 73 = .ok (.aload_n 0, 1) := by decide +kernel
theorem dX9_leakedBy_74 : decode cX9_leakedBy 74 = .ok (.getfield 44, 3) := by decide +kernel
theorem dX9_leakedBy_77 : decode cX9_leakedBy 77 = .ok (.invokevirtual 260, 3) := by decide +kernel
theorem dX9_leakedBy_80 : decode cX9_leakedBy 80 = .ok (.ireturn, 1) := by decide +kernel
theorem dX9_outcomeWith_0 : decode cX9_outcomeWith 0 = .ok (.aload_n 0, 1) := by decide +kernel
theorem dX9_outcomeWith_1 : decode cX9_outcomeWith 1 = .ok (.getfield 12, 3) := by decide +kernel
theorem dX9_outcomeWith_4 : decode cX9_outcomeWith 4 = .ok (.iload_n 1, 1) := by decide +kernel
theorem dX9_outcomeWith_5 : decode cX9_outcomeWith 5 = .ok (.invokevirtual 106, 3) := by decide +kernel
theorem dX9_outcomeWith_8 : decode cX9_outcomeWith 8 = .ok (.istore_n 3, 1) := by decide +kernel
theorem dX9_outcomeWith_9 : decode cX9_outcomeWith 9 = .ok (.iload_n 3, 1) := by decide +kernel
theorem dX9_outcomeWith_10 : decode cX9_outcomeWith 10 = .ok (.ifCond .eq 20, 3) := by decide +kernel
theorem dX9_outcomeWith_13 : decode cX9_outcomeWith 13 = .ok (.iload_n 3, 1) := by decide +kernel
theorem dX9_outcomeWith_14 : decode cX9_outcomeWith 14 = .ok (.bipush 6, 2) := by decide +kernel
theorem dX9_outcomeWith_16 : decode cX9_outcomeWith 16 = .ok (.if_icmp .eq 14, 3) := by decide +kernel
theorem dX9_outcomeWith_19 : decode cX9_outcomeWith 19 = .ok (.new 101, 3) := by decide +kernel
theorem dX9_outcomeWith_22 : decode cX9_outcomeWith 22 = .ok (.dup, 1) := by decide +kernel
theorem dX9_outcomeWith_23 : decode cX9_outcomeWith 23 = .ok (.ldc_w 306, 3) := by decide +kernel
theorem dX9_outcomeWith_26 : decode cX9_outcomeWith 26 = .ok (.invokespecial 105, 3) := by decide +kernel
theorem dX9_outcomeWith_29 : decode cX9_outcomeWith 29 = .ok (.athrow, 1) := by decide +kernel
theorem dX9_outcomeWith_30 : decode cX9_outcomeWith 30 = .ok (.iload_n 2, 1) := by decide +kernel
theorem dX9_outcomeWith_31 : decode cX9_outcomeWith 31 = .ok (.invokestatic 308, 3) := by decide +kernel
theorem dX9_outcomeWith_34 : decode cX9_outcomeWith 34 = .ok (.ifCond .ne 14, 3) := by decide +kernel
theorem dX9_outcomeWith_37 : decode cX9_outcomeWith 37 = .ok (.new 54, 3) := by decide +kernel
theorem dX9_outcomeWith_40 : decode cX9_outcomeWith 40 = .ok (.dup, 1) := by decide +kernel
theorem dX9_outcomeWith_41 : decode cX9_outcomeWith 41 = .ok (.ldc_w 311, 3) := by decide +kernel
theorem dX9_outcomeWith_44 : decode cX9_outcomeWith 44 = .ok (.invokespecial 58, 3) := by decide +kernel
theorem dX9_outcomeWith_47 : decode cX9_outcomeWith 47 = .ok (.athrow, 1) := by decide +kernel
theorem dX9_outcomeWith_48 : decode cX9_outcomeWith 48 = .ok (.aload_n 0, 1) := by decide +kernel
theorem dX9_outcomeWith_49 : decode cX9_outcomeWith 49 = .ok (.getfield 38, 3) := by decide +kernel
theorem dX9_outcomeWith_52 : decode cX9_outcomeWith 52 = .ok (.aload_n 0, 1) := by decide +kernel
theorem dX9_outcomeWith_53 : decode cX9_outcomeWith 53 = .ok (.getfield 12, 3) := by decide +kernel
theorem dX9_outcomeWith_56 : decode cX9_outcomeWith 56 = .ok (.invokevirtual 291, 3) := by decide +kernel
theorem dX9_outcomeWith_59 : decode cX9_outcomeWith 59 = .ok (.aload_n 0, 1) := by decide +kernel
theorem dX9_outcomeWith_60 : decode cX9_outcomeWith 60 = .ok (.getfield 38, 3) := by decide +kernel
theorem dX9_outcomeWith_63 : decode cX9_outcomeWith 63 = .ok (.iload_n 1, 1) := by decide +kernel
theorem dX9_outcomeWith_64 : decode cX9_outcomeWith 64 = .ok (.iload_n 3, 1) := by decide +kernel
theorem dX9_outcomeWith_65 : decode cX9_outcomeWith 65 = .ok (.aload_n 0, 1) := by decide +kernel
theorem dX9_outcomeWith_66 : decode cX9_outcomeWith 66 = .ok (.getfield 12, 3) := by decide +kernel
theorem dX9_outcomeWith_69 : decode cX9_outcomeWith 69 = .ok (.iload_n 1, 1) := by decide +kernel
theorem dX9_outcomeWith_70 : decode cX9_outcomeWith 70 = .ok (.invokevirtual 120, 3) := by decide +kernel
theorem dX9_outcomeWith_73 : decode cX9_outcomeWith 73 = .ok (.iload_n 2, 1) := by decide +kernel
theorem dX9_outcomeWith_74 : decode cX9_outcomeWith 74 = .ok (.invokevirtual 109, 3) := by decide +kernel
theorem dX9_outcomeWith_77 : decode cX9_outcomeWith 77 = .ok (.aload_n 0, 1) := by decide +kernel
theorem dX9_outcomeWith_78 : decode cX9_outcomeWith 78 = .ok (.getfield 41, 3) := by decide +kernel
theorem dX9_outcomeWith_81 : decode cX9_outcomeWith 81 = .ok (.invokevirtual 51, 3) := by decide +kernel
theorem dX9_outcomeWith_84 : decode cX9_outcomeWith 84 = .ok (.aload_n 0, 1) := by decide +kernel
theorem dX9_outcomeWith_85 : decode cX9_outcomeWith 85 = .ok (.getfield 41, 3) := by decide +kernel
theorem dX9_outcomeWith_88 : decode cX9_outcomeWith 88 = .ok (.getfield 187, 3) := by decide +kernel
theorem dX9_outcomeWith_91 : decode cX9_outcomeWith 91 = .ok (.getfield 221, 3) := by decide +kernel
theorem dX9_outcomeWith_94 : decode cX9_outcomeWith 94 = .ok (.ifCond .le 5, 3) := by decide +kernel
theorem dX9_outcomeWith_97 : decode cX9_outcomeWith 97 = .ok (.iconst (-1), 1) := by decide +kernel
theorem dX9_outcomeWith_98 : decode cX9_outcomeWith 98 = .ok (.ireturn, 1) := by decide +kernel
theorem dX9_outcomeWith_99 : decode cX9_outcomeWith 99 = .ok (.aload_n 0, 1) := by decide +kernel
theorem dX9_outcomeWith_100 : decode cX9_outcomeWith 100 = .ok (.getfield 44, 3) := by decide +kernel
theorem dX9_outcomeWith_103 : decode cX9_outcomeWith 103 = .ok (.invokevirtual 226, 3) := by decide +kernel
theorem dX9_outcomeWith_106 : decode cX9_outcomeWith 106 = .ok (.aload_n 0, 1) := by decide +kernel
theorem dX9_outcomeWith_107 : decode cX9_outcomeWith 107 = .ok (.getfield 44, 3) := by decide +kernel
theorem dX9_outcomeWith_110 : decode cX9_outcomeWith 110 = .ok (.getfield 229, 3) := by decide +kernel
theorem dX9_outcomeWith_113 : decode cX9_outcomeWith 113 = .ok (.ireturn, 1) := by decide +kernel
theorem dX9_digest_0 : decode cX9_digest 0 = .ok (.ldc2_w 313, 3) := by decide +kernel
theorem dX9_digest_3 : decode cX9_digest 3 = .ok (.lstore_n 1, 1) := by decide +kernel
theorem dX9_digest_4 : decode cX9_digest 4 = .ok (.iconst 0, 1) := by decide +kernel
theorem dX9_digest_5 : decode cX9_digest 5 = .ok (.istore_n 3, 1) := by decide +kernel
theorem dX9_digest_6 : decode cX9_digest 6 = .ok (.iload_n 3, 1) := by decide +kernel
theorem dX9_digest_7 : decode cX9_digest 7 = .ok (.bipush 6, 2) := by decide +kernel
theorem dX9_digest_9 : decode cX9_digest 9 = .ok (.if_icmp .gt 22, 3) := by decide +kernel
theorem dX9_digest_12 : decode cX9_digest 12 = .ok (.lload_n 1, 1) := by decide +kernel
theorem dX9_digest_13 : decode cX9_digest 13 = .ok (.ldc2_w 315, 3) := by decide +kernel
theorem dX9_digest_16 : decode cX9_digest 16 = .ok (.lmul, 1) := by decide +kernel
theorem dX9_digest_17 : decode cX9_digest 17 = .ok (.aload_n 0, 1) := by decide +kernel
theorem dX9_digest_18 : decode cX9_digest 18 = .ok (.iload_n 3, 1) := by decide +kernel
theorem dX9_digest_19 : decode cX9_digest 19 = .ok (.invokevirtual 317, 3) := by decide +kernel
theorem dX9_digest_22 : decode cX9_digest 22 = .ok (.i2l, 1) := by decide +kernel
theorem dX9_digest_23 : decode cX9_digest 23 = .ok (.ladd, 1) := by decide +kernel
theorem dX9_digest_24 : decode cX9_digest 24 = .ok (.lstore_n 1, 1) := by decide +kernel
theorem dX9_digest_25 : decode cX9_digest 25 = .ok (.iinc 3 1, 3) := by decide +kernel
theorem dX9_digest_28 : decode cX9_digest 28 = .ok (.goto (-22), 3) := by decide +kernel
theorem dX9_digest_31 : decode cX9_digest 31 = .ok (.iconst 0, 1) := by decide +kernel
theorem dX9_digest_32 : decode cX9_digest 32 = .ok (.istore_n 3, 1) := by decide +kernel
theorem dX9_digest_33 : decode cX9_digest 33 = .ok (.iload_n 3, 1) := by decide +kernel
theorem dX9_digest_34 : decode cX9_digest 34 = .ok (.aload_n 0, 1) := by decide +kernel
theorem dX9_digest_35 : decode cX9_digest 35 = .ok (.getfield 12, 3) := by decide +kernel
theorem dX9_digest_38 : decode cX9_digest 38 = .ok (.getfield 61, 3) := by decide +kernel
theorem dX9_digest_41 : decode cX9_digest 41 = .ok (.if_icmp .ge 39, 3) := by decide +kernel
theorem dX9_digest_44 : decode cX9_digest 44 = .ok (.iconst 0, 1) := by decide +kernel
theorem dX9_digest_45 : decode cX9_digest 45 = .ok (.istore 4, 2) := by decide +kernel
theorem dX9_digest_47 : decode cX9_digest 47 = .ok (.iload 4, 2) := by decide +kernel
theorem dX9_digest_49 : decode cX9_digest 49 = .ok (.iconst 3, 1) := by decide +kernel
theorem dX9_digest_50 : decode cX9_digest 50 = .ok (.if_icmp .gt 24, 3) := by decide +kernel
theorem dX9_digest_53 : decode cX9_digest 53 = .ok (.lload_n 1, 1) := by decide +kernel
theorem dX9_digest_54 : decode cX9_digest 54 = .ok (.ldc2_w 315, 3) := by decide +kernel
theorem dX9_digest_57 : decode cX9_digest 57 = .ok (.lmul, 1) := by decide +kernel
theorem dX9_digest_58 : decode cX9_digest 58 = .ok (.aload_n 0, 1) := by decide +kernel
theorem dX9_digest_59 : decode cX9_digest 59 = .ok (.iload_n 3, 1) := by decide +kernel
theorem dX9_digest_60 : decode cX9_digest 60 = .ok (.iload 4, 2) := by decide +kernel
theorem dX9_digest_62 : decode cX9_digest 62 = .ok (.invokevirtual 320, 3) := by decide +kernel
theorem dX9_digest_65 : decode cX9_digest 65 = .ok (.i2l, 1) := by decide +kernel
theorem dX9_digest_66 : decode cX9_digest 66 = .ok (.ladd, 1) := by decide +kernel
theorem dX9_digest_67 : decode cX9_digest 67 = .ok (.lstore_n 1, 1) := by decide +kernel
theorem dX9_digest_68 : decode cX9_digest 68 = .ok (.iinc 4 1, 3) := by decide +kernel
theorem dX9_digest_71 : decode cX9_digest 71 = .ok (.goto (-24), 3) := by decide +kernel
theorem dX9_digest_74 : decode cX9_digest 74 = .ok (.iinc 3 1, 3) := by decide +kernel
theorem dX9_digest_77 : decode cX9_digest 77 = .ok (.goto (-44), 3) := by decide +kernel
theorem dX9_digest_80 : decode cX9_digest 80 = .ok (.iconst 0, 1) := by decide +kernel
theorem dX9_digest_81 : decode cX9_digest 81 = .ok (.istore_n 3, 1) := by decide +kernel
theorem dX9_digest_82 : decode cX9_digest 82 = .ok (.iload_n 3, 1) := by decide +kernel
theorem dX9_digest_83 : decode cX9_digest 83 = .ok (.aload_n 0, 1) := by decide +kernel
theorem dX9_digest_84 : decode cX9_digest 84 = .ok (.getfield 12, 3) := by decide +kernel
theorem dX9_digest_87 : decode cX9_digest 87 = .ok (.getfield 79, 3) := by decide +kernel
theorem dX9_digest_90 : decode cX9_digest 90 = .ok (.if_icmp .ge 16, 3) := by decide +kernel
theorem dX9_digest_93 : decode cX9_digest 93 = .ok (.aload_n 0, 1) := by decide +kernel
theorem dX9_digest_94 : decode cX9_digest 94 = .ok (.lload_n 1, 1) := by decide +kernel
theorem dX9_digest_95 : decode cX9_digest 95 = .ok (.iload_n 3, 1) := by decide +kernel
theorem dX9_digest_96 : decode cX9_digest 96 = .ok (.invokevirtual 323, 3) := by decide +kernel
theorem dX9_digest_99 : decode cX9_digest 99 = .ok (.lstore_n 1, 1) := by decide +kernel
theorem dX9_digest_100 : decode cX9_digest 100 = .ok (.iinc 3 1, 3) := by decide +kernel
theorem dX9_digest_103 : decode cX9_digest 103 = .ok (.goto (-21), 3) := by decide +kernel
theorem dX9_digest_106 : decode cX9_digest 106 = .ok (.aload_n 0, 1) := by decide +kernel
theorem dX9_digest_107 : decode cX9_digest 107 = .ok (.lload_n 1, 1) := by decide +kernel
theorem dX9_digest_108 : decode cX9_digest 108 = .ok (.invokevirtual 327, 3) := by decide +kernel
theorem dX9_digest_111 : decode cX9_digest 111 = .ok (.lstore_n 1, 1) := by decide +kernel
theorem dX9_digest_112 : decode cX9_digest 112 = .ok (.aload_n 0, 1) := by decide +kernel
theorem dX9_digest_113 : decode cX9_digest 113 = .ok (.lload_n 1, 1) := by decide +kernel
theorem dX9_digest_114 : decode cX9_digest 114 = .ok (.invokevirtual 331, 3) := by decide +kernel
theorem dX9_digest_117 : decode cX9_digest 117 = .ok (.lstore_n 1, 1) := by decide +kernel
theorem dX9_digest_118 : decode cX9_digest 118 = .ok (.aload_n 0, 1) := by decide +kernel
theorem dX9_digest_119 : decode cX9_digest 119 = .ok (.getfield 12, 3) := by decide +kernel
theorem dX9_digest_122 : decode cX9_digest 122 = .ok (.getfield 79, 3) := by decide +kernel
theorem dX9_digest_125 : decode cX9_digest 125 = .ok (.ifCond .le 24, 3) := by decide +kernel
theorem dX9_digest_128 : decode cX9_digest 128 = .ok (.lload_n 1, 1) := by decide +kernel
theorem dX9_digest_129 : decode cX9_digest 129 = .ok (.ldc2_w 315, 3) := by decide +kernel
theorem dX9_digest_132 : decode cX9_digest 132 = .ok (.lmul, 1) := by decide +kernel
theorem dX9_digest_133 : decode cX9_digest 133 = .ok (.aload_n 0, 1) := by decide +kernel
theorem dX9_digest_134 : decode cX9_digest 134 = .ok (.aload_n 0, 1) := by decide +kernel
theorem dX9_digest_135 : decode cX9_digest 135 = .ok (.getfield 12, 3) := by decide +kernel
theorem dX9_digest_138 : decode cX9_digest 138 = .ok (.getfield 79, 3) := by decide +kernel
theorem dX9_digest_141 : decode cX9_digest 141 = .ok (.iconst 1, 1) := by decide +kernel
theorem dX9_digest_142 : decode cX9_digest 142 = .ok (.isub, 1) := by decide +kernel
theorem dX9_digest_143 : decode cX9_digest 143 = .ok (.invokevirtual 334, 3) := by decide +kernel
theorem dX9_digest_146 : decode cX9_digest 146 = .ok (.i2l, 1) := by decide +kernel
theorem dX9_digest_147 : decode cX9_digest 147 = .ok (.ladd, 1) := by decide +kernel
theorem dX9_digest_148 : decode cX9_digest 148 = .ok (.lstore_n 1, 1) := by decide +kernel
theorem dX9_digest_149 : decode cX9_digest 149 = .ok (.lload_n 1, 1) := by decide +kernel
theorem dX9_digest_150 : decode cX9_digest 150 = .ok (.lreturn, 1) := by decide +kernel
theorem dX9_withLine_0 : decode cX9_withLine 0 = .ok (.lload_n 1, 1) := by decide +kernel
theorem dX9_withLine_1 : decode cX9_withLine 1 = .ok (.lstore 4, 2) := by decide +kernel
theorem dX9_withLine_3 : decode cX9_withLine 3 = .ok (.iconst 3, 1) := by decide +kernel
theorem dX9_withLine_4 : decode cX9_withLine 4 = .ok (.istore 6, 2) := by decide +kernel
theorem dX9_withLine_6 : decode cX9_withLine 6 = .ok (.iload 6, 2) := by decide +kernel
theorem dX9_withLine_8 : decode cX9_withLine 8 = .ok (.iconst 5, 1) := by decide +kernel
theorem dX9_withLine_9 : decode cX9_withLine 9 = .ok (.if_icmp .gt 26, 3) := by decide +kernel
theorem dX9_withLine_12 : decode cX9_withLine 12 = .ok (.lload 4, 2) := by decide +kernel
theorem dX9_withLine_14 : decode cX9_withLine 14 = .ok (.ldc2_w 315, 3) := by decide +kernel
theorem dX9_withLine_17 : decode cX9_withLine 17 = .ok (.lmul, 1) := by decide +kernel
theorem dX9_withLine_18 : decode cX9_withLine 18 = .ok (.aload_n 0, 1) := by decide +kernel
theorem dX9_withLine_19 : decode cX9_withLine 19 = .ok (.iload_n 3, 1) := by decide +kernel
theorem dX9_withLine_20 : decode cX9_withLine 20 = .ok (.iload 6, 2) := by decide +kernel
theorem dX9_withLine_22 : decode cX9_withLine 22 = .ok (.invokevirtual 337, 3) := by decide +kernel
theorem dX9_withLine_25 : decode cX9_withLine 25 = .ok (.i2l, 1) := by decide +kernel
theorem dX9_withLine_26 : decode cX9_withLine 26 = .ok (.ladd, 1) := by decide +kernel
theorem dX9_withLine_27 : decode cX9_withLine 27 = .ok (.lstore 4, 2) := by decide +kernel
theorem dX9_withLine_29 : decode cX9_withLine 29 = .ok (.iinc 6 1, 3) := by decide +kernel
theorem dX9_withLine_32 : decode cX9_withLine 32 = .ok (.goto (-26), 3) := by decide +kernel
theorem dX9_withLine_35 : decode cX9_withLine 35 = .ok (.iconst 0, 1) := by decide +kernel
theorem dX9_withLine_36 : decode cX9_withLine 36 = .ok (.istore 6, 2) := by decide +kernel
theorem dX9_withLine_38 : decode cX9_withLine 38 = .ok (.iload 6, 2) := by decide +kernel
theorem dX9_withLine_40 : decode cX9_withLine 40 = .ok (.aload_n 0, 1) := by decide +kernel
theorem dX9_withLine_41 : decode cX9_withLine 41 = .ok (.getfield 12, 3) := by decide +kernel
theorem dX9_withLine_44 : decode cX9_withLine 44 = .ok (.getfield 61, 3) := by decide +kernel
theorem dX9_withLine_47 : decode cX9_withLine 47 = .ok (.if_icmp .ge 101, 3) := by decide +kernel
theorem dX9_withLine_50 : decode cX9_withLine 50 = .ok (.lload 4, 2) := by decide +kernel
theorem dX9_withLine_52 : decode cX9_withLine 52 = .ok (.ldc2_w 315, 3) := by decide +kernel
theorem dX9_withLine_55 : decode cX9_withLine 55 = .ok (.lmul, 1) := by decide +kernel
theorem dX9_withLine_56 : decode cX9_withLine 56 = .ok (.aload_n 0, 1) := by decide +kernel
theorem dX9_withLine_57 : decode cX9_withLine 57 = .ok (.iload_n 3, 1) := by decide +kernel
theorem dX9_withLine_58 : decode cX9_withLine 58 = .ok (.iconst 3, 1) := by decide +kernel
theorem dX9_withLine_59 : decode cX9_withLine 59 = .ok (.iload 6, 2) := by decide +kernel
theorem dX9_withLine_61 : decode cX9_withLine 61 = .ok (.imul, 1) := by decide +kernel
theorem dX9_withLine_62 : decode cX9_withLine 62 = .ok (.invokevirtual 340, 3) := by decide +kernel
theorem dX9_withLine_65 : decode cX9_withLine 65 = .ok (.i2l, 1) := by decide +kernel
theorem dX9_withLine_66 : decode cX9_withLine 66 = .ok (.ladd, 1) := by decide +kernel
theorem dX9_withLine_67 : decode cX9_withLine 67 = .ok (.lstore 4, 2) := by decide +kernel
theorem dX9_withLine_69 : decode cX9_withLine 69 = .ok (.lload 4, 2) := by decide +kernel
theorem dX9_withLine_71 : decode cX9_withLine 71 = .ok (.ldc2_w 315, 3) := by decide +kernel
theorem dX9_withLine_74 : decode cX9_withLine 74 = .ok (.lmul, 1) := by decide +kernel
theorem dX9_withLine_75 : decode cX9_withLine 75 = .ok (.aload_n 0, 1) := by decide +kernel
theorem dX9_withLine_76 : decode cX9_withLine 76 = .ok (.iload_n 3, 1) := by decide +kernel
theorem dX9_withLine_77 : decode cX9_withLine 77 = .ok (.iconst 3, 1) := by decide +kernel
theorem dX9_withLine_78 : decode cX9_withLine 78 = .ok (.iload 6, 2) := by decide +kernel
theorem dX9_withLine_80 : decode cX9_withLine 80 = .ok (.imul, 1) := by decide +kernel
theorem dX9_withLine_81 : decode cX9_withLine 81 = .ok (.invokevirtual 343, 3) := by decide +kernel
theorem dX9_withLine_84 : decode cX9_withLine 84 = .ok (.i2l, 1) := by decide +kernel
theorem dX9_withLine_85 : decode cX9_withLine 85 = .ok (.ladd, 1) := by decide +kernel
theorem dX9_withLine_86 : decode cX9_withLine 86 = .ok (.lstore 4, 2) := by decide +kernel
theorem dX9_withLine_88 : decode cX9_withLine 88 = .ok (.aload_n 0, 1) := by decide +kernel
theorem dX9_withLine_89 : decode cX9_withLine 89 = .ok (.getfield 12, 3) := by decide +kernel
theorem dX9_withLine_92 : decode cX9_withLine 92 = .ok (.iload 6, 2) := by decide +kernel
theorem dX9_withLine_94 : decode cX9_withLine 94 = .ok (.invokevirtual 149, 3) := by decide +kernel
theorem dX9_withLine_97 : decode cX9_withLine 97 = .ok (.ifCond .eq 45, 3) := by decide +kernel
theorem dX9_withLine_100 : decode cX9_withLine 100 = .ok (.lload 4, 2) := by decide +kernel
theorem dX9_withLine_102 : decode cX9_withLine 102 = .ok (.ldc2_w 315, 3) := by decide +kernel
theorem dX9_withLine_105 : decode cX9_withLine 105 = .ok (.lmul, 1) := by decide +kernel
theorem dX9_withLine_106 : decode cX9_withLine 106 = .ok (.aload_n 0, 1) := by decide +kernel
theorem dX9_withLine_107 : decode cX9_withLine 107 = .ok (.iload_n 3, 1) := by decide +kernel
theorem dX9_withLine_108 : decode cX9_withLine 108 = .ok (.iload 6, 2) := by decide +kernel
theorem dX9_withLine_110 : decode cX9_withLine 110 = .ok (.invokevirtual 346, 3) := by decide +kernel
theorem dX9_withLine_113 : decode cX9_withLine 113 = .ok (.i2l, 1) := by decide +kernel
theorem dX9_withLine_114 : decode cX9_withLine 114 = .ok (.ladd, 1) := by decide +kernel
theorem dX9_withLine_115 : decode cX9_withLine 115 = .ok (.lstore 4, 2) := by decide +kernel
theorem dX9_withLine_117 : decode cX9_withLine 117 = .ok (.lload 4, 2) := by decide +kernel
theorem dX9_withLine_119 : decode cX9_withLine 119 = .ok (.ldc2_w 315, 3) := by decide +kernel
theorem dX9_withLine_122 : decode cX9_withLine 122 = .ok (.lmul, 1) := by decide +kernel
theorem dX9_withLine_123 : decode cX9_withLine 123 = .ok (.aload_n 0, 1) := by decide +kernel
theorem dX9_withLine_124 : decode cX9_withLine 124 = .ok (.iload_n 3, 1) := by decide +kernel
theorem dX9_withLine_125 : decode cX9_withLine 125 = .ok (.iload 6, 2) := by decide +kernel
theorem dX9_withLine_127 : decode cX9_withLine 127 = .ok (.invokevirtual 349, 3) := by decide +kernel
theorem dX9_withLine_130 : decode cX9_withLine 130 = .ok (.ifCond .eq 7, 3) := by decide +kernel
theorem dX9_withLine_133 : decode cX9_withLine 133 = .ok (.iconst 1, 1) := by decide +kernel
theorem dX9_withLine_134 : decode cX9_withLine 134 = .ok (.goto 4, 3) := by decide +kernel
theorem dX9_withLine_137 : decode cX9_withLine 137 = .ok (.iconst 0, 1) := by decide +kernel
theorem dX9_withLine_138 : decode cX9_withLine 138 = .ok (.i2l, 1) := by decide +kernel
theorem dX9_withLine_139 : decode cX9_withLine 139 = .ok (.ladd, 1) := by decide +kernel
theorem dX9_withLine_140 : decode cX9_withLine 140 = .ok (.lstore 4, 2) := by decide +kernel
theorem dX9_withLine_142 : decode cX9_withLine 142 = .ok (.iinc 6 1, 3) := by decide +kernel
theorem dX9_withLine_145 : decode cX9_withLine 145 = .ok (.goto (-107), 3) := by decide +kernel
theorem dX9_withLine_148 : decode cX9_withLine 148 = .ok (.lload 4, 2) := by decide +kernel
theorem dX9_withLine_150 : decode cX9_withLine 150 = .ok (.ldc2_w 315, 3) := by decide +kernel
theorem dX9_withLine_153 : decode cX9_withLine 153 = .ok (.lmul, 1) := by decide +kernel
theorem dX9_withLine_154 : decode cX9_withLine 154 = .ok (.aload_n 0, 1) := by decide +kernel
theorem dX9_withLine_155 : decode cX9_withLine 155 = .ok (.iload_n 3, 1) := by decide +kernel
theorem dX9_withLine_156 : decode cX9_withLine 156 = .ok (.invokevirtual 353, 3) := by decide +kernel
theorem dX9_withLine_159 : decode cX9_withLine 159 = .ok (.i2l, 1) := by decide +kernel
theorem dX9_withLine_160 : decode cX9_withLine 160 = .ok (.ladd, 1) := by decide +kernel
theorem dX9_withLine_161 : decode cX9_withLine 161 = .ok (.lreturn, 1) := by decide +kernel
theorem dX9_withLoansAndFaults_0 : decode cX9_withLoansAndFaults 0 = .ok (.lload_n 1, 1) := by decide +kernel
theorem dX9_withLoansAndFaults_1 : decode cX9_withLoansAndFaults 1 = .ok (.lstore_n 3, 1) := by decide +kernel
theorem dX9_withLoansAndFaults_2 : decode cX9_withLoansAndFaults 2 = .ok (.iconst 0, 1) := by decide +kernel
theorem dX9_withLoansAndFaults_3 : decode cX9_withLoansAndFaults 3 = .ok (.istore 5, 2) := by decide +kernel
theorem dX9_withLoansAndFaults_5 : decode cX9_withLoansAndFaults 5 = .ok (.iload 5, 2) := by decide +kernel
theorem dX9_withLoansAndFaults_7 : decode cX9_withLoansAndFaults 7 = .ok (.aload_n 0, 1) := by decide +kernel
theorem dX9_withLoansAndFaults_8 : decode cX9_withLoansAndFaults 8 = .ok (.getfield 21, 3) := by decide +kernel
theorem dX9_withLoansAndFaults_11 : decode cX9_withLoansAndFaults 11 = .ok (.getfield 164, 3) := by decide +kernel
theorem dX9_withLoansAndFaults_14 : decode cX9_withLoansAndFaults 14 = .ok (.getfield 272, 3) := by decide +kernel
theorem dX9_withLoansAndFaults_17 : decode cX9_withLoansAndFaults 17 = .ok (.if_icmp .ge 40, 3) := by decide +kernel
theorem dX9_withLoansAndFaults_20 : decode cX9_withLoansAndFaults 20 = .ok (.iconst 0, 1) := by decide +kernel
theorem dX9_withLoansAndFaults_21 : decode cX9_withLoansAndFaults 21 = .ok (.istore 6, 2) := by decide +kernel
theorem dX9_withLoansAndFaults_23 : decode cX9_withLoansAndFaults 23 = .ok (.iload 6, 2) := by decide +kernel
theorem dX9_withLoansAndFaults_25 : decode cX9_withLoansAndFaults 25 = .ok (.iconst 3, 1) := by decide +kernel
theorem dX9_withLoansAndFaults_26 : decode cX9_withLoansAndFaults 26 = .ok (.if_icmp .gt 25, 3) := by decide +kernel
theorem dX9_withLoansAndFaults_29 : decode cX9_withLoansAndFaults 29 = .ok (.lload_n 3, 1) := by decide +kernel
theorem dX9_withLoansAndFaults_30 : decode cX9_withLoansAndFaults 30 = .ok (.ldc2_w 315, 3) := by decide +kernel
theorem dX9_withLoansAndFaults_33 : decode cX9_withLoansAndFaults 33 = .ok (.lmul, 1) := by decide +kernel
theorem dX9_withLoansAndFaults_34 : decode cX9_withLoansAndFaults 34 = .ok (.aload_n 0, 1) := by decide +kernel
theorem dX9_withLoansAndFaults_35 : decode cX9_withLoansAndFaults 35 = .ok (.iload 5, 2) := by decide +kernel
theorem dX9_withLoansAndFaults_37 : decode cX9_withLoansAndFaults 37 = .ok (.iload 6, 2) := by decide +kernel
theorem dX9_withLoansAndFaults_39 : decode cX9_withLoansAndFaults 39 = .ok (.invokevirtual 356, 3) := by decide +kernel
theorem dX9_withLoansAndFaults_42 : decode cX9_withLoansAndFaults 42 = .ok (.i2l, 1) := by decide +kernel
theorem dX9_withLoansAndFaults_43 : decode cX9_withLoansAndFaults 43 = .ok (.ladd, 1) := by decide +kernel
theorem dX9_withLoansAndFaults_44 : decode cX9_withLoansAndFaults 44 = .ok (.lstore_n 3, 1) := by decide +kernel
theorem dX9_withLoansAndFaults_45 : decode cX9_withLoansAndFaults 45 = .ok (.iinc 6 1, 3) := by decide +kernel
theorem dX9_withLoansAndFaults_48 : decode cX9_withLoansAndFaults 48 = .ok (.goto (-25), 3) := by decide +kernel
theorem dX9_withLoansAndFaults_51 : decode cX9_withLoansAndFaults 51 = .ok (.iinc 5 1, 3) := by decide +kernel
theorem dX9_withLoansAndFaults_54 : decode cX9_withLoansAndFaults 54 = .ok (.goto (-49), 3) := by decide +kernel
theorem dX9_withLoansAndFaults_57 : decode cX9_withLoansAndFaults 57 = .ok (.iconst 0, 1) := by decide +kernel
theorem dX9_withLoansAndFaults_58 : decode cX9_withLoansAndFaults 58 = .ok (.istore 5, 2) := by decide +kernel
theorem dX9_withLoansAndFaults_60 : decode cX9_withLoansAndFaults 60 = .ok (.iload 5, 2) := by decide +kernel
theorem dX9_withLoansAndFaults_62 : decode cX9_withLoansAndFaults 62 = .ok (.aload_n 0, 1) := by decide +kernel
theorem dX9_withLoansAndFaults_63 : decode cX9_withLoansAndFaults 63 = .ok (.getfield 21, 3) := by decide +kernel
theorem dX9_withLoansAndFaults_66 : decode cX9_withLoansAndFaults 66 = .ok (.getfield 187, 3) := by decide +kernel
theorem dX9_withLoansAndFaults_69 : decode cX9_withLoansAndFaults 69 = .ok (.getfield 221, 3) := by decide +kernel
theorem dX9_withLoansAndFaults_72 : decode cX9_withLoansAndFaults 72 = .ok (.if_icmp .ge 40, 3) := by decide +kernel
theorem dX9_withLoansAndFaults_75 : decode cX9_withLoansAndFaults 75 = .ok (.iconst 0, 1) := by decide +kernel
theorem dX9_withLoansAndFaults_76 : decode cX9_withLoansAndFaults 76 = .ok (.istore 6, 2) := by decide +kernel
theorem dX9_withLoansAndFaults_78 : decode cX9_withLoansAndFaults 78 = .ok (.iload 6, 2) := by decide +kernel
theorem dX9_withLoansAndFaults_80 : decode cX9_withLoansAndFaults 80 = .ok (.iconst 4, 1) := by decide +kernel
theorem dX9_withLoansAndFaults_81 : decode cX9_withLoansAndFaults 81 = .ok (.if_icmp .gt 25, 3) := by decide +kernel
theorem dX9_withLoansAndFaults_84 : decode cX9_withLoansAndFaults 84 = .ok (.lload_n 3, 1) := by decide +kernel
theorem dX9_withLoansAndFaults_85 : decode cX9_withLoansAndFaults 85 = .ok (.ldc2_w 315, 3) := by decide +kernel
theorem dX9_withLoansAndFaults_88 : decode cX9_withLoansAndFaults 88 = .ok (.lmul, 1) := by decide +kernel
theorem dX9_withLoansAndFaults_89 : decode cX9_withLoansAndFaults 89 = .ok (.aload_n 0, 1) := by decide +kernel
theorem dX9_withLoansAndFaults_90 : decode cX9_withLoansAndFaults 90 = .ok (.iload 5, 2) := by decide +kernel
theorem dX9_withLoansAndFaults_92 : decode cX9_withLoansAndFaults 92 = .ok (.iload 6, 2) := by decide +kernel
theorem dX9_withLoansAndFaults_94 : decode cX9_withLoansAndFaults 94 = .ok (.invokevirtual 359, 3) := by decide +kernel
theorem dX9_withLoansAndFaults_97 : decode cX9_withLoansAndFaults 97 = .ok (.i2l, 1) := by decide +kernel
theorem dX9_withLoansAndFaults_98 : decode cX9_withLoansAndFaults 98 = .ok (.ladd, 1) := by decide +kernel
theorem dX9_withLoansAndFaults_99 : decode cX9_withLoansAndFaults 99 = .ok (.lstore_n 3, 1) := by decide +kernel
theorem dX9_withLoansAndFaults_100 : decode cX9_withLoansAndFaults 100 = .ok (.iinc 6 1, 3) := by decide +kernel
theorem dX9_withLoansAndFaults_103 : decode cX9_withLoansAndFaults 103 = .ok (.goto (-25), 3) := by decide +kernel
theorem dX9_withLoansAndFaults_106 : decode cX9_withLoansAndFaults 106 = .ok (.iinc 5 1, 3) := by decide +kernel
theorem dX9_withLoansAndFaults_109 : decode cX9_withLoansAndFaults 109 = .ok (.goto (-49), 3) := by decide +kernel
theorem dX9_withLoansAndFaults_112 : decode cX9_withLoansAndFaults 112 = .ok (.lload_n 3, 1) := by decide +kernel
theorem dX9_withLoansAndFaults_113 : decode cX9_withLoansAndFaults 113 = .ok (.lreturn, 1) := by decide +kernel
theorem dX9_withLatestRun_0 : decode cX9_withLatestRun 0 = .ok (.lload_n 1, 1) := by decide +kernel
theorem dX9_withLatestRun_1 : decode cX9_withLatestRun 1 = .ok (.lstore_n 3, 1) := by decide +kernel
theorem dX9_withLatestRun_2 : decode cX9_withLatestRun 2 = .ok (.iconst 0, 1) := by decide +kernel
theorem dX9_withLatestRun_3 : decode cX9_withLatestRun 3 = .ok (.istore 5, 2) := by decide +kernel
theorem dX9_withLatestRun_5 : decode cX9_withLatestRun 5 = .ok (.iload 5, 2) := by decide +kernel
theorem dX9_withLatestRun_7 : decode cX9_withLatestRun 7 = .ok (.bipush 9, 2) := by decide +kernel
theorem dX9_withLatestRun_9 : decode cX9_withLatestRun 9 = .ok (.if_icmp .gt 23, 3) := by decide +kernel
theorem dX9_withLatestRun_12 : decode cX9_withLatestRun 12 = .ok (.lload_n 3, 1) := by decide +kernel
theorem dX9_withLatestRun_13 : decode cX9_withLatestRun 13 = .ok (.ldc2_w 315, 3) := by decide +kernel
theorem dX9_withLatestRun_16 : decode cX9_withLatestRun 16 = .ok (.lmul, 1) := by decide +kernel
theorem dX9_withLatestRun_17 : decode cX9_withLatestRun 17 = .ok (.aload_n 0, 1) := by decide +kernel
theorem dX9_withLatestRun_18 : decode cX9_withLatestRun 18 = .ok (.iload 5, 2) := by decide +kernel
theorem dX9_withLatestRun_20 : decode cX9_withLatestRun 20 = .ok (.invokevirtual 362, 3) := by decide +kernel
theorem dX9_withLatestRun_23 : decode cX9_withLatestRun 23 = .ok (.i2l, 1) := by decide +kernel
theorem dX9_withLatestRun_24 : decode cX9_withLatestRun 24 = .ok (.ladd, 1) := by decide +kernel
theorem dX9_withLatestRun_25 : decode cX9_withLatestRun 25 = .ok (.lstore_n 3, 1) := by decide +kernel
theorem dX9_withLatestRun_26 : decode cX9_withLatestRun 26 = .ok (.iinc 5 1, 3) := by decide +kernel
theorem dX9_withLatestRun_29 : decode cX9_withLatestRun 29 = .ok (.goto (-24), 3) := by decide +kernel
theorem dX9_withLatestRun_32 : decode cX9_withLatestRun 32 = .ok (.aload_n 0, 1) := by decide +kernel
theorem dX9_withLatestRun_33 : decode cX9_withLatestRun 33 = .ok (.getfield 34, 3) := by decide +kernel
theorem dX9_withLatestRun_36 : decode cX9_withLatestRun 36 = .ok (.getfield 235, 3) := by decide +kernel
theorem dX9_withLatestRun_39 : decode cX9_withLatestRun 39 = .ok (.invokevirtual 365, 3) := by decide +kernel
theorem dX9_withLatestRun_42 : decode cX9_withLatestRun 42 = .ok (.istore 5, 2) := by decide +kernel
theorem dX9_withLatestRun_44 : decode cX9_withLatestRun 44 = .ok (.iconst 0, 1) := by decide +kernel
theorem dX9_withLatestRun_45 : decode cX9_withLatestRun 45 = .ok (.istore 6, 2) := by decide +kernel
theorem dX9_withLatestRun_47 : decode cX9_withLatestRun 47 = .ok (.iload 6, 2) := by decide +kernel
theorem dX9_withLatestRun_49 : decode cX9_withLatestRun 49 = .ok (.iload 5, 2) := by decide +kernel
theorem dX9_withLatestRun_51 : decode cX9_withLatestRun 51 = .ok (.if_icmp .ge 40, 3) := by decide +kernel
theorem dX9_withLatestRun_54 : decode cX9_withLatestRun 54 = .ok (.iconst 0, 1) := by decide +kernel
theorem dX9_withLatestRun_55 : decode cX9_withLatestRun 55 = .ok (.istore 7, 2) := by decide +kernel
theorem dX9_withLatestRun_57 : decode cX9_withLatestRun 57 = .ok (.iload 7, 2) := by decide +kernel
theorem dX9_withLatestRun_59 : decode cX9_withLatestRun 59 = .ok (.iconst 2, 1) := by decide +kernel
theorem dX9_withLatestRun_60 : decode cX9_withLatestRun 60 = .ok (.if_icmp .gt 25, 3) := by decide +kernel
theorem dX9_withLatestRun_63 : decode cX9_withLatestRun 63 = .ok (.lload_n 3, 1) := by decide +kernel
theorem dX9_withLatestRun_64 : decode cX9_withLatestRun 64 = .ok (.ldc2_w 315, 3) := by decide +kernel
theorem dX9_withLatestRun_67 : decode cX9_withLatestRun 67 = .ok (.lmul, 1) := by decide +kernel
theorem dX9_withLatestRun_68 : decode cX9_withLatestRun 68 = .ok (.aload_n 0, 1) := by decide +kernel
theorem dX9_withLatestRun_69 : decode cX9_withLatestRun 69 = .ok (.iload 6, 2) := by decide +kernel
theorem dX9_withLatestRun_71 : decode cX9_withLatestRun 71 = .ok (.iload 7, 2) := by decide +kernel
theorem dX9_withLatestRun_73 : decode cX9_withLatestRun 73 = .ok (.invokevirtual 368, 3) := by decide +kernel
theorem dX9_withLatestRun_76 : decode cX9_withLatestRun 76 = .ok (.i2l, 1) := by decide +kernel
theorem dX9_withLatestRun_77 : decode cX9_withLatestRun 77 = .ok (.ladd, 1) := by decide +kernel
theorem dX9_withLatestRun_78 : decode cX9_withLatestRun 78 = .ok (.lstore_n 3, 1) := by decide +kernel
theorem dX9_withLatestRun_79 : decode cX9_withLatestRun 79 = .ok (.iinc 7 1, 3) := by decide +kernel
theorem dX9_withLatestRun_82 : decode cX9_withLatestRun 82 = .ok (.goto (-25), 3) := by decide +kernel
theorem dX9_withLatestRun_85 : decode cX9_withLatestRun 85 = .ok (.iinc 6 1, 3) := by decide +kernel
theorem dX9_withLatestRun_88 : decode cX9_withLatestRun 88 = .ok (.goto (-41), 3) := by decide +kernel
theorem dX9_withLatestRun_91 : decode cX9_withLatestRun 91 = .ok (.lload_n 3, 1) := by decide +kernel
theorem dX9_withLatestRun_92 : decode cX9_withLatestRun 92 = .ok (.lreturn, 1) := by decide +kernel
theorem dX9_isSmall_0 : decode cX9_isSmall 0 = .ok (.iload_n 0, 1) := by decide +kernel
theorem dX9_isSmall_1 : decode cX9_isSmall 1 = .ok (.bipush (-99), 2) := by decide +kernel
theorem dX9_isSmall_3 : decode cX9_isSmall 3 = .ok (.if_icmp .lt 13, 3) := by decide +kernel
theorem dX9_isSmall_6 : decode cX9_isSmall 6 = .ok (.iload_n 0, 1) := by decide +kernel
theorem dX9_isSmall_7 : decode cX9_isSmall 7 = .ok (.bipush 99, 2) := by decide +kernel
theorem dX9_isSmall_9 : decode cX9_isSmall 9 = .ok (.if_icmp .gt 7, 3) := by decide +kernel
theorem dX9_isSmall_12 : decode cX9_isSmall 12 = .ok (.iconst 1, 1) := by decide +kernel
theorem dX9_isSmall_13 : decode cX9_isSmall 13 = .ok (.goto 4, 3) := by decide +kernel
theorem dX9_isSmall_16 : decode cX9_isSmall 16 = .ok (.iconst 0, 1) := by decide +kernel
theorem dX9_isSmall_17 : decode cX9_isSmall 17 = .ok (.ireturn, 1) := by decide +kernel
theorem dX9_isOwned_0 : decode cX9_isOwned 0 = .ok (.iload_n 0, 1) := by decide +kernel
theorem dX9_isOwned_1 : decode cX9_isOwned 1 = .ok (.iconst 1, 1) := by decide +kernel
theorem dX9_isOwned_2 : decode cX9_isOwned 2 = .ok (.if_icmp .eq 13, 3) := by decide +kernel
theorem dX9_isOwned_5 : decode cX9_isOwned 5 = .ok (.iload_n 0, 1) := by decide +kernel
theorem dX9_isOwned_6 : decode cX9_isOwned 6 = .ok (.iconst 2, 1) := by decide +kernel
theorem dX9_isOwned_7 : decode cX9_isOwned 7 = .ok (.if_icmp .eq 8, 3) := by decide +kernel
theorem dX9_isOwned_10 : decode cX9_isOwned 10 = .ok (.iload_n 0, 1) := by decide +kernel
theorem dX9_isOwned_11 : decode cX9_isOwned 11 = .ok (.iconst 5, 1) := by decide +kernel
theorem dX9_isOwned_12 : decode cX9_isOwned 12 = .ok (.if_icmp .ne 7, 3) := by decide +kernel
theorem dX9_isOwned_15 : decode cX9_isOwned 15 = .ok (.iconst 1, 1) := by decide +kernel
theorem dX9_isOwned_16 : decode cX9_isOwned 16 = .ok (.goto 4, 3) := by decide +kernel
theorem dX9_isOwned_19 : decode cX9_isOwned 19 = .ok (.iconst 0, 1) := by decide +kernel
theorem dX9_isOwned_20 : decode cX9_isOwned 20 = .ok (.ireturn, 1) := by decide +kernel
theorem dX9_isBorrowKind_0 : decode cX9_isBorrowKind 0 = .ok (.iload_n 0, 1) := by decide +kernel
theorem dX9_isBorrowKind_1 : decode cX9_isBorrowKind 1 = .ok (.iconst 3, 1) := by decide +kernel
theorem dX9_isBorrowKind_2 : decode cX9_isBorrowKind 2 = .ok (.if_icmp .eq 8, 3) := by decide +kernel
theorem dX9_isBorrowKind_5 : decode cX9_isBorrowKind 5 = .ok (.iload_n 0, 1) := by decide +kernel
theorem dX9_isBorrowKind_6 : decode cX9_isBorrowKind 6 = .ok (.iconst 4, 1) := by decide +kernel
theorem dX9_isBorrowKind_7 : decode cX9_isBorrowKind 7 = .ok (.if_icmp .ne 7, 3) := by decide +kernel
theorem dX9_isBorrowKind_10 : decode cX9_isBorrowKind 10 = .ok (.iconst 1, 1) := by decide +kernel
theorem dX9_isBorrowKind_11 : decode cX9_isBorrowKind 11 = .ok (.goto 4, 3) := by decide +kernel
theorem dX9_isBorrowKind_14 : decode cX9_isBorrowKind 14 = .ok (.iconst 0, 1) := by decide +kernel
theorem dX9_isBorrowKind_15 : decode cX9_isBorrowKind 15 = .ok (.ireturn, 1) := by decide +kernel
theorem dX9_canBeLent_0 : decode cX9_canBeLent 0 = .ok (.iload_n 0, 1) := by decide +kernel
theorem dX9_canBeLent_1 : decode cX9_canBeLent 1 = .ok (.ifCond .eq 13, 3) := by decide +kernel
theorem dX9_canBeLent_4 : decode cX9_canBeLent 4 = .ok (.iload_n 0, 1) := by decide +kernel
theorem dX9_canBeLent_5 : decode cX9_canBeLent 5 = .ok (.iconst 1, 1) := by decide +kernel
theorem dX9_canBeLent_6 : decode cX9_canBeLent 6 = .ok (.if_icmp .eq 8, 3) := by decide +kernel
theorem dX9_canBeLent_9 : decode cX9_canBeLent 9 = .ok (.iload_n 0, 1) := by decide +kernel
theorem dX9_canBeLent_10 : decode cX9_canBeLent 10 = .ok (.iconst 2, 1) := by decide +kernel
theorem dX9_canBeLent_11 : decode cX9_canBeLent 11 = .ok (.if_icmp .ne 7, 3) := by decide +kernel
theorem dX9_canBeLent_14 : decode cX9_canBeLent 14 = .ok (.iconst 1, 1) := by decide +kernel
theorem dX9_canBeLent_15 : decode cX9_canBeLent 15 = .ok (.goto 4, 3) := by decide +kernel
theorem dX9_canBeLent_18 : decode cX9_canBeLent 18 = .ok (.iconst 0, 1) := by decide +kernel
theorem dX9_canBeLent_19 : decode cX9_canBeLent 19 = .ok (.ireturn, 1) := by decide +kernel
theorem dX9_loansOf_0 : decode cX9_loansOf 0 = .ok (.iload_n 0, 1) := by decide +kernel
theorem dX9_loansOf_1 : decode cX9_loansOf 1 = .ok (.iconst 3, 1) := by decide +kernel
theorem dX9_loansOf_2 : decode cX9_loansOf 2 = .ok (.if_icmp .eq 8, 3) := by decide +kernel
theorem dX9_loansOf_5 : decode cX9_loansOf 5 = .ok (.iload_n 0, 1) := by decide +kernel
theorem dX9_loansOf_6 : decode cX9_loansOf 6 = .ok (.iconst 4, 1) := by decide +kernel
theorem dX9_loansOf_7 : decode cX9_loansOf 7 = .ok (.if_icmp .ne 7, 3) := by decide +kernel
theorem dX9_loansOf_10 : decode cX9_loansOf 10 = .ok (.iconst 1, 1) := by decide +kernel
theorem dX9_loansOf_11 : decode cX9_loansOf 11 = .ok (.goto 4, 3) := by decide +kernel
theorem dX9_loansOf_14 : decode cX9_loansOf 14 = .ok (.iconst 0, 1) := by decide +kernel
theorem dX9_loansOf_15 : decode cX9_loansOf 15 = .ok (.ireturn, 1) := by decide +kernel
theorem dX9_meets_0 : decode cX9_meets 0 = .ok (.iload_n 0, 1) := by decide +kernel
theorem dX9_meets_1 : decode cX9_meets 1 = .ok (.iload_n 1, 1) := by decide +kernel
theorem dX9_meets_2 : decode cX9_meets 2 = .ok (.if_icmp .ne 5, 3) := by decide +kernel
theorem dX9_meets_5 : decode cX9_meets 5 = .ok (.iconst 1, 1) := by decide +kernel
theorem dX9_meets_6 : decode cX9_meets 6 = .ok (.ireturn, 1) := by decide +kernel
theorem dX9_meets_7 : decode cX9_meets 7 = .ok (.iload_n 0, 1) := by decide +kernel
theorem dX9_meets_8 : decode cX9_meets 8 = .ok (.iconst 3, 1) := by decide +kernel
theorem dX9_meets_9 : decode cX9_meets 9 = .ok (.irem, 1) := by decide +kernel
theorem dX9_meets_10 : decode cX9_meets 10 = .ok (.ifCond .eq 9, 3) := by decide +kernel
theorem dX9_meets_13 : decode cX9_meets 13 = .ok (.iload_n 1, 1) := by decide +kernel
theorem dX9_meets_14 : decode cX9_meets 14 = .ok (.iconst 3, 1) := by decide +kernel
theorem dX9_meets_15 : decode cX9_meets 15 = .ok (.irem, 1) := by decide +kernel
theorem dX9_meets_16 : decode cX9_meets 16 = .ok (.ifCond .ne 7, 3) := by decide +kernel
theorem dX9_meets_19 : decode cX9_meets 19 = .ok (.iconst 1, 1) := by decide +kernel
theorem dX9_meets_20 : decode cX9_meets 20 = .ok (.goto 4, 3) := by decide +kernel
theorem dX9_meets_23 : decode cX9_meets 23 = .ok (.iconst 0, 1) := by decide +kernel
theorem dX9_meets_24 : decode cX9_meets 24 = .ok (.istore_n 2, 1) := by decide +kernel
theorem dX9_meets_25 : decode cX9_meets 25 = .ok (.iload_n 2, 1) := by decide +kernel
theorem dX9_meets_26 : decode cX9_meets 26 = .ok (.ifCond .eq 16, 3) := by decide +kernel
theorem dX9_meets_29 : decode cX9_meets 29 = .ok (.iload_n 0, 1) := by decide +kernel
theorem dX9_meets_30 : decode cX9_meets 30 = .ok (.iconst 3, 1) := by decide +kernel
theorem dX9_meets_31 : decode cX9_meets 31 = .ok (.idiv, 1) := by decide +kernel
theorem dX9_meets_32 : decode cX9_meets 32 = .ok (.iload_n 1, 1) := by decide +kernel
theorem dX9_meets_33 : decode cX9_meets 33 = .ok (.iconst 3, 1) := by decide +kernel
theorem dX9_meets_34 : decode cX9_meets 34 = .ok (.idiv, 1) := by decide +kernel
theorem dX9_meets_35 : decode cX9_meets 35 = .ok (.if_icmp .ne 7, 3) := by decide +kernel
theorem dX9_meets_38 : decode cX9_meets 38 = .ok (.iconst 1, 1) := by decide +kernel
theorem dX9_meets_39 : decode cX9_meets 39 = .ok (.goto 4, 3) := by decide +kernel
theorem dX9_meets_42 : decode cX9_meets 42 = .ok (.iconst 0, 1) := by decide +kernel
theorem dX9_meets_43 : decode cX9_meets 43 = .ok (.ireturn, 1) := by decide +kernel
theorem dX9_isIndexOf_0 : decode cX9_isIndexOf 0 = .ok (.iload_n 1, 1) := by decide +kernel
theorem dX9_isIndexOf_1 : decode cX9_isIndexOf 1 = .ok (.ifCond .lt 13, 3) := by decide +kernel
theorem dX9_isIndexOf_4 : decode cX9_isIndexOf 4 = .ok (.iload_n 1, 1) := by decide +kernel
theorem dX9_isIndexOf_5 : decode cX9_isIndexOf 5 = .ok (.aload_n 0, 1) := by decide +kernel
theorem dX9_isIndexOf_6 : decode cX9_isIndexOf 6 = .ok (.arraylength, 1) := by decide +kernel
theorem dX9_isIndexOf_7 : decode cX9_isIndexOf 7 = .ok (.if_icmp .ge 7, 3) := by decide +kernel
theorem dX9_isIndexOf_10 : decode cX9_isIndexOf 10 = .ok (.iconst 1, 1) := by decide +kernel
theorem dX9_isIndexOf_11 : decode cX9_isIndexOf 11 = .ok (.goto 4, 3) := by decide +kernel
theorem dX9_isIndexOf_14 : decode cX9_isIndexOf 14 = .ok (.iconst 0, 1) := by decide +kernel
theorem dX9_isIndexOf_15 : decode cX9_isIndexOf 15 = .ok (.ireturn, 1) := by decide +kernel
theorem dX10_init_0 : decode cX10_init 0 = .ok (.aload_n 0, 1) := by decide +kernel
theorem dX10_init_1 : decode cX10_init 1 = .ok (.invokespecial 1, 3) := by decide +kernel
theorem dX10_init_4 : decode cX10_init 4 = .ok (.aload_n 0, 1) := by decide +kernel
theorem dX10_init_5 : decode cX10_init 5 = .ok (.iconst 0, 1) := by decide +kernel
theorem dX10_init_6 : decode cX10_init 6 = .ok (.newarray .int, 2) := by decide +kernel
theorem dX10_init_8 : decode cX10_init 8 = .ok (.putfield 7, 3) := by decide +kernel
theorem dX10_init_11 : decode cX10_init 11 = .ok (.aload_n 0, 1) := by decide +kernel
theorem dX10_init_12 : decode cX10_init 12 = .ok (.iconst 0, 1) := by decide +kernel
theorem dX10_init_13 : decode cX10_init 13 = .ok (.anewarray 13, 3) := by decide +kernel
theorem dX10_init_16 : decode cX10_init 16 = .ok (.putfield 14, 3) := by decide +kernel
theorem dX10_init_19 : decode cX10_init 19 = .ok (.aload_n 0, 1) := by decide +kernel
theorem dX10_init_20 : decode cX10_init 20 = .ok (.iconst 0, 1) := by decide +kernel
theorem dX10_init_21 : decode cX10_init 21 = .ok (.anewarray 13, 3) := by decide +kernel
theorem dX10_init_24 : decode cX10_init 24 = .ok (.putfield 18, 3) := by decide +kernel
theorem dX10_init_27 : decode cX10_init 27 = .ok (.return_, 1) := by decide +kernel
theorem dX10_with_0 : decode cX10_with 0 = .ok (.aload_n 0, 1) := by decide +kernel
theorem dX10_with_1 : decode cX10_with 1 = .ok (.arraylength, 1) := by decide +kernel
theorem dX10_with_2 : decode cX10_with 2 = .ok (.iconst 1, 1) := by decide +kernel
theorem dX10_with_3 : decode cX10_with 3 = .ok (.iadd, 1) := by decide +kernel
theorem dX10_with_4 : decode cX10_with 4 = .ok (.anewarray 13, 3) := by decide +kernel
theorem dX10_with_7 : decode cX10_with 7 = .ok (.astore_n 2, 1) := by decide +kernel
theorem dX10_with_8 : decode cX10_with 8 = .ok (.aload_n 0, 1) := by decide +kernel
theorem dX10_with_9 : decode cX10_with 9 = .ok (.iconst 0, 1) := by decide +kernel
theorem dX10_with_10 : decode cX10_with 10 = .ok (.aload_n 2, 1) := by decide +kernel
theorem dX10_with_11 : decode cX10_with 11 = .ok (.iconst 0, 1) := by decide +kernel
theorem dX10_with_12 : decode cX10_with 12 = .ok (.aload_n 0, 1) := by decide +kernel
theorem dX10_with_13 : decode cX10_with 13 = .ok (.arraylength, 1) := by decide +kernel
theorem dX10_with_14 : decode cX10_with 14 = .ok (.invokestatic 21, 3) := by decide +kernel
theorem dX10_with_17 : decode cX10_with 17 = .ok (.aload_n 2, 1) := by decide +kernel
theorem dX10_with_18 : decode cX10_with 18 = .ok (.aload_n 0, 1) := by decide +kernel
theorem dX10_with_19 : decode cX10_with 19 = .ok (.arraylength, 1) := by decide +kernel
theorem dX10_with_20 : decode cX10_with 20 = .ok (.aload_n 1, 1) := by decide +kernel
theorem dX10_with_21 : decode cX10_with 21 = .ok (.aastore, 1) := by decide +kernel
theorem dX10_with_22 : decode cX10_with 22 = .ok (.aload_n 2, 1) := by decide +kernel
theorem dX10_with_23 : decode cX10_with 23 = .ok (.areturn, 1) := by decide +kernel
theorem dX10_kind_0 : decode cX10_kind 0 = .ok (.iload_n 1, 1) := by decide +kernel
theorem dX10_kind_1 : decode cX10_kind 1 = .ok (.ifCond .lt 14, 3) := by decide +kernel
theorem dX10_kind_4 : decode cX10_kind 4 = .ok (.iload_n 1, 1) := by decide +kernel
theorem dX10_kind_5 : decode cX10_kind 5 = .ok (.iconst 3, 1) := by decide +kernel
theorem dX10_kind_6 : decode cX10_kind 6 = .ok (.aload_n 0, 1) := by decide +kernel
theorem dX10_kind_7 : decode cX10_kind 7 = .ok (.getfield 7, 3) := by decide +kernel
theorem dX10_kind_10 : decode cX10_kind 10 = .ok (.arraylength, 1) := by decide +kernel
theorem dX10_kind_11 : decode cX10_kind 11 = .ok (.imul, 1) := by decide +kernel
theorem dX10_kind_12 : decode cX10_kind 12 = .ok (.if_icmp .lt 5, 3) := by decide +kernel
theorem dX10_kind_15 : decode cX10_kind 15 = .ok (.iconst (-1), 1) := by decide +kernel
theorem dX10_kind_16 : decode cX10_kind 16 = .ok (.ireturn, 1) := by decide +kernel
theorem dX10_kind_17 : decode cX10_kind 17 = .ok (.iload_n 1, 1) := by decide +kernel
theorem dX10_kind_18 : decode cX10_kind 18 = .ok (.iconst 3, 1) := by decide +kernel
theorem dX10_kind_19 : decode cX10_kind 19 = .ok (.irem, 1) := by decide +kernel
theorem dX10_kind_20 : decode cX10_kind 20 = .ok (.ifCond .ne 12, 3) := by decide +kernel
theorem dX10_kind_23 : decode cX10_kind 23 = .ok (.aload_n 0, 1) := by decide +kernel
theorem dX10_kind_24 : decode cX10_kind 24 = .ok (.getfield 7, 3) := by decide +kernel
theorem dX10_kind_27 : decode cX10_kind 27 = .ok (.iload_n 1, 1) := by decide +kernel
theorem dX10_kind_28 : decode cX10_kind 28 = .ok (.iconst 3, 1) := by decide +kernel
theorem dX10_kind_29 : decode cX10_kind 29 = .ok (.idiv, 1) := by decide +kernel
theorem dX10_kind_30 : decode cX10_kind 30 = .ok (.iaload, 1) := by decide +kernel
theorem dX10_kind_31 : decode cX10_kind 31 = .ok (.ireturn, 1) := by decide +kernel
theorem dX10_kind_32 : decode cX10_kind 32 = .ok (.aload_n 0, 1) := by decide +kernel
theorem dX10_kind_33 : decode cX10_kind 33 = .ok (.getfield 7, 3) := by decide +kernel
theorem dX10_kind_36 : decode cX10_kind 36 = .ok (.iload_n 1, 1) := by decide +kernel
theorem dX10_kind_37 : decode cX10_kind 37 = .ok (.iconst 3, 1) := by decide +kernel
theorem dX10_kind_38 : decode cX10_kind 38 = .ok (.idiv, 1) := by decide +kernel
theorem dX10_kind_39 : decode cX10_kind 39 = .ok (.iaload, 1) := by decide +kernel
theorem dX10_kind_40 : decode cX10_kind 40 = .ok (.iconst 2, 1) := by decide +kernel
theorem dX10_kind_41 : decode cX10_kind 41 = .ok (.if_icmp .ne 7, 3) := by decide +kernel
theorem dX10_kind_44 : decode cX10_kind 44 = .ok (.iconst 1, 1) := by decide +kernel
theorem dX10_kind_45 : decode cX10_kind 45 = .ok (.goto 4, 3) := by decide +kernel
theorem dX10_kind_48 : decode cX10_kind 48 = .ok (.iconst (-1), 1) := by decide +kernel
theorem dX10_kind_49 : decode cX10_kind 49 = .ok (.ireturn, 1) := by decide +kernel
theorem dX10_isOwned_0 : decode cX10_isOwned 0 = .ok (.aload_n 0, 1) := by decide +kernel
theorem dX10_isOwned_1 : decode cX10_isOwned 1 = .ok (.iload_n 1, 1) := by decide +kernel
theorem dX10_isOwned_2 : decode cX10_isOwned 2 = .ok (.invokevirtual 27, 3) := by decide +kernel
theorem dX10_isOwned_5 : decode cX10_isOwned 5 = .ok (.iconst 1, 1) := by decide +kernel
theorem dX10_isOwned_6 : decode cX10_isOwned 6 = .ok (.if_icmp .eq 21, 3) := by decide +kernel
theorem dX10_isOwned_9 : decode cX10_isOwned 9 = .ok (.aload_n 0, 1) := by decide +kernel
theorem dX10_isOwned_10 : decode cX10_isOwned 10 = .ok (.iload_n 1, 1) := by decide +kernel
theorem dX10_isOwned_11 : decode cX10_isOwned 11 = .ok (.invokevirtual 27, 3) := by decide +kernel
theorem dX10_isOwned_14 : decode cX10_isOwned 14 = .ok (.iconst 2, 1) := by decide +kernel
theorem dX10_isOwned_15 : decode cX10_isOwned 15 = .ok (.if_icmp .eq 12, 3) := by decide +kernel
theorem dX10_isOwned_18 : decode cX10_isOwned 18 = .ok (.aload_n 0, 1) := by decide +kernel
theorem dX10_isOwned_19 : decode cX10_isOwned 19 = .ok (.iload_n 1, 1) := by decide +kernel
theorem dX10_isOwned_20 : decode cX10_isOwned 20 = .ok (.invokevirtual 27, 3) := by decide +kernel
theorem dX10_isOwned_23 : decode cX10_isOwned 23 = .ok (.iconst 5, 1) := by decide +kernel
theorem dX10_isOwned_24 : decode cX10_isOwned 24 = .ok (.if_icmp .ne 7, 3) := by decide +kernel
theorem dX10_isOwned_27 : decode cX10_isOwned 27 = .ok (.iconst 1, 1) := by decide +kernel
theorem dX10_isOwned_28 : decode cX10_isOwned 28 = .ok (.goto 4, 3) := by decide +kernel
theorem dX10_isOwned_31 : decode cX10_isOwned 31 = .ok (.iconst 0, 1) := by decide +kernel
theorem dX10_isOwned_32 : decode cX10_isOwned 32 = .ok (.ireturn, 1) := by decide +kernel
theorem dX10_uses_0 : decode cX10_uses 0 = .ok (.aload_n 0, 1) := by decide +kernel
theorem dX10_uses_1 : decode cX10_uses 1 = .ok (.getfield 14, 3) := by decide +kernel
theorem dX10_uses_4 : decode cX10_uses 4 = .ok (.iload_n 1, 1) := by decide +kernel
theorem dX10_uses_5 : decode cX10_uses 5 = .ok (.aaload, 1) := by decide +kernel
theorem dX10_uses_6 : decode cX10_uses 6 = .ok (.astore_n 2, 1) := by decide +kernel
theorem dX10_uses_7 : decode cX10_uses 7 = .ok (.aload_n 2, 1) := by decide +kernel
theorem dX10_uses_8 : decode cX10_uses 8 = .ok (.iconst 0, 1) := by decide +kernel
theorem dX10_uses_9 : decode cX10_uses 9 = .ok (.iaload, 1) := by decide +kernel
theorem dX10_uses_10 : decode cX10_uses 10 = .ok (.istore_n 3, 1) := by decide +kernel
theorem dX10_uses_11 : decode cX10_uses 11 = .ok (.iload_n 3, 1) := by decide +kernel
theorem dX10_uses_12 : decode cX10_uses 12 = .ok (.ifCond .le 18, 3) := by decide +kernel
theorem dX10_uses_15 : decode cX10_uses 15 = .ok (.iload_n 3, 1) := by decide +kernel
theorem dX10_uses_16 : decode cX10_uses 16 = .ok (.iconst 5, 1) := by decide +kernel
theorem dX10_uses_17 : decode cX10_uses 17 = .ok (.if_icmp .ge 13, 3) := by decide +kernel
theorem dX10_uses_20 : decode cX10_uses 20 = .ok (.iconst 1, 1) := by decide +kernel
theorem dX10_uses_21 : decode cX10_uses 21 = .ok (.newarray .int, 2) := by decide +kernel
theorem dX10_uses_23 : decode cX10_uses 23 = .ok (.dup, 1) := by decide +kernel
theorem dX10_uses_24 : decode cX10_uses 24 = .ok (.iconst 0, 1) := by decide +kernel
theorem dX10_uses_25 : decode cX10_uses 25 = .ok (.aload_n 2, 1) := by decide +kernel
theorem dX10_uses_26 : decode cX10_uses 26 = .ok (.iconst 2, 1) := by decide +kernel
theorem dX10_uses_27 : decode cX10_uses 27 = .ok (.iaload, 1) := by decide +kernel
theorem dX10_uses_28 : decode cX10_uses 28 = .ok (.iastore, 1) := by decide +kernel
theorem dX10_uses_29 : decode cX10_uses 29 = .ok (.areturn, 1) := by decide +kernel
theorem dX10_uses_30 : decode cX10_uses 30 = .ok (.iload_n 3, 1) := by decide +kernel
theorem dX10_uses_31 : decode cX10_uses 31 = .ok (.bipush 12, 2) := by decide +kernel
theorem dX10_uses_33 : decode cX10_uses 33 = .ok (.if_icmp .ne 19, 3) := by decide +kernel
theorem dX10_uses_36 : decode cX10_uses 36 = .ok (.iconst 2, 1) := by decide +kernel
theorem dX10_uses_37 : decode cX10_uses 37 = .ok (.newarray .int, 2) := by decide +kernel
theorem dX10_uses_39 : decode cX10_uses 39 = .ok (.dup, 1) := by decide +kernel
theorem dX10_uses_40 : decode cX10_uses 40 = .ok (.iconst 0, 1) := by decide +kernel
theorem dX10_uses_41 : decode cX10_uses 41 = .ok (.aload_n 2, 1) := by decide +kernel
theorem dX10_uses_42 : decode cX10_uses 42 = .ok (.iconst 1, 1) := by decide +kernel
theorem dX10_uses_43 : decode cX10_uses 43 = .ok (.iaload, 1) := by decide +kernel
theorem dX10_uses_44 : decode cX10_uses 44 = .ok (.iastore, 1) := by decide +kernel
theorem dX10_uses_45 : decode cX10_uses 45 = .ok (.dup, 1) := by decide +kernel
theorem dX10_uses_46 : decode cX10_uses 46 = .ok (.iconst 1, 1) := by decide +kernel
theorem dX10_uses_47 : decode cX10_uses 47 = .ok (.aload_n 2, 1) := by decide +kernel
theorem dX10_uses_48 : decode cX10_uses 48 = .ok (.iconst 2, 1) := by decide +kernel
theorem dX10_uses_49 : decode cX10_uses 49 = .ok (.iaload, 1) := by decide +kernel
theorem dX10_uses_50 : decode cX10_uses 50 = .ok (.iastore, 1) := by decide +kernel
theorem dX10_uses_51 : decode cX10_uses 51 = .ok (.areturn, 1) := by decide +kernel
theorem dX10_uses_52 : decode cX10_uses 52 = .ok (.iload_n 3, 1) := by decide +kernel
theorem dX10_uses_53 : decode cX10_uses 53 = .ok (.iconst 4, 1) := by decide +kernel
theorem dX10_uses_54 : decode cX10_uses 54 = .ok (.if_icmp .le 9, 3) := by decide +kernel
theorem dX10_uses_57 : decode cX10_uses 57 = .ok (.iload_n 3, 1) := by decide +kernel
theorem dX10_uses_58 : decode cX10_uses 58 = .ok (.bipush 9, 2) := by decide +kernel
theorem dX10_uses_60 : decode cX10_uses 60 = .ok (.if_icmp .lt 21, 3) := by decide +kernel
theorem dX10_uses_63 : decode cX10_uses 63 = .ok (.iload_n 3, 1) := by decide +kernel
theorem dX10_uses_64 : decode cX10_uses 64 = .ok (.bipush 13, 2) := by decide +kernel
theorem dX10_uses_66 : decode cX10_uses 66 = .ok (.if_icmp .eq 15, 3) := by decide +kernel
theorem dX10_uses_69 : decode cX10_uses 69 = .ok (.iload_n 3, 1) := by decide +kernel
theorem dX10_uses_70 : decode cX10_uses 70 = .ok (.bipush 14, 2) := by decide +kernel
theorem dX10_uses_72 : decode cX10_uses 72 = .ok (.if_icmp .eq 9, 3) := by decide +kernel
theorem dX10_uses_75 : decode cX10_uses 75 = .ok (.iload_n 3, 1) := by decide +kernel
theorem dX10_uses_76 : decode cX10_uses 76 = .ok (.bipush 16, 2) := by decide +kernel
theorem dX10_uses_78 : decode cX10_uses 78 = .ok (.if_icmp .ne 7, 3) := by decide +kernel
theorem dX10_uses_81 : decode cX10_uses 81 = .ok (.iconst 1, 1) := by decide +kernel
theorem dX10_uses_82 : decode cX10_uses 82 = .ok (.goto 4, 3) := by decide +kernel
theorem dX10_uses_85 : decode cX10_uses 85 = .ok (.iconst 0, 1) := by decide +kernel
theorem dX10_uses_86 : decode cX10_uses 86 = .ok (.istore 4, 2) := by decide +kernel
theorem dX10_uses_88 : decode cX10_uses 88 = .ok (.iload 4, 2) := by decide +kernel
theorem dX10_uses_90 : decode cX10_uses 90 = .ok (.ifCond .eq 15, 3) := by decide +kernel
theorem dX10_uses_93 : decode cX10_uses 93 = .ok (.iconst 1, 1) := by decide +kernel
theorem dX10_uses_94 : decode cX10_uses 94 = .ok (.newarray .int, 2) := by decide +kernel
theorem dX10_uses_96 : decode cX10_uses 96 = .ok (.dup, 1) := by decide +kernel
theorem dX10_uses_97 : decode cX10_uses 97 = .ok (.iconst 0, 1) := by decide +kernel
theorem dX10_uses_98 : decode cX10_uses 98 = .ok (.aload_n 2, 1) := by decide +kernel
theorem dX10_uses_99 : decode cX10_uses 99 = .ok (.iconst 1, 1) := by decide +kernel
theorem dX10_uses_100 : decode cX10_uses 100 = .ok (.iaload, 1) := by decide +kernel
theorem dX10_uses_101 : decode cX10_uses 101 = .ok (.iastore, 1) := by decide +kernel
theorem dX10_uses_102 : decode cX10_uses 102 = .ok (.goto 6, 3) := by decide +kernel
theorem dX10_uses_105 : decode cX10_uses 105 = .ok (.iconst 0, 1) := by decide +kernel
theorem dX10_uses_106 : decode cX10_uses 106 = .ok (.newarray .int, 2) := by decide +kernel
theorem dX10_uses_108 : decode cX10_uses 108 = .ok (.areturn, 1) := by decide +kernel
theorem dX10_join_0 : decode cX10_join 0 = .ok (.aload_n 0, 1) := by decide +kernel
theorem dX10_join_1 : decode cX10_join 1 = .ok (.aload_n 0, 1) := by decide +kernel
theorem dX10_join_2 : decode cX10_join 2 = .ok (.getfield 14, 3) := by decide +kernel
theorem dX10_join_5 : decode cX10_join 5 = .ok (.arraylength, 1) := by decide +kernel
theorem dX10_join_6 : decode cX10_join 6 = .ok (.iconst 1, 1) := by decide +kernel
theorem dX10_join_7 : decode cX10_join 7 = .ok (.iadd, 1) := by decide +kernel
theorem dX10_join_8 : decode cX10_join 8 = .ok (.anewarray 13, 3) := by decide +kernel
theorem dX10_join_11 : decode cX10_join 11 = .ok (.putfield 18, 3) := by decide +kernel
theorem dX10_join_14 : decode cX10_join 14 = .ok (.aload_n 0, 1) := by decide +kernel
theorem dX10_join_15 : decode cX10_join 15 = .ok (.getfield 14, 3) := by decide +kernel
theorem dX10_join_18 : decode cX10_join 18 = .ok (.arraylength, 1) := by decide +kernel
theorem dX10_join_19 : decode cX10_join 19 = .ok (.iconst 1, 1) := by decide +kernel
theorem dX10_join_20 : decode cX10_join 20 = .ok (.iadd, 1) := by decide +kernel
theorem dX10_join_21 : decode cX10_join 21 = .ok (.newarray .int, 2) := by decide +kernel
theorem dX10_join_23 : decode cX10_join 23 = .ok (.astore_n 1, 1) := by decide +kernel
theorem dX10_join_24 : decode cX10_join 24 = .ok (.aload_n 0, 1) := by decide +kernel
theorem dX10_join_25 : decode cX10_join 25 = .ok (.getfield 14, 3) := by decide +kernel
theorem dX10_join_28 : decode cX10_join 28 = .ok (.arraylength, 1) := by decide +kernel
theorem dX10_join_29 : decode cX10_join 29 = .ok (.iconst 1, 1) := by decide +kernel
theorem dX10_join_30 : decode cX10_join 30 = .ok (.iadd, 1) := by decide +kernel
theorem dX10_join_31 : decode cX10_join 31 = .ok (.newarray .int, 2) := by decide +kernel
theorem dX10_join_33 : decode cX10_join 33 = .ok (.astore_n 2, 1) := by decide +kernel
theorem dX10_join_34 : decode cX10_join 34 = .ok (.iconst 0, 1) := by decide +kernel
theorem dX10_join_35 : decode cX10_join 35 = .ok (.istore_n 3, 1) := by decide +kernel
theorem dX10_join_36 : decode cX10_join 36 = .ok (.iconst 0, 1) := by decide +kernel
theorem dX10_join_37 : decode cX10_join 37 = .ok (.istore 4, 2) := by decide +kernel
theorem dX10_join_39 : decode cX10_join 39 = .ok (.iload 4, 2) := by decide +kernel
theorem dX10_join_41 : decode cX10_join 41 = .ok (.aload_n 0, 1) := by decide +kernel
theorem dX10_join_42 : decode cX10_join 42 = .ok (.getfield 14, 3) := by decide +kernel
theorem dX10_join_45 : decode cX10_join 45 = .ok (.arraylength, 1) := by decide +kernel
