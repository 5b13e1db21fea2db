theorem dX0_init_0 : decode cX0_init 0 = .ok (.aload_n 0, 1) := by decide +kernel
theorem dX0_init_1 : decode cX0_init 1 = .ok (.invokespecial 3, 3) := by decide +kernel
theorem dX0_init_4 : decode cX0_init 4 = .ok (.aload_n 0, 1) := by decide +kernel
theorem dX0_init_5 : decode cX0_init 5 = .ok (.aload_n 1, 1) := by decide +kernel
theorem dX0_init_6 : decode cX0_init 6 = .ok (.putfield 9, 3) := by decide +kernel
theorem dX0_init_9 : decode cX0_init 9 = .ok (.aload_n 0, 1) := by decide +kernel
theorem dX0_init_10 : decode cX0_init 10 = .ok (.new 15, 3) := by decide +kernel
theorem dX0_init_13 : decode cX0_init 13 = .ok (.dup, 1) := by decide +kernel
theorem dX0_init_14 : decode cX0_init 14 = .ok (.aload_n 1, 1) := by decide +kernel
theorem dX0_init_15 : decode cX0_init 15 = .ok (.invokespecial 17, 3) := by decide +kernel
theorem dX0_init_18 : decode cX0_init 18 = .ok (.putfield 20, 3) := by decide +kernel
theorem dX0_init_21 : decode cX0_init 21 = .ok (.aload_n 0, 1) := by decide +kernel
theorem dX0_init_22 : decode cX0_init 22 = .ok (.new 24, 3) := by decide +kernel
theorem dX0_init_25 : decode cX0_init 25 = .ok (.dup, 1) := by decide +kernel
theorem dX0_init_26 : decode cX0_init 26 = .ok (.aload_n 1, 1) := by decide +kernel
theorem dX0_init_27 : decode cX0_init 27 = .ok (.invokespecial 26, 3) := by decide +kernel
theorem dX0_init_30 : decode cX0_init 30 = .ok (.putfield 27, 3) := by decide +kernel
theorem dX0_init_33 : decode cX0_init 33 = .ok (.aload_n 0, 1) := by decide +kernel
theorem dX0_init_34 : decode cX0_init 34 = .ok (.new 31, 3) := by decide +kernel
theorem dX0_init_37 : decode cX0_init 37 = .ok (.dup, 1) := by decide +kernel
theorem dX0_init_38 : decode cX0_init 38 = .ok (.aload_n 1, 1) := by decide +kernel
theorem dX0_init_39 : decode cX0_init 39 = .ok (.invokespecial 33, 3) := by decide +kernel
theorem dX0_init_42 : decode cX0_init 42 = .ok (.putfield 34, 3) := by decide +kernel
theorem dX0_init_45 : decode cX0_init 45 = .ok (.aload_n 0, 1) := by decide +kernel
theorem dX0_init_46 : decode cX0_init 46 = .ok (.new 38, 3) := by decide +kernel
theorem dX0_init_49 : decode cX0_init 49 = .ok (.dup, 1) := by decide +kernel
theorem dX0_init_50 : decode cX0_init 50 = .ok (.invokespecial 40, 3) := by decide +kernel
theorem dX0_init_53 : decode cX0_init 53 = .ok (.putfield 41, 3) := by decide +kernel
theorem dX0_init_56 : decode cX0_init 56 = .ok (.aload_n 0, 1) := by decide +kernel
theorem dX0_init_57 : decode cX0_init 57 = .ok (.bipush 34, 2) := by decide +kernel
theorem dX0_init_59 : decode cX0_init 59 = .ok (.newarray .boolean, 2) := by decide +kernel
theorem dX0_init_61 : decode cX0_init 61 = .ok (.putfield 45, 3) := by decide +kernel
theorem dX0_init_64 : decode cX0_init 64 = .ok (.aload_n 0, 1) := by decide +kernel
theorem dX0_init_65 : decode cX0_init 65 = .ok (.bipush 34, 2) := by decide +kernel
theorem dX0_init_67 : decode cX0_init 67 = .ok (.newarray .boolean, 2) := by decide +kernel
theorem dX0_init_69 : decode cX0_init 69 = .ok (.putfield 49, 3) := by decide +kernel
theorem dX0_init_72 : decode cX0_init 72 = .ok (.aload_n 0, 1) := by decide +kernel
theorem dX0_init_73 : decode cX0_init 73 = .ok (.bipush 34, 2) := by decide +kernel
theorem dX0_init_75 : decode cX0_init 75 = .ok (.newarray .int, 2) := by decide +kernel
theorem dX0_init_77 : decode cX0_init 77 = .ok (.putfield 52, 3) := by decide +kernel
theorem dX0_init_80 : decode cX0_init 80 = .ok (.aload_n 0, 1) := by decide +kernel
theorem dX0_init_81 : decode cX0_init 81 = .ok (.bipush 34, 2) := by decide +kernel
theorem dX0_init_83 : decode cX0_init 83 = .ok (.newarray .int, 2) := by decide +kernel
theorem dX0_init_85 : decode cX0_init 85 = .ok (.putfield 56, 3) := by decide +kernel
theorem dX0_init_88 : decode cX0_init 88 = .ok (.aload_n 0, 1) := by decide +kernel
theorem dX0_init_89 : decode cX0_init 89 = .ok (.sipush 272, 3) := by decide +kernel
theorem dX0_init_92 : decode cX0_init 92 = .ok (.newarray .int, 2) := by decide +kernel
theorem dX0_init_94 : decode cX0_init 94 = .ok (.putfield 59, 3) := by decide +kernel
theorem dX0_init_97 : decode cX0_init 97 = .ok (.aload_n 0, 1) := by decide +kernel
theorem dX0_init_98 : decode cX0_init 98 = .ok (.bipush 8, 2) := by decide +kernel
theorem dX0_init_100 : decode cX0_init 100 = .ok (.newarray .int, 2) := by decide +kernel
theorem dX0_init_102 : decode cX0_init 102 = .ok (.putfield 62, 3) := by decide +kernel
theorem dX0_init_105 : decode cX0_init 105 = .ok (.aload_n 0, 1) := by decide +kernel
theorem dX0_init_106 : decode cX0_init 106 = .ok (.bipush 34, 2) := by decide +kernel
theorem dX0_init_108 : decode cX0_init 108 = .ok (.newarray .int, 2) := by decide +kernel
theorem dX0_init_110 : decode cX0_init 110 = .ok (.putfield 65, 3) := by decide +kernel
theorem dX0_init_113 : decode cX0_init 113 = .ok (.aload_n 0, 1) := by decide +kernel
theorem dX0_init_114 : decode cX0_init 114 = .ok (.iconst 0, 1) := by decide +kernel
theorem dX0_init_115 : decode cX0_init 115 = .ok (.putfield 68, 3) := by decide +kernel
theorem dX0_init_118 : decode cX0_init 118 = .ok (.return_, 1) := by decide +kernel
theorem dX0_look_0 : decode cX0_look 0 = .ok (.aload_n 0, 1) := by decide +kernel
theorem dX0_look_1 : decode cX0_look 1 = .ok (.invokevirtual 72, 3) := by decide +kernel
theorem dX0_look_4 : decode cX0_look 4 = .ok (.aload_n 0, 1) := by decide +kernel
theorem dX0_look_5 : decode cX0_look 5 = .ok (.getfield 20, 3) := by decide +kernel
theorem dX0_look_8 : decode cX0_look 8 = .ok (.invokevirtual 75, 3) := by decide +kernel
theorem dX0_look_11 : decode cX0_look 11 = .ok (.aload_n 0, 1) := by decide +kernel
theorem dX0_look_12 : decode cX0_look 12 = .ok (.getfield 34, 3) := by decide +kernel
theorem dX0_look_15 : decode cX0_look 15 = .ok (.invokevirtual 78, 3) := by decide +kernel
theorem dX0_look_18 : decode cX0_look 18 = .ok (.aload_n 0, 1) := by decide +kernel
theorem dX0_look_19 : decode cX0_look 19 = .ok (.getfield 27, 3) := by decide +kernel
theorem dX0_look_22 : decode cX0_look 22 = .ok (.invokevirtual 79, 3) := by decide +kernel
theorem dX0_look_25 : decode cX0_look 25 = .ok (.aload_n 0, 1) := by decide +kernel
theorem dX0_look_26 : decode cX0_look 26 = .ok (.getfield 27, 3) := by decide +kernel
theorem dX0_look_29 : decode cX0_look 29 = .ok (.invokevirtual 80, 3) := by decide +kernel
theorem dX0_look_32 : decode cX0_look 32 = .ok (.ifCond .ne 21, 3) := by decide +kernel
theorem dX0_look_35 : decode cX0_look 35 = .ok (.aload_n 0, 1) := by decide +kernel
theorem dX0_look_36 : decode cX0_look 36 = .ok (.getfield 41, 3) := by decide +kernel
theorem dX0_look_39 : decode cX0_look 39 = .ok (.iconst 5, 1) := by decide +kernel
theorem dX0_look_40 : decode cX0_look 40 = .ok (.aload_n 0, 1) := by decide +kernel
theorem dX0_look_41 : decode cX0_look 41 = .ok (.getfield 27, 3) := by decide +kernel
theorem dX0_look_44 : decode cX0_look 44 = .ok (.getfield 84, 3) := by decide +kernel
theorem dX0_look_47 : decode cX0_look 47 = .ok (.iconst (-1), 1) := by decide +kernel
theorem dX0_look_48 : decode cX0_look 48 = .ok (.iconst (-1), 1) := by decide +kernel
theorem dX0_look_49 : decode cX0_look 49 = .ok (.invokevirtual 87, 3) := by decide +kernel
theorem dX0_look_52 : decode cX0_look 52 = .ok (.return_, 1) := by decide +kernel
theorem dX0_look_53 : decode cX0_look 53 = .ok (.aload_n 0, 1) := by decide +kernel
theorem dX0_look_54 : decode cX0_look 54 = .ok (.invokevirtual 91, 3) := by decide +kernel
theorem dX0_look_57 : decode cX0_look 57 = .ok (.aload_n 0, 1) := by decide +kernel
theorem dX0_look_58 : decode cX0_look 58 = .ok (.invokevirtual 94, 3) := by decide +kernel
theorem dX0_look_61 : decode cX0_look 61 = .ok (.iconst 0, 1) := by decide +kernel
theorem dX0_look_62 : decode cX0_look 62 = .ok (.istore_n 1, 1) := by decide +kernel
theorem dX0_look_63 : decode cX0_look 63 = .ok (.iload_n 1, 1) := by decide +kernel
theorem dX0_look_64 : decode cX0_look 64 = .ok (.aload_n 0, 1) := by decide +kernel
theorem dX0_look_65 : decode cX0_look 65 = .ok (.getfield 9, 3) := by decide +kernel
theorem dX0_look_68 : decode cX0_look 68 = .ok (.getfield 97, 3) := by decide +kernel
theorem dX0_look_71 : decode cX0_look 71 = .ok (.if_icmp .ge 23, 3) := by decide +kernel
theorem dX0_look_74 : decode cX0_look 74 = .ok (.aload_n 0, 1) := by decide +kernel
theorem dX0_look_75 : decode cX0_look 75 = .ok (.getfield 45, 3) := by decide +kernel
theorem dX0_look_78 : decode cX0_look 78 = .ok (.iload_n 1, 1) := by decide +kernel
theorem dX0_look_79 : decode cX0_look 79 = .ok (.baload, 1) := by decide +kernel
theorem dX0_look_80 : decode cX0_look 80 = .ok (.ifCond .eq 8, 3) := by decide +kernel
theorem dX0_look_83 : decode cX0_look 83 = .ok (.aload_n 0, 1) := by decide +kernel
theorem dX0_look_84 : decode cX0_look 84 = .ok (.iload_n 1, 1) := by decide +kernel
theorem dX0_look_85 : decode cX0_look 85 = .ok (.invokevirtual 102, 3) := by decide +kernel
theorem dX0_look_88 : decode cX0_look 88 = .ok (.iinc 1 1, 3) := by decide +kernel
theorem dX0_look_91 : decode cX0_look 91 = .ok (.goto (-28), 3) := by decide +kernel
theorem dX0_look_94 : decode cX0_look 94 = .ok (.aload_n 0, 1) := by decide +kernel
theorem dX0_look_95 : decode cX0_look 95 = .ok (.invokevirtual 106, 3) := by decide +kernel
theorem dX0_look_98 : decode cX0_look 98 = .ok (.return_, 1) := by decide +kernel
theorem dX0_clear_0 : decode cX0_clear 0 = .ok (.iconst 0, 1) := by decide +kernel
theorem dX0_clear_1 : decode cX0_clear 1 = .ok (.istore_n 1, 1) := by decide +kernel
theorem dX0_clear_2 : decode cX0_clear 2 = .ok (.iload_n 1, 1) := by decide +kernel
theorem dX0_clear_3 : decode cX0_clear 3 = .ok (.bipush 34, 2) := by decide +kernel
theorem dX0_clear_5 : decode cX0_clear 5 = .ok (.if_icmp .ge 44, 3) := by decide +kernel
theorem dX0_clear_8 : decode cX0_clear 8 = .ok (.aload_n 0, 1) := by decide +kernel
theorem dX0_clear_9 : decode cX0_clear 9 = .ok (.getfield 45, 3) := by decide +kernel
theorem dX0_clear_12 : decode cX0_clear 12 = .ok (.iload_n 1, 1) := by decide +kernel
theorem dX0_clear_13 : decode cX0_clear 13 = .ok (.iconst 0, 1) := by decide +kernel
theorem dX0_clear_14 : decode cX0_clear 14 = .ok (.bastore, 1) := by decide +kernel
theorem dX0_clear_15 : decode cX0_clear 15 = .ok (.aload_n 0, 1) := by decide +kernel
theorem dX0_clear_16 : decode cX0_clear 16 = .ok (.getfield 49, 3) := by decide +kernel
theorem dX0_clear_19 : decode cX0_clear 19 = .ok (.iload_n 1, 1) := by decide +kernel
theorem dX0_clear_20 : decode cX0_clear 20 = .ok (.iconst 0, 1) := by decide +kernel
theorem dX0_clear_21 : decode cX0_clear 21 = .ok (.bastore, 1) := by decide +kernel
theorem dX0_clear_22 : decode cX0_clear 22 = .ok (.aload_n 0, 1) := by decide +kernel
theorem dX0_clear_23 : decode cX0_clear 23 = .ok (.getfield 52, 3) := by decide +kernel
theorem dX0_clear_26 : decode cX0_clear 26 = .ok (.iload_n 1, 1) := by decide +kernel
theorem dX0_clear_27 : decode cX0_clear 27 = .ok (.iconst 0, 1) := by decide +kernel
theorem dX0_clear_28 : decode cX0_clear 28 = .ok (.iastore, 1) := by decide +kernel
theorem dX0_clear_29 : decode cX0_clear 29 = .ok (.aload_n 0, 1) := by decide +kernel
theorem dX0_clear_30 : decode cX0_clear 30 = .ok (.getfield 56, 3) := by decide +kernel
theorem dX0_clear_33 : decode cX0_clear 33 = .ok (.iload_n 1, 1) := by decide +kernel
theorem dX0_clear_34 : decode cX0_clear 34 = .ok (.iconst 0, 1) := by decide +kernel
theorem dX0_clear_35 : decode cX0_clear 35 = .ok (.iastore, 1) := by decide +kernel
theorem dX0_clear_36 : decode cX0_clear 36 = .ok (.aload_n 0, 1) := by decide +kernel
theorem dX0_clear_37 : decode cX0_clear 37 = .ok (.getfield 65, 3) := by decide +kernel
theorem dX0_clear_40 : decode cX0_clear 40 = .ok (.iload_n 1, 1) := by decide +kernel
theorem dX0_clear_41 : decode cX0_clear 41 = .ok (.iconst 0, 1) := by decide +kernel
theorem dX0_clear_42 : decode cX0_clear 42 = .ok (.iastore, 1) := by decide +kernel
theorem dX0_clear_43 : decode cX0_clear 43 = .ok (.iinc 1 1, 3) := by decide +kernel
theorem dX0_clear_46 : decode cX0_clear 46 = .ok (.goto (-44), 3) := by decide +kernel
theorem dX0_clear_49 : decode cX0_clear 49 = .ok (.aload_n 0, 1) := by decide +kernel
theorem dX0_clear_50 : decode cX0_clear 50 = .ok (.getfield 59, 3) := by decide +kernel
theorem dX0_clear_53 : decode cX0_clear 53 = .ok (.iconst 0, 1) := by decide +kernel
theorem dX0_clear_54 : decode cX0_clear 54 = .ok (.invokestatic 109, 3) := by decide +kernel
theorem dX0_clear_57 : decode cX0_clear 57 = .ok (.aload_n 0, 1) := by decide +kernel
theorem dX0_clear_58 : decode cX0_clear 58 = .ok (.getfield 41, 3) := by decide +kernel
theorem dX0_clear_61 : decode cX0_clear 61 = .ok (.iconst 0, 1) := by decide +kernel
theorem dX0_clear_62 : decode cX0_clear 62 = .ok (.putfield 115, 3) := by decide +kernel
theorem dX0_clear_65 : decode cX0_clear 65 = .ok (.aload_n 0, 1) := by decide +kernel
theorem dX0_clear_66 : decode cX0_clear 66 = .ok (.iconst 0, 1) := by decide +kernel
theorem dX0_clear_67 : decode cX0_clear 67 = .ok (.putfield 68, 3) := by decide +kernel
theorem dX0_clear_70 : decode cX0_clear 70 = .ok (.return_, 1) := by decide +kernel
theorem dX0_followWays_0 : decode cX0_followWays 0 = .ok (.aload_n 0, 1) := by decide +kernel
theorem dX0_followWays_1 : decode cX0_followWays 1 = .ok (.getfield 45, 3) := by decide +kernel
theorem dX0_followWays_4 : decode cX0_followWays 4 = .ok (.iconst 0, 1) := by decide +kernel
theorem dX0_followWays_5 : decode cX0_followWays 5 = .ok (.iconst 1, 1) := by decide +kernel
theorem dX0_followWays_6 : decode cX0_followWays 6 = .ok (.bastore, 1) := by decide +kernel
theorem dX0_followWays_7 : decode cX0_followWays 7 = .ok (.aload_n 0, 1) := by decide +kernel
theorem dX0_followWays_8 : decode cX0_followWays 8 = .ok (.getfield 49, 3) := by decide +kernel
theorem dX0_followWays_11 : decode cX0_followWays 11 = .ok (.iconst 0, 1) := by decide +kernel
theorem dX0_followWays_12 : decode cX0_followWays 12 = .ok (.iconst 1, 1) := by decide +kernel
theorem dX0_followWays_13 : decode cX0_followWays 13 = .ok (.bastore, 1) := by decide +kernel
theorem dX0_followWays_14 : decode cX0_followWays 14 = .ok (.aload_n 0, 1) := by decide +kernel
theorem dX0_followWays_15 : decode cX0_followWays 15 = .ok (.getfield 56, 3) := by decide +kernel
theorem dX0_followWays_18 : decode cX0_followWays 18 = .ok (.iconst 0, 1) := by decide +kernel
theorem dX0_followWays_19 : decode cX0_followWays 19 = .ok (.aload_n 0, 1) := by decide +kernel
theorem dX0_followWays_20 : decode cX0_followWays 20 = .ok (.getfield 9, 3) := by decide +kernel
theorem dX0_followWays_23 : decode cX0_followWays 23 = .ok (.invokevirtual 118, 3) := by decide +kernel
theorem dX0_followWays_26 : decode cX0_followWays 26 = .ok (.iastore, 1) := by decide +kernel
theorem dX0_followWays_27 : decode cX0_followWays 27 = .ok (.iconst 1, 1) := by decide +kernel
theorem dX0_followWays_28 : decode cX0_followWays 28 = .ok (.istore_n 1, 1) := by decide +kernel
theorem dX0_followWays_29 : decode cX0_followWays 29 = .ok (.iconst 0, 1) := by decide +kernel
theorem dX0_followWays_30 : decode cX0_followWays 30 = .ok (.istore_n 2, 1) := by decide +kernel
theorem dX0_followWays_31 : decode cX0_followWays 31 = .ok (.iload_n 2, 1) := by decide +kernel
theorem dX0_followWays_32 : decode cX0_followWays 32 = .ok (.ldc 122, 2) := by decide +kernel
theorem dX0_followWays_34 : decode cX0_followWays 34 = .ok (.if_icmp .ge 57, 3) := by decide +kernel
theorem dX0_followWays_37 : decode cX0_followWays 37 = .ok (.iload_n 1, 1) := by decide +kernel
theorem dX0_followWays_38 : decode cX0_followWays 38 = .ok (.ifCond .eq 53, 3) := by decide +kernel
theorem dX0_followWays_41 : decode cX0_followWays 41 = .ok (.iconst 0, 1) := by decide +kernel
theorem dX0_followWays_42 : decode cX0_followWays 42 = .ok (.istore_n 1, 1) := by decide +kernel
theorem dX0_followWays_43 : decode cX0_followWays 43 = .ok (.iconst 0, 1) := by decide +kernel
theorem dX0_followWays_44 : decode cX0_followWays 44 = .ok (.istore_n 3, 1) := by decide +kernel
theorem dX0_followWays_45 : decode cX0_followWays 45 = .ok (.iload_n 3, 1) := by decide +kernel
theorem dX0_followWays_46 : decode cX0_followWays 46 = .ok (.aload_n 0, 1) := by decide +kernel
theorem dX0_followWays_47 : decode cX0_followWays 47 = .ok (.getfield 9, 3) := by decide +kernel
theorem dX0_followWays_50 : decode cX0_followWays 50 = .ok (.getfield 97, 3) := by decide +kernel
theorem dX0_followWays_53 : decode cX0_followWays 53 = .ok (.if_icmp .ge 32, 3) := by decide +kernel
theorem dX0_followWays_56 : decode cX0_followWays 56 = .ok (.aload_n 0, 1) := by decide +kernel
theorem dX0_followWays_57 : decode cX0_followWays 57 = .ok (.getfield 49, 3) := by decide +kernel
theorem dX0_followWays_60 : decode cX0_followWays 60 = .ok (.iload_n 3, 1) := by decide +kernel
theorem dX0_followWays_61 : decode cX0_followWays 61 = .ok (.baload, 1) := by decide +kernel
theorem dX0_followWays_62 : decode cX0_followWays 62 = .ok (.ifCond .eq 17, 3) := by decide +kernel
theorem dX0_followWays_65 : decode cX0_followWays 65 = .ok (.aload_n 0, 1) := by decide +kernel
theorem dX0_followWays_66 : decode cX0_followWays 66 = .ok (.getfield 49, 3) := by decide +kernel
theorem dX0_followWays_69 : decode cX0_followWays 69 = .ok (.iload_n 3, 1) := by decide +kernel
theorem dX0_followWays_70 : decode cX0_followWays 70 = .ok (.iconst 0, 1) := by decide +kernel
theorem dX0_followWays_71 : decode cX0_followWays 71 = .ok (.bastore, 1) := by decide +kernel
theorem dX0_followWays_72 : decode cX0_followWays 72 = .ok (.iconst 1, 1) := by decide +kernel
theorem dX0_followWays_73 : decode cX0_followWays 73 = .ok (.istore_n 1, 1) := by decide +kernel
theorem dX0_followWays_74 : decode cX0_followWays 74 = .ok (.aload_n 0, 1) := by decide +kernel
theorem dX0_followWays_75 : decode cX0_followWays 75 = .ok (.iload_n 3, 1) := by decide +kernel
theorem dX0_followWays_76 : decode cX0_followWays 76 = .ok (.invokevirtual 123, 3) := by decide +kernel
theorem dX0_followWays_79 : decode cX0_followWays 79 = .ok (.iinc 3 1, 3) := by decide +kernel
theorem dX0_followWays_82 : decode cX0_followWays 82 = .ok (.goto (-37), 3) := by decide +kernel
theorem dX0_followWays_85 : decode cX0_followWays 85 = .ok (.iinc 2 1, 3) := by decide +kernel
theorem dX0_followWays_88 : decode cX0_followWays 88 = .ok (.goto (-57), 3) := by decide +kernel
theorem dX0_followWays_91 : decode cX0_followWays 91 = .ok (.return_, 1) := by decide +kernel
theorem dX0_passOn_0 : decode cX0_passOn 0 = .ok (.aload_n 0, 1) := by decide +kernel
theorem dX0_passOn_1 : decode cX0_passOn 1 = .ok (.getfield 20, 3) := by decide +kernel
theorem dX0_passOn_4 : decode cX0_passOn 4 = .ok (.getfield 126, 3) := by decide +kernel
theorem dX0_passOn_7 : decode cX0_passOn 7 = .ok (.iload_n 1, 1) := by decide +kernel
theorem dX0_passOn_8 : decode cX0_passOn 8 = .ok (.iaload, 1) := by decide +kernel
theorem dX0_passOn_9 : decode cX0_passOn 9 = .ok (.istore_n 2, 1) := by decide +kernel
theorem dX0_passOn_10 : decode cX0_passOn 10 = .ok (.aload_n 0, 1) := by decide +kernel
theorem dX0_passOn_11 : decode cX0_passOn 11 = .ok (.getfield 20, 3) := by decide +kernel
theorem dX0_passOn_14 : decode cX0_passOn 14 = .ok (.getfield 129, 3) := by decide +kernel
theorem dX0_passOn_17 : decode cX0_passOn 17 = .ok (.iload_n 1, 1) := by decide +kernel
theorem dX0_passOn_18 : decode cX0_passOn 18 = .ok (.iaload, 1) := by decide +kernel
theorem dX0_passOn_19 : decode cX0_passOn 19 = .ok (.istore_n 3, 1) := by decide +kernel
theorem dX0_passOn_20 : decode cX0_passOn 20 = .ok (.aload_n 0, 1) := by decide +kernel
theorem dX0_passOn_21 : decode cX0_passOn 21 = .ok (.getfield 52, 3) := by decide +kernel
theorem dX0_passOn_24 : decode cX0_passOn 24 = .ok (.iload_n 1, 1) := by decide +kernel
theorem dX0_passOn_25 : decode cX0_passOn 25 = .ok (.iaload, 1) := by decide +kernel
theorem dX0_passOn_26 : decode cX0_passOn 26 = .ok (.iload_n 3, 1) := by decide +kernel
theorem dX0_passOn_27 : decode cX0_passOn 27 = .ok (.iconst (-1), 1) := by decide +kernel
theorem dX0_passOn_28 : decode cX0_passOn 28 = .ok (.ixor, 1) := by decide +kernel
theorem dX0_passOn_29 : decode cX0_passOn 29 = .ok (.iand, 1) := by decide +kernel
theorem dX0_passOn_30 : decode cX0_passOn 30 = .ok (.iload_n 2, 1) := by decide +kernel
theorem dX0_passOn_31 : decode cX0_passOn 31 = .ok (.ior, 1) := by decide +kernel
theorem dX0_passOn_32 : decode cX0_passOn 32 = .ok (.istore 4, 2) := by decide +kernel
theorem dX0_passOn_34 : decode cX0_passOn 34 = .ok (.aload_n 0, 1) := by decide +kernel
theorem dX0_passOn_35 : decode cX0_passOn 35 = .ok (.getfield 56, 3) := by decide +kernel
theorem dX0_passOn_38 : decode cX0_passOn 38 = .ok (.iload_n 1, 1) := by decide +kernel
theorem dX0_passOn_39 : decode cX0_passOn 39 = .ok (.iaload, 1) := by decide +kernel
theorem dX0_passOn_40 : decode cX0_passOn 40 = .ok (.iload_n 3, 1) := by decide +kernel
theorem dX0_passOn_41 : decode cX0_passOn 41 = .ok (.ior, 1) := by decide +kernel
theorem dX0_passOn_42 : decode cX0_passOn 42 = .ok (.iload_n 2, 1) := by decide +kernel
theorem dX0_passOn_43 : decode cX0_passOn 43 = .ok (.iconst (-1), 1) := by decide +kernel
theorem dX0_passOn_44 : decode cX0_passOn 44 = .ok (.ixor, 1) := by decide +kernel
theorem dX0_passOn_45 : decode cX0_passOn 45 = .ok (.iand, 1) := by decide +kernel
theorem dX0_passOn_46 : decode cX0_passOn 46 = .ok (.istore 5, 2) := by decide +kernel
theorem dX0_passOn_48 : decode cX0_passOn 48 = .ok (.iconst 0, 1) := by decide +kernel
theorem dX0_passOn_49 : decode cX0_passOn 49 = .ok (.istore 6, 2) := by decide +kernel
theorem dX0_passOn_51 : decode cX0_passOn 51 = .ok (.iload 6, 2) := by decide +kernel
theorem dX0_passOn_53 : decode cX0_passOn 53 = .ok (.aload_n 0, 1) := by decide +kernel
theorem dX0_passOn_54 : decode cX0_passOn 54 = .ok (.getfield 9, 3) := by decide +kernel
theorem dX0_passOn_57 : decode cX0_passOn 57 = .ok (.getfield 132, 3) := by decide +kernel
theorem dX0_passOn_60 : decode cX0_passOn 60 = .ok (.if_icmp .ge 28, 3) := by decide +kernel
theorem dX0_passOn_63 : decode cX0_passOn 63 = .ok (.aload_n 0, 1) := by decide +kernel
theorem dX0_passOn_64 : decode cX0_passOn 64 = .ok (.getfield 62, 3) := by decide +kernel
theorem dX0_passOn_67 : decode cX0_passOn 67 = .ok (.iload 6, 2) := by decide +kernel
theorem dX0_passOn_69 : decode cX0_passOn 69 = .ok (.aload_n 0, 1) := by decide +kernel
theorem dX0_passOn_70 : decode cX0_passOn 70 = .ok (.getfield 59, 3) := by decide +kernel
theorem dX0_passOn_73 : decode cX0_passOn 73 = .ok (.iload_n 1, 1) := by decide +kernel
theorem dX0_passOn_74 : decode cX0_passOn 74 = .ok (.bipush 8, 2) := by decide +kernel
theorem dX0_passOn_76 : decode cX0_passOn 76 = .ok (.imul, 1) := by decide +kernel
theorem dX0_passOn_77 : decode cX0_passOn 77 = .ok (.iload 6, 2) := by decide +kernel
theorem dX0_passOn_79 : decode cX0_passOn 79 = .ok (.iadd, 1) := by decide +kernel
theorem dX0_passOn_80 : decode cX0_passOn 80 = .ok (.iaload, 1) := by decide +kernel
theorem dX0_passOn_81 : decode cX0_passOn 81 = .ok (.iastore, 1) := by decide +kernel
theorem dX0_passOn_82 : decode cX0_passOn 82 = .ok (.iinc 6 1, 3) := by decide +kernel
theorem dX0_passOn_85 : decode cX0_passOn 85 = .ok (.goto (-34), 3) := by decide +kernel
theorem dX0_passOn_88 : decode cX0_passOn 88 = .ok (.aload_n 0, 1) := by decide +kernel
theorem dX0_passOn_89 : decode cX0_passOn 89 = .ok (.getfield 20, 3) := by decide +kernel
theorem dX0_passOn_92 : decode cX0_passOn 92 = .ok (.getfield 135, 3) := by decide +kernel
theorem dX0_passOn_95 : decode cX0_passOn 95 = .ok (.iload_n 1, 1) := by decide +kernel
theorem dX0_passOn_96 : decode cX0_passOn 96 = .ok (.iaload, 1) := by decide +kernel
theorem dX0_passOn_97 : decode cX0_passOn 97 = .ok (.ifCond .eq 8, 3) := by decide +kernel
theorem dX0_passOn_100 : decode cX0_passOn 100 = .ok (.aload_n 0, 1) := by decide +kernel
theorem dX0_passOn_101 : decode cX0_passOn 101 = .ok (.iload_n 1, 1) := by decide +kernel
theorem dX0_passOn_102 : decode cX0_passOn 102 = .ok (.invokevirtual 138, 3) := by decide +kernel
theorem dX0_passOn_105 : decode cX0_passOn 105 = .ok (.aload_n 0, 1) := by decide +kernel
theorem dX0_passOn_106 : decode cX0_passOn 106 = .ok (.aload_n 0, 1) := by decide +kernel
theorem dX0_passOn_107 : decode cX0_passOn 107 = .ok (.getfield 27, 3) := by decide +kernel
theorem dX0_passOn_110 : decode cX0_passOn 110 = .ok (.iload_n 1, 1) := by decide +kernel
theorem dX0_passOn_111 : decode cX0_passOn 111 = .ok (.invokevirtual 141, 3) := by decide +kernel
theorem dX0_passOn_114 : decode cX0_passOn 114 = .ok (.iload 4, 2) := by decide +kernel
theorem dX0_passOn_116 : decode cX0_passOn 116 = .ok (.iload 5, 2) := by decide +kernel
theorem dX0_passOn_118 : decode cX0_passOn 118 = .ok (.invokevirtual 145, 3) := by decide +kernel
theorem dX0_passOn_121 : decode cX0_passOn 121 = .ok (.aload_n 0, 1) := by decide +kernel
theorem dX0_passOn_122 : decode cX0_passOn 122 = .ok (.aload_n 0, 1) := by decide +kernel
theorem dX0_passOn_123 : decode cX0_passOn 123 = .ok (.getfield 27, 3) := by decide +kernel
theorem dX0_passOn_126 : decode cX0_passOn 126 = .ok (.iload_n 1, 1) := by decide +kernel
theorem dX0_passOn_127 : decode cX0_passOn 127 = .ok (.invokevirtual 149, 3) := by decide +kernel
theorem dX0_passOn_130 : decode cX0_passOn 130 = .ok (.iload 4, 2) := by decide +kernel
theorem dX0_passOn_132 : decode cX0_passOn 132 = .ok (.iload 5, 2) := by decide +kernel
theorem dX0_passOn_134 : decode cX0_passOn 134 = .ok (.invokevirtual 145, 3) := by decide +kernel
theorem dX0_passOn_137 : decode cX0_passOn 137 = .ok (.return_, 1) := by decide +kernel
theorem dX0_setHeldByGiven_0 : decode cX0_setHeldByGiven 0 = .ok (.aload_n 0, 1) := by decide +kernel
theorem dX0_setHeldByGiven_1 : decode cX0_setHeldByGiven 1 = .ok (.getfield 20, 3) := by decide +kernel
theorem dX0_setHeldByGiven_4 : decode cX0_setHeldByGiven 4 = .ok (.getfield 152, 3) := by decide +kernel
theorem dX0_setHeldByGiven_7 : decode cX0_setHeldByGiven 7 = .ok (.iload_n 1, 1) := by decide +kernel
theorem dX0_setHeldByGiven_8 : decode cX0_setHeldByGiven 8 = .ok (.iaload, 1) := by decide +kernel
theorem dX0_setHeldByGiven_9 : decode cX0_setHeldByGiven 9 = .ok (.iconst 3, 1) := by decide +kernel
theorem dX0_setHeldByGiven_10 : decode cX0_setHeldByGiven 10 = .ok (.idiv, 1) := by decide +kernel
theorem dX0_setHeldByGiven_11 : decode cX0_setHeldByGiven 11 = .ok (.istore_n 2, 1) := by decide +kernel
theorem dX0_setHeldByGiven_12 : decode cX0_setHeldByGiven 12 = .ok (.aload_n 0, 1) := by decide +kernel
theorem dX0_setHeldByGiven_13 : decode cX0_setHeldByGiven 13 = .ok (.getfield 62, 3) := by decide +kernel
theorem dX0_setHeldByGiven_16 : decode cX0_setHeldByGiven 16 = .ok (.iload_n 2, 1) := by decide +kernel
theorem dX0_setHeldByGiven_17 : decode cX0_setHeldByGiven 17 = .ok (.invokestatic 155, 3) := by decide +kernel
theorem dX0_setHeldByGiven_20 : decode cX0_setHeldByGiven 20 = .ok (.ifCond .ne 4, 3) := by decide +kernel
theorem dX0_setHeldByGiven_23 : decode cX0_setHeldByGiven 23 = .ok (.return_, 1) := by decide +kernel
theorem dX0_setHeldByGiven_24 : decode cX0_setHeldByGiven 24 = .ok (.aload_n 0, 1) := by decide +kernel
theorem dX0_setHeldByGiven_25 : decode cX0_setHeldByGiven 25 = .ok (.getfield 34, 3) := by decide +kernel
theorem dX0_setHeldByGiven_28 : decode cX0_setHeldByGiven 28 = .ok (.getfield 159, 3) := by decide +kernel
theorem dX0_setHeldByGiven_31 : decode cX0_setHeldByGiven 31 = .ok (.iload_n 1, 1) := by decide +kernel
theorem dX0_setHeldByGiven_32 : decode cX0_setHeldByGiven 32 = .ok (.iaload, 1) := by decide +kernel
theorem dX0_setHeldByGiven_33 : decode cX0_setHeldByGiven 33 = .ok (.istore_n 3, 1) := by decide +kernel
theorem dX0_setHeldByGiven_34 : decode cX0_setHeldByGiven 34 = .ok (.iload_n 3, 1) := by decide +kernel
theorem dX0_setHeldByGiven_35 : decode cX0_setHeldByGiven 35 = .ok (.iconst (-1), 1) := by decide +kernel
theorem dX0_setHeldByGiven_36 : decode cX0_setHeldByGiven 36 = .ok (.if_icmp .eq 15, 3) := by decide +kernel
theorem dX0_setHeldByGiven_39 : decode cX0_setHeldByGiven 39 = .ok (.aload_n 0, 1) := by decide +kernel
theorem dX0_setHeldByGiven_40 : decode cX0_setHeldByGiven 40 = .ok (.getfield 62, 3) := by decide +kernel
theorem dX0_setHeldByGiven_43 : decode cX0_setHeldByGiven 43 = .ok (.iload_n 2, 1) := by decide +kernel
theorem dX0_setHeldByGiven_44 : decode cX0_setHeldByGiven 44 = .ok (.iconst 1, 1) := by decide +kernel
theorem dX0_setHeldByGiven_45 : decode cX0_setHeldByGiven 45 = .ok (.iload_n 3, 1) := by decide +kernel
theorem dX0_setHeldByGiven_46 : decode cX0_setHeldByGiven 46 = .ok (.ishl, 1) := by decide +kernel
theorem dX0_setHeldByGiven_47 : decode cX0_setHeldByGiven 47 = .ok (.iastore, 1) := by decide +kernel
theorem dX0_setHeldByGiven_48 : decode cX0_setHeldByGiven 48 = .ok (.goto 25, 3) := by decide +kernel
theorem dX0_setHeldByGiven_51 : decode cX0_setHeldByGiven 51 = .ok (.aload_n 0, 1) := by decide +kernel
theorem dX0_setHeldByGiven_52 : decode cX0_setHeldByGiven 52 = .ok (.getfield 62, 3) := by decide +kernel
theorem dX0_setHeldByGiven_55 : decode cX0_setHeldByGiven 55 = .ok (.iload_n 2, 1) := by decide +kernel
theorem dX0_setHeldByGiven_56 : decode cX0_setHeldByGiven 56 = .ok (.aload_n 0, 1) := by decide +kernel
theorem dX0_setHeldByGiven_57 : decode cX0_setHeldByGiven 57 = .ok (.iload_n 1, 1) := by decide +kernel
theorem dX0_setHeldByGiven_58 : decode cX0_setHeldByGiven 58 = .ok (.aload_n 0, 1) := by decide +kernel
theorem dX0_setHeldByGiven_59 : decode cX0_setHeldByGiven 59 = .ok (.getfield 20, 3) := by decide +kernel
theorem dX0_setHeldByGiven_62 : decode cX0_setHeldByGiven 62 = .ok (.getfield 162, 3) := by decide +kernel
theorem dX0_setHeldByGiven_65 : decode cX0_setHeldByGiven 65 = .ok (.iload_n 1, 1) := by decide +kernel
theorem dX0_setHeldByGiven_66 : decode cX0_setHeldByGiven 66 = .ok (.iaload, 1) := by decide +kernel
theorem dX0_setHeldByGiven_67 : decode cX0_setHeldByGiven 67 = .ok (.iconst 3, 1) := by decide +kernel
theorem dX0_setHeldByGiven_68 : decode cX0_setHeldByGiven 68 = .ok (.idiv, 1) := by decide +kernel
theorem dX0_setHeldByGiven_69 : decode cX0_setHeldByGiven 69 = .ok (.invokevirtual 165, 3) := by decide +kernel
theorem dX0_setHeldByGiven_72 : decode cX0_setHeldByGiven 72 = .ok (.iastore, 1) := by decide +kernel
theorem dX0_setHeldByGiven_73 : decode cX0_setHeldByGiven 73 = .ok (.return_, 1) := by decide +kernel
theorem dX0_comeTo_0 : decode cX0_comeTo 0 = .ok (.aload_n 0, 1) := by decide +kernel
theorem dX0_comeTo_1 : decode cX0_comeTo 1 = .ok (.getfield 9, 3) := by decide +kernel
theorem dX0_comeTo_4 : decode cX0_comeTo 4 = .ok (.iload_n 1, 1) := by decide +kernel
theorem dX0_comeTo_5 : decode cX0_comeTo 5 = .ok (.invokevirtual 169, 3) := by decide +kernel
theorem dX0_comeTo_8 : decode cX0_comeTo 8 = .ok (.ifCond .ne 4, 3) := by decide +kernel
theorem dX0_comeTo_11 : decode cX0_comeTo 11 = .ok (.return_, 1) := by decide +kernel
theorem dX0_comeTo_12 : decode cX0_comeTo 12 = .ok (.aload_n 0, 1) := by decide +kernel
theorem dX0_comeTo_13 : decode cX0_comeTo 13 = .ok (.getfield 45, 3) := by decide +kernel
theorem dX0_comeTo_16 : decode cX0_comeTo 16 = .ok (.iload_n 1, 1) := by decide +kernel
theorem dX0_comeTo_17 : decode cX0_comeTo 17 = .ok (.baload, 1) := by decide +kernel
theorem dX0_comeTo_18 : decode cX0_comeTo 18 = .ok (.ifCond .eq 29, 3) := by decide +kernel
theorem dX0_comeTo_21 : decode cX0_comeTo 21 = .ok (.iload_n 2, 1) := by decide +kernel
theorem dX0_comeTo_22 : decode cX0_comeTo 22 = .ok (.aload_n 0, 1) := by decide +kernel
theorem dX0_comeTo_23 : decode cX0_comeTo 23 = .ok (.getfield 52, 3) := by decide +kernel
theorem dX0_comeTo_26 : decode cX0_comeTo 26 = .ok (.iload_n 1, 1) := by decide +kernel
theorem dX0_comeTo_27 : decode cX0_comeTo 27 = .ok (.iaload, 1) := by decide +kernel
theorem dX0_comeTo_28 : decode cX0_comeTo 28 = .ok (.iconst (-1), 1) := by decide +kernel
theorem dX0_comeTo_29 : decode cX0_comeTo 29 = .ok (.ixor, 1) := by decide +kernel
theorem dX0_comeTo_30 : decode cX0_comeTo 30 = .ok (.iand, 1) := by decide +kernel
theorem dX0_comeTo_31 : decode cX0_comeTo 31 = .ok (.ifCond .ne 16, 3) := by decide +kernel
theorem dX0_comeTo_34 : decode cX0_comeTo 34 = .ok (.iload_n 3, 1) := by decide +kernel
theorem dX0_comeTo_35 : decode cX0_comeTo 35 = .ok (.aload_n 0, 1) := by decide +kernel
theorem dX0_comeTo_36 : decode cX0_comeTo 36 = .ok (.getfield 56, 3) := by decide +kernel
theorem dX0_comeTo_39 : decode cX0_comeTo 39 = .ok (.iload_n 1, 1) := by decide +kernel
theorem dX0_comeTo_40 : decode cX0_comeTo 40 = .ok (.iaload, 1) := by decide +kernel
theorem dX0_comeTo_41 : decode cX0_comeTo 41 = .ok (.iconst (-1), 1) := by decide +kernel
theorem dX0_comeTo_42 : decode cX0_comeTo 42 = .ok (.ixor, 1) := by decide +kernel
theorem dX0_comeTo_43 : decode cX0_comeTo 43 = .ok (.iand, 1) := by decide +kernel
theorem dX0_comeTo_44 : decode cX0_comeTo 44 = .ok (.ifCond .eq 7, 3) := by decide +kernel
theorem dX0_comeTo_47 : decode cX0_comeTo 47 = .ok (.iconst 1, 1) := by decide +kernel
theorem dX0_comeTo_48 : decode cX0_comeTo 48 = .ok (.goto 4, 3) := by decide +kernel
theorem dX0_comeTo_51 : decode cX0_comeTo 51 = .ok (.iconst 0, 1) := by decide +kernel
theorem dX0_comeTo_52 : decode cX0_comeTo 52 = .ok (.istore 4, 2) := by decide +kernel
theorem dX0_comeTo_54 : decode cX0_comeTo 54 = .ok (.aload_n 0, 1) := by decide +kernel
theorem dX0_comeTo_55 : decode cX0_comeTo 55 = .ok (.getfield 52, 3) := by decide +kernel
theorem dX0_comeTo_58 : decode cX0_comeTo 58 = .ok (.iload_n 1, 1) := by decide +kernel
theorem dX0_comeTo_59 : decode cX0_comeTo 59 = .ok (.dup2, 1) := by decide +kernel
theorem dX0_comeTo_60 : decode cX0_comeTo 60 = .ok (.iaload, 1) := by decide +kernel
theorem dX0_comeTo_61 : decode cX0_comeTo 61 = .ok (.iload_n 2, 1) := by decide +kernel
theorem dX0_comeTo_62 : decode cX0_comeTo 62 = .ok (.ior, 1) := by decide +kernel
theorem dX0_comeTo_63 : decode cX0_comeTo 63 = .ok (.iastore, 1) := by decide +kernel
theorem dX0_comeTo_64 : decode cX0_comeTo 64 = .ok (.aload_n 0, 1) := by decide +kernel
theorem dX0_comeTo_65 : decode cX0_comeTo 65 = .ok (.getfield 56, 3) := by decide +kernel
theorem dX0_comeTo_68 : decode cX0_comeTo 68 = .ok (.iload_n 1, 1) := by decide +kernel
theorem dX0_comeTo_69 : decode cX0_comeTo 69 = .ok (.dup2, 1) := by decide +kernel
theorem dX0_comeTo_70 : decode cX0_comeTo 70 = .ok (.iaload, 1) := by decide +kernel
theorem dX0_comeTo_71 : decode cX0_comeTo 71 = .ok (.iload_n 3, 1) := by decide +kernel
theorem dX0_comeTo_72 : decode cX0_comeTo 72 = .ok (.ior, 1) := by decide +kernel
theorem dX0_comeTo_73 : decode cX0_comeTo 73 = .ok (.iastore, 1) := by decide +kernel
theorem dX0_comeTo_74 : decode cX0_comeTo 74 = .ok (.iconst 0, 1) := by decide +kernel
theorem dX0_comeTo_75 : decode cX0_comeTo 75 = .ok (.istore 5, 2) := by decide +kernel
theorem dX0_comeTo_77 : decode cX0_comeTo 77 = .ok (.iload 5, 2) := by decide +kernel
theorem dX0_comeTo_79 : decode cX0_comeTo 79 = .ok (.aload_n 0, 1) := by decide +kernel
theorem dX0_comeTo_80 : decode cX0_comeTo 80 = .ok (.getfield 9, 3) := by decide +kernel
theorem dX0_comeTo_83 : decode cX0_comeTo 83 = .ok (.getfield 132, 3) := by decide +kernel
theorem dX0_comeTo_86 : decode cX0_comeTo 86 = .ok (.if_icmp .ge 67, 3) := by decide +kernel
theorem dX0_comeTo_89 : decode cX0_comeTo 89 = .ok (.iload_n 1, 1) := by decide +kernel
theorem dX0_comeTo_90 : decode cX0_comeTo 90 = .ok (.bipush 8, 2) := by decide +kernel
theorem dX0_comeTo_92 : decode cX0_comeTo 92 = .ok (.imul, 1) := by decide +kernel
theorem dX0_comeTo_93 : decode cX0_comeTo 93 = .ok (.iload 5, 2) := by decide +kernel
theorem dX0_comeTo_95 : decode cX0_comeTo 95 = .ok (.iadd, 1) := by decide +kernel
theorem dX0_comeTo_96 : decode cX0_comeTo 96 = .ok (.istore 6, 2) := by decide +kernel
theorem dX0_comeTo_98 : decode cX0_comeTo 98 = .ok (.iload 4, 2) := by decide +kernel
theorem dX0_comeTo_100 : decode cX0_comeTo 100 = .ok (.ifCond .ne 23, 3) := by decide +kernel
theorem dX0_comeTo_103 : decode cX0_comeTo 103 = .ok (.aload_n 0, 1) := by decide +kernel
theorem dX0_comeTo_104 : decode cX0_comeTo 104 = .ok (.getfield 62, 3) := by decide +kernel
theorem dX0_comeTo_107 : decode cX0_comeTo 107 = .ok (.iload 5, 2) := by decide +kernel
theorem dX0_comeTo_109 : decode cX0_comeTo 109 = .ok (.iaload, 1) := by decide +kernel
theorem dX0_comeTo_110 : decode cX0_comeTo 110 = .ok (.aload_n 0, 1) := by decide +kernel
theorem dX0_comeTo_111 : decode cX0_comeTo 111 = .ok (.getfield 59, 3) := by decide +kernel
theorem dX0_comeTo_114 : decode cX0_comeTo 114 = .ok (.iload 6, 2) := by decide +kernel
theorem dX0_comeTo_116 : decode cX0_comeTo 116 = .ok (.iaload, 1) := by decide +kernel
theorem dX0_comeTo_117 : decode cX0_comeTo 117 = .ok (.iconst (-1), 1) := by decide +kernel
theorem dX0_comeTo_118 : decode cX0_comeTo 118 = .ok (.ixor, 1) := by decide +kernel
theorem dX0_comeTo_119 : decode cX0_comeTo 119 = .ok (.iand, 1) := by decide +kernel
theorem dX0_comeTo_120 : decode cX0_comeTo 120 = .ok (.ifCond .eq 7, 3) := by decide +kernel
theorem dX0_comeTo_123 : decode cX0_comeTo 123 = .ok (.iconst 1, 1) := by decide +kernel
theorem dX0_comeTo_124 : decode cX0_comeTo 124 = .ok (.goto 4, 3) := by decide +kernel
theorem dX0_comeTo_127 : decode cX0_comeTo 127 = .ok (.iconst 0, 1) := by decide +kernel
theorem dX0_comeTo_128 : decode cX0_comeTo 128 = .ok (.istore 4, 2) := by decide +kernel
theorem dX0_comeTo_130 : decode cX0_comeTo 130 = .ok (.aload_n 0, 1) := by decide +kernel
theorem dX0_comeTo_131 : decode cX0_comeTo 131 = .ok (.getfield 59, 3) := by decide +kernel
theorem dX0_comeTo_134 : decode cX0_comeTo 134 = .ok (.iload 6, 2) := by decide +kernel
theorem dX0_comeTo_136 : decode cX0_comeTo 136 = .ok (.dup2, 1) := by decide +kernel
theorem dX0_comeTo_137 : decode cX0_comeTo 137 = .ok (.iaload, 1) := by decide +kernel
theorem dX0_comeTo_138 : decode cX0_comeTo 138 = .ok (.aload_n 0, 1) := by decide +kernel
theorem dX0_comeTo_139 : decode cX0_comeTo 139 = .ok (.getfield 62, 3) := by decide +kernel
theorem dX0_comeTo_142 : decode cX0_comeTo 142 = .ok (.iload 5, 2) := by decide +kernel
theorem dX0_comeTo_144 : decode cX0_comeTo 144 = .ok (.iaload, 1) := by decide +kernel
theorem dX0_comeTo_145 : decode cX0_comeTo 145 = .ok (.ior, 1) := by decide +kernel
theorem dX0_comeTo_146 : decode cX0_comeTo 146 = .ok (.iastore, 1) := by decide +kernel
theorem dX0_comeTo_147 : decode cX0_comeTo 147 = .ok (.iinc 5 1, 3) := by decide +kernel
theorem dX0_comeTo_150 : decode cX0_comeTo 150 = .ok (.goto (-73), 3) := by decide +kernel
theorem dX0_comeTo_153 : decode cX0_comeTo 153 = .ok (.aload_n 0, 1) := by decide +kernel
theorem dX0_comeTo_154 : decode cX0_comeTo 154 = .ok (.getfield 45, 3) := by decide +kernel
theorem dX0_comeTo_157 : decode cX0_comeTo 157 = .ok (.iload_n 1, 1) := by decide +kernel
theorem dX0_comeTo_158 : decode cX0_comeTo 158 = .ok (.iconst 1, 1) := by decide +kernel
theorem dX0_comeTo_159 : decode cX0_comeTo 159 = .ok (.bastore, 1) := by decide +kernel
theorem dX0_comeTo_160 : decode cX0_comeTo 160 = .ok (.aload_n 0, 1) := by decide +kernel
theorem dX0_comeTo_161 : decode cX0_comeTo 161 = .ok (.getfield 49, 3) := by decide +kernel
theorem dX0_comeTo_164 : decode cX0_comeTo 164 = .ok (.iload_n 1, 1) := by decide +kernel
theorem dX0_comeTo_165 : decode cX0_comeTo 165 = .ok (.aload_n 0, 1) := by decide +kernel
theorem dX0_comeTo_166 : decode cX0_comeTo 166 = .ok (.getfield 49, 3) := by decide +kernel
theorem dX0_comeTo_169 : decode cX0_comeTo 169 = .ok (.iload_n 1, 1) := by decide +kernel
theorem dX0_comeTo_170 : decode cX0_comeTo 170 = .ok (.baload, 1) := by decide +kernel
theorem dX0_comeTo_171 : decode cX0_comeTo 171 = .ok (.ifCond .ne 8, 3) := by decide +kernel
theorem dX0_comeTo_174 : decode cX0_comeTo 174 = .ok (.iload 4, 2) := by decide +kernel
theorem dX0_comeTo_176 : decode cX0_comeTo 176 = .ok (.ifCond .eq 7, 3) := by decide +kernel
theorem dX0_comeTo_179 : decode cX0_comeTo 179 = .ok (.iconst 1, 1) := by decide +kernel
theorem dX0_comeTo_180 : decode cX0_comeTo 180 = .ok (.goto 4, 3) := by decide +kernel
theorem dX0_comeTo_183 : decode cX0_comeTo 183 = .ok (.iconst 0, 1) := by decide +kernel
theorem dX0_comeTo_184 : decode cX0_comeTo 184 = .ok (.bastore, 1) := by decide +kernel
theorem dX0_comeTo_185 : decode cX0_comeTo 185 = .ok (.return_, 1) := by decide +kernel
theorem dX0_findWanted_0 : decode cX0_findWanted 0 = .ok (.iconst 1, 1) := by decide +kernel
theorem dX0_findWanted_1 : decode cX0_findWanted 1 = .ok (.istore_n 1, 1) := by decide +kernel
theorem dX0_findWanted_2 : decode cX0_findWanted 2 = .ok (.iconst 0, 1) := by decide +kernel
theorem dX0_findWanted_3 : decode cX0_findWanted 3 = .ok (.istore_n 2, 1) := by decide +kernel
theorem dX0_findWanted_4 : decode cX0_findWanted 4 = .ok (.iload_n 2, 1) := by decide +kernel
theorem dX0_findWanted_5 : decode cX0_findWanted 5 = .ok (.ldc 122, 2) := by decide +kernel
theorem dX0_findWanted_7 : decode cX0_findWanted 7 = .ok (.if_icmp .ge 97, 3) := by decide +kernel
theorem dX0_findWanted_10 : decode cX0_findWanted 10 = .ok (.iload_n 1, 1) := by decide +kernel
theorem dX0_findWanted_11 : decode cX0_findWanted 11 = .ok (.ifCond .eq 93, 3) := by decide +kernel
theorem dX0_findWanted_14 : decode cX0_findWanted 14 = .ok (.iconst 0, 1) := by decide +kernel
theorem dX0_findWanted_15 : decode cX0_findWanted 15 = .ok (.istore_n 1, 1) := by decide +kernel
theorem dX0_findWanted_16 : decode cX0_findWanted 16 = .ok (.aload_n 0, 1) := by decide +kernel
theorem dX0_findWanted_17 : decode cX0_findWanted 17 = .ok (.getfield 9, 3) := by decide +kernel
theorem dX0_findWanted_20 : decode cX0_findWanted 20 = .ok (.getfield 97, 3) := by decide +kernel
theorem dX0_findWanted_23 : decode cX0_findWanted 23 = .ok (.iconst 1, 1) := by decide +kernel
theorem dX0_findWanted_24 : decode cX0_findWanted 24 = .ok (.isub, 1) := by decide +kernel
theorem dX0_findWanted_25 : decode cX0_findWanted 25 = .ok (.istore_n 3, 1) := by decide +kernel
theorem dX0_findWanted_26 : decode cX0_findWanted 26 = .ok (.iload_n 3, 1) := by decide +kernel
theorem dX0_findWanted_27 : decode cX0_findWanted 27 = .ok (.ifCond .lt 71, 3) := by decide +kernel
theorem dX0_findWanted_30 : decode cX0_findWanted 30 = .ok (.aload_n 0, 1) := by decide +kernel
theorem dX0_findWanted_31 : decode cX0_findWanted 31 = .ok (.iload_n 3, 1) := by decide +kernel
theorem dX0_findWanted_32 : decode cX0_findWanted 32 = .ok (.invokevirtual 173, 3) := by decide +kernel
theorem dX0_findWanted_35 : decode cX0_findWanted 35 = .ok (.aload_n 0, 1) := by decide +kernel
theorem dX0_findWanted_36 : decode cX0_findWanted 36 = .ok (.getfield 20, 3) := by decide +kernel
theorem dX0_findWanted_39 : decode cX0_findWanted 39 = .ok (.getfield 135, 3) := by decide +kernel
theorem dX0_findWanted_42 : decode cX0_findWanted 42 = .ok (.iload_n 3, 1) := by decide +kernel
theorem dX0_findWanted_43 : decode cX0_findWanted 43 = .ok (.iaload, 1) := by decide +kernel
theorem dX0_findWanted_44 : decode cX0_findWanted 44 = .ok (.iconst (-1), 1) := by decide +kernel
theorem dX0_findWanted_45 : decode cX0_findWanted 45 = .ok (.ixor, 1) := by decide +kernel
theorem dX0_findWanted_46 : decode cX0_findWanted 46 = .ok (.iand, 1) := by decide +kernel
theorem dX0_findWanted_47 : decode cX0_findWanted 47 = .ok (.istore 4, 2) := by decide +kernel
theorem dX0_findWanted_49 : decode cX0_findWanted 49 = .ok (.iload 4, 2) := by decide +kernel
theorem dX0_findWanted_51 : decode cX0_findWanted 51 = .ok (.aload_n 0, 1) := by decide +kernel
theorem dX0_findWanted_52 : decode cX0_findWanted 52 = .ok (.getfield 20, 3) := by decide +kernel
theorem dX0_findWanted_55 : decode cX0_findWanted 55 = .ok (.getfield 176, 3) := by decide +kernel
theorem dX0_findWanted_58 : decode cX0_findWanted 58 = .ok (.iload_n 3, 1) := by decide +kernel
theorem dX0_findWanted_59 : decode cX0_findWanted 59 = .ok (.iaload, 1) := by decide +kernel
theorem dX0_findWanted_60 : decode cX0_findWanted 60 = .ok (.ior, 1) := by decide +kernel
theorem dX0_findWanted_61 : decode cX0_findWanted 61 = .ok (.istore 4, 2) := by decide +kernel
theorem dX0_findWanted_63 : decode cX0_findWanted 63 = .ok (.iload_n 1, 1) := by decide +kernel
theorem dX0_findWanted_64 : decode cX0_findWanted 64 = .ok (.ifCond .ne 14, 3) := by decide +kernel
theorem dX0_findWanted_67 : decode cX0_findWanted 67 = .ok (.iload 4, 2) := by decide +kernel
theorem dX0_findWanted_69 : decode cX0_findWanted 69 = .ok (.aload_n 0, 1) := by decide +kernel
theorem dX0_findWanted_70 : decode cX0_findWanted 70 = .ok (.getfield 65, 3) := by decide +kernel
theorem dX0_findWanted_73 : decode cX0_findWanted 73 = .ok (.iload_n 3, 1) := by decide +kernel
theorem dX0_findWanted_74 : decode cX0_findWanted 74 = .ok (.iaload, 1) := by decide +kernel
theorem dX0_findWanted_75 : decode cX0_findWanted 75 = .ok (.if_icmp .eq 7, 3) := by decide +kernel
theorem dX0_findWanted_78 : decode cX0_findWanted 78 = .ok (.iconst 1, 1) := by decide +kernel
theorem dX0_findWanted_79 : decode cX0_findWanted 79 = .ok (.goto 4, 3) := by decide +kernel
theorem dX0_findWanted_82 : decode cX0_findWanted 82 = .ok (.iconst 0, 1) := by decide +kernel
theorem dX0_findWanted_83 : decode cX0_findWanted 83 = .ok (.istore_n 1, 1) := by decide +kernel
theorem dX0_findWanted_84 : decode cX0_findWanted 84 = .ok (.aload_n 0, 1) := by decide +kernel
theorem dX0_findWanted_85 : decode cX0_findWanted 85 = .ok (.getfield 65, 3) := by decide +kernel
theorem dX0_findWanted_88 : decode cX0_findWanted 88 = .ok (.iload_n 3, 1) := by decide +kernel
theorem dX0_findWanted_89 : decode cX0_findWanted 89 = .ok (.iload 4, 2) := by decide +kernel
theorem dX0_findWanted_91 : decode cX0_findWanted 91 = .ok (.iastore, 1) := by decide +kernel
theorem dX0_findWanted_92 : decode cX0_findWanted 92 = .ok (.iinc 3 (-1), 3) := by decide +kernel
theorem dX0_findWanted_95 : decode cX0_findWanted 95 = .ok (.goto (-69), 3) := by decide +kernel
theorem dX0_findWanted_98 : decode cX0_findWanted 98 = .ok (.iinc 2 1, 3) := by decide +kernel
theorem dX0_findWanted_101 : decode cX0_findWanted 101 = .ok (.goto (-97), 3) := by decide +kernel
theorem dX0_findWanted_104 : decode cX0_findWanted 104 = .ok (.return_, 1) := by decide +kernel
theorem dX0_wantedBehind_0 : decode cX0_wantedBehind 0 = .ok (.aload_n 0, 1) := by decide +kernel
theorem dX0_wantedBehind_1 : decode cX0_wantedBehind 1 = .ok (.aload_n 0, 1) := by decide +kernel
theorem dX0_wantedBehind_2 : decode cX0_wantedBehind 2 = .ok (.getfield 27, 3) := by decide +kernel
theorem dX0_wantedBehind_5 : decode cX0_wantedBehind 5 = .ok (.iload_n 1, 1) := by decide +kernel
theorem dX0_wantedBehind_6 : decode cX0_wantedBehind 6 = .ok (.invokevirtual 141, 3) := by decide +kernel
theorem dX0_wantedBehind_9 : decode cX0_wantedBehind 9 = .ok (.invokevirtual 179, 3) := by decide +kernel
theorem dX0_wantedBehind_12 : decode cX0_wantedBehind 12 = .ok (.aload_n 0, 1) := by decide +kernel
theorem dX0_wantedBehind_13 : decode cX0_wantedBehind 13 = .ok (.aload_n 0, 1) := by decide +kernel
theorem dX0_wantedBehind_14 : decode cX0_wantedBehind 14 = .ok (.getfield 27, 3) := by decide +kernel
theorem dX0_wantedBehind_17 : decode cX0_wantedBehind 17 = .ok (.iload_n 1, 1) := by decide +kernel
theorem dX0_wantedBehind_18 : decode cX0_wantedBehind 18 = .ok (.invokevirtual 149, 3) := by decide +kernel
theorem dX0_wantedBehind_21 : decode cX0_wantedBehind 21 = .ok (.invokevirtual 179, 3) := by decide +kernel
theorem dX0_wantedBehind_24 : decode cX0_wantedBehind 24 = .ok (.ior, 1) := by decide +kernel
theorem dX0_wantedBehind_25 : decode cX0_wantedBehind 25 = .ok (.ireturn, 1) := by decide +kernel
theorem dX0_wantedAt_0 : decode cX0_wantedAt 0 = .ok (.aload_n 0, 1) := by decide +kernel
theorem dX0_wantedAt_1 : decode cX0_wantedAt 1 = .ok (.getfield 9, 3) := by decide +kernel
theorem dX0_wantedAt_4 : decode cX0_wantedAt 4 = .ok (.iload_n 1, 1) := by decide +kernel
theorem dX0_wantedAt_5 : decode cX0_wantedAt 5 = .ok (.invokevirtual 182, 3) := by decide +kernel
theorem dX0_wantedAt_8 : decode cX0_wantedAt 8 = .ok (.ifCond .eq 12, 3) := by decide +kernel
theorem dX0_wantedAt_11 : decode cX0_wantedAt 11 = .ok (.aload_n 0, 1) := by decide +kernel
theorem dX0_wantedAt_12 : decode cX0_wantedAt 12 = .ok (.getfield 65, 3) := by decide +kernel
theorem dX0_wantedAt_15 : decode cX0_wantedAt 15 = .ok (.iload_n 1, 1) := by decide +kernel
theorem dX0_wantedAt_16 : decode cX0_wantedAt 16 = .ok (.iaload, 1) := by decide +kernel
theorem dX0_wantedAt_17 : decode cX0_wantedAt 17 = .ok (.goto 4, 3) := by decide +kernel
theorem dX0_wantedAt_20 : decode cX0_wantedAt 20 = .ok (.iconst 0, 1) := by decide +kernel
theorem dX0_wantedAt_21 : decode cX0_wantedAt 21 = .ok (.ireturn, 1) := by decide +kernel
theorem dX0_findFault_0 : decode cX0_findFault 0 = .ok (.aload_n 0, 1) := by decide +kernel
theorem dX0_findFault_1 : decode cX0_findFault 1 = .ok (.getfield 20, 3) := by decide +kernel
theorem dX0_findFault_4 : decode cX0_findFault 4 = .ok (.getfield 185, 3) := by decide +kernel
theorem dX0_findFault_7 : decode cX0_findFault 7 = .ok (.iload_n 1, 1) := by decide +kernel
theorem dX0_findFault_8 : decode cX0_findFault 8 = .ok (.iaload, 1) := by decide +kernel
theorem dX0_findFault_9 : decode cX0_findFault 9 = .ok (.aload_n 0, 1) := by decide +kernel
theorem dX0_findFault_10 : decode cX0_findFault 10 = .ok (.getfield 56, 3) := by decide +kernel
theorem dX0_findFault_13 : decode cX0_findFault 13 = .ok (.iload_n 1, 1) := by decide +kernel
theorem dX0_findFault_14 : decode cX0_findFault 14 = .ok (.iaload, 1) := by decide +kernel
theorem dX0_findFault_15 : decode cX0_findFault 15 = .ok (.iand, 1) := by decide +kernel
theorem dX0_findFault_16 : decode cX0_findFault 16 = .ok (.istore_n 2, 1) := by decide +kernel
theorem dX0_findFault_17 : decode cX0_findFault 17 = .ok (.iload_n 2, 1) := by decide +kernel
theorem dX0_findFault_18 : decode cX0_findFault 18 = .ok (.ifCond .ne 20, 3) := by decide +kernel
theorem dX0_findFault_21 : decode cX0_findFault 21 = .ok (.aload_n 0, 1) := by decide +kernel
theorem dX0_findFault_22 : decode cX0_findFault 22 = .ok (.getfield 20, 3) := by decide +kernel
theorem dX0_findFault_25 : decode cX0_findFault 25 = .ok (.getfield 188, 3) := by decide +kernel
theorem dX0_findFault_28 : decode cX0_findFault 28 = .ok (.iload_n 1, 1) := by decide +kernel
theorem dX0_findFault_29 : decode cX0_findFault 29 = .ok (.iaload, 1) := by decide +kernel
theorem dX0_findFault_30 : decode cX0_findFault 30 = .ok (.aload_n 0, 1) := by decide +kernel
theorem dX0_findFault_31 : decode cX0_findFault 31 = .ok (.getfield 56, 3) := by decide +kernel
theorem dX0_findFault_34 : decode cX0_findFault 34 = .ok (.iload_n 1, 1) := by decide +kernel
theorem dX0_findFault_35 : decode cX0_findFault 35 = .ok (.iaload, 1) := by decide +kernel
theorem dX0_findFault_36 : decode cX0_findFault 36 = .ok (.iand, 1) := by decide +kernel
theorem dX0_findFault_37 : decode cX0_findFault 37 = .ok (.istore_n 2, 1) := by decide +kernel
theorem dX0_findFault_38 : decode cX0_findFault 38 = .ok (.iload_n 2, 1) := by decide +kernel
theorem dX0_findFault_39 : decode cX0_findFault 39 = .ok (.ifCond .eq 49, 3) := by decide +kernel
theorem dX0_findFault_42 : decode cX0_findFault 42 = .ok (.iload_n 2, 1) := by decide +kernel
theorem dX0_findFault_43 : decode cX0_findFault 43 = .ok (.invokestatic 191, 3) := by decide +kernel
theorem dX0_findFault_46 : decode cX0_findFault 46 = .ok (.istore_n 3, 1) := by decide +kernel
theorem dX0_findFault_47 : decode cX0_findFault 47 = .ok (.aload_n 0, 1) := by decide +kernel
theorem dX0_findFault_48 : decode cX0_findFault 48 = .ok (.getfield 52, 3) := by decide +kernel
theorem dX0_findFault_51 : decode cX0_findFault 51 = .ok (.iload_n 1, 1) := by decide +kernel
theorem dX0_findFault_52 : decode cX0_findFault 52 = .ok (.iaload, 1) := by decide +kernel
theorem dX0_findFault_53 : decode cX0_findFault 53 = .ok (.iconst 1, 1) := by decide +kernel
theorem dX0_findFault_54 : decode cX0_findFault 54 = .ok (.iload_n 3, 1) := by decide +kernel
theorem dX0_findFault_55 : decode cX0_findFault 55 = .ok (.ishl, 1) := by decide +kernel
theorem dX0_findFault_56 : decode cX0_findFault 56 = .ok (.iand, 1) := by decide +kernel
theorem dX0_findFault_57 : decode cX0_findFault 57 = .ok (.ifCond .eq 7, 3) := by decide +kernel
theorem dX0_findFault_60 : decode cX0_findFault 60 = .ok (.iconst 1, 1) := by decide +kernel
theorem dX0_findFault_61 : decode cX0_findFault 61 = .ok (.goto 4, 3) := by decide +kernel
theorem dX0_findFault_64 : decode cX0_findFault 64 = .ok (.iconst 0, 1) := by decide +kernel
theorem dX0_findFault_65 : decode cX0_findFault 65 = .ok (.istore 4, 2) := by decide +kernel
theorem dX0_findFault_67 : decode cX0_findFault 67 = .ok (.aload_n 0, 1) := by decide +kernel
theorem dX0_findFault_68 : decode cX0_findFault 68 = .ok (.getfield 41, 3) := by decide +kernel
theorem dX0_findFault_71 : decode cX0_findFault 71 = .ok (.iload 4, 2) := by decide +kernel
theorem dX0_findFault_73 : decode cX0_findFault 73 = .ok (.ifCond .eq 7, 3) := by decide +kernel
theorem dX0_findFault_76 : decode cX0_findFault 76 = .ok (.iconst 2, 1) := by decide +kernel
theorem dX0_findFault_77 : decode cX0_findFault 77 = .ok (.goto 4, 3) := by decide +kernel
theorem dX0_findFault_80 : decode cX0_findFault 80 = .ok (.iconst 1, 1) := by decide +kernel
theorem dX0_findFault_81 : decode cX0_findFault 81 = .ok (.iload_n 1, 1) := by decide +kernel
theorem dX0_findFault_82 : decode cX0_findFault 82 = .ok (.iload_n 3, 1) := by decide +kernel
theorem dX0_findFault_83 : decode cX0_findFault 83 = .ok (.iconst (-1), 1) := by decide +kernel
theorem dX0_findFault_84 : decode cX0_findFault 84 = .ok (.invokevirtual 87, 3) := by decide +kernel
theorem dX0_findFault_87 : decode cX0_findFault 87 = .ok (.return_, 1) := by decide +kernel
theorem dX0_findFault_88 : decode cX0_findFault 88 = .ok (.aload_n 0, 1) := by decide +kernel
theorem dX0_findFault_89 : decode cX0_findFault 89 = .ok (.iload_n 1, 1) := by decide +kernel
theorem dX0_findFault_90 : decode cX0_findFault 90 = .ok (.invokevirtual 173, 3) := by decide +kernel
theorem dX0_findFault_93 : decode cX0_findFault 93 = .ok (.aload_n 0, 1) := by decide +kernel
theorem dX0_findFault_94 : decode cX0_findFault 94 = .ok (.getfield 20, 3) := by decide +kernel
theorem dX0_findFault_97 : decode cX0_findFault 97 = .ok (.getfield 135, 3) := by decide +kernel
theorem dX0_findFault_100 : decode cX0_findFault 100 = .ok (.iload_n 1, 1) := by decide +kernel
theorem dX0_findFault_101 : decode cX0_findFault 101 = .ok (.iaload, 1) := by decide +kernel
theorem dX0_findFault_102 : decode cX0_findFault 102 = .ok (.iconst (-1), 1) := by decide +kernel
theorem dX0_findFault_103 : decode cX0_findFault 103 = .ok (.ixor, 1) := by decide +kernel
theorem dX0_findFault_104 : decode cX0_findFault 104 = .ok (.iand, 1) := by decide +kernel
theorem dX0_findFault_105 : decode cX0_findFault 105 = .ok (.istore_n 3, 1) := by decide +kernel
theorem dX0_findFault_106 : decode cX0_findFault 106 = .ok (.iconst 0, 1) := by decide +kernel
theorem dX0_findFault_107 : decode cX0_findFault 107 = .ok (.istore 4, 2) := by decide +kernel
theorem dX0_findFault_109 : decode cX0_findFault 109 = .ok (.iload 4, 2) := by decide +kernel
theorem dX0_findFault_111 : decode cX0_findFault 111 = .ok (.iconst 1, 1) := by decide +kernel
theorem dX0_findFault_112 : decode cX0_findFault 112 = .ok (.if_icmp .gt 74, 3) := by decide +kernel
theorem dX0_findFault_115 : decode cX0_findFault 115 = .ok (.aload_n 0, 1) := by decide +kernel
theorem dX0_findFault_116 : decode cX0_findFault 116 = .ok (.getfield 20, 3) := by decide +kernel
theorem dX0_findFault_119 : decode cX0_findFault 119 = .ok (.iload_n 1, 1) := by decide +kernel
theorem dX0_findFault_120 : decode cX0_findFault 120 = .ok (.iload 4, 2) := by decide +kernel
theorem dX0_findFault_122 : decode cX0_findFault 122 = .ok (.invokevirtual 196, 3) := by decide +kernel
theorem dX0_findFault_125 : decode cX0_findFault 125 = .ok (.istore 5, 2) := by decide +kernel
theorem dX0_findFault_127 : decode cX0_findFault 127 = .ok (.aload_n 0, 1) := by decide +kernel
theorem dX0_findFault_128 : decode cX0_findFault 128 = .ok (.getfield 20, 3) := by decide +kernel
theorem dX0_findFault_131 : decode cX0_findFault 131 = .ok (.iload_n 1, 1) := by decide +kernel
theorem dX0_findFault_132 : decode cX0_findFault 132 = .ok (.iload 4, 2) := by decide +kernel
theorem dX0_findFault_134 : decode cX0_findFault 134 = .ok (.invokevirtual 199, 3) := by decide +kernel
theorem dX0_findFault_137 : decode cX0_findFault 137 = .ok (.istore 6, 2) := by decide +kernel
theorem dX0_findFault_139 : decode cX0_findFault 139 = .ok (.aload_n 0, 1) := by decide +kernel
theorem dX0_findFault_140 : decode cX0_findFault 140 = .ok (.iload_n 1, 1) := by decide +kernel
theorem dX0_findFault_141 : decode cX0_findFault 141 = .ok (.iload 5, 2) := by decide +kernel
theorem dX0_findFault_143 : decode cX0_findFault 143 = .ok (.iload_n 3, 1) := by decide +kernel
theorem dX0_findFault_144 : decode cX0_findFault 144 = .ok (.iload 6, 2) := by decide +kernel
theorem dX0_findFault_146 : decode cX0_findFault 146 = .ok (.invokevirtual 203, 3) := by decide +kernel
theorem dX0_findFault_149 : decode cX0_findFault 149 = .ok (.istore 7, 2) := by decide +kernel
theorem dX0_findFault_151 : decode cX0_findFault 151 = .ok (.iload 7, 2) := by decide +kernel
theorem dX0_findFault_153 : decode cX0_findFault 153 = .ok (.iconst (-1), 1) := by decide +kernel
theorem dX0_findFault_154 : decode cX0_findFault 154 = .ok (.if_icmp .eq 26, 3) := by decide +kernel
theorem dX0_findFault_157 : decode cX0_findFault 157 = .ok (.aload_n 0, 1) := by decide +kernel
theorem dX0_findFault_158 : decode cX0_findFault 158 = .ok (.getfield 41, 3) := by decide +kernel
theorem dX0_findFault_161 : decode cX0_findFault 161 = .ok (.iload 6, 2) := by decide +kernel
theorem dX0_findFault_163 : decode cX0_findFault 163 = .ok (.ifCond .eq 7, 3) := by decide +kernel
theorem dX0_findFault_166 : decode cX0_findFault 166 = .ok (.iconst 4, 1) := by decide +kernel
theorem dX0_findFault_167 : decode cX0_findFault 167 = .ok (.goto 4, 3) := by decide +kernel
theorem dX0_findFault_170 : decode cX0_findFault 170 = .ok (.iconst 3, 1) := by decide +kernel
theorem dX0_findFault_171 : decode cX0_findFault 171 = .ok (.iload_n 1, 1) := by decide +kernel
theorem dX0_findFault_172 : decode cX0_findFault 172 = .ok (.iload 5, 2) := by decide +kernel
theorem dX0_findFault_174 : decode cX0_findFault 174 = .ok (.iload 7, 2) := by decide +kernel
theorem dX0_findFault_176 : decode cX0_findFault 176 = .ok (.invokevirtual 87, 3) := by decide +kernel
theorem dX0_findFault_179 : decode cX0_findFault 179 = .ok (.return_, 1) := by decide +kernel
theorem dX0_findFault_180 : decode cX0_findFault 180 = .ok (.iinc 4 1, 3) := by decide +kernel
theorem dX0_findFault_183 : decode cX0_findFault 183 = .ok (.goto (-74), 3) := by decide +kernel
theorem dX0_findFault_186 : decode cX0_findFault 186 = .ok (.return_, 1) := by decide +kernel
theorem dX0_smallestLoan_0 : decode cX0_smallestLoan 0 = .ok (.iload_n 2, 1) := by decide +kernel
theorem dX0_smallestLoan_1 : decode cX0_smallestLoan 1 = .ok (.iconst (-1), 1) := by decide +kernel
theorem dX0_smallestLoan_2 : decode cX0_smallestLoan 2 = .ok (.if_icmp .ne 5, 3) := by decide +kernel
theorem dX0_smallestLoan_5 : decode cX0_smallestLoan 5 = .ok (.iconst (-1), 1) := by decide +kernel
theorem dX0_smallestLoan_6 : decode cX0_smallestLoan 6 = .ok (.ireturn, 1) := by decide +kernel
theorem dX0_smallestLoan_7 : decode cX0_smallestLoan 7 = .ok (.aload_n 0, 1) := by decide +kernel
theorem dX0_smallestLoan_8 : decode cX0_smallestLoan 8 = .ok (.iload_n 1, 1) := by decide +kernel
theorem dX0_smallestLoan_9 : decode cX0_smallestLoan 9 = .ok (.iload_n 3, 1) := by decide +kernel
theorem dX0_smallestLoan_10 : decode cX0_smallestLoan 10 = .ok (.invokevirtual 207, 3) := by decide +kernel
theorem dX0_smallestLoan_13 : decode cX0_smallestLoan 13 = .ok (.istore 5, 2) := by decide +kernel
theorem dX0_smallestLoan_15 : decode cX0_smallestLoan 15 = .ok (.iconst 0, 1) := by decide +kernel
theorem dX0_smallestLoan_16 : decode cX0_smallestLoan 16 = .ok (.istore 6, 2) := by decide +kernel
theorem dX0_smallestLoan_18 : decode cX0_smallestLoan 18 = .ok (.iload 6, 2) := by decide +kernel
theorem dX0_smallestLoan_20 : decode cX0_smallestLoan 20 = .ok (.aload_n 0, 1) := by decide +kernel
theorem dX0_smallestLoan_21 : decode cX0_smallestLoan 21 = .ok (.getfield 34, 3) := by decide +kernel
theorem dX0_smallestLoan_24 : decode cX0_smallestLoan 24 = .ok (.getfield 210, 3) := by decide +kernel
theorem dX0_smallestLoan_27 : decode cX0_smallestLoan 27 = .ok (.if_icmp .ge 67, 3) := by decide +kernel
theorem dX0_smallestLoan_30 : decode cX0_smallestLoan 30 = .ok (.iload 5, 2) := by decide +kernel
theorem dX0_smallestLoan_32 : decode cX0_smallestLoan 32 = .ok (.iconst 1, 1) := by decide +kernel
theorem dX0_smallestLoan_33 : decode cX0_smallestLoan 33 = .ok (.iload 6, 2) := by decide +kernel
theorem dX0_smallestLoan_35 : decode cX0_smallestLoan 35 = .ok (.ishl, 1) := by decide +kernel
theorem dX0_smallestLoan_36 : decode cX0_smallestLoan 36 = .ok (.iand, 1) := by decide +kernel
theorem dX0_smallestLoan_37 : decode cX0_smallestLoan 37 = .ok (.ifCond .eq 23, 3) := by decide +kernel
theorem dX0_smallestLoan_40 : decode cX0_smallestLoan 40 = .ok (.aload_n 0, 1) := by decide +kernel
theorem dX0_smallestLoan_41 : decode cX0_smallestLoan 41 = .ok (.getfield 34, 3) := by decide +kernel
theorem dX0_smallestLoan_44 : decode cX0_smallestLoan 44 = .ok (.iload 6, 2) := by decide +kernel
theorem dX0_smallestLoan_46 : decode cX0_smallestLoan 46 = .ok (.invokevirtual 211, 3) := by decide +kernel
theorem dX0_smallestLoan_49 : decode cX0_smallestLoan 49 = .ok (.iload_n 2, 1) := by decide +kernel
theorem dX0_smallestLoan_50 : decode cX0_smallestLoan 50 = .ok (.invokestatic 214, 3) := by decide +kernel
theorem dX0_smallestLoan_53 : decode cX0_smallestLoan 53 = .ok (.ifCond .eq 7, 3) := by decide +kernel
theorem dX0_smallestLoan_56 : decode cX0_smallestLoan 56 = .ok (.iconst 1, 1) := by decide +kernel
theorem dX0_smallestLoan_57 : decode cX0_smallestLoan 57 = .ok (.goto 4, 3) := by decide +kernel
theorem dX0_smallestLoan_60 : decode cX0_smallestLoan 60 = .ok (.iconst 0, 1) := by decide +kernel
theorem dX0_smallestLoan_61 : decode cX0_smallestLoan 61 = .ok (.istore 7, 2) := by decide +kernel
theorem dX0_smallestLoan_63 : decode cX0_smallestLoan 63 = .ok (.iload 7, 2) := by decide +kernel
theorem dX0_smallestLoan_65 : decode cX0_smallestLoan 65 = .ok (.ifCond .eq 23, 3) := by decide +kernel
theorem dX0_smallestLoan_68 : decode cX0_smallestLoan 68 = .ok (.iload 4, 2) := by decide +kernel
theorem dX0_smallestLoan_70 : decode cX0_smallestLoan 70 = .ok (.ifCond .eq 15, 3) := by decide +kernel
theorem dX0_smallestLoan_73 : decode cX0_smallestLoan 73 = .ok (.aload_n 0, 1) := by decide +kernel
theorem dX0_smallestLoan_74 : decode cX0_smallestLoan 74 = .ok (.getfield 34, 3) := by decide +kernel
theorem dX0_smallestLoan_77 : decode cX0_smallestLoan 77 = .ok (.iload 6, 2) := by decide +kernel
theorem dX0_smallestLoan_79 : decode cX0_smallestLoan 79 = .ok (.invokevirtual 217, 3) := by decide +kernel
theorem dX0_smallestLoan_82 : decode cX0_smallestLoan 82 = .ok (.ifCond .eq 6, 3) := by decide +kernel
theorem dX0_smallestLoan_85 : decode cX0_smallestLoan 85 = .ok (.iload 6, 2) := by decide +kernel
theorem dX0_smallestLoan_87 : decode cX0_smallestLoan 87 = .ok (.ireturn, 1) := by decide +kernel
theorem dX0_smallestLoan_88 : decode cX0_smallestLoan 88 = .ok (.iinc 6 1, 3) := by decide +kernel
theorem dX0_smallestLoan_91 : decode cX0_smallestLoan 91 = .ok (.goto (-73), 3) := by decide +kernel
theorem dX0_smallestLoan_94 : decode cX0_smallestLoan 94 = .ok (.iconst (-1), 1) := by decide +kernel
theorem dX0_smallestLoan_95 : decode cX0_smallestLoan 95 = .ok (.ireturn, 1) := by decide +kernel
theorem dX0_heldByAny_0 : decode cX0_heldByAny 0 = .ok (.iconst 0, 1) := by decide +kernel
theorem dX0_heldByAny_1 : decode cX0_heldByAny 1 = .ok (.istore_n 3, 1) := by decide +kernel
theorem dX0_heldByAny_2 : decode cX0_heldByAny 2 = .ok (.iconst 0, 1) := by decide +kernel
theorem dX0_heldByAny_3 : decode cX0_heldByAny 3 = .ok (.istore 4, 2) := by decide +kernel
theorem dX0_heldByAny_5 : decode cX0_heldByAny 5 = .ok (.iload 4, 2) := by decide +kernel
theorem dX0_heldByAny_7 : decode cX0_heldByAny 7 = .ok (.aload_n 0, 1) := by decide +kernel
theorem dX0_heldByAny_8 : decode cX0_heldByAny 8 = .ok (.getfield 9, 3) := by decide +kernel
theorem dX0_heldByAny_11 : decode cX0_heldByAny 11 = .ok (.getfield 132, 3) := by decide +kernel
theorem dX0_heldByAny_14 : decode cX0_heldByAny 14 = .ok (.if_icmp .ge 28, 3) := by decide +kernel
theorem dX0_heldByAny_17 : decode cX0_heldByAny 17 = .ok (.iload_n 2, 1) := by decide +kernel
theorem dX0_heldByAny_18 : decode cX0_heldByAny 18 = .ok (.iconst 1, 1) := by decide +kernel
theorem dX0_heldByAny_19 : decode cX0_heldByAny 19 = .ok (.iload 4, 2) := by decide +kernel
theorem dX0_heldByAny_21 : decode cX0_heldByAny 21 = .ok (.ishl, 1) := by decide +kernel
theorem dX0_heldByAny_22 : decode cX0_heldByAny 22 = .ok (.iand, 1) := by decide +kernel
theorem dX0_heldByAny_23 : decode cX0_heldByAny 23 = .ok (.ifCond .eq 13, 3) := by decide +kernel
theorem dX0_heldByAny_26 : decode cX0_heldByAny 26 = .ok (.iload_n 3, 1) := by decide +kernel
theorem dX0_heldByAny_27 : decode cX0_heldByAny 27 = .ok (.aload_n 0, 1) := by decide +kernel
theorem dX0_heldByAny_28 : decode cX0_heldByAny 28 = .ok (.iload_n 1, 1) := by decide +kernel
theorem dX0_heldByAny_29 : decode cX0_heldByAny 29 = .ok (.iload 4, 2) := by decide +kernel
theorem dX0_heldByAny_31 : decode cX0_heldByAny 31 = .ok (.invokevirtual 165, 3) := by decide +kernel
theorem dX0_heldByAny_34 : decode cX0_heldByAny 34 = .ok (.ior, 1) := by decide +kernel
theorem dX0_heldByAny_35 : decode cX0_heldByAny 35 = .ok (.istore_n 3, 1) := by decide +kernel
theorem dX0_heldByAny_36 : decode cX0_heldByAny 36 = .ok (.iinc 4 1, 3) := by decide +kernel
theorem dX0_heldByAny_39 : decode cX0_heldByAny 39 = .ok (.goto (-34), 3) := by decide +kernel
theorem dX0_heldByAny_42 : decode cX0_heldByAny 42 = .ok (.iload_n 3, 1) := by decide +kernel
theorem dX0_heldByAny_43 : decode cX0_heldByAny 43 = .ok (.ireturn, 1) := by decide +kernel
theorem dX0_heldBy_0 : decode cX0_heldBy 0 = .ok (.iload_n 1, 1) := by decide +kernel
theorem dX0_heldBy_1 : decode cX0_heldBy 1 = .ok (.ifCond .lt 23, 3) := by decide +kernel
theorem dX0_heldBy_4 : decode cX0_heldBy 4 = .ok (.iload_n 1, 1) := by decide +kernel
theorem dX0_heldBy_5 : decode cX0_heldBy 5 = .ok (.bipush 34, 2) := by decide +kernel
theorem dX0_heldBy_7 : decode cX0_heldBy 7 = .ok (.if_icmp .ge 17, 3) := by decide +kernel
theorem dX0_heldBy_10 : decode cX0_heldBy 10 = .ok (.iload_n 2, 1) := by decide +kernel
theorem dX0_heldBy_11 : decode cX0_heldBy 11 = .ok (.ifCond .lt 13, 3) := by decide +kernel
theorem dX0_heldBy_14 : decode cX0_heldBy 14 = .ok (.iload_n 2, 1) := by decide +kernel
theorem dX0_heldBy_15 : decode cX0_heldBy 15 = .ok (.bipush 8, 2) := by decide +kernel
theorem dX0_heldBy_17 : decode cX0_heldBy 17 = .ok (.if_icmp .ge 7, 3) := by decide +kernel
theorem dX0_heldBy_20 : decode cX0_heldBy 20 = .ok (.iconst 1, 1) := by decide +kernel
theorem dX0_heldBy_21 : decode cX0_heldBy 21 = .ok (.goto 4, 3) := by decide +kernel
theorem dX0_heldBy_24 : decode cX0_heldBy 24 = .ok (.iconst 0, 1) := by decide +kernel
theorem dX0_heldBy_25 : decode cX0_heldBy 25 = .ok (.istore_n 3, 1) := by decide +kernel
theorem dX0_heldBy_26 : decode cX0_heldBy 26 = .ok (.iload_n 3, 1) := by decide +kernel
theorem dX0_heldBy_27 : decode cX0_heldBy 27 = .ok (.ifCond .eq 17, 3) := by decide +kernel
theorem dX0_heldBy_30 : decode cX0_heldBy 30 = .ok (.aload_n 0, 1) := by decide +kernel
theorem dX0_heldBy_31 : decode cX0_heldBy 31 = .ok (.getfield 59, 3) := by decide +kernel
theorem dX0_heldBy_34 : decode cX0_heldBy 34 = .ok (.iload_n 1, 1) := by decide +kernel
theorem dX0_heldBy_35 : decode cX0_heldBy 35 = .ok (.bipush 8, 2) := by decide +kernel
theorem dX0_heldBy_37 : decode cX0_heldBy 37 = .ok (.imul, 1) := by decide +kernel
theorem dX0_heldBy_38 : decode cX0_heldBy 38 = .ok (.iload_n 2, 1) := by decide +kernel
theorem dX0_heldBy_39 : decode cX0_heldBy 39 = .ok (.iadd, 1) := by decide +kernel
theorem dX0_heldBy_40 : decode cX0_heldBy 40 = .ok (.iaload, 1) := by decide +kernel
theorem dX0_heldBy_41 : decode cX0_heldBy 41 = .ok (.goto 4, 3) := by decide +kernel
theorem dX0_heldBy_44 : decode cX0_heldBy 44 = .ok (.iconst 0, 1) := by decide +kernel
theorem dX0_heldBy_45 : decode cX0_heldBy 45 = .ok (.ireturn, 1) := by decide +kernel
theorem dX0_lastUse_0 : decode cX0_lastUse 0 = .ok (.aload_n 0, 1) := by decide +kernel
theorem dX0_lastUse_1 : decode cX0_lastUse 1 = .ok (.getfield 34, 3) := by decide +kernel
theorem dX0_lastUse_4 : decode cX0_lastUse 4 = .ok (.iload_n 1, 1) := by decide +kernel
theorem dX0_lastUse_5 : decode cX0_lastUse 5 = .ok (.invokevirtual 220, 3) := by decide +kernel
theorem dX0_lastUse_8 : decode cX0_lastUse 8 = .ok (.ifCond .ne 5, 3) := by decide +kernel
theorem dX0_lastUse_11 : decode cX0_lastUse 11 = .ok (.iconst (-1), 1) := by decide +kernel
theorem dX0_lastUse_12 : decode cX0_lastUse 12 = .ok (.ireturn, 1) := by decide +kernel
theorem dX0_lastUse_13 : decode cX0_lastUse 13 = .ok (.aload_n 0, 1) := by decide +kernel
theorem dX0_lastUse_14 : decode cX0_lastUse 14 = .ok (.getfield 9, 3) := by decide +kernel
theorem dX0_lastUse_17 : decode cX0_lastUse 17 = .ok (.getfield 97, 3) := by decide +kernel
theorem dX0_lastUse_20 : decode cX0_lastUse 20 = .ok (.iconst 1, 1) := by decide +kernel
theorem dX0_lastUse_21 : decode cX0_lastUse 21 = .ok (.isub, 1) := by decide +kernel
theorem dX0_lastUse_22 : decode cX0_lastUse 22 = .ok (.istore_n 2, 1) := by decide +kernel
theorem dX0_lastUse_23 : decode cX0_lastUse 23 = .ok (.iload_n 2, 1) := by decide +kernel
theorem dX0_lastUse_24 : decode cX0_lastUse 24 = .ok (.ifCond .lt 34, 3) := by decide +kernel
theorem dX0_lastUse_27 : decode cX0_lastUse 27 = .ok (.aload_n 0, 1) := by decide +kernel
theorem dX0_lastUse_28 : decode cX0_lastUse 28 = .ok (.iload_n 2, 1) := by decide +kernel
theorem dX0_lastUse_29 : decode cX0_lastUse 29 = .ok (.aload_n 0, 1) := by decide +kernel
theorem dX0_lastUse_30 : decode cX0_lastUse 30 = .ok (.getfield 20, 3) := by decide +kernel
theorem dX0_lastUse_33 : decode cX0_lastUse 33 = .ok (.getfield 176, 3) := by decide +kernel
theorem dX0_lastUse_36 : decode cX0_lastUse 36 = .ok (.iload_n 2, 1) := by decide +kernel
theorem dX0_lastUse_37 : decode cX0_lastUse 37 = .ok (.iaload, 1) := by decide +kernel
theorem dX0_lastUse_38 : decode cX0_lastUse 38 = .ok (.invokevirtual 207, 3) := by decide +kernel
theorem dX0_lastUse_41 : decode cX0_lastUse 41 = .ok (.istore_n 3, 1) := by decide +kernel
theorem dX0_lastUse_42 : decode cX0_lastUse 42 = .ok (.iload_n 3, 1) := by decide +kernel
theorem dX0_lastUse_43 : decode cX0_lastUse 43 = .ok (.iconst 1, 1) := by decide +kernel
theorem dX0_lastUse_44 : decode cX0_lastUse 44 = .ok (.iload_n 1, 1) := by decide +kernel
theorem dX0_lastUse_45 : decode cX0_lastUse 45 = .ok (.ishl, 1) := by decide +kernel
theorem dX0_lastUse_46 : decode cX0_lastUse 46 = .ok (.iand, 1) := by decide +kernel
theorem dX0_lastUse_47 : decode cX0_lastUse 47 = .ok (.ifCond .eq 5, 3) := by decide +kernel
theorem dX0_lastUse_50 : decode cX0_lastUse 50 = .ok (.iload_n 2, 1) := by decide +kernel
theorem dX0_lastUse_51 : decode cX0_lastUse 51 = .ok (.ireturn, 1) := by decide +kernel
theorem dX0_lastUse_52 : decode cX0_lastUse 52 = .ok (.iinc 2 (-1), 3) := by decide +kernel
theorem dX0_lastUse_55 : decode cX0_lastUse 55 = .ok (.goto (-32), 3) := by decide +kernel
theorem dX0_lastUse_58 : decode cX0_lastUse 58 = .ok (.iconst (-1), 1) := by decide +kernel
theorem dX0_lastUse_59 : decode cX0_lastUse 59 = .ok (.ireturn, 1) := by decide +kernel
theorem dX0_findFlags_0 : decode cX0_findFlags 0 = .ok (.iconst 0, 1) := by decide +kernel
theorem dX0_findFlags_1 : decode cX0_findFlags 1 = .ok (.istore_n 1, 1) := by decide +kernel
theorem dX0_findFlags_2 : decode cX0_findFlags 2 = .ok (.iload_n 1, 1) := by decide +kernel
theorem dX0_findFlags_3 : decode cX0_findFlags 3 = .ok (.aload_n 0, 1) := by decide +kernel
theorem dX0_findFlags_4 : decode cX0_findFlags 4 = .ok (.getfield 9, 3) := by decide +kernel
theorem dX0_findFlags_7 : decode cX0_findFlags 7 = .ok (.getfield 97, 3) := by decide +kernel
theorem dX0_findFlags_10 : decode cX0_findFlags 10 = .ok (.if_icmp .ge 112, 3) := by decide +kernel
theorem dX0_findFlags_13 : decode cX0_findFlags 13 = .ok (.aload_n 0, 1) := by decide +kernel
theorem dX0_findFlags_14 : decode cX0_findFlags 14 = .ok (.getfield 9, 3) := by decide +kernel
theorem dX0_findFlags_17 : decode cX0_findFlags 17 = .ok (.iload_n 1, 1) := by decide +kernel
theorem dX0_findFlags_18 : decode cX0_findFlags 18 = .ok (.invokevirtual 223, 3) := by decide +kernel
theorem dX0_findFlags_21 : decode cX0_findFlags 21 = .ok (.lookupswitch 95 #[(0, 51), (1, 51), (2, 51), (13, 78), (15, 78)], 51) := by decide +kernel
theorem dX0_findFlags_72 : decode cX0_findFlags 72 = .ok (.aload_n 0, 1) := by decide +kernel
theorem dX0_findFlags_73 : decode cX0_findFlags 73 = .ok (.dup, 1) := by decide +kernel
theorem dX0_findFlags_74 : decode cX0_findFlags 74 = .ok (.getfield 68, 3) := by decide +kernel
theorem dX0_findFlags_77 : decode cX0_findFlags 77 = .ok (.aload_n 0, 1) := by decide +kernel
theorem dX0_findFlags_78 : decode cX0_findFlags 78 = .ok (.iload_n 1, 1) := by decide +kernel
theorem dX0_findFlags_79 : decode cX0_findFlags 79 = .ok (.invokevirtual 226, 3) := by decide +kernel
theorem dX0_findFlags_82 : decode cX0_findFlags 82 = .ok (.aload_n 0, 1) := by decide +kernel
theorem dX0_findFlags_83 : decode cX0_findFlags 83 = .ok (.getfield 20, 3) := by decide +kernel
theorem dX0_findFlags_86 : decode cX0_findFlags 86 = .ok (.getfield 126, 3) := by decide +kernel
theorem dX0_findFlags_89 : decode cX0_findFlags 89 = .ok (.iload_n 1, 1) := by decide +kernel
theorem dX0_findFlags_90 : decode cX0_findFlags 90 = .ok (.iaload, 1) := by decide +kernel
theorem dX0_findFlags_91 : decode cX0_findFlags 91 = .ok (.iand, 1) := by decide +kernel
theorem dX0_findFlags_92 : decode cX0_findFlags 92 = .ok (.ior, 1) := by decide +kernel
theorem dX0_findFlags_93 : decode cX0_findFlags 93 = .ok (.putfield 68, 3) := by decide +kernel
theorem dX0_findFlags_96 : decode cX0_findFlags 96 = .ok (.goto 20, 3) := by decide +kernel
theorem dX0_findFlags_99 : decode cX0_findFlags 99 = .ok (.aload_n 0, 1) := by decide +kernel
theorem dX0_findFlags_100 : decode cX0_findFlags 100 = .ok (.dup, 1) := by decide +kernel
theorem dX0_findFlags_101 : decode cX0_findFlags 101 = .ok (.getfield 68, 3) := by decide +kernel
theorem dX0_findFlags_104 : decode cX0_findFlags 104 = .ok (.aload_n 0, 1) := by decide +kernel
theorem dX0_findFlags_105 : decode cX0_findFlags 105 = .ok (.iload_n 1, 1) := by decide +kernel
theorem dX0_findFlags_106 : decode cX0_findFlags 106 = .ok (.invokevirtual 226, 3) := by decide +kernel
theorem dX0_findFlags_109 : decode cX0_findFlags 109 = .ok (.ior, 1) := by decide +kernel
theorem dX0_findFlags_110 : decode cX0_findFlags 110 = .ok (.putfield 68, 3) := by decide +kernel
theorem dX0_findFlags_113 : decode cX0_findFlags 113 = .ok (.goto 3, 3) := by decide +kernel
theorem dX0_findFlags_116 : decode cX0_findFlags 116 = .ok (.iinc 1 1, 3) := by decide +kernel
theorem dX0_findFlags_119 : decode cX0_findFlags 119 = .ok (.goto (-117), 3) := by decide +kernel
theorem dX0_findFlags_122 : decode cX0_findFlags 122 = .ok (.aload_n 0, 1) := by decide +kernel
theorem dX0_findFlags_123 : decode cX0_findFlags 123 = .ok (.dup, 1) := by decide +kernel
theorem dX0_findFlags_124 : decode cX0_findFlags 124 = .ok (.getfield 68, 3) := by decide +kernel
theorem dX0_findFlags_127 : decode cX0_findFlags 127 = .ok (.aload_n 0, 1) := by decide +kernel
theorem dX0_findFlags_128 : decode cX0_findFlags 128 = .ok (.aload_n 0, 1) := by decide +kernel
theorem dX0_findFlags_129 : decode cX0_findFlags 129 = .ok (.getfield 9, 3) := by decide +kernel
theorem dX0_findFlags_132 : decode cX0_findFlags 132 = .ok (.getfield 97, 3) := by decide +kernel
theorem dX0_findFlags_135 : decode cX0_findFlags 135 = .ok (.invokevirtual 226, 3) := by decide +kernel
theorem dX0_findFlags_138 : decode cX0_findFlags 138 = .ok (.ior, 1) := by decide +kernel
theorem dX0_findFlags_139 : decode cX0_findFlags 139 = .ok (.putfield 68, 3) := by decide +kernel
theorem dX0_findFlags_142 : decode cX0_findFlags 142 = .ok (.aload_n 0, 1) := by decide +kernel
theorem dX0_findFlags_143 : decode cX0_findFlags 143 = .ok (.dup, 1) := by decide +kernel
theorem dX0_findFlags_144 : decode cX0_findFlags 144 = .ok (.getfield 68, 3) := by decide +kernel
theorem dX0_findFlags_147 : decode cX0_findFlags 147 = .ok (.aload_n 0, 1) := by decide +kernel
theorem dX0_findFlags_148 : decode cX0_findFlags 148 = .ok (.getfield 9, 3) := by decide +kernel
theorem dX0_findFlags_151 : decode cX0_findFlags 151 = .ok (.invokevirtual 229, 3) := by decide +kernel
theorem dX0_findFlags_154 : decode cX0_findFlags 154 = .ok (.iand, 1) := by decide +kernel
theorem dX0_findFlags_155 : decode cX0_findFlags 155 = .ok (.putfield 68, 3) := by decide +kernel
theorem dX0_findFlags_158 : decode cX0_findFlags 158 = .ok (.return_, 1) := by decide +kernel
theorem dX0_unsureAt_0 : decode cX0_unsureAt 0 = .ok (.aload_n 0, 1) := by decide +kernel
theorem dX0_unsureAt_1 : decode cX0_unsureAt 1 = .ok (.getfield 9, 3) := by decide +kernel
theorem dX0_unsureAt_4 : decode cX0_unsureAt 4 = .ok (.iload_n 1, 1) := by decide +kernel
theorem dX0_unsureAt_5 : decode cX0_unsureAt 5 = .ok (.invokevirtual 169, 3) := by decide +kernel
theorem dX0_unsureAt_8 : decode cX0_unsureAt 8 = .ok (.ifCond .eq 19, 3) := by decide +kernel
theorem dX0_unsureAt_11 : decode cX0_unsureAt 11 = .ok (.aload_n 0, 1) := by decide +kernel
theorem dX0_unsureAt_12 : decode cX0_unsureAt 12 = .ok (.getfield 52, 3) := by decide +kernel
theorem dX0_unsureAt_15 : decode cX0_unsureAt 15 = .ok (.iload_n 1, 1) := by decide +kernel
theorem dX0_unsureAt_16 : decode cX0_unsureAt 16 = .ok (.iaload, 1) := by decide +kernel
theorem dX0_unsureAt_17 : decode cX0_unsureAt 17 = .ok (.aload_n 0, 1) := by decide +kernel
theorem dX0_unsureAt_18 : decode cX0_unsureAt 18 = .ok (.getfield 56, 3) := by decide +kernel
theorem dX0_unsureAt_21 : decode cX0_unsureAt 21 = .ok (.iload_n 1, 1) := by decide +kernel
theorem dX0_unsureAt_22 : decode cX0_unsureAt 22 = .ok (.iaload, 1) := by decide +kernel
theorem dX0_unsureAt_23 : decode cX0_unsureAt 23 = .ok (.iand, 1) := by decide +kernel
theorem dX0_unsureAt_24 : decode cX0_unsureAt 24 = .ok (.goto 4, 3) := by decide +kernel
theorem dX0_unsureAt_27 : decode cX0_unsureAt 27 = .ok (.iconst 0, 1) := by decide +kernel
theorem dX0_unsureAt_28 : decode cX0_unsureAt 28 = .ok (.ireturn, 1) := by decide +kernel
theorem dX0_isDead_0 : decode cX0_isDead 0 = .ok (.aload_n 0, 1) := by decide +kernel
theorem dX0_isDead_1 : decode cX0_isDead 1 = .ok (.getfield 27, 3) := by decide +kernel
theorem dX0_isDead_4 : decode cX0_isDead 4 = .ok (.invokevirtual 80, 3) := by decide +kernel
theorem dX0_isDead_7 : decode cX0_isDead 7 = .ok (.ifCond .eq 27, 3) := by decide +kernel
theorem dX0_isDead_10 : decode cX0_isDead 10 = .ok (.aload_n 0, 1) := by decide +kernel
theorem dX0_isDead_11 : decode cX0_isDead 11 = .ok (.getfield 9, 3) := by decide +kernel
theorem dX0_isDead_14 : decode cX0_isDead 14 = .ok (.iload_n 1, 1) := by decide +kernel
theorem dX0_isDead_15 : decode cX0_isDead 15 = .ok (.invokevirtual 182, 3) := by decide +kernel
theorem dX0_isDead_18 : decode cX0_isDead 18 = .ok (.ifCond .eq 16, 3) := by decide +kernel
theorem dX0_isDead_21 : decode cX0_isDead 21 = .ok (.aload_n 0, 1) := by decide +kernel
theorem dX0_isDead_22 : decode cX0_isDead 22 = .ok (.getfield 45, 3) := by decide +kernel
theorem dX0_isDead_25 : decode cX0_isDead 25 = .ok (.iload_n 1, 1) := by decide +kernel
theorem dX0_isDead_26 : decode cX0_isDead 26 = .ok (.baload, 1) := by decide +kernel
theorem dX0_isDead_27 : decode cX0_isDead 27 = .ok (.ifCond .ne 7, 3) := by decide +kernel
theorem dX0_isDead_30 : decode cX0_isDead 30 = .ok (.iconst 1, 1) := by decide +kernel
theorem dX0_isDead_31 : decode cX0_isDead 31 = .ok (.goto 4, 3) := by decide +kernel
theorem dX0_isDead_34 : decode cX0_isDead 34 = .ok (.iconst 0, 1) := by decide +kernel
theorem dX0_isDead_35 : decode cX0_isDead 35 = .ok (.ireturn, 1) := by decide +kernel
theorem dX0_stateAt_0 : decode cX0_stateAt 0 = .ok (.aload_n 0, 1) := by decide +kernel
theorem dX0_stateAt_1 : decode cX0_stateAt 1 = .ok (.getfield 9, 3) := by decide +kernel
theorem dX0_stateAt_4 : decode cX0_stateAt 4 = .ok (.iload_n 1, 1) := by decide +kernel
theorem dX0_stateAt_5 : decode cX0_stateAt 5 = .ok (.invokevirtual 169, 3) := by decide +kernel
theorem dX0_stateAt_8 : decode cX0_stateAt 8 = .ok (.ifCond .eq 12, 3) := by decide +kernel
theorem dX0_stateAt_11 : decode cX0_stateAt 11 = .ok (.aload_n 0, 1) := by decide +kernel
theorem dX0_stateAt_12 : decode cX0_stateAt 12 = .ok (.getfield 45, 3) := by decide +kernel
theorem dX0_stateAt_15 : decode cX0_stateAt 15 = .ok (.iload_n 1, 1) := by decide +kernel
theorem dX0_stateAt_16 : decode cX0_stateAt 16 = .ok (.baload, 1) := by decide +kernel
theorem dX0_stateAt_17 : decode cX0_stateAt 17 = .ok (.ifCond .ne 5, 3) := by decide +kernel
theorem dX0_stateAt_20 : decode cX0_stateAt 20 = .ok (.iconst 0, 1) := by decide +kernel
theorem dX0_stateAt_21 : decode cX0_stateAt 21 = .ok (.ireturn, 1) := by decide +kernel
theorem dX0_stateAt_22 : decode cX0_stateAt 22 = .ok (.aload_n 0, 1) := by decide +kernel
theorem dX0_stateAt_23 : decode cX0_stateAt 23 = .ok (.getfield 9, 3) := by decide +kernel
theorem dX0_stateAt_26 : decode cX0_stateAt 26 = .ok (.iload_n 2, 1) := by decide +kernel
theorem dX0_stateAt_27 : decode cX0_stateAt 27 = .ok (.invokevirtual 232, 3) := by decide +kernel
theorem dX0_stateAt_30 : decode cX0_stateAt 30 = .ok (.istore_n 3, 1) := by decide +kernel
theorem dX0_stateAt_31 : decode cX0_stateAt 31 = .ok (.aload_n 0, 1) := by decide +kernel
theorem dX0_stateAt_32 : decode cX0_stateAt 32 = .ok (.getfield 52, 3) := by decide +kernel
theorem dX0_stateAt_35 : decode cX0_stateAt 35 = .ok (.iload_n 1, 1) := by decide +kernel
theorem dX0_stateAt_36 : decode cX0_stateAt 36 = .ok (.iaload, 1) := by decide +kernel
theorem dX0_stateAt_37 : decode cX0_stateAt 37 = .ok (.iload_n 3, 1) := by decide +kernel
theorem dX0_stateAt_38 : decode cX0_stateAt 38 = .ok (.iand, 1) := by decide +kernel
theorem dX0_stateAt_39 : decode cX0_stateAt 39 = .ok (.iload_n 3, 1) := by decide +kernel
theorem dX0_stateAt_40 : decode cX0_stateAt 40 = .ok (.if_icmp .eq 5, 3) := by decide +kernel
theorem dX0_stateAt_43 : decode cX0_stateAt 43 = .ok (.iconst 2, 1) := by decide +kernel
theorem dX0_stateAt_44 : decode cX0_stateAt 44 = .ok (.ireturn, 1) := by decide +kernel
theorem dX0_stateAt_45 : decode cX0_stateAt 45 = .ok (.aload_n 0, 1) := by decide +kernel
theorem dX0_stateAt_46 : decode cX0_stateAt 46 = .ok (.getfield 56, 3) := by decide +kernel
theorem dX0_stateAt_49 : decode cX0_stateAt 49 = .ok (.iload_n 1, 1) := by decide +kernel
theorem dX0_stateAt_50 : decode cX0_stateAt 50 = .ok (.iaload, 1) := by decide +kernel
theorem dX0_stateAt_51 : decode cX0_stateAt 51 = .ok (.iload_n 3, 1) := by decide +kernel
theorem dX0_stateAt_52 : decode cX0_stateAt 52 = .ok (.iand, 1) := by decide +kernel
theorem dX0_stateAt_53 : decode cX0_stateAt 53 = .ok (.ifCond .ne 7, 3) := by decide +kernel
theorem dX0_stateAt_56 : decode cX0_stateAt 56 = .ok (.iconst 1, 1) := by decide +kernel
theorem dX0_stateAt_57 : decode cX0_stateAt 57 = .ok (.goto 4, 3) := by decide +kernel
theorem dX0_stateAt_60 : decode cX0_stateAt 60 = .ok (.iconst 3, 1) := by decide +kernel
theorem dX0_stateAt_61 : decode cX0_stateAt 61 = .ok (.ireturn, 1) := by decide +kernel
theorem dX0_flagsOf_0 : decode cX0_flagsOf 0 = .ok (.iconst 3, 1) := by decide +kernel
theorem dX0_flagsOf_1 : decode cX0_flagsOf 1 = .ok (.iload_n 1, 1) := by decide +kernel
theorem dX0_flagsOf_2 : decode cX0_flagsOf 2 = .ok (.imul, 1) := by decide +kernel
theorem dX0_flagsOf_3 : decode cX0_flagsOf 3 = .ok (.istore_n 2, 1) := by decide +kernel
theorem dX0_flagsOf_4 : decode cX0_flagsOf 4 = .ok (.aload_n 0, 1) := by decide +kernel
theorem dX0_flagsOf_5 : decode cX0_flagsOf 5 = .ok (.getfield 68, 3) := by decide +kernel
theorem dX0_flagsOf_8 : decode cX0_flagsOf 8 = .ok (.aload_n 0, 1) := by decide +kernel
theorem dX0_flagsOf_9 : decode cX0_flagsOf 9 = .ok (.getfield 9, 3) := by decide +kernel
theorem dX0_flagsOf_12 : decode cX0_flagsOf 12 = .ok (.iload_n 2, 1) := by decide +kernel
theorem dX0_flagsOf_13 : decode cX0_flagsOf 13 = .ok (.invokevirtual 232, 3) := by decide +kernel
theorem dX0_flagsOf_16 : decode cX0_flagsOf 16 = .ok (.iand, 1) := by decide +kernel
theorem dX0_flagsOf_17 : decode cX0_flagsOf 17 = .ok (.istore_n 3, 1) := by decide +kernel
theorem dX0_flagsOf_18 : decode cX0_flagsOf 18 = .ok (.aload_n 0, 1) := by decide +kernel
theorem dX0_flagsOf_19 : decode cX0_flagsOf 19 = .ok (.getfield 9, 3) := by decide +kernel
theorem dX0_flagsOf_22 : decode cX0_flagsOf 22 = .ok (.iload_n 2, 1) := by decide +kernel
theorem dX0_flagsOf_23 : decode cX0_flagsOf 23 = .ok (.invokevirtual 235, 3) := by decide +kernel
theorem dX0_flagsOf_26 : decode cX0_flagsOf 26 = .ok (.iconst 2, 1) := by decide +kernel
theorem dX0_flagsOf_27 : decode cX0_flagsOf 27 = .ok (.if_icmp .ne 11, 3) := by decide +kernel
theorem dX0_flagsOf_30 : decode cX0_flagsOf 30 = .ok (.iload_n 3, 1) := by decide +kernel
theorem dX0_flagsOf_31 : decode cX0_flagsOf 31 = .ok (.iload_n 2, 1) := by decide +kernel
theorem dX0_flagsOf_32 : decode cX0_flagsOf 32 = .ok (.iconst 1, 1) := by decide +kernel
theorem dX0_flagsOf_33 : decode cX0_flagsOf 33 = .ok (.iadd, 1) := by decide +kernel
theorem dX0_flagsOf_34 : decode cX0_flagsOf 34 = .ok (.iushr, 1) := by decide +kernel
theorem dX0_flagsOf_35 : decode cX0_flagsOf 35 = .ok (.goto 6, 3) := by decide +kernel
theorem dX0_flagsOf_38 : decode cX0_flagsOf 38 = .ok (.iload_n 3, 1) := by decide +kernel
theorem dX0_flagsOf_39 : decode cX0_flagsOf 39 = .ok (.iload_n 2, 1) := by decide +kernel
theorem dX0_flagsOf_40 : decode cX0_flagsOf 40 = .ok (.iushr, 1) := by decide +kernel
theorem dX0_flagsOf_41 : decode cX0_flagsOf 41 = .ok (.ireturn, 1) := by decide +kernel
theorem dX0_countDead_0 : decode cX0_countDead 0 = .ok (.iconst 0, 1) := by decide +kernel
theorem dX0_countDead_1 : decode cX0_countDead 1 = .ok (.istore_n 1, 1) := by decide +kernel
theorem dX0_countDead_2 : decode cX0_countDead 2 = .ok (.iconst 0, 1) := by decide +kernel
theorem dX0_countDead_3 : decode cX0_countDead 3 = .ok (.istore_n 2, 1) := by decide +kernel
theorem dX0_countDead_4 : decode cX0_countDead 4 = .ok (.iload_n 2, 1) := by decide +kernel
theorem dX0_countDead_5 : decode cX0_countDead 5 = .ok (.aload_n 0, 1) := by decide +kernel
theorem dX0_countDead_6 : decode cX0_countDead 6 = .ok (.getfield 9, 3) := by decide +kernel
theorem dX0_countDead_9 : decode cX0_countDead 9 = .ok (.getfield 97, 3) := by decide +kernel
theorem dX0_countDead_12 : decode cX0_countDead 12 = .ok (.if_icmp .ge 20, 3) := by decide +kernel
theorem dX0_countDead_15 : decode cX0_countDead 15 = .ok (.aload_n 0, 1) := by decide +kernel
theorem dX0_countDead_16 : decode cX0_countDead 16 = .ok (.iload_n 2, 1) := by decide +kernel
theorem dX0_countDead_17 : decode cX0_countDead 17 = .ok (.invokevirtual 238, 3) := by decide +kernel
theorem dX0_countDead_20 : decode cX0_countDead 20 = .ok (.ifCond .eq 6, 3) := by decide +kernel
theorem dX0_countDead_23 : decode cX0_countDead 23 = .ok (.iinc 1 1, 3) := by decide +kernel
theorem dX0_countDead_26 : decode cX0_countDead 26 = .ok (.iinc 2 1, 3) := by decide +kernel
theorem dX0_countDead_29 : decode cX0_countDead 29 = .ok (.goto (-25), 3) := by decide +kernel
theorem dX0_countDead_32 : decode cX0_countDead 32 = .ok (.iload_n 1, 1) := by decide +kernel
theorem dX0_countDead_33 : decode cX0_countDead 33 = .ok (.ireturn, 1) := by decide +kernel
theorem dX0_mostWanted_0 : decode cX0_mostWanted 0 = .ok (.iconst 0, 1) := by decide +kernel
theorem dX0_mostWanted_1 : decode cX0_mostWanted 1 = .ok (.istore_n 1, 1) := by decide +kernel
theorem dX0_mostWanted_2 : decode cX0_mostWanted 2 = .ok (.iconst 0, 1) := by decide +kernel
theorem dX0_mostWanted_3 : decode cX0_mostWanted 3 = .ok (.istore_n 2, 1) := by decide +kernel
theorem dX0_mostWanted_4 : decode cX0_mostWanted 4 = .ok (.iload_n 2, 1) := by decide +kernel
theorem dX0_mostWanted_5 : decode cX0_mostWanted 5 = .ok (.aload_n 0, 1) := by decide +kernel
theorem dX0_mostWanted_6 : decode cX0_mostWanted 6 = .ok (.getfield 9, 3) := by decide +kernel
theorem dX0_mostWanted_9 : decode cX0_mostWanted 9 = .ok (.getfield 97, 3) := by decide +kernel
theorem dX0_mostWanted_12 : decode cX0_mostWanted 12 = .ok (.if_icmp .ge 23, 3) := by decide +kernel
theorem dX0_mostWanted_15 : decode cX0_mostWanted 15 = .ok (.iload_n 1, 1) := by decide +kernel
theorem dX0_mostWanted_16 : decode cX0_mostWanted 16 = .ok (.aload_n 0, 1) := by decide +kernel
theorem dX0_mostWanted_17 : decode cX0_mostWanted 17 = .ok (.getfield 65, 3) := by decide +kernel
theorem dX0_mostWanted_20 : decode cX0_mostWanted 20 = .ok (.iload_n 2, 1) := by decide +kernel
theorem dX0_mostWanted_21 : decode cX0_mostWanted 21 = .ok (.iaload, 1) := by decide +kernel
theorem dX0_mostWanted_22 : decode cX0_mostWanted 22 = .ok (.invokestatic 241, 3) := by decide +kernel
theorem dX0_mostWanted_25 : decode cX0_mostWanted 25 = .ok (.invokestatic 244, 3) := by decide +kernel
theorem dX0_mostWanted_28 : decode cX0_mostWanted 28 = .ok (.istore_n 1, 1) := by decide +kernel
theorem dX0_mostWanted_29 : decode cX0_mostWanted 29 = .ok (.iinc 2 1, 3) := by decide +kernel
theorem dX0_mostWanted_32 : decode cX0_mostWanted 32 = .ok (.goto (-28), 3) := by decide +kernel
theorem dX0_mostWanted_35 : decode cX0_mostWanted 35 = .ok (.iload_n 1, 1) := by decide +kernel
theorem dX0_mostWanted_36 : decode cX0_mostWanted 36 = .ok (.ireturn, 1) := by decide +kernel
theorem dX1_init_0 : decode cX1_init 0 = .ok (.aload_n 0, 1) := by decide +kernel
theorem dX1_init_1 : decode cX1_init 1 = .ok (.invokespecial 3, 3) := by decide +kernel
theorem dX1_init_4 : decode cX1_init 4 = .ok (.aload_n 0, 1) := by decide +kernel
theorem dX1_init_5 : decode cX1_init 5 = .ok (.aload_n 1, 1) := by decide +kernel
theorem dX1_init_6 : decode cX1_init 6 = .ok (.putfield 9, 3) := by decide +kernel
theorem dX1_init_9 : decode cX1_init 9 = .ok (.aload_n 0, 1) := by decide +kernel
theorem dX1_init_10 : decode cX1_init 10 = .ok (.bipush 34, 2) := by decide +kernel
theorem dX1_init_12 : decode cX1_init 12 = .ok (.newarray .int, 2) := by decide +kernel
theorem dX1_init_14 : decode cX1_init 14 = .ok (.putfield 15, 3) := by decide +kernel
theorem dX1_init_17 : decode cX1_init 17 = .ok (.aload_n 0, 1) := by decide +kernel
theorem dX1_init_18 : decode cX1_init 18 = .ok (.bipush 34, 2) := by decide +kernel
theorem dX1_init_20 : decode cX1_init 20 = .ok (.newarray .int, 2) := by decide +kernel
theorem dX1_init_22 : decode cX1_init 22 = .ok (.putfield 19, 3) := by decide +kernel
theorem dX1_init_25 : decode cX1_init 25 = .ok (.aload_n 0, 1) := by decide +kernel
theorem dX1_init_26 : decode cX1_init 26 = .ok (.bipush 34, 2) := by decide +kernel
theorem dX1_init_28 : decode cX1_init 28 = .ok (.newarray .int, 2) := by decide +kernel
theorem dX1_init_30 : decode cX1_init 30 = .ok (.putfield 22, 3) := by decide +kernel
theorem dX1_init_33 : decode cX1_init 33 = .ok (.aload_n 0, 1) := by decide +kernel
theorem dX1_init_34 : decode cX1_init 34 = .ok (.bipush 34, 2) := by decide +kernel
theorem dX1_init_36 : decode cX1_init 36 = .ok (.newarray .int, 2) := by decide +kernel
theorem dX1_init_38 : decode cX1_init 38 = .ok (.putfield 25, 3) := by decide +kernel
theorem dX1_init_41 : decode cX1_init 41 = .ok (.aload_n 0, 1) := by decide +kernel
theorem dX1_init_42 : decode cX1_init 42 = .ok (.bipush 34, 2) := by decide +kernel
theorem dX1_init_44 : decode cX1_init 44 = .ok (.newarray .int, 2) := by decide +kernel
theorem dX1_init_46 : decode cX1_init 46 = .ok (.putfield 28, 3) := by decide +kernel
theorem dX1_init_49 : decode cX1_init 49 = .ok (.aload_n 0, 1) := by decide +kernel
theorem dX1_init_50 : decode cX1_init 50 = .ok (.bipush 34, 2) := by decide +kernel
theorem dX1_init_52 : decode cX1_init 52 = .ok (.newarray .int, 2) := by decide +kernel
theorem dX1_init_54 : decode cX1_init 54 = .ok (.putfield 31, 3) := by decide +kernel
theorem dX1_init_57 : decode cX1_init 57 = .ok (.aload_n 0, 1) := by decide +kernel
theorem dX1_init_58 : decode cX1_init 58 = .ok (.bipush 34, 2) := by decide +kernel
theorem dX1_init_60 : decode cX1_init 60 = .ok (.newarray .int, 2) := by decide +kernel
theorem dX1_init_62 : decode cX1_init 62 = .ok (.putfield 34, 3) := by decide +kernel
theorem dX1_init_65 : decode cX1_init 65 = .ok (.aload_n 0, 1) := by decide +kernel
theorem dX1_init_66 : decode cX1_init 66 = .ok (.bipush 34, 2) := by decide +kernel
theorem dX1_init_68 : decode cX1_init 68 = .ok (.newarray .int, 2) := by decide +kernel
theorem dX1_init_70 : decode cX1_init 70 = .ok (.putfield 37, 3) := by decide +kernel
theorem dX1_init_73 : decode cX1_init 73 = .ok (.aload_n 0, 1) := by decide +kernel
theorem dX1_init_74 : decode cX1_init 74 = .ok (.bipush 34, 2) := by decide +kernel
theorem dX1_init_76 : decode cX1_init 76 = .ok (.newarray .int, 2) := by decide +kernel
theorem dX1_init_78 : decode cX1_init 78 = .ok (.putfield 40, 3) := by decide +kernel
theorem dX1_init_81 : decode cX1_init 81 = .ok (.return_, 1) := by decide +kernel
theorem dX1_look_0 : decode cX1_look 0 = .ok (.iconst 0, 1) := by decide +kernel
theorem dX1_look_1 : decode cX1_look 1 = .ok (.istore_n 1, 1) := by decide +kernel
theorem dX1_look_2 : decode cX1_look 2 = .ok (.iload_n 1, 1) := by decide +kernel
theorem dX1_look_3 : decode cX1_look 3 = .ok (.aload_n 0, 1) := by decide +kernel
theorem dX1_look_4 : decode cX1_look 4 = .ok (.getfield 9, 3) := by decide +kernel
theorem dX1_look_7 : decode cX1_look 7 = .ok (.getfield 43, 3) := by decide +kernel
theorem dX1_look_10 : decode cX1_look 10 = .ok (.if_icmp .ge 169, 3) := by decide +kernel
theorem dX1_look_13 : decode cX1_look 13 = .ok (.aload_n 0, 1) := by decide +kernel
theorem dX1_look_14 : decode cX1_look 14 = .ok (.getfield 15, 3) := by decide +kernel
theorem dX1_look_17 : decode cX1_look 17 = .ok (.iload_n 1, 1) := by decide +kernel
theorem dX1_look_18 : decode cX1_look 18 = .ok (.aload_n 0, 1) := by decide +kernel
theorem dX1_look_19 : decode cX1_look 19 = .ok (.iload_n 1, 1) := by decide +kernel
theorem dX1_look_20 : decode cX1_look 20 = .ok (.invokevirtual 49, 3) := by decide +kernel
theorem dX1_look_23 : decode cX1_look 23 = .ok (.iastore, 1) := by decide +kernel
theorem dX1_look_24 : decode cX1_look 24 = .ok (.aload_n 0, 1) := by decide +kernel
theorem dX1_look_25 : decode cX1_look 25 = .ok (.getfield 19, 3) := by decide +kernel
theorem dX1_look_28 : decode cX1_look 28 = .ok (.iload_n 1, 1) := by decide +kernel
theorem dX1_look_29 : decode cX1_look 29 = .ok (.aload_n 0, 1) := by decide +kernel
theorem dX1_look_30 : decode cX1_look 30 = .ok (.getfield 9, 3) := by decide +kernel
theorem dX1_look_33 : decode cX1_look 33 = .ok (.iload_n 1, 1) := by decide +kernel
theorem dX1_look_34 : decode cX1_look 34 = .ok (.invokevirtual 53, 3) := by decide +kernel
theorem dX1_look_37 : decode cX1_look 37 = .ok (.bipush 12, 2) := by decide +kernel
theorem dX1_look_39 : decode cX1_look 39 = .ok (.if_icmp .ne 14, 3) := by decide +kernel
theorem dX1_look_42 : decode cX1_look 42 = .ok (.aload_n 0, 1) := by decide +kernel
theorem dX1_look_43 : decode cX1_look 43 = .ok (.getfield 9, 3) := by decide +kernel
theorem dX1_look_46 : decode cX1_look 46 = .ok (.iload_n 1, 1) := by decide +kernel
theorem dX1_look_47 : decode cX1_look 47 = .ok (.invokevirtual 56, 3) := by decide +kernel
theorem dX1_look_50 : decode cX1_look 50 = .ok (.goto 4, 3) := by decide +kernel
theorem dX1_look_53 : decode cX1_look 53 = .ok (.iconst (-1), 1) := by decide +kernel
theorem dX1_look_54 : decode cX1_look 54 = .ok (.iastore, 1) := by decide +kernel
theorem dX1_look_55 : decode cX1_look 55 = .ok (.aload_n 0, 1) := by decide +kernel
theorem dX1_look_56 : decode cX1_look 56 = .ok (.getfield 22, 3) := by decide +kernel
theorem dX1_look_59 : decode cX1_look 59 = .ok (.iload_n 1, 1) := by decide +kernel
theorem dX1_look_60 : decode cX1_look 60 = .ok (.aload_n 0, 1) := by decide +kernel
theorem dX1_look_61 : decode cX1_look 61 = .ok (.iload_n 1, 1) := by decide +kernel
theorem dX1_look_62 : decode cX1_look 62 = .ok (.invokevirtual 59, 3) := by decide +kernel
theorem dX1_look_65 : decode cX1_look 65 = .ok (.iastore, 1) := by decide +kernel
theorem dX1_look_66 : decode cX1_look 66 = .ok (.aload_n 0, 1) := by decide +kernel
theorem dX1_look_67 : decode cX1_look 67 = .ok (.getfield 25, 3) := by decide +kernel
theorem dX1_look_70 : decode cX1_look 70 = .ok (.iload_n 1, 1) := by decide +kernel
theorem dX1_look_71 : decode cX1_look 71 = .ok (.aload_n 0, 1) := by decide +kernel
theorem dX1_look_72 : decode cX1_look 72 = .ok (.getfield 9, 3) := by decide +kernel
theorem dX1_look_75 : decode cX1_look 75 = .ok (.aload_n 0, 1) := by decide +kernel
theorem dX1_look_76 : decode cX1_look 76 = .ok (.getfield 15, 3) := by decide +kernel
theorem dX1_look_79 : decode cX1_look 79 = .ok (.iload_n 1, 1) := by decide +kernel
theorem dX1_look_80 : decode cX1_look 80 = .ok (.iaload, 1) := by decide +kernel
theorem dX1_look_81 : decode cX1_look 81 = .ok (.invokevirtual 62, 3) := by decide +kernel
theorem dX1_look_84 : decode cX1_look 84 = .ok (.iastore, 1) := by decide +kernel
theorem dX1_look_85 : decode cX1_look 85 = .ok (.aload_n 0, 1) := by decide +kernel
theorem dX1_look_86 : decode cX1_look 86 = .ok (.getfield 28, 3) := by decide +kernel
theorem dX1_look_89 : decode cX1_look 89 = .ok (.iload_n 1, 1) := by decide +kernel
theorem dX1_look_90 : decode cX1_look 90 = .ok (.aload_n 0, 1) := by decide +kernel
theorem dX1_look_91 : decode cX1_look 91 = .ok (.getfield 9, 3) := by decide +kernel
theorem dX1_look_94 : decode cX1_look 94 = .ok (.aload_n 0, 1) := by decide +kernel
theorem dX1_look_95 : decode cX1_look 95 = .ok (.getfield 19, 3) := by decide +kernel
theorem dX1_look_98 : decode cX1_look 98 = .ok (.iload_n 1, 1) := by decide +kernel
theorem dX1_look_99 : decode cX1_look 99 = .ok (.iaload, 1) := by decide +kernel
theorem dX1_look_100 : decode cX1_look 100 = .ok (.invokevirtual 62, 3) := by decide +kernel
theorem dX1_look_103 : decode cX1_look 103 = .ok (.iastore, 1) := by decide +kernel
theorem dX1_look_104 : decode cX1_look 104 = .ok (.aload_n 0, 1) := by decide +kernel
theorem dX1_look_105 : decode cX1_look 105 = .ok (.getfield 31, 3) := by decide +kernel
theorem dX1_look_108 : decode cX1_look 108 = .ok (.iload_n 1, 1) := by decide +kernel
theorem dX1_look_109 : decode cX1_look 109 = .ok (.aload_n 0, 1) := by decide +kernel
theorem dX1_look_110 : decode cX1_look 110 = .ok (.getfield 9, 3) := by decide +kernel
theorem dX1_look_113 : decode cX1_look 113 = .ok (.aload_n 0, 1) := by decide +kernel
theorem dX1_look_114 : decode cX1_look 114 = .ok (.getfield 22, 3) := by decide +kernel
theorem dX1_look_117 : decode cX1_look 117 = .ok (.iload_n 1, 1) := by decide +kernel
theorem dX1_look_118 : decode cX1_look 118 = .ok (.iaload, 1) := by decide +kernel
theorem dX1_look_119 : decode cX1_look 119 = .ok (.invokevirtual 62, 3) := by decide +kernel
theorem dX1_look_122 : decode cX1_look 122 = .ok (.iastore, 1) := by decide +kernel
theorem dX1_look_123 : decode cX1_look 123 = .ok (.aload_n 0, 1) := by decide +kernel
theorem dX1_look_124 : decode cX1_look 124 = .ok (.getfield 34, 3) := by decide +kernel
theorem dX1_look_127 : decode cX1_look 127 = .ok (.iload_n 1, 1) := by decide +kernel
theorem dX1_look_128 : decode cX1_look 128 = .ok (.aload_n 0, 1) := by decide +kernel
theorem dX1_look_129 : decode cX1_look 129 = .ok (.getfield 9, 3) := by decide +kernel
theorem dX1_look_132 : decode cX1_look 132 = .ok (.aload_n 0, 1) := by decide +kernel
theorem dX1_look_133 : decode cX1_look 133 = .ok (.iload_n 1, 1) := by decide +kernel
theorem dX1_look_134 : decode cX1_look 134 = .ok (.invokevirtual 65, 3) := by decide +kernel
theorem dX1_look_137 : decode cX1_look 137 = .ok (.invokevirtual 62, 3) := by decide +kernel
theorem dX1_look_140 : decode cX1_look 140 = .ok (.iastore, 1) := by decide +kernel
theorem dX1_look_141 : decode cX1_look 141 = .ok (.aload_n 0, 1) := by decide +kernel
theorem dX1_look_142 : decode cX1_look 142 = .ok (.getfield 37, 3) := by decide +kernel
theorem dX1_look_145 : decode cX1_look 145 = .ok (.iload_n 1, 1) := by decide +kernel
theorem dX1_look_146 : decode cX1_look 146 = .ok (.aload_n 0, 1) := by decide +kernel
theorem dX1_look_147 : decode cX1_look 147 = .ok (.aload_n 0, 1) := by decide +kernel
theorem dX1_look_148 : decode cX1_look 148 = .ok (.getfield 15, 3) := by decide +kernel
theorem dX1_look_151 : decode cX1_look 151 = .ok (.iload_n 1, 1) := by decide +kernel
theorem dX1_look_152 : decode cX1_look 152 = .ok (.iaload, 1) := by decide +kernel
theorem dX1_look_153 : decode cX1_look 153 = .ok (.invokevirtual 68, 3) := by decide +kernel
theorem dX1_look_156 : decode cX1_look 156 = .ok (.iastore, 1) := by decide +kernel
theorem dX1_look_157 : decode cX1_look 157 = .ok (.aload_n 0, 1) := by decide +kernel
theorem dX1_look_158 : decode cX1_look 158 = .ok (.getfield 40, 3) := by decide +kernel
theorem dX1_look_161 : decode cX1_look 161 = .ok (.iload_n 1, 1) := by decide +kernel
theorem dX1_look_162 : decode cX1_look 162 = .ok (.aload_n 0, 1) := by decide +kernel
theorem dX1_look_163 : decode cX1_look 163 = .ok (.aload_n 0, 1) := by decide +kernel
theorem dX1_look_164 : decode cX1_look 164 = .ok (.getfield 22, 3) := by decide +kernel
theorem dX1_look_167 : decode cX1_look 167 = .ok (.iload_n 1, 1) := by decide +kernel
theorem dX1_look_168 : decode cX1_look 168 = .ok (.iaload, 1) := by decide +kernel
theorem dX1_look_169 : decode cX1_look 169 = .ok (.invokevirtual 68, 3) := by decide +kernel
theorem dX1_look_172 : decode cX1_look 172 = .ok (.iastore, 1) := by decide +kernel
theorem dX1_look_173 : decode cX1_look 173 = .ok (.iinc 1 1, 3) := by decide +kernel
theorem dX1_look_176 : decode cX1_look 176 = .ok (.goto (-174), 3) := by decide +kernel
theorem dX1_look_179 : decode cX1_look 179 = .ok (.return_, 1) := by decide +kernel
theorem dX1_usedFirst_0 : decode cX1_usedFirst 0 = .ok (.aload_n 0, 1) := by decide +kernel
theorem dX1_usedFirst_1 : decode cX1_usedFirst 1 = .ok (.getfield 9, 3) := by decide +kernel
theorem dX1_usedFirst_4 : decode cX1_usedFirst 4 = .ok (.iload_n 1, 1) := by decide +kernel
theorem dX1_usedFirst_5 : decode cX1_usedFirst 5 = .ok (.invokevirtual 53, 3) := by decide +kernel
theorem dX1_usedFirst_8 : decode cX1_usedFirst 8 = .ok (.tableswitch 98 1 16 #[80, 80, 80, 80, 89, 89, 89, 89, 98, 98, 98, 89, 89, 89, 98, 89], 80) := by decide +kernel
theorem dX1_usedFirst_88 : decode cX1_usedFirst 88 = .ok (.aload_n 0, 1) := by decide +kernel
theorem dX1_usedFirst_89 : decode cX1_usedFirst 89 = .ok (.getfield 9, 3) := by decide +kernel
theorem dX1_usedFirst_92 : decode cX1_usedFirst 92 = .ok (.iload_n 1, 1) := by decide +kernel
theorem dX1_usedFirst_93 : decode cX1_usedFirst 93 = .ok (.invokevirtual 56, 3) := by decide +kernel
theorem dX1_usedFirst_96 : decode cX1_usedFirst 96 = .ok (.ireturn, 1) := by decide +kernel
theorem dX1_usedFirst_97 : decode cX1_usedFirst 97 = .ok (.aload_n 0, 1) := by decide +kernel
theorem dX1_usedFirst_98 : decode cX1_usedFirst 98 = .ok (.getfield 9, 3) := by decide +kernel
theorem dX1_usedFirst_101 : decode cX1_usedFirst 101 = .ok (.iload_n 1, 1) := by decide +kernel
theorem dX1_usedFirst_102 : decode cX1_usedFirst 102 = .ok (.invokevirtual 71, 3) := by decide +kernel
theorem dX1_usedFirst_105 : decode cX1_usedFirst 105 = .ok (.ireturn, 1) := by decide +kernel
theorem dX1_usedFirst_106 : decode cX1_usedFirst 106 = .ok (.iconst (-1), 1) := by decide +kernel
theorem dX1_usedFirst_107 : decode cX1_usedFirst 107 = .ok (.ireturn, 1) := by decide +kernel
theorem dX1_givenBy_0 : decode cX1_givenBy 0 = .ok (.aload_n 0, 1) := by decide +kernel
theorem dX1_givenBy_1 : decode cX1_givenBy 1 = .ok (.getfield 9, 3) := by decide +kernel
theorem dX1_givenBy_4 : decode cX1_givenBy 4 = .ok (.iload_n 1, 1) := by decide +kernel
theorem dX1_givenBy_5 : decode cX1_givenBy 5 = .ok (.invokevirtual 53, 3) := by decide +kernel
theorem dX1_givenBy_8 : decode cX1_givenBy 8 = .ok (.tableswitch 45 0 4 #[36, 36, 36, 36, 36], 36) := by decide +kernel
theorem dX1_givenBy_44 : decode cX1_givenBy 44 = .ok (.aload_n 0, 1) := by decide +kernel
theorem dX1_givenBy_45 : decode cX1_givenBy 45 = .ok (.getfield 9, 3) := by decide +kernel
theorem dX1_givenBy_48 : decode cX1_givenBy 48 = .ok (.iload_n 1, 1) := by decide +kernel
theorem dX1_givenBy_49 : decode cX1_givenBy 49 = .ok (.invokevirtual 71, 3) := by decide +kernel
theorem dX1_givenBy_52 : decode cX1_givenBy 52 = .ok (.ireturn, 1) := by decide +kernel
theorem dX1_givenBy_53 : decode cX1_givenBy 53 = .ok (.iconst (-1), 1) := by decide +kernel
theorem dX1_givenBy_54 : decode cX1_givenBy 54 = .ok (.ireturn, 1) := by decide +kernel
theorem dX1_lostBy_0 : decode cX1_lostBy 0 = .ok (.aload_n 0, 1) := by decide +kernel
theorem dX1_lostBy_1 : decode cX1_lostBy 1 = .ok (.getfield 9, 3) := by decide +kernel
theorem dX1_lostBy_4 : decode cX1_lostBy 4 = .ok (.iload_n 1, 1) := by decide +kernel
theorem dX1_lostBy_5 : decode cX1_lostBy 5 = .ok (.invokevirtual 53, 3) := by decide +kernel
theorem dX1_lostBy_8 : decode cX1_lostBy 8 = .ok (.lookupswitch 46 #[(1, 28), (7, 37)], 28) := by decide +kernel
theorem dX1_lostBy_36 : decode cX1_lostBy 36 = .ok (.aload_n 0, 1) := by decide +kernel
theorem dX1_lostBy_37 : decode cX1_lostBy 37 = .ok (.getfield 9, 3) := by decide +kernel
theorem dX1_lostBy_40 : decode cX1_lostBy 40 = .ok (.iload_n 1, 1) := by decide +kernel
theorem dX1_lostBy_41 : decode cX1_lostBy 41 = .ok (.invokevirtual 56, 3) := by decide +kernel
theorem dX1_lostBy_44 : decode cX1_lostBy 44 = .ok (.ireturn, 1) := by decide +kernel
theorem dX1_lostBy_45 : decode cX1_lostBy 45 = .ok (.aload_n 0, 1) := by decide +kernel
theorem dX1_lostBy_46 : decode cX1_lostBy 46 = .ok (.getfield 9, 3) := by decide +kernel
theorem dX1_lostBy_49 : decode cX1_lostBy 49 = .ok (.iload_n 1, 1) := by decide +kernel
theorem dX1_lostBy_50 : decode cX1_lostBy 50 = .ok (.invokevirtual 71, 3) := by decide +kernel
theorem dX1_lostBy_53 : decode cX1_lostBy 53 = .ok (.ireturn, 1) := by decide +kernel
theorem dX1_lostBy_54 : decode cX1_lostBy 54 = .ok (.iconst (-1), 1) := by decide +kernel
theorem dX1_lostBy_55 : decode cX1_lostBy 55 = .ok (.ireturn, 1) := by decide +kernel
theorem dX1_borrowSet_0 : decode cX1_borrowSet 0 = .ok (.aload_n 0, 1) := by decide +kernel
theorem dX1_borrowSet_1 : decode cX1_borrowSet 1 = .ok (.getfield 9, 3) := by decide +kernel
theorem dX1_borrowSet_4 : decode cX1_borrowSet 4 = .ok (.iload_n 1, 1) := by decide +kernel
theorem dX1_borrowSet_5 : decode cX1_borrowSet 5 = .ok (.invokevirtual 74, 3) := by decide +kernel
theorem dX1_borrowSet_8 : decode cX1_borrowSet 8 = .ok (.invokestatic 77, 3) := by decide +kernel
theorem dX1_borrowSet_11 : decode cX1_borrowSet 11 = .ok (.ifCond .eq 11, 3) := by decide +kernel
theorem dX1_borrowSet_14 : decode cX1_borrowSet 14 = .ok (.iconst 1, 1) := by decide +kernel
theorem dX1_borrowSet_15 : decode cX1_borrowSet 15 = .ok (.iload_n 1, 1) := by decide +kernel
theorem dX1_borrowSet_16 : decode cX1_borrowSet 16 = .ok (.iconst 3, 1) := by decide +kernel
theorem dX1_borrowSet_17 : decode cX1_borrowSet 17 = .ok (.idiv, 1) := by decide +kernel
theorem dX1_borrowSet_18 : decode cX1_borrowSet 18 = .ok (.ishl, 1) := by decide +kernel
theorem dX1_borrowSet_19 : decode cX1_borrowSet 19 = .ok (.goto 4, 3) := by decide +kernel
theorem dX1_borrowSet_22 : decode cX1_borrowSet 22 = .ok (.iconst 0, 1) := by decide +kernel
theorem dX1_borrowSet_23 : decode cX1_borrowSet 23 = .ok (.ireturn, 1) := by decide +kernel
theorem dX1_takenAt_0 : decode cX1_takenAt 0 = .ok (.aload_n 0, 1) := by decide +kernel
theorem dX1_takenAt_1 : decode cX1_takenAt 1 = .ok (.getfield 9, 3) := by decide +kernel
theorem dX1_takenAt_4 : decode cX1_takenAt 4 = .ok (.iload_n 1, 1) := by decide +kernel
theorem dX1_takenAt_5 : decode cX1_takenAt 5 = .ok (.invokevirtual 71, 3) := by decide +kernel
theorem dX1_takenAt_8 : decode cX1_takenAt 8 = .ok (.istore_n 3, 1) := by decide +kernel
theorem dX1_takenAt_9 : decode cX1_takenAt 9 = .ok (.aload_n 0, 1) := by decide +kernel
theorem dX1_takenAt_10 : decode cX1_takenAt 10 = .ok (.getfield 9, 3) := by decide +kernel
theorem dX1_takenAt_13 : decode cX1_takenAt 13 = .ok (.iload_n 1, 1) := by decide +kernel
theorem dX1_takenAt_14 : decode cX1_takenAt 14 = .ok (.invokevirtual 56, 3) := by decide +kernel
theorem dX1_takenAt_17 : decode cX1_takenAt 17 = .ok (.istore 4, 2) := by decide +kernel
theorem dX1_takenAt_19 : decode cX1_takenAt 19 = .ok (.iload_n 2, 1) := by decide +kernel
theorem dX1_takenAt_20 : decode cX1_takenAt 20 = .ok (.ifCond .ne 7, 3) := by decide +kernel
theorem dX1_takenAt_23 : decode cX1_takenAt 23 = .ok (.iconst 1, 1) := by decide +kernel
theorem dX1_takenAt_24 : decode cX1_takenAt 24 = .ok (.goto 4, 3) := by decide +kernel
theorem dX1_takenAt_27 : decode cX1_takenAt 27 = .ok (.iconst 0, 1) := by decide +kernel
theorem dX1_takenAt_28 : decode cX1_takenAt 28 = .ok (.istore 5, 2) := by decide +kernel
theorem dX1_takenAt_30 : decode cX1_takenAt 30 = .ok (.aload_n 0, 1) := by decide +kernel
theorem dX1_takenAt_31 : decode cX1_takenAt 31 = .ok (.getfield 9, 3) := by decide +kernel
theorem dX1_takenAt_34 : decode cX1_takenAt 34 = .ok (.iload_n 3, 1) := by decide +kernel
theorem dX1_takenAt_35 : decode cX1_takenAt 35 = .ok (.invokevirtual 74, 3) := by decide +kernel
theorem dX1_takenAt_38 : decode cX1_takenAt 38 = .ok (.istore 6, 2) := by decide +kernel
theorem dX1_takenAt_40 : decode cX1_takenAt 40 = .ok (.aload_n 0, 1) := by decide +kernel
theorem dX1_takenAt_41 : decode cX1_takenAt 41 = .ok (.getfield 9, 3) := by decide +kernel
theorem dX1_takenAt_44 : decode cX1_takenAt 44 = .ok (.iload_n 1, 1) := by decide +kernel
theorem dX1_takenAt_45 : decode cX1_takenAt 45 = .ok (.invokevirtual 53, 3) := by decide +kernel
theorem dX1_takenAt_48 : decode cX1_takenAt 48 = .ok (.tableswitch 167 0 16 #[156, 103, 84, 125, 125, 137, 137, 156, 156, 167, 167, 167, 167, 167, 167, 167, 156], 84) := by decide +kernel
theorem dX1_takenAt_132 : decode cX1_takenAt 132 = .ok (.iload 6, 2) := by decide +kernel
theorem dX1_takenAt_134 : decode cX1_takenAt 134 = .ok (.ifCond .eq 5, 3) := by decide +kernel
theorem dX1_takenAt_137 : decode cX1_takenAt 137 = .ok (.iconst (-1), 1) := by decide +kernel
theorem dX1_takenAt_138 : decode cX1_takenAt 138 = .ok (.ireturn, 1) := by decide +kernel
theorem dX1_takenAt_139 : decode cX1_takenAt 139 = .ok (.iload 5, 2) := by decide +kernel
theorem dX1_takenAt_141 : decode cX1_takenAt 141 = .ok (.ifCond .eq 8, 3) := by decide +kernel
theorem dX1_takenAt_144 : decode cX1_takenAt 144 = .ok (.iload 4, 2) := by decide +kernel
theorem dX1_takenAt_146 : decode cX1_takenAt 146 = .ok (.goto 4, 3) := by decide +kernel
theorem dX1_takenAt_149 : decode cX1_takenAt 149 = .ok (.iload_n 3, 1) := by decide +kernel
theorem dX1_takenAt_150 : decode cX1_takenAt 150 = .ok (.ireturn, 1) := by decide +kernel
theorem dX1_takenAt_151 : decode cX1_takenAt 151 = .ok (.iload 6, 2) := by decide +kernel
theorem dX1_takenAt_153 : decode cX1_takenAt 153 = .ok (.invokestatic 77, 3) := by decide +kernel
theorem dX1_takenAt_156 : decode cX1_takenAt 156 = .ok (.ifCond .eq 5, 3) := by decide +kernel
theorem dX1_takenAt_159 : decode cX1_takenAt 159 = .ok (.iconst (-1), 1) := by decide +kernel
theorem dX1_takenAt_160 : decode cX1_takenAt 160 = .ok (.ireturn, 1) := by decide +kernel
theorem dX1_takenAt_161 : decode cX1_takenAt 161 = .ok (.iload 5, 2) := by decide +kernel
theorem dX1_takenAt_163 : decode cX1_takenAt 163 = .ok (.ifCond .eq 7, 3) := by decide +kernel
theorem dX1_takenAt_166 : decode cX1_takenAt 166 = .ok (.iload_n 3, 1) := by decide +kernel
theorem dX1_takenAt_167 : decode cX1_takenAt 167 = .ok (.goto 5, 3) := by decide +kernel
theorem dX1_takenAt_170 : decode cX1_takenAt 170 = .ok (.iload 4, 2) := by decide +kernel
theorem dX1_takenAt_172 : decode cX1_takenAt 172 = .ok (.ireturn, 1) := by decide +kernel
theorem dX1_takenAt_173 : decode cX1_takenAt 173 = .ok (.iload 5, 2) := by decide +kernel
theorem dX1_takenAt_175 : decode cX1_takenAt 175 = .ok (.ifCond .eq 8, 3) := by decide +kernel
theorem dX1_takenAt_178 : decode cX1_takenAt 178 = .ok (.iload 4, 2) := by decide +kernel
theorem dX1_takenAt_180 : decode cX1_takenAt 180 = .ok (.goto 4, 3) := by decide +kernel
theorem dX1_takenAt_183 : decode cX1_takenAt 183 = .ok (.iconst (-1), 1) := by decide +kernel
theorem dX1_takenAt_184 : decode cX1_takenAt 184 = .ok (.ireturn, 1) := by decide +kernel
theorem dX1_takenAt_185 : decode cX1_takenAt 185 = .ok (.iload 5, 2) := by decide +kernel
theorem dX1_takenAt_187 : decode cX1_takenAt 187 = .ok (.ifCond .eq 15, 3) := by decide +kernel
theorem dX1_takenAt_190 : decode cX1_takenAt 190 = .ok (.iload 6, 2) := by decide +kernel
theorem dX1_takenAt_192 : decode cX1_takenAt 192 = .ok (.invokestatic 77, 3) := by decide +kernel
theorem dX1_takenAt_195 : decode cX1_takenAt 195 = .ok (.ifCond .ne 7, 3) := by decide +kernel
theorem dX1_takenAt_198 : decode cX1_takenAt 198 = .ok (.iload_n 3, 1) := by decide +kernel
theorem dX1_takenAt_199 : decode cX1_takenAt 199 = .ok (.goto 4, 3) := by decide +kernel
theorem dX1_takenAt_202 : decode cX1_takenAt 202 = .ok (.iconst (-1), 1) := by decide +kernel
theorem dX1_takenAt_203 : decode cX1_takenAt 203 = .ok (.ireturn, 1) := by decide +kernel
theorem dX1_takenAt_204 : decode cX1_takenAt 204 = .ok (.iload 5, 2) := by decide +kernel
theorem dX1_takenAt_206 : decode cX1_takenAt 206 = .ok (.ifCond .eq 7, 3) := by decide +kernel
theorem dX1_takenAt_209 : decode cX1_takenAt 209 = .ok (.iload_n 3, 1) := by decide +kernel
theorem dX1_takenAt_210 : decode cX1_takenAt 210 = .ok (.goto 4, 3) := by decide +kernel
theorem dX1_takenAt_213 : decode cX1_takenAt 213 = .ok (.iconst (-1), 1) := by decide +kernel
theorem dX1_takenAt_214 : decode cX1_takenAt 214 = .ok (.ireturn, 1) := by decide +kernel
theorem dX1_takenAt_215 : decode cX1_takenAt 215 = .ok (.iconst (-1), 1) := by decide +kernel
theorem dX1_takenAt_216 : decode cX1_takenAt 216 = .ok (.ireturn, 1) := by decide +kernel
theorem dX1_isTakenToRead_0 : decode cX1_isTakenToRead 0 = .ok (.aload_n 0, 1) := by decide +kernel
theorem dX1_isTakenToRead_1 : decode cX1_isTakenToRead 1 = .ok (.getfield 9, 3) := by decide +kernel
theorem dX1_isTakenToRead_4 : decode cX1_isTakenToRead 4 = .ok (.iload_n 1, 1) := by decide +kernel
theorem dX1_isTakenToRead_5 : decode cX1_isTakenToRead 5 = .ok (.invokevirtual 53, 3) := by decide +kernel
theorem dX1_isTakenToRead_8 : decode cX1_isTakenToRead 8 = .ok (.istore_n 3, 1) := by decide +kernel
theorem dX1_isTakenToRead_9 : decode cX1_isTakenToRead 9 = .ok (.iload_n 3, 1) := by decide +kernel
theorem dX1_isTakenToRead_10 : decode cX1_isTakenToRead 10 = .ok (.iconst 3, 1) := by decide +kernel
theorem dX1_isTakenToRead_11 : decode cX1_isTakenToRead 11 = .ok (.if_icmp .eq 23, 3) := by decide +kernel
theorem dX1_isTakenToRead_14 : decode cX1_isTakenToRead 14 = .ok (.iload_n 3, 1) := by decide +kernel
theorem dX1_isTakenToRead_15 : decode cX1_isTakenToRead 15 = .ok (.bipush 8, 2) := by decide +kernel
theorem dX1_isTakenToRead_17 : decode cX1_isTakenToRead 17 = .ok (.if_icmp .eq 17, 3) := by decide +kernel
theorem dX1_isTakenToRead_20 : decode cX1_isTakenToRead 20 = .ok (.iload_n 3, 1) := by decide +kernel
theorem dX1_isTakenToRead_21 : decode cX1_isTakenToRead 21 = .ok (.iconst 5, 1) := by decide +kernel
theorem dX1_isTakenToRead_22 : decode cX1_isTakenToRead 22 = .ok (.if_icmp .eq 12, 3) := by decide +kernel
theorem dX1_isTakenToRead_25 : decode cX1_isTakenToRead 25 = .ok (.iload_n 3, 1) := by decide +kernel
theorem dX1_isTakenToRead_26 : decode cX1_isTakenToRead 26 = .ok (.iconst 2, 1) := by decide +kernel
theorem dX1_isTakenToRead_27 : decode cX1_isTakenToRead 27 = .ok (.if_icmp .ne 11, 3) := by decide +kernel
theorem dX1_isTakenToRead_30 : decode cX1_isTakenToRead 30 = .ok (.iload_n 2, 1) := by decide +kernel
theorem dX1_isTakenToRead_31 : decode cX1_isTakenToRead 31 = .ok (.ifCond .ne 7, 3) := by decide +kernel
theorem dX1_isTakenToRead_34 : decode cX1_isTakenToRead 34 = .ok (.iconst 1, 1) := by decide +kernel
theorem dX1_isTakenToRead_35 : decode cX1_isTakenToRead 35 = .ok (.goto 4, 3) := by decide +kernel
theorem dX1_isTakenToRead_38 : decode cX1_isTakenToRead 38 = .ok (.iconst 0, 1) := by decide +kernel
theorem dX1_isTakenToRead_39 : decode cX1_isTakenToRead 39 = .ok (.ireturn, 1) := by decide +kernel
theorem dX1_countUsers_0 : decode cX1_countUsers 0 = .ok (.iconst 0, 1) := by decide +kernel
theorem dX1_countUsers_1 : decode cX1_countUsers 1 = .ok (.istore_n 2, 1) := by decide +kernel
theorem dX1_countUsers_2 : decode cX1_countUsers 2 = .ok (.iconst 0, 1) := by decide +kernel
theorem dX1_countUsers_3 : decode cX1_countUsers 3 = .ok (.istore_n 3, 1) := by decide +kernel
theorem dX1_countUsers_4 : decode cX1_countUsers 4 = .ok (.iload_n 3, 1) := by decide +kernel
theorem dX1_countUsers_5 : decode cX1_countUsers 5 = .ok (.aload_n 0, 1) := by decide +kernel
theorem dX1_countUsers_6 : decode cX1_countUsers 6 = .ok (.getfield 9, 3) := by decide +kernel
theorem dX1_countUsers_9 : decode cX1_countUsers 9 = .ok (.getfield 43, 3) := by decide +kernel
theorem dX1_countUsers_12 : decode cX1_countUsers 12 = .ok (.if_icmp .ge 38, 3) := by decide +kernel
theorem dX1_countUsers_15 : decode cX1_countUsers 15 = .ok (.iload_n 1, 1) := by decide +kernel
theorem dX1_countUsers_16 : decode cX1_countUsers 16 = .ok (.aload_n 0, 1) := by decide +kernel
theorem dX1_countUsers_17 : decode cX1_countUsers 17 = .ok (.getfield 15, 3) := by decide +kernel
theorem dX1_countUsers_20 : decode cX1_countUsers 20 = .ok (.iload_n 3, 1) := by decide +kernel
theorem dX1_countUsers_21 : decode cX1_countUsers 21 = .ok (.iaload, 1) := by decide +kernel
theorem dX1_countUsers_22 : decode cX1_countUsers 22 = .ok (.invokestatic 81, 3) := by decide +kernel
theorem dX1_countUsers_25 : decode cX1_countUsers 25 = .ok (.ifCond .ne 16, 3) := by decide +kernel
theorem dX1_countUsers_28 : decode cX1_countUsers 28 = .ok (.iload_n 1, 1) := by decide +kernel
theorem dX1_countUsers_29 : decode cX1_countUsers 29 = .ok (.aload_n 0, 1) := by decide +kernel
theorem dX1_countUsers_30 : decode cX1_countUsers 30 = .ok (.getfield 19, 3) := by decide +kernel
theorem dX1_countUsers_33 : decode cX1_countUsers 33 = .ok (.iload_n 3, 1) := by decide +kernel
theorem dX1_countUsers_34 : decode cX1_countUsers 34 = .ok (.iaload, 1) := by decide +kernel
theorem dX1_countUsers_35 : decode cX1_countUsers 35 = .ok (.invokestatic 81, 3) := by decide +kernel
theorem dX1_countUsers_38 : decode cX1_countUsers 38 = .ok (.ifCond .eq 6, 3) := by decide +kernel
theorem dX1_countUsers_41 : decode cX1_countUsers 41 = .ok (.iinc 2 1, 3) := by decide +kernel
theorem dX1_countUsers_44 : decode cX1_countUsers 44 = .ok (.iinc 3 1, 3) := by decide +kernel
theorem dX1_countUsers_47 : decode cX1_countUsers 47 = .ok (.goto (-43), 3) := by decide +kernel
theorem dX1_countUsers_50 : decode cX1_countUsers 50 = .ok (.iload_n 2, 1) := by decide +kernel
theorem dX1_countUsers_51 : decode cX1_countUsers 51 = .ok (.ireturn, 1) := by decide +kernel
theorem dX1_countGivers_0 : decode cX1_countGivers 0 = .ok (.iconst 0, 1) := by decide +kernel
theorem dX1_countGivers_1 : decode cX1_countGivers 1 = .ok (.istore_n 2, 1) := by decide +kernel
theorem dX1_countGivers_2 : decode cX1_countGivers 2 = .ok (.iconst 0, 1) := by decide +kernel
theorem dX1_countGivers_3 : decode cX1_countGivers 3 = .ok (.istore_n 3, 1) := by decide +kernel
theorem dX1_countGivers_4 : decode cX1_countGivers 4 = .ok (.iload_n 3, 1) := by decide +kernel
theorem dX1_countGivers_5 : decode cX1_countGivers 5 = .ok (.aload_n 0, 1) := by decide +kernel
theorem dX1_countGivers_6 : decode cX1_countGivers 6 = .ok (.getfield 9, 3) := by decide +kernel
theorem dX1_countGivers_9 : decode cX1_countGivers 9 = .ok (.getfield 43, 3) := by decide +kernel
theorem dX1_countGivers_12 : decode cX1_countGivers 12 = .ok (.if_icmp .ge 25, 3) := by decide +kernel
theorem dX1_countGivers_15 : decode cX1_countGivers 15 = .ok (.iload_n 1, 1) := by decide +kernel
theorem dX1_countGivers_16 : decode cX1_countGivers 16 = .ok (.aload_n 0, 1) := by decide +kernel
theorem dX1_countGivers_17 : decode cX1_countGivers 17 = .ok (.getfield 22, 3) := by decide +kernel
theorem dX1_countGivers_20 : decode cX1_countGivers 20 = .ok (.iload_n 3, 1) := by decide +kernel
theorem dX1_countGivers_21 : decode cX1_countGivers 21 = .ok (.iaload, 1) := by decide +kernel
theorem dX1_countGivers_22 : decode cX1_countGivers 22 = .ok (.invokestatic 81, 3) := by decide +kernel
theorem dX1_countGivers_25 : decode cX1_countGivers 25 = .ok (.ifCond .eq 6, 3) := by decide +kernel
theorem dX1_countGivers_28 : decode cX1_countGivers 28 = .ok (.iinc 2 1, 3) := by decide +kernel
theorem dX1_countGivers_31 : decode cX1_countGivers 31 = .ok (.iinc 3 1, 3) := by decide +kernel
theorem dX1_countGivers_34 : decode cX1_countGivers 34 = .ok (.goto (-30), 3) := by decide +kernel
theorem dX1_countGivers_37 : decode cX1_countGivers 37 = .ok (.iload_n 2, 1) := by decide +kernel
theorem dX1_countGivers_38 : decode cX1_countGivers 38 = .ok (.ireturn, 1) := by decide +kernel
theorem dX1_isOf_0 : decode cX1_isOf 0 = .ok (.iload_n 1, 1) := by decide +kernel
theorem dX1_isOf_1 : decode cX1_isOf 1 = .ok (.ifCond .lt 14, 3) := by decide +kernel
theorem dX1_isOf_4 : decode cX1_isOf 4 = .ok (.iload_n 1, 1) := by decide +kernel
theorem dX1_isOf_5 : decode cX1_isOf 5 = .ok (.iconst 3, 1) := by decide +kernel
theorem dX1_isOf_6 : decode cX1_isOf 6 = .ok (.idiv, 1) := by decide +kernel
theorem dX1_isOf_7 : decode cX1_isOf 7 = .ok (.iload_n 0, 1) := by decide +kernel
theorem dX1_isOf_8 : decode cX1_isOf 8 = .ok (.if_icmp .ne 7, 3) := by decide +kernel
theorem dX1_isOf_11 : decode cX1_isOf 11 = .ok (.iconst 1, 1) := by decide +kernel
theorem dX1_isOf_12 : decode cX1_isOf 12 = .ok (.goto 4, 3) := by decide +kernel
theorem dX1_isOf_15 : decode cX1_isOf 15 = .ok (.iconst 0, 1) := by decide +kernel
theorem dX1_isOf_16 : decode cX1_isOf 16 = .ok (.ireturn, 1) := by decide +kernel
theorem dX2_init_0 : decode cX2_init 0 = .ok (.aload_n 0, 1) := by decide +kernel
theorem dX2_init_1 : decode cX2_init 1 = .ok (.invokespecial 3, 3) := by decide +kernel
theorem dX2_init_4 : decode cX2_init 4 = .ok (.aload_n 0, 1) := by decide +kernel
theorem dX2_init_5 : decode cX2_init 5 = .ok (.bipush 34, 2) := by decide +kernel
theorem dX2_init_7 : decode cX2_init 7 = .ok (.newarray .int, 2) := by decide +kernel
theorem dX2_init_9 : decode cX2_init 9 = .ok (.putfield 9, 3) := by decide +kernel
theorem dX2_init_12 : decode cX2_init 12 = .ok (.aload_n 0, 1) := by decide +kernel
theorem dX2_init_13 : decode cX2_init 13 = .ok (.bipush 34, 2) := by decide +kernel
theorem dX2_init_15 : decode cX2_init 15 = .ok (.newarray .int, 2) := by decide +kernel
theorem dX2_init_17 : decode cX2_init 17 = .ok (.putfield 15, 3) := by decide +kernel
theorem dX2_init_20 : decode cX2_init 20 = .ok (.aload_n 0, 1) := by decide +kernel
theorem dX2_init_21 : decode cX2_init 21 = .ok (.bipush 34, 2) := by decide +kernel
theorem dX2_init_23 : decode cX2_init 23 = .ok (.newarray .int, 2) := by decide +kernel
theorem dX2_init_25 : decode cX2_init 25 = .ok (.putfield 18, 3) := by decide +kernel
theorem dX2_init_28 : decode cX2_init 28 = .ok (.aload_n 0, 1) := by decide +kernel
theorem dX2_init_29 : decode cX2_init 29 = .ok (.bipush 34, 2) := by decide +kernel
theorem dX2_init_31 : decode cX2_init 31 = .ok (.newarray .int, 2) := by decide +kernel
theorem dX2_init_33 : decode cX2_init 33 = .ok (.putfield 21, 3) := by decide +kernel
theorem dX2_init_36 : decode cX2_init 36 = .ok (.aload_n 0, 1) := by decide +kernel
theorem dX2_init_37 : decode cX2_init 37 = .ok (.iconst 0, 1) := by decide +kernel
theorem dX2_init_38 : decode cX2_init 38 = .ok (.putfield 24, 3) := by decide +kernel
theorem dX2_init_41 : decode cX2_init 41 = .ok (.return_, 1) := by decide +kernel
theorem dX2_addFault_0 : decode cX2_addFault 0 = .ok (.aload_n 0, 1) := by decide +kernel
theorem dX2_addFault_1 : decode cX2_addFault 1 = .ok (.getfield 9, 3) := by decide +kernel
theorem dX2_addFault_4 : decode cX2_addFault 4 = .ok (.aload_n 0, 1) := by decide +kernel
theorem dX2_addFault_5 : decode cX2_addFault 5 = .ok (.getfield 24, 3) := by decide +kernel
theorem dX2_addFault_8 : decode cX2_addFault 8 = .ok (.invokestatic 28, 3) := by decide +kernel
theorem dX2_addFault_11 : decode cX2_addFault 11 = .ok (.ifCond .eq 54, 3) := by decide +kernel
theorem dX2_addFault_14 : decode cX2_addFault 14 = .ok (.aload_n 0, 1) := by decide +kernel
theorem dX2_addFault_15 : decode cX2_addFault 15 = .ok (.getfield 9, 3) := by decide +kernel
theorem dX2_addFault_18 : decode cX2_addFault 18 = .ok (.aload_n 0, 1) := by decide +kernel
theorem dX2_addFault_19 : decode cX2_addFault 19 = .ok (.getfield 24, 3) := by decide +kernel
theorem dX2_addFault_22 : decode cX2_addFault 22 = .ok (.iload_n 1, 1) := by decide +kernel
theorem dX2_addFault_23 : decode cX2_addFault 23 = .ok (.iastore, 1) := by decide +kernel
theorem dX2_addFault_24 : decode cX2_addFault 24 = .ok (.aload_n 0, 1) := by decide +kernel
theorem dX2_addFault_25 : decode cX2_addFault 25 = .ok (.getfield 15, 3) := by decide +kernel
theorem dX2_addFault_28 : decode cX2_addFault 28 = .ok (.aload_n 0, 1) := by decide +kernel
theorem dX2_addFault_29 : decode cX2_addFault 29 = .ok (.getfield 24, 3) := by decide +kernel
theorem dX2_addFault_32 : decode cX2_addFault 32 = .ok (.iload_n 2, 1) := by decide +kernel
theorem dX2_addFault_33 : decode cX2_addFault 33 = .ok (.iastore, 1) := by decide +kernel
theorem dX2_addFault_34 : decode cX2_addFault 34 = .ok (.aload_n 0, 1) := by decide +kernel
theorem dX2_addFault_35 : decode cX2_addFault 35 = .ok (.getfield 18, 3) := by decide +kernel
theorem dX2_addFault_38 : decode cX2_addFault 38 = .ok (.aload_n 0, 1) := by decide +kernel
theorem dX2_addFault_39 : decode cX2_addFault 39 = .ok (.getfield 24, 3) := by decide +kernel
theorem dX2_addFault_42 : decode cX2_addFault 42 = .ok (.iload_n 3, 1) := by decide +kernel
theorem dX2_addFault_43 : decode cX2_addFault 43 = .ok (.iastore, 1) := by decide +kernel
theorem dX2_addFault_44 : decode cX2_addFault 44 = .ok (.aload_n 0, 1) := by decide +kernel
theorem dX2_addFault_45 : decode cX2_addFault 45 = .ok (.getfield 21, 3) := by decide +kernel
theorem dX2_addFault_48 : decode cX2_addFault 48 = .ok (.aload_n 0, 1) := by decide +kernel
theorem dX2_addFault_49 : decode cX2_addFault 49 = .ok (.getfield 24, 3) := by decide +kernel
theorem dX2_addFault_52 : decode cX2_addFault 52 = .ok (.iload 4, 2) := by decide +kernel
theorem dX2_addFault_54 : decode cX2_addFault 54 = .ok (.iastore, 1) := by decide +kernel
theorem dX2_addFault_55 : decode cX2_addFault 55 = .ok (.aload_n 0, 1) := by decide +kernel
theorem dX2_addFault_56 : decode cX2_addFault 56 = .ok (.dup, 1) := by decide +kernel
theorem dX2_addFault_57 : decode cX2_addFault 57 = .ok (.getfield 24, 3) := by decide +kernel
theorem dX2_addFault_60 : decode cX2_addFault 60 = .ok (.iconst 1, 1) := by decide +kernel
theorem dX2_addFault_61 : decode cX2_addFault 61 = .ok (.iadd, 1) := by decide +kernel
theorem dX2_addFault_62 : decode cX2_addFault 62 = .ok (.putfield 24, 3) := by decide +kernel
theorem dX2_addFault_65 : decode cX2_addFault 65 = .ok (.return_, 1) := by decide +kernel
theorem dX2_isFault_0 : decode cX2_isFault 0 = .ok (.iload_n 1, 1) := by decide +kernel
theorem dX2_isFault_1 : decode cX2_isFault 1 = .ok (.ifCond .lt 15, 3) := by decide +kernel
theorem dX2_isFault_4 : decode cX2_isFault 4 = .ok (.iload_n 1, 1) := by decide +kernel
theorem dX2_isFault_5 : decode cX2_isFault 5 = .ok (.aload_n 0, 1) := by decide +kernel
theorem dX2_isFault_6 : decode cX2_isFault 6 = .ok (.getfield 24, 3) := by decide +kernel
theorem dX2_isFault_9 : decode cX2_isFault 9 = .ok (.if_icmp .ge 7, 3) := by decide +kernel
theorem dX2_isFault_12 : decode cX2_isFault 12 = .ok (.iconst 1, 1) := by decide +kernel
theorem dX2_isFault_13 : decode cX2_isFault 13 = .ok (.goto 4, 3) := by decide +kernel
theorem dX2_isFault_16 : decode cX2_isFault 16 = .ok (.iconst 0, 1) := by decide +kernel
theorem dX2_isFault_17 : decode cX2_isFault 17 = .ok (.ireturn, 1) := by decide +kernel
theorem dX2_fact_0 : decode cX2_fact 0 = .ok (.aload_n 0, 1) := by decide +kernel
theorem dX2_fact_1 : decode cX2_fact 1 = .ok (.iload_n 1, 1) := by decide +kernel
theorem dX2_fact_2 : decode cX2_fact 2 = .ok (.invokevirtual 32, 3) := by decide +kernel
theorem dX2_fact_5 : decode cX2_fact 5 = .ok (.ifCond .ne 5, 3) := by decide +kernel
theorem dX2_fact_8 : decode cX2_fact 8 = .ok (.iconst (-1), 1) := by decide +kernel
theorem dX2_fact_9 : decode cX2_fact 9 = .ok (.ireturn, 1) := by decide +kernel
theorem dX2_fact_10 : decode cX2_fact 10 = .ok (.iload_n 2, 1) := by decide +kernel
theorem dX2_fact_11 : decode cX2_fact 11 = .ok (.tableswitch 46 0 2 #[25, 32, 39], 25) := by decide +kernel
theorem dX2_fact_36 : decode cX2_fact 36 = .ok (.aload_n 0, 1) := by decide +kernel
theorem dX2_fact_37 : decode cX2_fact 37 = .ok (.getfield 9, 3) := by decide +kernel
theorem dX2_fact_40 : decode cX2_fact 40 = .ok (.iload_n 1, 1) := by decide +kernel
theorem dX2_fact_41 : decode cX2_fact 41 = .ok (.iaload, 1) := by decide +kernel
theorem dX2_fact_42 : decode cX2_fact 42 = .ok (.ireturn, 1) := by decide +kernel
theorem dX2_fact_43 : decode cX2_fact 43 = .ok (.aload_n 0, 1) := by decide +kernel
theorem dX2_fact_44 : decode cX2_fact 44 = .ok (.getfield 15, 3) := by decide +kernel
theorem dX2_fact_47 : decode cX2_fact 47 = .ok (.iload_n 1, 1) := by decide +kernel
theorem dX2_fact_48 : decode cX2_fact 48 = .ok (.iaload, 1) := by decide +kernel
theorem dX2_fact_49 : decode cX2_fact 49 = .ok (.ireturn, 1) := by decide +kernel
theorem dX2_fact_50 : decode cX2_fact 50 = .ok (.aload_n 0, 1) := by decide +kernel
theorem dX2_fact_51 : decode cX2_fact 51 = .ok (.getfield 18, 3) := by decide +kernel
theorem dX2_fact_54 : decode cX2_fact 54 = .ok (.iload_n 1, 1) := by decide +kernel
theorem dX2_fact_55 : decode cX2_fact 55 = .ok (.iaload, 1) := by decide +kernel
theorem dX2_fact_56 : decode cX2_fact 56 = .ok (.ireturn, 1) := by decide +kernel
theorem dX2_fact_57 : decode cX2_fact 57 = .ok (.aload_n 0, 1) := by decide +kernel
theorem dX2_fact_58 : decode cX2_fact 58 = .ok (.getfield 21, 3) := by decide +kernel
theorem dX2_fact_61 : decode cX2_fact 61 = .ok (.iload_n 1, 1) := by decide +kernel
theorem dX2_fact_62 : decode cX2_fact 62 = .ok (.iaload, 1) := by decide +kernel
theorem dX2_fact_63 : decode cX2_fact 63 = .ok (.ireturn, 1) := by decide +kernel
theorem dX2_numberOfLine_0 : decode cX2_numberOfLine 0 = .ok (.iconst 0, 1) := by decide +kernel
theorem dX2_numberOfLine_1 : decode cX2_numberOfLine 1 = .ok (.istore_n 2, 1) := by decide +kernel
theorem dX2_numberOfLine_2 : decode cX2_numberOfLine 2 = .ok (.iload_n 2, 1) := by decide +kernel
theorem dX2_numberOfLine_3 : decode cX2_numberOfLine 3 = .ok (.aload_n 0, 1) := by decide +kernel
theorem dX2_numberOfLine_4 : decode cX2_numberOfLine 4 = .ok (.getfield 24, 3) := by decide +kernel
theorem dX2_numberOfLine_7 : decode cX2_numberOfLine 7 = .ok (.if_icmp .ge 26, 3) := by decide +kernel
theorem dX2_numberOfLine_10 : decode cX2_numberOfLine 10 = .ok (.aload_n 0, 1) := by decide +kernel
theorem dX2_numberOfLine_11 : decode cX2_numberOfLine 11 = .ok (.getfield 15, 3) := by decide +kernel
theorem dX2_numberOfLine_14 : decode cX2_numberOfLine 14 = .ok (.iload_n 2, 1) := by decide +kernel
theorem dX2_numberOfLine_15 : decode cX2_numberOfLine 15 = .ok (.iaload, 1) := by decide +kernel
theorem dX2_numberOfLine_16 : decode cX2_numberOfLine 16 = .ok (.iload_n 1, 1) := by decide +kernel
theorem dX2_numberOfLine_17 : decode cX2_numberOfLine 17 = .ok (.if_icmp .ne 10, 3) := by decide +kernel
theorem dX2_numberOfLine_20 : decode cX2_numberOfLine 20 = .ok (.aload_n 0, 1) := by decide +kernel
theorem dX2_numberOfLine_21 : decode cX2_numberOfLine 21 = .ok (.getfield 9, 3) := by decide +kernel
theorem dX2_numberOfLine_24 : decode cX2_numberOfLine 24 = .ok (.iload_n 2, 1) := by decide +kernel
theorem dX2_numberOfLine_25 : decode cX2_numberOfLine 25 = .ok (.iaload, 1) := by decide +kernel
theorem dX2_numberOfLine_26 : decode cX2_numberOfLine 26 = .ok (.ireturn, 1) := by decide +kernel
theorem dX2_numberOfLine_27 : decode cX2_numberOfLine 27 = .ok (.iinc 2 1, 3) := by decide +kernel
theorem dX2_numberOfLine_30 : decode cX2_numberOfLine 30 = .ok (.goto (-28), 3) := by decide +kernel
theorem dX2_numberOfLine_33 : decode cX2_numberOfLine 33 = .ok (.iconst 0, 1) := by decide +kernel
theorem dX2_numberOfLine_34 : decode cX2_numberOfLine 34 = .ok (.ireturn, 1) := by decide +kernel
theorem dX3_init_0 : decode cX3_init 0 = .ok (.aload_n 0, 1) := by decide +kernel
theorem dX3_init_1 : decode cX3_init 1 = .ok (.invokespecial 3, 3) := by decide +kernel
theorem dX3_init_4 : decode cX3_init 4 = .ok (.aload_n 0, 1) := by decide +kernel
theorem dX3_init_5 : decode cX3_init 5 = .ok (.aload_n 1, 1) := by decide +kernel
theorem dX3_init_6 : decode cX3_init 6 = .ok (.putfield 9, 3) := by decide +kernel
theorem dX3_init_9 : decode cX3_init 9 = .ok (.aload_n 0, 1) := by decide +kernel
theorem dX3_init_10 : decode cX3_init 10 = .ok (.bipush 16, 2) := by decide +kernel
theorem dX3_init_12 : decode cX3_init 12 = .ok (.newarray .int, 2) := by decide +kernel
theorem dX3_init_14 : decode cX3_init 14 = .ok (.putfield 15, 3) := by decide +kernel
theorem dX3_init_17 : decode cX3_init 17 = .ok (.aload_n 0, 1) := by decide +kernel
theorem dX3_init_18 : decode cX3_init 18 = .ok (.bipush 16, 2) := by decide +kernel
theorem dX3_init_20 : decode cX3_init 20 = .ok (.newarray .int, 2) := by decide +kernel
theorem dX3_init_22 : decode cX3_init 22 = .ok (.putfield 19, 3) := by decide +kernel
theorem dX3_init_25 : decode cX3_init 25 = .ok (.aload_n 0, 1) := by decide +kernel
theorem dX3_init_26 : decode cX3_init 26 = .ok (.bipush 16, 2) := by decide +kernel
theorem dX3_init_28 : decode cX3_init 28 = .ok (.newarray .boolean, 2) := by decide +kernel
theorem dX3_init_30 : decode cX3_init 30 = .ok (.putfield 22, 3) := by decide +kernel
theorem dX3_init_33 : decode cX3_init 33 = .ok (.aload_n 0, 1) := by decide +kernel
theorem dX3_init_34 : decode cX3_init 34 = .ok (.bipush 34, 2) := by decide +kernel
theorem dX3_init_36 : decode cX3_init 36 = .ok (.newarray .int, 2) := by decide +kernel
theorem dX3_init_38 : decode cX3_init 38 = .ok (.putfield 26, 3) := by decide +kernel
theorem dX3_init_41 : decode cX3_init 41 = .ok (.aload_n 0, 1) := by decide +kernel
theorem dX3_init_42 : decode cX3_init 42 = .ok (.iconst 0, 1) := by decide +kernel
theorem dX3_init_43 : decode cX3_init 43 = .ok (.putfield 29, 3) := by decide +kernel
theorem dX3_init_46 : decode cX3_init 46 = .ok (.return_, 1) := by decide +kernel
theorem dX3_look_0 : decode cX3_look 0 = .ok (.aload_n 0, 1) := by decide +kernel
theorem dX3_look_1 : decode cX3_look 1 = .ok (.iconst 0, 1) := by decide +kernel
theorem dX3_look_2 : decode cX3_look 2 = .ok (.putfield 29, 3) := by decide +kernel
theorem dX3_look_5 : decode cX3_look 5 = .ok (.iconst 0, 1) := by decide +kernel
theorem dX3_look_6 : decode cX3_look 6 = .ok (.istore_n 1, 1) := by decide +kernel
theorem dX3_look_7 : decode cX3_look 7 = .ok (.iload_n 1, 1) := by decide +kernel
theorem dX3_look_8 : decode cX3_look 8 = .ok (.aload_n 0, 1) := by decide +kernel
theorem dX3_look_9 : decode cX3_look 9 = .ok (.getfield 9, 3) := by decide +kernel
theorem dX3_look_12 : decode cX3_look 12 = .ok (.getfield 33, 3) := by decide +kernel
theorem dX3_look_15 : decode cX3_look 15 = .ok (.if_icmp .ge 113, 3) := by decide +kernel
theorem dX3_look_18 : decode cX3_look 18 = .ok (.aload_n 0, 1) := by decide +kernel
theorem dX3_look_19 : decode cX3_look 19 = .ok (.getfield 26, 3) := by decide +kernel
theorem dX3_look_22 : decode cX3_look 22 = .ok (.iload_n 1, 1) := by decide +kernel
theorem dX3_look_23 : decode cX3_look 23 = .ok (.iconst (-1), 1) := by decide +kernel
theorem dX3_look_24 : decode cX3_look 24 = .ok (.iastore, 1) := by decide +kernel
theorem dX3_look_25 : decode cX3_look 25 = .ok (.aload_n 0, 1) := by decide +kernel
theorem dX3_look_26 : decode cX3_look 26 = .ok (.getfield 9, 3) := by decide +kernel
theorem dX3_look_29 : decode cX3_look 29 = .ok (.iload_n 1, 1) := by decide +kernel
theorem dX3_look_30 : decode cX3_look 30 = .ok (.invokevirtual 37, 3) := by decide +kernel
theorem dX3_look_33 : decode cX3_look 33 = .ok (.istore_n 2, 1) := by decide +kernel
theorem dX3_look_34 : decode cX3_look 34 = .ok (.iload_n 2, 1) := by decide +kernel
theorem dX3_look_35 : decode cX3_look 35 = .ok (.invokestatic 41, 3) := by decide +kernel
theorem dX3_look_38 : decode cX3_look 38 = .ok (.iconst 1, 1) := by decide +kernel
theorem dX3_look_39 : decode cX3_look 39 = .ok (.if_icmp .ne 83, 3) := by decide +kernel
theorem dX3_look_42 : decode cX3_look 42 = .ok (.aload_n 0, 1) := by decide +kernel
theorem dX3_look_43 : decode cX3_look 43 = .ok (.getfield 15, 3) := by decide +kernel
theorem dX3_look_46 : decode cX3_look 46 = .ok (.aload_n 0, 1) := by decide +kernel
theorem dX3_look_47 : decode cX3_look 47 = .ok (.getfield 29, 3) := by decide +kernel
theorem dX3_look_50 : decode cX3_look 50 = .ok (.invokestatic 44, 3) := by decide +kernel
theorem dX3_look_53 : decode cX3_look 53 = .ok (.ifCond .eq 69, 3) := by decide +kernel
theorem dX3_look_56 : decode cX3_look 56 = .ok (.aload_n 0, 1) := by decide +kernel
theorem dX3_look_57 : decode cX3_look 57 = .ok (.getfield 15, 3) := by decide +kernel
theorem dX3_look_60 : decode cX3_look 60 = .ok (.aload_n 0, 1) := by decide +kernel
theorem dX3_look_61 : decode cX3_look 61 = .ok (.getfield 29, 3) := by decide +kernel
theorem dX3_look_64 : decode cX3_look 64 = .ok (.iload_n 1, 1) := by decide +kernel
theorem dX3_look_65 : decode cX3_look 65 = .ok (.iastore, 1) := by decide +kernel
theorem dX3_look_66 : decode cX3_look 66 = .ok (.aload_n 0, 1) := by decide +kernel
theorem dX3_look_67 : decode cX3_look 67 = .ok (.getfield 19, 3) := by decide +kernel
theorem dX3_look_70 : decode cX3_look 70 = .ok (.aload_n 0, 1) := by decide +kernel
theorem dX3_look_71 : decode cX3_look 71 = .ok (.getfield 29, 3) := by decide +kernel
theorem dX3_look_74 : decode cX3_look 74 = .ok (.aload_n 0, 1) := by decide +kernel
theorem dX3_look_75 : decode cX3_look 75 = .ok (.getfield 9, 3) := by decide +kernel
theorem dX3_look_78 : decode cX3_look 78 = .ok (.iload_n 1, 1) := by decide +kernel
theorem dX3_look_79 : decode cX3_look 79 = .ok (.invokevirtual 48, 3) := by decide +kernel
theorem dX3_look_82 : decode cX3_look 82 = .ok (.iastore, 1) := by decide +kernel
theorem dX3_look_83 : decode cX3_look 83 = .ok (.aload_n 0, 1) := by decide +kernel
theorem dX3_look_84 : decode cX3_look 84 = .ok (.getfield 22, 3) := by decide +kernel
theorem dX3_look_87 : decode cX3_look 87 = .ok (.aload_n 0, 1) := by decide +kernel
theorem dX3_look_88 : decode cX3_look 88 = .ok (.getfield 29, 3) := by decide +kernel
theorem dX3_look_91 : decode cX3_look 91 = .ok (.iload_n 2, 1) := by decide +kernel
theorem dX3_look_92 : decode cX3_look 92 = .ok (.iconst 4, 1) := by decide +kernel
theorem dX3_look_93 : decode cX3_look 93 = .ok (.if_icmp .ne 7, 3) := by decide +kernel
theorem dX3_look_96 : decode cX3_look 96 = .ok (.iconst 1, 1) := by decide +kernel
theorem dX3_look_97 : decode cX3_look 97 = .ok (.goto 4, 3) := by decide +kernel
theorem dX3_look_100 : decode cX3_look 100 = .ok (.iconst 0, 1) := by decide +kernel
theorem dX3_look_101 : decode cX3_look 101 = .ok (.bastore, 1) := by decide +kernel
theorem dX3_look_102 : decode cX3_look 102 = .ok (.aload_n 0, 1) := by decide +kernel
theorem dX3_look_103 : decode cX3_look 103 = .ok (.getfield 26, 3) := by decide +kernel
theorem dX3_look_106 : decode cX3_look 106 = .ok (.iload_n 1, 1) := by decide +kernel
theorem dX3_look_107 : decode cX3_look 107 = .ok (.aload_n 0, 1) := by decide +kernel
theorem dX3_look_108 : decode cX3_look 108 = .ok (.getfield 29, 3) := by decide +kernel
theorem dX3_look_111 : decode cX3_look 111 = .ok (.iastore, 1) := by decide +kernel
theorem dX3_look_112 : decode cX3_look 112 = .ok (.aload_n 0, 1) := by decide +kernel
theorem dX3_look_113 : decode cX3_look 113 = .ok (.dup, 1) := by decide +kernel
theorem dX3_look_114 : decode cX3_look 114 = .ok (.getfield 29, 3) := by decide +kernel
theorem dX3_look_117 : decode cX3_look 117 = .ok (.iconst 1, 1) := by decide +kernel
theorem dX3_look_118 : decode cX3_look 118 = .ok (.iadd, 1) := by decide +kernel
theorem dX3_look_119 : decode cX3_look 119 = .ok (.putfield 29, 3) := by decide +kernel
theorem dX3_look_122 : decode cX3_look 122 = .ok (.iinc 1 1, 3) := by decide +kernel
theorem dX3_look_125 : decode cX3_look 125 = .ok (.goto (-118), 3) := by decide +kernel
theorem dX3_look_128 : decode cX3_look 128 = .ok (.return_, 1) := by decide +kernel
theorem dX3_isLoan_0 : decode cX3_isLoan 0 = .ok (.iload_n 1, 1) := by decide +kernel
theorem dX3_isLoan_1 : decode cX3_isLoan 1 = .ok (.ifCond .lt 15, 3) := by decide +kernel
theorem dX3_isLoan_4 : decode cX3_isLoan 4 = .ok (.iload_n 1, 1) := by decide +kernel
theorem dX3_isLoan_5 : decode cX3_isLoan 5 = .ok (.aload_n 0, 1) := by decide +kernel
theorem dX3_isLoan_6 : decode cX3_isLoan 6 = .ok (.getfield 29, 3) := by decide +kernel
theorem dX3_isLoan_9 : decode cX3_isLoan 9 = .ok (.if_icmp .ge 7, 3) := by decide +kernel
theorem dX3_isLoan_12 : decode cX3_isLoan 12 = .ok (.iconst 1, 1) := by decide +kernel
theorem dX3_isLoan_13 : decode cX3_isLoan 13 = .ok (.goto 4, 3) := by decide +kernel
theorem dX3_isLoan_16 : decode cX3_isLoan 16 = .ok (.iconst 0, 1) := by decide +kernel
theorem dX3_isLoan_17 : decode cX3_isLoan 17 = .ok (.ireturn, 1) := by decide +kernel
theorem dX3_lineOf_0 : decode cX3_lineOf 0 = .ok (.aload_n 0, 1) := by decide +kernel
theorem dX3_lineOf_1 : decode cX3_lineOf 1 = .ok (.iload_n 1, 1) := by decide +kernel
theorem dX3_lineOf_2 : decode cX3_lineOf 2 = .ok (.invokevirtual 51, 3) := by decide +kernel
theorem dX3_lineOf_5 : decode cX3_lineOf 5 = .ok (.ifCond .eq 12, 3) := by decide +kernel
theorem dX3_lineOf_8 : decode cX3_lineOf 8 = .ok (.aload_n 0, 1) := by decide +kernel
theorem dX3_lineOf_9 : decode cX3_lineOf 9 = .ok (.getfield 15, 3) := by decide +kernel
theorem dX3_lineOf_12 : decode cX3_lineOf 12 = .ok (.iload_n 1, 1) := by decide +kernel
theorem dX3_lineOf_13 : decode cX3_lineOf 13 = .ok (.iaload, 1) := by decide +kernel
theorem dX3_lineOf_14 : decode cX3_lineOf 14 = .ok (.goto 4, 3) := by decide +kernel
theorem dX3_lineOf_17 : decode cX3_lineOf 17 = .ok (.iconst (-1), 1) := by decide +kernel
theorem dX3_lineOf_18 : decode cX3_lineOf 18 = .ok (.ireturn, 1) := by decide +kernel
theorem dX3_placeOf_0 : decode cX3_placeOf 0 = .ok (.aload_n 0, 1) := by decide +kernel
theorem dX3_placeOf_1 : decode cX3_placeOf 1 = .ok (.iload_n 1, 1) := by decide +kernel
theorem dX3_placeOf_2 : decode cX3_placeOf 2 = .ok (.invokevirtual 51, 3) := by decide +kernel
theorem dX3_placeOf_5 : decode cX3_placeOf 5 = .ok (.ifCond .eq 12, 3) := by decide +kernel
theorem dX3_placeOf_8 : decode cX3_placeOf 8 = .ok (.aload_n 0, 1) := by decide +kernel
theorem dX3_placeOf_9 : decode cX3_placeOf 9 = .ok (.getfield 19, 3) := by decide +kernel
theorem dX3_placeOf_12 : decode cX3_placeOf 12 = .ok (.iload_n 1, 1) := by decide +kernel
theorem dX3_placeOf_13 : decode cX3_placeOf 13 = .ok (.iaload, 1) := by decide +kernel
theorem dX3_placeOf_14 : decode cX3_placeOf 14 = .ok (.goto 4, 3) := by decide +kernel
theorem dX3_placeOf_17 : decode cX3_placeOf 17 = .ok (.iconst (-1), 1) := by decide +kernel
theorem dX3_placeOf_18 : decode cX3_placeOf 18 = .ok (.ireturn, 1) := by decide +kernel
theorem dX3_isLent_0 : decode cX3_isLent 0 = .ok (.aload_n 0, 1) := by decide +kernel
theorem dX3_isLent_1 : decode cX3_isLent 1 = .ok (.iload_n 1, 1) := by decide +kernel
theorem dX3_isLent_2 : decode cX3_isLent 2 = .ok (.invokevirtual 51, 3) := by decide +kernel
theorem dX3_isLent_5 : decode cX3_isLent 5 = .ok (.ifCond .eq 16, 3) := by decide +kernel
theorem dX3_isLent_8 : decode cX3_isLent 8 = .ok (.aload_n 0, 1) := by decide +kernel
theorem dX3_isLent_9 : decode cX3_isLent 9 = .ok (.getfield 22, 3) := by decide +kernel
theorem dX3_isLent_12 : decode cX3_isLent 12 = .ok (.iload_n 1, 1) := by decide +kernel
theorem dX3_isLent_13 : decode cX3_isLent 13 = .ok (.baload, 1) := by decide +kernel
theorem dX3_isLent_14 : decode cX3_isLent 14 = .ok (.ifCond .eq 7, 3) := by decide +kernel
theorem dX3_isLent_17 : decode cX3_isLent 17 = .ok (.iconst 1, 1) := by decide +kernel
theorem dX3_isLent_18 : decode cX3_isLent 18 = .ok (.goto 4, 3) := by decide +kernel
theorem dX3_isLent_21 : decode cX3_isLent 21 = .ok (.iconst 0, 1) := by decide +kernel
theorem dX3_isLent_22 : decode cX3_isLent 22 = .ok (.ireturn, 1) := by decide +kernel
theorem dX4_init_0 : decode cX4_init 0 = .ok (.aload_n 0, 1) := by decide +kernel
theorem dX4_init_1 : decode cX4_init 1 = .ok (.invokespecial 3, 3) := by decide +kernel
theorem dX4_init_4 : decode cX4_init 4 = .ok (.aload_n 0, 1) := by decide +kernel
theorem dX4_init_5 : decode cX4_init 5 = .ok (.sipush 500, 3) := by decide +kernel
theorem dX4_init_8 : decode cX4_init 8 = .ok (.newarray .int, 2) := by decide +kernel
theorem dX4_init_10 : decode cX4_init 10 = .ok (.putfield 9, 3) := by decide +kernel
theorem dX4_init_13 : decode cX4_init 13 = .ok (.aload_n 0, 1) := by decide +kernel
theorem dX4_init_14 : decode cX4_init 14 = .ok (.sipush 500, 3) := by decide +kernel
theorem dX4_init_17 : decode cX4_init 17 = .ok (.newarray .int, 2) := by decide +kernel
theorem dX4_init_19 : decode cX4_init 19 = .ok (.putfield 15, 3) := by decide +kernel
theorem dX4_init_22 : decode cX4_init 22 = .ok (.aload_n 0, 1) := by decide +kernel
theorem dX4_init_23 : decode cX4_init 23 = .ok (.sipush 500, 3) := by decide +kernel
theorem dX4_init_26 : decode cX4_init 26 = .ok (.newarray .int, 2) := by decide +kernel
theorem dX4_init_28 : decode cX4_init 28 = .ok (.putfield 18, 3) := by decide +kernel
theorem dX4_init_31 : decode cX4_init 31 = .ok (.aload_n 0, 1) := by decide +kernel
theorem dX4_init_32 : decode cX4_init 32 = .ok (.sipush 500, 3) := by decide +kernel
theorem dX4_init_35 : decode cX4_init 35 = .ok (.newarray .boolean, 2) := by decide +kernel
theorem dX4_init_37 : decode cX4_init 37 = .ok (.putfield 21, 3) := by decide +kernel
theorem dX4_init_40 : decode cX4_init 40 = .ok (.aload_n 0, 1) := by decide +kernel
theorem dX4_init_41 : decode cX4_init 41 = .ok (.iconst 0, 1) := by decide +kernel
theorem dX4_init_42 : decode cX4_init 42 = .ok (.putfield 25, 3) := by decide +kernel
theorem dX4_init_45 : decode cX4_init 45 = .ok (.aload_n 0, 1) := by decide +kernel
theorem dX4_init_46 : decode cX4_init 46 = .ok (.iconst 0, 1) := by decide +kernel
theorem dX4_init_47 : decode cX4_init 47 = .ok (.putfield 29, 3) := by decide +kernel
theorem dX4_init_50 : decode cX4_init 50 = .ok (.return_, 1) := by decide +kernel
theorem dX4_clear_0 : decode cX4_clear 0 = .ok (.aload_n 0, 1) := by decide +kernel
theorem dX4_clear_1 : decode cX4_clear 1 = .ok (.iconst 0, 1) := by decide +kernel
theorem dX4_clear_2 : decode cX4_clear 2 = .ok (.putfield 25, 3) := by decide +kernel
theorem dX4_clear_5 : decode cX4_clear 5 = .ok (.aload_n 0, 1) := by decide +kernel
theorem dX4_clear_6 : decode cX4_clear 6 = .ok (.iconst 0, 1) := by decide +kernel
theorem dX4_clear_7 : decode cX4_clear 7 = .ok (.putfield 29, 3) := by decide +kernel
theorem dX4_clear_10 : decode cX4_clear 10 = .ok (.return_, 1) := by decide +kernel
theorem dX4_isNode_0 : decode cX4_isNode 0 = .ok (.iload_n 1, 1) := by decide +kernel
theorem dX4_isNode_1 : decode cX4_isNode 1 = .ok (.ifCond .lt 15, 3) := by decide +kernel
theorem dX4_isNode_4 : decode cX4_isNode 4 = .ok (.iload_n 1, 1) := by decide +kernel
theorem dX4_isNode_5 : decode cX4_isNode 5 = .ok (.aload_n 0, 1) := by decide +kernel
theorem dX4_isNode_6 : decode cX4_isNode 6 = .ok (.getfield 25, 3) := by decide +kernel
theorem dX4_isNode_9 : decode cX4_isNode 9 = .ok (.if_icmp .ge 7, 3) := by decide +kernel
theorem dX4_isNode_12 : decode cX4_isNode 12 = .ok (.iconst 1, 1) := by decide +kernel
theorem dX4_isNode_13 : decode cX4_isNode 13 = .ok (.goto 4, 3) := by decide +kernel
theorem dX4_isNode_16 : decode cX4_isNode 16 = .ok (.iconst 0, 1) := by decide +kernel
theorem dX4_isNode_17 : decode cX4_isNode 17 = .ok (.ireturn, 1) := by decide +kernel
theorem dX4_newNode_0 : decode cX4_newNode 0 = .ok (.aload_n 0, 1) := by decide +kernel
theorem dX4_newNode_1 : decode cX4_newNode 1 = .ok (.getfield 9, 3) := by decide +kernel
theorem dX4_newNode_4 : decode cX4_newNode 4 = .ok (.aload_n 0, 1) := by decide +kernel
theorem dX4_newNode_5 : decode cX4_newNode 5 = .ok (.getfield 25, 3) := by decide +kernel
theorem dX4_newNode_8 : decode cX4_newNode 8 = .ok (.invokestatic 32, 3) := by decide +kernel
theorem dX4_newNode_11 : decode cX4_newNode 11 = .ok (.ifCond .ne 5, 3) := by decide +kernel
theorem dX4_newNode_14 : decode cX4_newNode 14 = .ok (.iconst (-1), 1) := by decide +kernel
theorem dX4_newNode_15 : decode cX4_newNode 15 = .ok (.ireturn, 1) := by decide +kernel
theorem dX4_newNode_16 : decode cX4_newNode 16 = .ok (.aload_n 0, 1) := by decide +kernel
theorem dX4_newNode_17 : decode cX4_newNode 17 = .ok (.getfield 9, 3) := by decide +kernel
theorem dX4_newNode_20 : decode cX4_newNode 20 = .ok (.aload_n 0, 1) := by decide +kernel
theorem dX4_newNode_21 : decode cX4_newNode 21 = .ok (.getfield 25, 3) := by decide +kernel
theorem dX4_newNode_24 : decode cX4_newNode 24 = .ok (.iload_n 1, 1) := by decide +kernel
theorem dX4_newNode_25 : decode cX4_newNode 25 = .ok (.iastore, 1) := by decide +kernel
theorem dX4_newNode_26 : decode cX4_newNode 26 = .ok (.aload_n 0, 1) := by decide +kernel
theorem dX4_newNode_27 : decode cX4_newNode 27 = .ok (.getfield 15, 3) := by decide +kernel
theorem dX4_newNode_30 : decode cX4_newNode 30 = .ok (.aload_n 0, 1) := by decide +kernel
theorem dX4_newNode_31 : decode cX4_newNode 31 = .ok (.getfield 25, 3) := by decide +kernel
theorem dX4_newNode_34 : decode cX4_newNode 34 = .ok (.iconst 1, 1) := by decide +kernel
theorem dX4_newNode_35 : decode cX4_newNode 35 = .ok (.iastore, 1) := by decide +kernel
theorem dX4_newNode_36 : decode cX4_newNode 36 = .ok (.aload_n 0, 1) := by decide +kernel
theorem dX4_newNode_37 : decode cX4_newNode 37 = .ok (.getfield 18, 3) := by decide +kernel
theorem dX4_newNode_40 : decode cX4_newNode 40 = .ok (.aload_n 0, 1) := by decide +kernel
theorem dX4_newNode_41 : decode cX4_newNode 41 = .ok (.getfield 25, 3) := by decide +kernel
theorem dX4_newNode_44 : decode cX4_newNode 44 = .ok (.iconst (-1), 1) := by decide +kernel
theorem dX4_newNode_45 : decode cX4_newNode 45 = .ok (.iastore, 1) := by decide +kernel
theorem dX4_newNode_46 : decode cX4_newNode 46 = .ok (.aload_n 0, 1) := by decide +kernel
theorem dX4_newNode_47 : decode cX4_newNode 47 = .ok (.getfield 21, 3) := by decide +kernel
theorem dX4_newNode_50 : decode cX4_newNode 50 = .ok (.aload_n 0, 1) := by decide +kernel
theorem dX4_newNode_51 : decode cX4_newNode 51 = .ok (.getfield 25, 3) := by decide +kernel
theorem dX4_newNode_54 : decode cX4_newNode 54 = .ok (.iconst 0, 1) := by decide +kernel
theorem dX4_newNode_55 : decode cX4_newNode 55 = .ok (.bastore, 1) := by decide +kernel
theorem dX4_newNode_56 : decode cX4_newNode 56 = .ok (.aload_n 0, 1) := by decide +kernel
theorem dX4_newNode_57 : decode cX4_newNode 57 = .ok (.dup, 1) := by decide +kernel
theorem dX4_newNode_58 : decode cX4_newNode 58 = .ok (.getfield 25, 3) := by decide +kernel
theorem dX4_newNode_61 : decode cX4_newNode 61 = .ok (.iconst 1, 1) := by decide +kernel
theorem dX4_newNode_62 : decode cX4_newNode 62 = .ok (.iadd, 1) := by decide +kernel
theorem dX4_newNode_63 : decode cX4_newNode 63 = .ok (.putfield 25, 3) := by decide +kernel
theorem dX4_newNode_66 : decode cX4_newNode 66 = .ok (.aload_n 0, 1) := by decide +kernel
theorem dX4_newNode_67 : decode cX4_newNode 67 = .ok (.getfield 25, 3) := by decide +kernel
theorem dX4_newNode_70 : decode cX4_newNode 70 = .ok (.iconst 1, 1) := by decide +kernel
theorem dX4_newNode_71 : decode cX4_newNode 71 = .ok (.isub, 1) := by decide +kernel
theorem dX4_newNode_72 : decode cX4_newNode 72 = .ok (.ireturn, 1) := by decide +kernel
theorem dX4_numberOf_0 : decode cX4_numberOf 0 = .ok (.aload_n 0, 1) := by decide +kernel
theorem dX4_numberOf_1 : decode cX4_numberOf 1 = .ok (.iload_n 1, 1) := by decide +kernel
theorem dX4_numberOf_2 : decode cX4_numberOf 2 = .ok (.invokevirtual 36, 3) := by decide +kernel
theorem dX4_numberOf_5 : decode cX4_numberOf 5 = .ok (.ifCond .eq 12, 3) := by decide +kernel
theorem dX4_numberOf_8 : decode cX4_numberOf 8 = .ok (.aload_n 0, 1) := by decide +kernel
theorem dX4_numberOf_9 : decode cX4_numberOf 9 = .ok (.getfield 9, 3) := by decide +kernel
theorem dX4_numberOf_12 : decode cX4_numberOf 12 = .ok (.iload_n 1, 1) := by decide +kernel
theorem dX4_numberOf_13 : decode cX4_numberOf 13 = .ok (.iaload, 1) := by decide +kernel
theorem dX4_numberOf_14 : decode cX4_numberOf 14 = .ok (.goto 4, 3) := by decide +kernel
theorem dX4_numberOf_17 : decode cX4_numberOf 17 = .ok (.iconst 0, 1) := by decide +kernel
theorem dX4_numberOf_18 : decode cX4_numberOf 18 = .ok (.ireturn, 1) := by decide +kernel
theorem dX4_setNumber_0 : decode cX4_setNumber 0 = .ok (.aload_n 0, 1) := by decide +kernel
theorem dX4_setNumber_1 : decode cX4_setNumber 1 = .ok (.iload_n 1, 1) := by decide +kernel
theorem dX4_setNumber_2 : decode cX4_setNumber 2 = .ok (.invokevirtual 36, 3) := by decide +kernel
theorem dX4_setNumber_5 : decode cX4_setNumber 5 = .ok (.ifCond .eq 10, 3) := by decide +kernel
theorem dX4_setNumber_8 : decode cX4_setNumber 8 = .ok (.aload_n 0, 1) := by decide +kernel
theorem dX4_setNumber_9 : decode cX4_setNumber 9 = .ok (.getfield 9, 3) := by decide +kernel
theorem dX4_setNumber_12 : decode cX4_setNumber 12 = .ok (.iload_n 1, 1) := by decide +kernel
theorem dX4_setNumber_13 : decode cX4_setNumber 13 = .ok (.iload_n 2, 1) := by decide +kernel
theorem dX4_setNumber_14 : decode cX4_setNumber 14 = .ok (.iastore, 1) := by decide +kernel
