theorem dX4_setNumber_15 : decode cX4_setNumber 15 = .ok (.return_, 1) := by decide +kernel
theorem dX4_countUp_0 : decode cX4_countUp 0 = .ok (.aload_n 0, 1) := by decide +kernel
theorem dX4_countUp_1 : decode cX4_countUp 1 = .ok (.iload_n 1, 1) := by decide +kernel
theorem dX4_countUp_2 : decode cX4_countUp 2 = .ok (.invokevirtual 36, 3) := by decide +kernel
theorem dX4_countUp_5 : decode cX4_countUp 5 = .ok (.ifCond .eq 13, 3) := by decide +kernel
theorem dX4_countUp_8 : decode cX4_countUp 8 = .ok (.aload_n 0, 1) := by decide +kernel
theorem dX4_countUp_9 : decode cX4_countUp 9 = .ok (.getfield 15, 3) := by decide +kernel
theorem dX4_countUp_12 : decode cX4_countUp 12 = .ok (.iload_n 1, 1) := by decide +kernel
theorem dX4_countUp_13 : decode cX4_countUp 13 = .ok (.dup2, 1) := by decide +kernel
theorem dX4_countUp_14 : decode cX4_countUp 14 = .ok (.iaload, 1) := by decide +kernel
theorem dX4_countUp_15 : decode cX4_countUp 15 = .ok (.iconst 1, 1) := by decide +kernel
theorem dX4_countUp_16 : decode cX4_countUp 16 = .ok (.iadd, 1) := by decide +kernel
theorem dX4_countUp_17 : decode cX4_countUp 17 = .ok (.iastore, 1) := by decide +kernel
theorem dX4_countUp_18 : decode cX4_countUp 18 = .ok (.return_, 1) := by decide +kernel
theorem dX4_isAtEnd_0 : decode cX4_isAtEnd 0 = .ok (.aload_n 0, 1) := by decide +kernel
theorem dX4_isAtEnd_1 : decode cX4_isAtEnd 1 = .ok (.iload_n 1, 1) := by decide +kernel
theorem dX4_isAtEnd_2 : decode cX4_isAtEnd 2 = .ok (.invokevirtual 36, 3) := by decide +kernel
theorem dX4_isAtEnd_5 : decode cX4_isAtEnd 5 = .ok (.ifCond .ne 5, 3) := by decide +kernel
theorem dX4_isAtEnd_8 : decode cX4_isAtEnd 8 = .ok (.iconst 0, 1) := by decide +kernel
theorem dX4_isAtEnd_9 : decode cX4_isAtEnd 9 = .ok (.ireturn, 1) := by decide +kernel
theorem dX4_isAtEnd_10 : decode cX4_isAtEnd 10 = .ok (.aload_n 0, 1) := by decide +kernel
theorem dX4_isAtEnd_11 : decode cX4_isAtEnd 11 = .ok (.getfield 15, 3) := by decide +kernel
theorem dX4_isAtEnd_14 : decode cX4_isAtEnd 14 = .ok (.iload_n 1, 1) := by decide +kernel
theorem dX4_isAtEnd_15 : decode cX4_isAtEnd 15 = .ok (.dup2, 1) := by decide +kernel
theorem dX4_isAtEnd_16 : decode cX4_isAtEnd 16 = .ok (.iaload, 1) := by decide +kernel
theorem dX4_isAtEnd_17 : decode cX4_isAtEnd 17 = .ok (.iconst 1, 1) := by decide +kernel
theorem dX4_isAtEnd_18 : decode cX4_isAtEnd 18 = .ok (.isub, 1) := by decide +kernel
theorem dX4_isAtEnd_19 : decode cX4_isAtEnd 19 = .ok (.iastore, 1) := by decide +kernel
theorem dX4_isAtEnd_20 : decode cX4_isAtEnd 20 = .ok (.aload_n 0, 1) := by decide +kernel
theorem dX4_isAtEnd_21 : decode cX4_isAtEnd 21 = .ok (.getfield 15, 3) := by decide +kernel
theorem dX4_isAtEnd_24 : decode cX4_isAtEnd 24 = .ok (.iload_n 1, 1) := by decide +kernel
theorem dX4_isAtEnd_25 : decode cX4_isAtEnd 25 = .ok (.iaload, 1) := by decide +kernel
theorem dX4_isAtEnd_26 : decode cX4_isAtEnd 26 = .ok (.ifCond .ne 15, 3) := by decide +kernel
theorem dX4_isAtEnd_29 : decode cX4_isAtEnd 29 = .ok (.aload_n 0, 1) := by decide +kernel
theorem dX4_isAtEnd_30 : decode cX4_isAtEnd 30 = .ok (.dup, 1) := by decide +kernel
theorem dX4_isAtEnd_31 : decode cX4_isAtEnd 31 = .ok (.getfield 29, 3) := by decide +kernel
theorem dX4_isAtEnd_34 : decode cX4_isAtEnd 34 = .ok (.iconst 1, 1) := by decide +kernel
theorem dX4_isAtEnd_35 : decode cX4_isAtEnd 35 = .ok (.iadd, 1) := by decide +kernel
theorem dX4_isAtEnd_36 : decode cX4_isAtEnd 36 = .ok (.putfield 29, 3) := by decide +kernel
theorem dX4_isAtEnd_39 : decode cX4_isAtEnd 39 = .ok (.iconst 1, 1) := by decide +kernel
theorem dX4_isAtEnd_40 : decode cX4_isAtEnd 40 = .ok (.ireturn, 1) := by decide +kernel
theorem dX4_isAtEnd_41 : decode cX4_isAtEnd 41 = .ok (.iconst 0, 1) := by decide +kernel
theorem dX4_isAtEnd_42 : decode cX4_isAtEnd 42 = .ok (.ireturn, 1) := by decide +kernel
theorem dX4_linkOf_0 : decode cX4_linkOf 0 = .ok (.aload_n 0, 1) := by decide +kernel
theorem dX4_linkOf_1 : decode cX4_linkOf 1 = .ok (.iload_n 1, 1) := by decide +kernel
theorem dX4_linkOf_2 : decode cX4_linkOf 2 = .ok (.invokevirtual 36, 3) := by decide +kernel
theorem dX4_linkOf_5 : decode cX4_linkOf 5 = .ok (.ifCond .eq 12, 3) := by decide +kernel
theorem dX4_linkOf_8 : decode cX4_linkOf 8 = .ok (.aload_n 0, 1) := by decide +kernel
theorem dX4_linkOf_9 : decode cX4_linkOf 9 = .ok (.getfield 18, 3) := by decide +kernel
theorem dX4_linkOf_12 : decode cX4_linkOf 12 = .ok (.iload_n 1, 1) := by decide +kernel
theorem dX4_linkOf_13 : decode cX4_linkOf 13 = .ok (.iaload, 1) := by decide +kernel
theorem dX4_linkOf_14 : decode cX4_linkOf 14 = .ok (.goto 4, 3) := by decide +kernel
theorem dX4_linkOf_17 : decode cX4_linkOf 17 = .ok (.iconst (-1), 1) := by decide +kernel
theorem dX4_linkOf_18 : decode cX4_linkOf 18 = .ok (.ireturn, 1) := by decide +kernel
theorem dX4_setLink_0 : decode cX4_setLink 0 = .ok (.aload_n 0, 1) := by decide +kernel
theorem dX4_setLink_1 : decode cX4_setLink 1 = .ok (.iload_n 1, 1) := by decide +kernel
theorem dX4_setLink_2 : decode cX4_setLink 2 = .ok (.invokevirtual 36, 3) := by decide +kernel
theorem dX4_setLink_5 : decode cX4_setLink 5 = .ok (.ifCond .eq 10, 3) := by decide +kernel
theorem dX4_setLink_8 : decode cX4_setLink 8 = .ok (.aload_n 0, 1) := by decide +kernel
theorem dX4_setLink_9 : decode cX4_setLink 9 = .ok (.getfield 18, 3) := by decide +kernel
theorem dX4_setLink_12 : decode cX4_setLink 12 = .ok (.iload_n 1, 1) := by decide +kernel
theorem dX4_setLink_13 : decode cX4_setLink 13 = .ok (.iload_n 2, 1) := by decide +kernel
theorem dX4_setLink_14 : decode cX4_setLink 14 = .ok (.iastore, 1) := by decide +kernel
theorem dX4_setLink_15 : decode cX4_setLink 15 = .ok (.return_, 1) := by decide +kernel
theorem dX4_isHeldNow_0 : decode cX4_isHeldNow 0 = .ok (.aload_n 0, 1) := by decide +kernel
theorem dX4_isHeldNow_1 : decode cX4_isHeldNow 1 = .ok (.iload_n 1, 1) := by decide +kernel
theorem dX4_isHeldNow_2 : decode cX4_isHeldNow 2 = .ok (.invokevirtual 36, 3) := by decide +kernel
theorem dX4_isHeldNow_5 : decode cX4_isHeldNow 5 = .ok (.ifCond .eq 16, 3) := by decide +kernel
theorem dX4_isHeldNow_8 : decode cX4_isHeldNow 8 = .ok (.aload_n 0, 1) := by decide +kernel
theorem dX4_isHeldNow_9 : decode cX4_isHeldNow 9 = .ok (.getfield 21, 3) := by decide +kernel
theorem dX4_isHeldNow_12 : decode cX4_isHeldNow 12 = .ok (.iload_n 1, 1) := by decide +kernel
theorem dX4_isHeldNow_13 : decode cX4_isHeldNow 13 = .ok (.baload, 1) := by decide +kernel
theorem dX4_isHeldNow_14 : decode cX4_isHeldNow 14 = .ok (.ifCond .eq 7, 3) := by decide +kernel
theorem dX4_isHeldNow_17 : decode cX4_isHeldNow 17 = .ok (.iconst 1, 1) := by decide +kernel
theorem dX4_isHeldNow_18 : decode cX4_isHeldNow 18 = .ok (.goto 4, 3) := by decide +kernel
theorem dX4_isHeldNow_21 : decode cX4_isHeldNow 21 = .ok (.iconst 0, 1) := by decide +kernel
theorem dX4_isHeldNow_22 : decode cX4_isHeldNow 22 = .ok (.ireturn, 1) := by decide +kernel
theorem dX4_setHeld_0 : decode cX4_setHeld 0 = .ok (.aload_n 0, 1) := by decide +kernel
theorem dX4_setHeld_1 : decode cX4_setHeld 1 = .ok (.iload_n 1, 1) := by decide +kernel
theorem dX4_setHeld_2 : decode cX4_setHeld 2 = .ok (.invokevirtual 36, 3) := by decide +kernel
theorem dX4_setHeld_5 : decode cX4_setHeld 5 = .ok (.ifCond .eq 10, 3) := by decide +kernel
theorem dX4_setHeld_8 : decode cX4_setHeld 8 = .ok (.aload_n 0, 1) := by decide +kernel
theorem dX4_setHeld_9 : decode cX4_setHeld 9 = .ok (.getfield 21, 3) := by decide +kernel
theorem dX4_setHeld_12 : decode cX4_setHeld 12 = .ok (.iload_n 1, 1) := by decide +kernel
theorem dX4_setHeld_13 : decode cX4_setHeld 13 = .ok (.iload_n 2, 1) := by decide +kernel
theorem dX4_setHeld_14 : decode cX4_setHeld 14 = .ok (.bastore, 1) := by decide +kernel
theorem dX4_setHeld_15 : decode cX4_setHeld 15 = .ok (.return_, 1) := by decide +kernel
theorem dX5_init_0 : decode cX5_init 0 = .ok (.aload_n 0, 1) := by decide +kernel
theorem dX5_init_1 : decode cX5_init 1 = .ok (.invokespecial 3, 3) := by decide +kernel
theorem dX5_init_4 : decode cX5_init 4 = .ok (.aload_n 0, 1) := by decide +kernel
theorem dX5_init_5 : decode cX5_init 5 = .ok (.bipush 8, 2) := by decide +kernel
theorem dX5_init_7 : decode cX5_init 7 = .ok (.newarray .int, 2) := by decide +kernel
theorem dX5_init_9 : decode cX5_init 9 = .ok (.putfield 9, 3) := by decide +kernel
theorem dX5_init_12 : decode cX5_init 12 = .ok (.aload_n 0, 1) := by decide +kernel
theorem dX5_init_13 : decode cX5_init 13 = .ok (.bipush 34, 2) := by decide +kernel
theorem dX5_init_15 : decode cX5_init 15 = .ok (.newarray .int, 2) := by decide +kernel
theorem dX5_init_17 : decode cX5_init 17 = .ok (.putfield 15, 3) := by decide +kernel
theorem dX5_init_20 : decode cX5_init 20 = .ok (.aload_n 0, 1) := by decide +kernel
theorem dX5_init_21 : decode cX5_init 21 = .ok (.bipush 34, 2) := by decide +kernel
theorem dX5_init_23 : decode cX5_init 23 = .ok (.newarray .int, 2) := by decide +kernel
theorem dX5_init_25 : decode cX5_init 25 = .ok (.putfield 18, 3) := by decide +kernel
theorem dX5_init_28 : decode cX5_init 28 = .ok (.aload_n 0, 1) := by decide +kernel
theorem dX5_init_29 : decode cX5_init 29 = .ok (.bipush 34, 2) := by decide +kernel
theorem dX5_init_31 : decode cX5_init 31 = .ok (.newarray .int, 2) := by decide +kernel
theorem dX5_init_33 : decode cX5_init 33 = .ok (.putfield 21, 3) := by decide +kernel
theorem dX5_init_36 : decode cX5_init 36 = .ok (.aload_n 0, 1) := by decide +kernel
theorem dX5_init_37 : decode cX5_init 37 = .ok (.iconst 0, 1) := by decide +kernel
theorem dX5_init_38 : decode cX5_init 38 = .ok (.putfield 24, 3) := by decide +kernel
theorem dX5_init_41 : decode cX5_init 41 = .ok (.aload_n 0, 1) := by decide +kernel
theorem dX5_init_42 : decode cX5_init 42 = .ok (.iconst 0, 1) := by decide +kernel
theorem dX5_init_43 : decode cX5_init 43 = .ok (.putfield 28, 3) := by decide +kernel
theorem dX5_init_46 : decode cX5_init 46 = .ok (.return_, 1) := by decide +kernel
theorem dX5_copyOf_0 : decode cX5_copyOf 0 = .ok (.aload_n 1, 1) := by decide +kernel
theorem dX5_copyOf_1 : decode cX5_copyOf 1 = .ok (.getfield 9, 3) := by decide +kernel
theorem dX5_copyOf_4 : decode cX5_copyOf 4 = .ok (.iconst 0, 1) := by decide +kernel
theorem dX5_copyOf_5 : decode cX5_copyOf 5 = .ok (.aload_n 0, 1) := by decide +kernel
theorem dX5_copyOf_6 : decode cX5_copyOf 6 = .ok (.getfield 9, 3) := by decide +kernel
theorem dX5_copyOf_9 : decode cX5_copyOf 9 = .ok (.iconst 0, 1) := by decide +kernel
theorem dX5_copyOf_10 : decode cX5_copyOf 10 = .ok (.bipush 8, 2) := by decide +kernel
theorem dX5_copyOf_12 : decode cX5_copyOf 12 = .ok (.invokestatic 31, 3) := by decide +kernel
theorem dX5_copyOf_15 : decode cX5_copyOf 15 = .ok (.aload_n 1, 1) := by decide +kernel
theorem dX5_copyOf_16 : decode cX5_copyOf 16 = .ok (.getfield 15, 3) := by decide +kernel
theorem dX5_copyOf_19 : decode cX5_copyOf 19 = .ok (.iconst 0, 1) := by decide +kernel
theorem dX5_copyOf_20 : decode cX5_copyOf 20 = .ok (.aload_n 0, 1) := by decide +kernel
theorem dX5_copyOf_21 : decode cX5_copyOf 21 = .ok (.getfield 15, 3) := by decide +kernel
theorem dX5_copyOf_24 : decode cX5_copyOf 24 = .ok (.iconst 0, 1) := by decide +kernel
theorem dX5_copyOf_25 : decode cX5_copyOf 25 = .ok (.bipush 34, 2) := by decide +kernel
theorem dX5_copyOf_27 : decode cX5_copyOf 27 = .ok (.invokestatic 31, 3) := by decide +kernel
theorem dX5_copyOf_30 : decode cX5_copyOf 30 = .ok (.aload_n 1, 1) := by decide +kernel
theorem dX5_copyOf_31 : decode cX5_copyOf 31 = .ok (.getfield 18, 3) := by decide +kernel
theorem dX5_copyOf_34 : decode cX5_copyOf 34 = .ok (.iconst 0, 1) := by decide +kernel
theorem dX5_copyOf_35 : decode cX5_copyOf 35 = .ok (.aload_n 0, 1) := by decide +kernel
theorem dX5_copyOf_36 : decode cX5_copyOf 36 = .ok (.getfield 18, 3) := by decide +kernel
theorem dX5_copyOf_39 : decode cX5_copyOf 39 = .ok (.iconst 0, 1) := by decide +kernel
theorem dX5_copyOf_40 : decode cX5_copyOf 40 = .ok (.bipush 34, 2) := by decide +kernel
theorem dX5_copyOf_42 : decode cX5_copyOf 42 = .ok (.invokestatic 31, 3) := by decide +kernel
theorem dX5_copyOf_45 : decode cX5_copyOf 45 = .ok (.aload_n 1, 1) := by decide +kernel
theorem dX5_copyOf_46 : decode cX5_copyOf 46 = .ok (.getfield 21, 3) := by decide +kernel
theorem dX5_copyOf_49 : decode cX5_copyOf 49 = .ok (.iconst 0, 1) := by decide +kernel
theorem dX5_copyOf_50 : decode cX5_copyOf 50 = .ok (.aload_n 0, 1) := by decide +kernel
theorem dX5_copyOf_51 : decode cX5_copyOf 51 = .ok (.getfield 21, 3) := by decide +kernel
theorem dX5_copyOf_54 : decode cX5_copyOf 54 = .ok (.iconst 0, 1) := by decide +kernel
theorem dX5_copyOf_55 : decode cX5_copyOf 55 = .ok (.bipush 34, 2) := by decide +kernel
theorem dX5_copyOf_57 : decode cX5_copyOf 57 = .ok (.invokestatic 31, 3) := by decide +kernel
theorem dX5_copyOf_60 : decode cX5_copyOf 60 = .ok (.aload_n 0, 1) := by decide +kernel
theorem dX5_copyOf_61 : decode cX5_copyOf 61 = .ok (.aload_n 1, 1) := by decide +kernel
theorem dX5_copyOf_62 : decode cX5_copyOf 62 = .ok (.getfield 24, 3) := by decide +kernel
theorem dX5_copyOf_65 : decode cX5_copyOf 65 = .ok (.putfield 24, 3) := by decide +kernel
theorem dX5_copyOf_68 : decode cX5_copyOf 68 = .ok (.aload_n 0, 1) := by decide +kernel
theorem dX5_copyOf_69 : decode cX5_copyOf 69 = .ok (.aload_n 1, 1) := by decide +kernel
theorem dX5_copyOf_70 : decode cX5_copyOf 70 = .ok (.getfield 28, 3) := by decide +kernel
theorem dX5_copyOf_73 : decode cX5_copyOf 73 = .ok (.putfield 28, 3) := by decide +kernel
theorem dX5_copyOf_76 : decode cX5_copyOf 76 = .ok (.return_, 1) := by decide +kernel
theorem dX5_newVariable_0 : decode cX5_newVariable 0 = .ok (.aload_n 0, 1) := by decide +kernel
theorem dX5_newVariable_1 : decode cX5_newVariable 1 = .ok (.getfield 9, 3) := by decide +kernel
theorem dX5_newVariable_4 : decode cX5_newVariable 4 = .ok (.aload_n 0, 1) := by decide +kernel
theorem dX5_newVariable_5 : decode cX5_newVariable 5 = .ok (.getfield 24, 3) := by decide +kernel
theorem dX5_newVariable_8 : decode cX5_newVariable 8 = .ok (.invokestatic 37, 3) := by decide +kernel
theorem dX5_newVariable_11 : decode cX5_newVariable 11 = .ok (.ifCond .ne 5, 3) := by decide +kernel
theorem dX5_newVariable_14 : decode cX5_newVariable 14 = .ok (.iconst (-1), 1) := by decide +kernel
theorem dX5_newVariable_15 : decode cX5_newVariable 15 = .ok (.ireturn, 1) := by decide +kernel
theorem dX5_newVariable_16 : decode cX5_newVariable 16 = .ok (.aload_n 0, 1) := by decide +kernel
theorem dX5_newVariable_17 : decode cX5_newVariable 17 = .ok (.getfield 9, 3) := by decide +kernel
theorem dX5_newVariable_20 : decode cX5_newVariable 20 = .ok (.aload_n 0, 1) := by decide +kernel
theorem dX5_newVariable_21 : decode cX5_newVariable 21 = .ok (.getfield 24, 3) := by decide +kernel
theorem dX5_newVariable_24 : decode cX5_newVariable 24 = .ok (.iload_n 1, 1) := by decide +kernel
theorem dX5_newVariable_25 : decode cX5_newVariable 25 = .ok (.iastore, 1) := by decide +kernel
theorem dX5_newVariable_26 : decode cX5_newVariable 26 = .ok (.aload_n 0, 1) := by decide +kernel
theorem dX5_newVariable_27 : decode cX5_newVariable 27 = .ok (.dup, 1) := by decide +kernel
theorem dX5_newVariable_28 : decode cX5_newVariable 28 = .ok (.getfield 24, 3) := by decide +kernel
theorem dX5_newVariable_31 : decode cX5_newVariable 31 = .ok (.iconst 1, 1) := by decide +kernel
theorem dX5_newVariable_32 : decode cX5_newVariable 32 = .ok (.iadd, 1) := by decide +kernel
theorem dX5_newVariable_33 : decode cX5_newVariable 33 = .ok (.putfield 24, 3) := by decide +kernel
theorem dX5_newVariable_36 : decode cX5_newVariable 36 = .ok (.aload_n 0, 1) := by decide +kernel
theorem dX5_newVariable_37 : decode cX5_newVariable 37 = .ok (.getfield 24, 3) := by decide +kernel
theorem dX5_newVariable_40 : decode cX5_newVariable 40 = .ok (.iconst 1, 1) := by decide +kernel
theorem dX5_newVariable_41 : decode cX5_newVariable 41 = .ok (.isub, 1) := by decide +kernel
theorem dX5_newVariable_42 : decode cX5_newVariable 42 = .ok (.ireturn, 1) := by decide +kernel
theorem dX5_insertLine_0 : decode cX5_insertLine 0 = .ok (.aload_n 0, 1) := by decide +kernel
theorem dX5_insertLine_1 : decode cX5_insertLine 1 = .ok (.iload_n 1, 1) := by decide +kernel
theorem dX5_insertLine_2 : decode cX5_insertLine 2 = .ok (.invokevirtual 41, 3) := by decide +kernel
theorem dX5_insertLine_5 : decode cX5_insertLine 5 = .ok (.ifCond .eq 12, 3) := by decide +kernel
theorem dX5_insertLine_8 : decode cX5_insertLine 8 = .ok (.aload_n 0, 1) := by decide +kernel
theorem dX5_insertLine_9 : decode cX5_insertLine 9 = .ok (.getfield 28, 3) := by decide +kernel
theorem dX5_insertLine_12 : decode cX5_insertLine 12 = .ok (.bipush 33, 2) := by decide +kernel
theorem dX5_insertLine_14 : decode cX5_insertLine 14 = .ok (.if_icmp .lt 4, 3) := by decide +kernel
theorem dX5_insertLine_17 : decode cX5_insertLine 17 = .ok (.return_, 1) := by decide +kernel
theorem dX5_insertLine_18 : decode cX5_insertLine 18 = .ok (.aload_n 0, 1) := by decide +kernel
theorem dX5_insertLine_19 : decode cX5_insertLine 19 = .ok (.getfield 28, 3) := by decide +kernel
theorem dX5_insertLine_22 : decode cX5_insertLine 22 = .ok (.istore 5, 2) := by decide +kernel
theorem dX5_insertLine_24 : decode cX5_insertLine 24 = .ok (.iload 5, 2) := by decide +kernel
theorem dX5_insertLine_26 : decode cX5_insertLine 26 = .ok (.iload_n 1, 1) := by decide +kernel
theorem dX5_insertLine_27 : decode cX5_insertLine 27 = .ok (.if_icmp .le 57, 3) := by decide +kernel
theorem dX5_insertLine_30 : decode cX5_insertLine 30 = .ok (.aload_n 0, 1) := by decide +kernel
theorem dX5_insertLine_31 : decode cX5_insertLine 31 = .ok (.getfield 15, 3) := by decide +kernel
theorem dX5_insertLine_34 : decode cX5_insertLine 34 = .ok (.iload 5, 2) := by decide +kernel
theorem dX5_insertLine_36 : decode cX5_insertLine 36 = .ok (.aload_n 0, 1) := by decide +kernel
theorem dX5_insertLine_37 : decode cX5_insertLine 37 = .ok (.getfield 15, 3) := by decide +kernel
theorem dX5_insertLine_40 : decode cX5_insertLine 40 = .ok (.iload 5, 2) := by decide +kernel
theorem dX5_insertLine_42 : decode cX5_insertLine 42 = .ok (.iconst 1, 1) := by decide +kernel
theorem dX5_insertLine_43 : decode cX5_insertLine 43 = .ok (.isub, 1) := by decide +kernel
theorem dX5_insertLine_44 : decode cX5_insertLine 44 = .ok (.iaload, 1) := by decide +kernel
theorem dX5_insertLine_45 : decode cX5_insertLine 45 = .ok (.iastore, 1) := by decide +kernel
theorem dX5_insertLine_46 : decode cX5_insertLine 46 = .ok (.aload_n 0, 1) := by decide +kernel
theorem dX5_insertLine_47 : decode cX5_insertLine 47 = .ok (.getfield 18, 3) := by decide +kernel
theorem dX5_insertLine_50 : decode cX5_insertLine 50 = .ok (.iload 5, 2) := by decide +kernel
theorem dX5_insertLine_52 : decode cX5_insertLine 52 = .ok (.aload_n 0, 1) := by decide +kernel
theorem dX5_insertLine_53 : decode cX5_insertLine 53 = .ok (.getfield 18, 3) := by decide +kernel
theorem dX5_insertLine_56 : decode cX5_insertLine 56 = .ok (.iload 5, 2) := by decide +kernel
theorem dX5_insertLine_58 : decode cX5_insertLine 58 = .ok (.iconst 1, 1) := by decide +kernel
theorem dX5_insertLine_59 : decode cX5_insertLine 59 = .ok (.isub, 1) := by decide +kernel
theorem dX5_insertLine_60 : decode cX5_insertLine 60 = .ok (.iaload, 1) := by decide +kernel
theorem dX5_insertLine_61 : decode cX5_insertLine 61 = .ok (.iastore, 1) := by decide +kernel
theorem dX5_insertLine_62 : decode cX5_insertLine 62 = .ok (.aload_n 0, 1) := by decide +kernel
theorem dX5_insertLine_63 : decode cX5_insertLine 63 = .ok (.getfield 21, 3) := by decide +kernel
theorem dX5_insertLine_66 : decode cX5_insertLine 66 = .ok (.iload 5, 2) := by decide +kernel
theorem dX5_insertLine_68 : decode cX5_insertLine 68 = .ok (.aload_n 0, 1) := by decide +kernel
theorem dX5_insertLine_69 : decode cX5_insertLine 69 = .ok (.getfield 21, 3) := by decide +kernel
theorem dX5_insertLine_72 : decode cX5_insertLine 72 = .ok (.iload 5, 2) := by decide +kernel
theorem dX5_insertLine_74 : decode cX5_insertLine 74 = .ok (.iconst 1, 1) := by decide +kernel
theorem dX5_insertLine_75 : decode cX5_insertLine 75 = .ok (.isub, 1) := by decide +kernel
theorem dX5_insertLine_76 : decode cX5_insertLine 76 = .ok (.iaload, 1) := by decide +kernel
theorem dX5_insertLine_77 : decode cX5_insertLine 77 = .ok (.iastore, 1) := by decide +kernel
theorem dX5_insertLine_78 : decode cX5_insertLine 78 = .ok (.iinc 5 (-1), 3) := by decide +kernel
theorem dX5_insertLine_81 : decode cX5_insertLine 81 = .ok (.goto (-57), 3) := by decide +kernel
theorem dX5_insertLine_84 : decode cX5_insertLine 84 = .ok (.aload_n 0, 1) := by decide +kernel
theorem dX5_insertLine_85 : decode cX5_insertLine 85 = .ok (.dup, 1) := by decide +kernel
theorem dX5_insertLine_86 : decode cX5_insertLine 86 = .ok (.getfield 28, 3) := by decide +kernel
theorem dX5_insertLine_89 : decode cX5_insertLine 89 = .ok (.iconst 1, 1) := by decide +kernel
theorem dX5_insertLine_90 : decode cX5_insertLine 90 = .ok (.iadd, 1) := by decide +kernel
theorem dX5_insertLine_91 : decode cX5_insertLine 91 = .ok (.putfield 28, 3) := by decide +kernel
theorem dX5_insertLine_94 : decode cX5_insertLine 94 = .ok (.aload_n 0, 1) := by decide +kernel
theorem dX5_insertLine_95 : decode cX5_insertLine 95 = .ok (.iload_n 1, 1) := by decide +kernel
theorem dX5_insertLine_96 : decode cX5_insertLine 96 = .ok (.iload_n 2, 1) := by decide +kernel
theorem dX5_insertLine_97 : decode cX5_insertLine 97 = .ok (.iload_n 3, 1) := by decide +kernel
theorem dX5_insertLine_98 : decode cX5_insertLine 98 = .ok (.iload 4, 2) := by decide +kernel
theorem dX5_insertLine_100 : decode cX5_insertLine 100 = .ok (.invokevirtual 45, 3) := by decide +kernel
theorem dX5_insertLine_103 : decode cX5_insertLine 103 = .ok (.return_, 1) := by decide +kernel
theorem dX5_removeLine_0 : decode cX5_removeLine 0 = .ok (.aload_n 0, 1) := by decide +kernel
theorem dX5_removeLine_1 : decode cX5_removeLine 1 = .ok (.iload_n 1, 1) := by decide +kernel
theorem dX5_removeLine_2 : decode cX5_removeLine 2 = .ok (.invokevirtual 49, 3) := by decide +kernel
theorem dX5_removeLine_5 : decode cX5_removeLine 5 = .ok (.ifCond .ne 4, 3) := by decide +kernel
theorem dX5_removeLine_8 : decode cX5_removeLine 8 = .ok (.return_, 1) := by decide +kernel
theorem dX5_removeLine_9 : decode cX5_removeLine 9 = .ok (.aload_n 0, 1) := by decide +kernel
theorem dX5_removeLine_10 : decode cX5_removeLine 10 = .ok (.dup, 1) := by decide +kernel
theorem dX5_removeLine_11 : decode cX5_removeLine 11 = .ok (.getfield 28, 3) := by decide +kernel
theorem dX5_removeLine_14 : decode cX5_removeLine 14 = .ok (.iconst 1, 1) := by decide +kernel
theorem dX5_removeLine_15 : decode cX5_removeLine 15 = .ok (.isub, 1) := by decide +kernel
theorem dX5_removeLine_16 : decode cX5_removeLine 16 = .ok (.putfield 28, 3) := by decide +kernel
theorem dX5_removeLine_19 : decode cX5_removeLine 19 = .ok (.iload_n 1, 1) := by decide +kernel
theorem dX5_removeLine_20 : decode cX5_removeLine 20 = .ok (.istore_n 2, 1) := by decide +kernel
theorem dX5_removeLine_21 : decode cX5_removeLine 21 = .ok (.iload_n 2, 1) := by decide +kernel
theorem dX5_removeLine_22 : decode cX5_removeLine 22 = .ok (.aload_n 0, 1) := by decide +kernel
theorem dX5_removeLine_23 : decode cX5_removeLine 23 = .ok (.getfield 28, 3) := by decide +kernel
theorem dX5_removeLine_26 : decode cX5_removeLine 26 = .ok (.if_icmp .ge 51, 3) := by decide +kernel
theorem dX5_removeLine_29 : decode cX5_removeLine 29 = .ok (.aload_n 0, 1) := by decide +kernel
theorem dX5_removeLine_30 : decode cX5_removeLine 30 = .ok (.getfield 15, 3) := by decide +kernel
theorem dX5_removeLine_33 : decode cX5_removeLine 33 = .ok (.iload_n 2, 1) := by decide +kernel
theorem dX5_removeLine_34 : decode cX5_removeLine 34 = .ok (.aload_n 0, 1) := by decide +kernel
theorem dX5_removeLine_35 : decode cX5_removeLine 35 = .ok (.getfield 15, 3) := by decide +kernel
theorem dX5_removeLine_38 : decode cX5_removeLine 38 = .ok (.iload_n 2, 1) := by decide +kernel
theorem dX5_removeLine_39 : decode cX5_removeLine 39 = .ok (.iconst 1, 1) := by decide +kernel
theorem dX5_removeLine_40 : decode cX5_removeLine 40 = .ok (.iadd, 1) := by decide +kernel
theorem dX5_removeLine_41 : decode cX5_removeLine 41 = .ok (.iaload, 1) := by decide +kernel
theorem dX5_removeLine_42 : decode cX5_removeLine 42 = .ok (.iastore, 1) := by decide +kernel
theorem dX5_removeLine_43 : decode cX5_removeLine 43 = .ok (.aload_n 0, 1) := by decide +kernel
theorem dX5_removeLine_44 : decode cX5_removeLine 44 = .ok (.getfield 18, 3) := by decide +kernel
theorem dX5_removeLine_47 : decode cX5_removeLine 47 = .ok (.iload_n 2, 1) := by decide +kernel
theorem dX5_removeLine_48 : decode cX5_removeLine 48 = .ok (.aload_n 0, 1) := by decide +kernel
theorem dX5_removeLine_49 : decode cX5_removeLine 49 = .ok (.getfield 18, 3) := by decide +kernel
theorem dX5_removeLine_52 : decode cX5_removeLine 52 = .ok (.iload_n 2, 1) := by decide +kernel
theorem dX5_removeLine_53 : decode cX5_removeLine 53 = .ok (.iconst 1, 1) := by decide +kernel
theorem dX5_removeLine_54 : decode cX5_removeLine 54 = .ok (.iadd, 1) := by decide +kernel
theorem dX5_removeLine_55 : decode cX5_removeLine 55 = .ok (.iaload, 1) := by decide +kernel
theorem dX5_removeLine_56 : decode cX5_removeLine 56 = .ok (.iastore, 1) := by decide +kernel
theorem dX5_removeLine_57 : decode cX5_removeLine 57 = .ok (.aload_n 0, 1) := by decide +kernel
theorem dX5_removeLine_58 : decode cX5_removeLine 58 = .ok (.getfield 21, 3) := by decide +kernel
theorem dX5_removeLine_61 : decode cX5_removeLine 61 = .ok (.iload_n 2, 1) := by decide +kernel
theorem dX5_removeLine_62 : decode cX5_removeLine 62 = .ok (.aload_n 0, 1) := by decide +kernel
theorem dX5_removeLine_63 : decode cX5_removeLine 63 = .ok (.getfield 21, 3) := by decide +kernel
theorem dX5_removeLine_66 : decode cX5_removeLine 66 = .ok (.iload_n 2, 1) := by decide +kernel
theorem dX5_removeLine_67 : decode cX5_removeLine 67 = .ok (.iconst 1, 1) := by decide +kernel
theorem dX5_removeLine_68 : decode cX5_removeLine 68 = .ok (.iadd, 1) := by decide +kernel
theorem dX5_removeLine_69 : decode cX5_removeLine 69 = .ok (.iaload, 1) := by decide +kernel
theorem dX5_removeLine_70 : decode cX5_removeLine 70 = .ok (.iastore, 1) := by decide +kernel
theorem dX5_removeLine_71 : decode cX5_removeLine 71 = .ok (.iinc 2 1, 3) := by decide +kernel
theorem dX5_removeLine_74 : decode cX5_removeLine 74 = .ok (.goto (-53), 3) := by decide +kernel
theorem dX5_removeLine_77 : decode cX5_removeLine 77 = .ok (.return_, 1) := by decide +kernel
theorem dX5_setLine_0 : decode cX5_setLine 0 = .ok (.aload_n 0, 1) := by decide +kernel
theorem dX5_setLine_1 : decode cX5_setLine 1 = .ok (.iload_n 1, 1) := by decide +kernel
theorem dX5_setLine_2 : decode cX5_setLine 2 = .ok (.invokevirtual 49, 3) := by decide +kernel
theorem dX5_setLine_5 : decode cX5_setLine 5 = .ok (.ifCond .eq 25, 3) := by decide +kernel
theorem dX5_setLine_8 : decode cX5_setLine 8 = .ok (.aload_n 0, 1) := by decide +kernel
theorem dX5_setLine_9 : decode cX5_setLine 9 = .ok (.getfield 15, 3) := by decide +kernel
theorem dX5_setLine_12 : decode cX5_setLine 12 = .ok (.iload_n 1, 1) := by decide +kernel
theorem dX5_setLine_13 : decode cX5_setLine 13 = .ok (.iload_n 2, 1) := by decide +kernel
theorem dX5_setLine_14 : decode cX5_setLine 14 = .ok (.iastore, 1) := by decide +kernel
theorem dX5_setLine_15 : decode cX5_setLine 15 = .ok (.aload_n 0, 1) := by decide +kernel
theorem dX5_setLine_16 : decode cX5_setLine 16 = .ok (.getfield 18, 3) := by decide +kernel
theorem dX5_setLine_19 : decode cX5_setLine 19 = .ok (.iload_n 1, 1) := by decide +kernel
theorem dX5_setLine_20 : decode cX5_setLine 20 = .ok (.iload_n 3, 1) := by decide +kernel
theorem dX5_setLine_21 : decode cX5_setLine 21 = .ok (.iastore, 1) := by decide +kernel
theorem dX5_setLine_22 : decode cX5_setLine 22 = .ok (.aload_n 0, 1) := by decide +kernel
theorem dX5_setLine_23 : decode cX5_setLine 23 = .ok (.getfield 21, 3) := by decide +kernel
theorem dX5_setLine_26 : decode cX5_setLine 26 = .ok (.iload_n 1, 1) := by decide +kernel
theorem dX5_setLine_27 : decode cX5_setLine 27 = .ok (.iload 4, 2) := by decide +kernel
theorem dX5_setLine_29 : decode cX5_setLine 29 = .ok (.iastore, 1) := by decide +kernel
theorem dX5_setLine_30 : decode cX5_setLine 30 = .ok (.return_, 1) := by decide +kernel
theorem dX5_isLine_0 : decode cX5_isLine 0 = .ok (.iload_n 1, 1) := by decide +kernel
theorem dX5_isLine_1 : decode cX5_isLine 1 = .ok (.ifCond .lt 15, 3) := by decide +kernel
theorem dX5_isLine_4 : decode cX5_isLine 4 = .ok (.iload_n 1, 1) := by decide +kernel
theorem dX5_isLine_5 : decode cX5_isLine 5 = .ok (.aload_n 0, 1) := by decide +kernel
theorem dX5_isLine_6 : decode cX5_isLine 6 = .ok (.getfield 28, 3) := by decide +kernel
theorem dX5_isLine_9 : decode cX5_isLine 9 = .ok (.if_icmp .ge 7, 3) := by decide +kernel
theorem dX5_isLine_12 : decode cX5_isLine 12 = .ok (.iconst 1, 1) := by decide +kernel
theorem dX5_isLine_13 : decode cX5_isLine 13 = .ok (.goto 4, 3) := by decide +kernel
theorem dX5_isLine_16 : decode cX5_isLine 16 = .ok (.iconst 0, 1) := by decide +kernel
theorem dX5_isLine_17 : decode cX5_isLine 17 = .ok (.ireturn, 1) := by decide +kernel
theorem dX5_isLineOrEnd_0 : decode cX5_isLineOrEnd 0 = .ok (.iload_n 1, 1) := by decide +kernel
theorem dX5_isLineOrEnd_1 : decode cX5_isLineOrEnd 1 = .ok (.ifCond .lt 15, 3) := by decide +kernel
theorem dX5_isLineOrEnd_4 : decode cX5_isLineOrEnd 4 = .ok (.iload_n 1, 1) := by decide +kernel
theorem dX5_isLineOrEnd_5 : decode cX5_isLineOrEnd 5 = .ok (.aload_n 0, 1) := by decide +kernel
theorem dX5_isLineOrEnd_6 : decode cX5_isLineOrEnd 6 = .ok (.getfield 28, 3) := by decide +kernel
theorem dX5_isLineOrEnd_9 : decode cX5_isLineOrEnd 9 = .ok (.if_icmp .gt 7, 3) := by decide +kernel
theorem dX5_isLineOrEnd_12 : decode cX5_isLineOrEnd 12 = .ok (.iconst 1, 1) := by decide +kernel
theorem dX5_isLineOrEnd_13 : decode cX5_isLineOrEnd 13 = .ok (.goto 4, 3) := by decide +kernel
theorem dX5_isLineOrEnd_16 : decode cX5_isLineOrEnd 16 = .ok (.iconst 0, 1) := by decide +kernel
theorem dX5_isLineOrEnd_17 : decode cX5_isLineOrEnd 17 = .ok (.ireturn, 1) := by decide +kernel
theorem dX5_isVariable_0 : decode cX5_isVariable 0 = .ok (.iload_n 1, 1) := by decide +kernel
theorem dX5_isVariable_1 : decode cX5_isVariable 1 = .ok (.ifCond .lt 15, 3) := by decide +kernel
theorem dX5_isVariable_4 : decode cX5_isVariable 4 = .ok (.iload_n 1, 1) := by decide +kernel
theorem dX5_isVariable_5 : decode cX5_isVariable 5 = .ok (.aload_n 0, 1) := by decide +kernel
theorem dX5_isVariable_6 : decode cX5_isVariable 6 = .ok (.getfield 24, 3) := by decide +kernel
theorem dX5_isVariable_9 : decode cX5_isVariable 9 = .ok (.if_icmp .ge 7, 3) := by decide +kernel
theorem dX5_isVariable_12 : decode cX5_isVariable 12 = .ok (.iconst 1, 1) := by decide +kernel
theorem dX5_isVariable_13 : decode cX5_isVariable 13 = .ok (.goto 4, 3) := by decide +kernel
theorem dX5_isVariable_16 : decode cX5_isVariable 16 = .ok (.iconst 0, 1) := by decide +kernel
theorem dX5_isVariable_17 : decode cX5_isVariable 17 = .ok (.ireturn, 1) := by decide +kernel
theorem dX5_isBorrow_0 : decode cX5_isBorrow 0 = .ok (.aload_n 0, 1) := by decide +kernel
theorem dX5_isBorrow_1 : decode cX5_isBorrow 1 = .ok (.iload_n 1, 1) := by decide +kernel
theorem dX5_isBorrow_2 : decode cX5_isBorrow 2 = .ok (.invokevirtual 52, 3) := by decide +kernel
theorem dX5_isBorrow_5 : decode cX5_isBorrow 5 = .ok (.ifCond .eq 19, 3) := by decide +kernel
theorem dX5_isBorrow_8 : decode cX5_isBorrow 8 = .ok (.aload_n 0, 1) := by decide +kernel
theorem dX5_isBorrow_9 : decode cX5_isBorrow 9 = .ok (.getfield 9, 3) := by decide +kernel
theorem dX5_isBorrow_12 : decode cX5_isBorrow 12 = .ok (.iload_n 1, 1) := by decide +kernel
theorem dX5_isBorrow_13 : decode cX5_isBorrow 13 = .ok (.iaload, 1) := by decide +kernel
theorem dX5_isBorrow_14 : decode cX5_isBorrow 14 = .ok (.invokestatic 55, 3) := by decide +kernel
theorem dX5_isBorrow_17 : decode cX5_isBorrow 17 = .ok (.ifCond .eq 7, 3) := by decide +kernel
theorem dX5_isBorrow_20 : decode cX5_isBorrow 20 = .ok (.iconst 1, 1) := by decide +kernel
theorem dX5_isBorrow_21 : decode cX5_isBorrow 21 = .ok (.goto 4, 3) := by decide +kernel
theorem dX5_isBorrow_24 : decode cX5_isBorrow 24 = .ok (.iconst 0, 1) := by decide +kernel
theorem dX5_isBorrow_25 : decode cX5_isBorrow 25 = .ok (.ireturn, 1) := by decide +kernel
theorem dX5_sortAt_0 : decode cX5_sortAt 0 = .ok (.aload_n 0, 1) := by decide +kernel
theorem dX5_sortAt_1 : decode cX5_sortAt 1 = .ok (.iload_n 1, 1) := by decide +kernel
theorem dX5_sortAt_2 : decode cX5_sortAt 2 = .ok (.invokevirtual 49, 3) := by decide +kernel
theorem dX5_sortAt_5 : decode cX5_sortAt 5 = .ok (.ifCond .eq 12, 3) := by decide +kernel
theorem dX5_sortAt_8 : decode cX5_sortAt 8 = .ok (.aload_n 0, 1) := by decide +kernel
theorem dX5_sortAt_9 : decode cX5_sortAt 9 = .ok (.getfield 15, 3) := by decide +kernel
theorem dX5_sortAt_12 : decode cX5_sortAt 12 = .ok (.iload_n 1, 1) := by decide +kernel
theorem dX5_sortAt_13 : decode cX5_sortAt 13 = .ok (.iaload, 1) := by decide +kernel
theorem dX5_sortAt_14 : decode cX5_sortAt 14 = .ok (.goto 4, 3) := by decide +kernel
theorem dX5_sortAt_17 : decode cX5_sortAt 17 = .ok (.iconst (-1), 1) := by decide +kernel
theorem dX5_sortAt_18 : decode cX5_sortAt 18 = .ok (.ireturn, 1) := by decide +kernel
theorem dX5_aAt_0 : decode cX5_aAt 0 = .ok (.aload_n 0, 1) := by decide +kernel
theorem dX5_aAt_1 : decode cX5_aAt 1 = .ok (.iload_n 1, 1) := by decide +kernel
theorem dX5_aAt_2 : decode cX5_aAt 2 = .ok (.invokevirtual 49, 3) := by decide +kernel
theorem dX5_aAt_5 : decode cX5_aAt 5 = .ok (.ifCond .eq 12, 3) := by decide +kernel
theorem dX5_aAt_8 : decode cX5_aAt 8 = .ok (.aload_n 0, 1) := by decide +kernel
theorem dX5_aAt_9 : decode cX5_aAt 9 = .ok (.getfield 18, 3) := by decide +kernel
theorem dX5_aAt_12 : decode cX5_aAt 12 = .ok (.iload_n 1, 1) := by decide +kernel
theorem dX5_aAt_13 : decode cX5_aAt 13 = .ok (.iaload, 1) := by decide +kernel
theorem dX5_aAt_14 : decode cX5_aAt 14 = .ok (.goto 4, 3) := by decide +kernel
theorem dX5_aAt_17 : decode cX5_aAt 17 = .ok (.iconst (-1), 1) := by decide +kernel
theorem dX5_aAt_18 : decode cX5_aAt 18 = .ok (.ireturn, 1) := by decide +kernel
theorem dX5_bAt_0 : decode cX5_bAt 0 = .ok (.aload_n 0, 1) := by decide +kernel
theorem dX5_bAt_1 : decode cX5_bAt 1 = .ok (.iload_n 1, 1) := by decide +kernel
theorem dX5_bAt_2 : decode cX5_bAt 2 = .ok (.invokevirtual 49, 3) := by decide +kernel
theorem dX5_bAt_5 : decode cX5_bAt 5 = .ok (.ifCond .eq 12, 3) := by decide +kernel
theorem dX5_bAt_8 : decode cX5_bAt 8 = .ok (.aload_n 0, 1) := by decide +kernel
theorem dX5_bAt_9 : decode cX5_bAt 9 = .ok (.getfield 21, 3) := by decide +kernel
theorem dX5_bAt_12 : decode cX5_bAt 12 = .ok (.iload_n 1, 1) := by decide +kernel
theorem dX5_bAt_13 : decode cX5_bAt 13 = .ok (.iaload, 1) := by decide +kernel
theorem dX5_bAt_14 : decode cX5_bAt 14 = .ok (.goto 4, 3) := by decide +kernel
theorem dX5_bAt_17 : decode cX5_bAt 17 = .ok (.iconst (-1), 1) := by decide +kernel
theorem dX5_bAt_18 : decode cX5_bAt 18 = .ok (.ireturn, 1) := by decide +kernel
theorem dX5_kindAt_0 : decode cX5_kindAt 0 = .ok (.iload_n 1, 1) := by decide +kernel
theorem dX5_kindAt_1 : decode cX5_kindAt 1 = .ok (.ifCond .lt 13, 3) := by decide +kernel
theorem dX5_kindAt_4 : decode cX5_kindAt 4 = .ok (.iload_n 1, 1) := by decide +kernel
theorem dX5_kindAt_5 : decode cX5_kindAt 5 = .ok (.iconst 3, 1) := by decide +kernel
theorem dX5_kindAt_6 : decode cX5_kindAt 6 = .ok (.idiv, 1) := by decide +kernel
theorem dX5_kindAt_7 : decode cX5_kindAt 7 = .ok (.aload_n 0, 1) := by decide +kernel
theorem dX5_kindAt_8 : decode cX5_kindAt 8 = .ok (.getfield 24, 3) := by decide +kernel
theorem dX5_kindAt_11 : decode cX5_kindAt 11 = .ok (.if_icmp .lt 5, 3) := by decide +kernel
theorem dX5_kindAt_14 : decode cX5_kindAt 14 = .ok (.iconst (-1), 1) := by decide +kernel
theorem dX5_kindAt_15 : decode cX5_kindAt 15 = .ok (.ireturn, 1) := by decide +kernel
theorem dX5_kindAt_16 : decode cX5_kindAt 16 = .ok (.aload_n 0, 1) := by decide +kernel
theorem dX5_kindAt_17 : decode cX5_kindAt 17 = .ok (.getfield 9, 3) := by decide +kernel
theorem dX5_kindAt_20 : decode cX5_kindAt 20 = .ok (.iload_n 1, 1) := by decide +kernel
theorem dX5_kindAt_21 : decode cX5_kindAt 21 = .ok (.iconst 3, 1) := by decide +kernel
theorem dX5_kindAt_22 : decode cX5_kindAt 22 = .ok (.idiv, 1) := by decide +kernel
theorem dX5_kindAt_23 : decode cX5_kindAt 23 = .ok (.iaload, 1) := by decide +kernel
theorem dX5_kindAt_24 : decode cX5_kindAt 24 = .ok (.istore_n 2, 1) := by decide +kernel
theorem dX5_kindAt_25 : decode cX5_kindAt 25 = .ok (.iload_n 1, 1) := by decide +kernel
theorem dX5_kindAt_26 : decode cX5_kindAt 26 = .ok (.iconst 3, 1) := by decide +kernel
theorem dX5_kindAt_27 : decode cX5_kindAt 27 = .ok (.irem, 1) := by decide +kernel
theorem dX5_kindAt_28 : decode cX5_kindAt 28 = .ok (.ifCond .ne 5, 3) := by decide +kernel
theorem dX5_kindAt_31 : decode cX5_kindAt 31 = .ok (.iload_n 2, 1) := by decide +kernel
theorem dX5_kindAt_32 : decode cX5_kindAt 32 = .ok (.ireturn, 1) := by decide +kernel
theorem dX5_kindAt_33 : decode cX5_kindAt 33 = .ok (.iload_n 2, 1) := by decide +kernel
theorem dX5_kindAt_34 : decode cX5_kindAt 34 = .ok (.iconst 2, 1) := by decide +kernel
theorem dX5_kindAt_35 : decode cX5_kindAt 35 = .ok (.if_icmp .ne 7, 3) := by decide +kernel
theorem dX5_kindAt_38 : decode cX5_kindAt 38 = .ok (.iconst 1, 1) := by decide +kernel
theorem dX5_kindAt_39 : decode cX5_kindAt 39 = .ok (.goto 4, 3) := by decide +kernel
theorem dX5_kindAt_42 : decode cX5_kindAt 42 = .ok (.iconst (-1), 1) := by decide +kernel
theorem dX5_kindAt_43 : decode cX5_kindAt 43 = .ok (.ireturn, 1) := by decide +kernel
theorem dX5_leavesOf_0 : decode cX5_leavesOf 0 = .ok (.aload_n 0, 1) := by decide +kernel
theorem dX5_leavesOf_1 : decode cX5_leavesOf 1 = .ok (.iload_n 1, 1) := by decide +kernel
theorem dX5_leavesOf_2 : decode cX5_leavesOf 2 = .ok (.invokevirtual 58, 3) := by decide +kernel
theorem dX5_leavesOf_5 : decode cX5_leavesOf 5 = .ok (.istore_n 2, 1) := by decide +kernel
theorem dX5_leavesOf_6 : decode cX5_leavesOf 6 = .ok (.iload_n 2, 1) := by decide +kernel
theorem dX5_leavesOf_7 : decode cX5_leavesOf 7 = .ok (.iconst (-1), 1) := by decide +kernel
theorem dX5_leavesOf_8 : decode cX5_leavesOf 8 = .ok (.if_icmp .ne 5, 3) := by decide +kernel
theorem dX5_leavesOf_11 : decode cX5_leavesOf 11 = .ok (.iconst 0, 1) := by decide +kernel
theorem dX5_leavesOf_12 : decode cX5_leavesOf 12 = .ok (.ireturn, 1) := by decide +kernel
theorem dX5_leavesOf_13 : decode cX5_leavesOf 13 = .ok (.iload_n 2, 1) := by decide +kernel
theorem dX5_leavesOf_14 : decode cX5_leavesOf 14 = .ok (.iconst 2, 1) := by decide +kernel
theorem dX5_leavesOf_15 : decode cX5_leavesOf 15 = .ok (.if_icmp .ne 10, 3) := by decide +kernel
theorem dX5_leavesOf_18 : decode cX5_leavesOf 18 = .ok (.bipush 6, 2) := by decide +kernel
theorem dX5_leavesOf_20 : decode cX5_leavesOf 20 = .ok (.iload_n 1, 1) := by decide +kernel
theorem dX5_leavesOf_21 : decode cX5_leavesOf 21 = .ok (.ishl, 1) := by decide +kernel
theorem dX5_leavesOf_22 : decode cX5_leavesOf 22 = .ok (.goto 6, 3) := by decide +kernel
theorem dX5_leavesOf_25 : decode cX5_leavesOf 25 = .ok (.iconst 1, 1) := by decide +kernel
theorem dX5_leavesOf_26 : decode cX5_leavesOf 26 = .ok (.iload_n 1, 1) := by decide +kernel
theorem dX5_leavesOf_27 : decode cX5_leavesOf 27 = .ok (.ishl, 1) := by decide +kernel
theorem dX5_leavesOf_28 : decode cX5_leavesOf 28 = .ok (.ireturn, 1) := by decide +kernel
theorem dX5_allLeaves_0 : decode cX5_allLeaves 0 = .ok (.iconst 0, 1) := by decide +kernel
theorem dX5_allLeaves_1 : decode cX5_allLeaves 1 = .ok (.istore_n 1, 1) := by decide +kernel
theorem dX5_allLeaves_2 : decode cX5_allLeaves 2 = .ok (.iconst 0, 1) := by decide +kernel
theorem dX5_allLeaves_3 : decode cX5_allLeaves 3 = .ok (.istore_n 2, 1) := by decide +kernel
theorem dX5_allLeaves_4 : decode cX5_allLeaves 4 = .ok (.iload_n 2, 1) := by decide +kernel
theorem dX5_allLeaves_5 : decode cX5_allLeaves 5 = .ok (.aload_n 0, 1) := by decide +kernel
theorem dX5_allLeaves_6 : decode cX5_allLeaves 6 = .ok (.getfield 24, 3) := by decide +kernel
theorem dX5_allLeaves_9 : decode cX5_allLeaves 9 = .ok (.if_icmp .ge 19, 3) := by decide +kernel
theorem dX5_allLeaves_12 : decode cX5_allLeaves 12 = .ok (.iload_n 1, 1) := by decide +kernel
theorem dX5_allLeaves_13 : decode cX5_allLeaves 13 = .ok (.aload_n 0, 1) := by decide +kernel
theorem dX5_allLeaves_14 : decode cX5_allLeaves 14 = .ok (.iconst 3, 1) := by decide +kernel
theorem dX5_allLeaves_15 : decode cX5_allLeaves 15 = .ok (.iload_n 2, 1) := by decide +kernel
theorem dX5_allLeaves_16 : decode cX5_allLeaves 16 = .ok (.imul, 1) := by decide +kernel
theorem dX5_allLeaves_17 : decode cX5_allLeaves 17 = .ok (.invokevirtual 62, 3) := by decide +kernel
theorem dX5_allLeaves_20 : decode cX5_allLeaves 20 = .ok (.ior, 1) := by decide +kernel
theorem dX5_allLeaves_21 : decode cX5_allLeaves 21 = .ok (.istore_n 1, 1) := by decide +kernel
theorem dX5_allLeaves_22 : decode cX5_allLeaves 22 = .ok (.iinc 2 1, 3) := by decide +kernel
theorem dX5_allLeaves_25 : decode cX5_allLeaves 25 = .ok (.goto (-21), 3) := by decide +kernel
theorem dX5_allLeaves_28 : decode cX5_allLeaves 28 = .ok (.iload_n 1, 1) := by decide +kernel
theorem dX5_allLeaves_29 : decode cX5_allLeaves 29 = .ok (.ireturn, 1) := by decide +kernel
theorem dX5_ownedLeaves_0 : decode cX5_ownedLeaves 0 = .ok (.iconst 0, 1) := by decide +kernel
theorem dX5_ownedLeaves_1 : decode cX5_ownedLeaves 1 = .ok (.istore_n 1, 1) := by decide +kernel
theorem dX5_ownedLeaves_2 : decode cX5_ownedLeaves 2 = .ok (.iconst 0, 1) := by decide +kernel
theorem dX5_ownedLeaves_3 : decode cX5_ownedLeaves 3 = .ok (.istore_n 2, 1) := by decide +kernel
theorem dX5_ownedLeaves_4 : decode cX5_ownedLeaves 4 = .ok (.iload_n 2, 1) := by decide +kernel
theorem dX5_ownedLeaves_5 : decode cX5_ownedLeaves 5 = .ok (.aload_n 0, 1) := by decide +kernel
theorem dX5_ownedLeaves_6 : decode cX5_ownedLeaves 6 = .ok (.getfield 24, 3) := by decide +kernel
theorem dX5_ownedLeaves_9 : decode cX5_ownedLeaves 9 = .ok (.if_icmp .ge 32, 3) := by decide +kernel
theorem dX5_ownedLeaves_12 : decode cX5_ownedLeaves 12 = .ok (.aload_n 0, 1) := by decide +kernel
theorem dX5_ownedLeaves_13 : decode cX5_ownedLeaves 13 = .ok (.iconst 3, 1) := by decide +kernel
theorem dX5_ownedLeaves_14 : decode cX5_ownedLeaves 14 = .ok (.iload_n 2, 1) := by decide +kernel
theorem dX5_ownedLeaves_15 : decode cX5_ownedLeaves 15 = .ok (.imul, 1) := by decide +kernel
theorem dX5_ownedLeaves_16 : decode cX5_ownedLeaves 16 = .ok (.invokevirtual 58, 3) := by decide +kernel
theorem dX5_ownedLeaves_19 : decode cX5_ownedLeaves 19 = .ok (.invokestatic 65, 3) := by decide +kernel
theorem dX5_ownedLeaves_22 : decode cX5_ownedLeaves 22 = .ok (.ifCond .eq 13, 3) := by decide +kernel
theorem dX5_ownedLeaves_25 : decode cX5_ownedLeaves 25 = .ok (.iload_n 1, 1) := by decide +kernel
theorem dX5_ownedLeaves_26 : decode cX5_ownedLeaves 26 = .ok (.aload_n 0, 1) := by decide +kernel
theorem dX5_ownedLeaves_27 : decode cX5_ownedLeaves 27 = .ok (.iconst 3, 1) := by decide +kernel
theorem dX5_ownedLeaves_28 : decode cX5_ownedLeaves 28 = .ok (.iload_n 2, 1) := by decide +kernel
theorem dX5_ownedLeaves_29 : decode cX5_ownedLeaves 29 = .ok (.imul, 1) := by decide +kernel
theorem dX5_ownedLeaves_30 : decode cX5_ownedLeaves 30 = .ok (.invokevirtual 62, 3) := by decide +kernel
theorem dX5_ownedLeaves_33 : decode cX5_ownedLeaves 33 = .ok (.ior, 1) := by decide +kernel
theorem dX5_ownedLeaves_34 : decode cX5_ownedLeaves 34 = .ok (.istore_n 1, 1) := by decide +kernel
theorem dX5_ownedLeaves_35 : decode cX5_ownedLeaves 35 = .ok (.iinc 2 1, 3) := by decide +kernel
theorem dX5_ownedLeaves_38 : decode cX5_ownedLeaves 38 = .ok (.goto (-34), 3) := by decide +kernel
theorem dX5_ownedLeaves_41 : decode cX5_ownedLeaves 41 = .ok (.iload_n 1, 1) := by decide +kernel
theorem dX5_ownedLeaves_42 : decode cX5_ownedLeaves 42 = .ok (.ireturn, 1) := by decide +kernel
theorem dX5_fits_0 : decode cX5_fits 0 = .ok (.aload_n 0, 1) := by decide +kernel
theorem dX5_fits_1 : decode cX5_fits 1 = .ok (.iload_n 2, 1) := by decide +kernel
theorem dX5_fits_2 : decode cX5_fits 2 = .ok (.invokevirtual 58, 3) := by decide +kernel
theorem dX5_fits_5 : decode cX5_fits 5 = .ok (.istore 4, 2) := by decide +kernel
theorem dX5_fits_7 : decode cX5_fits 7 = .ok (.aload_n 0, 1) := by decide +kernel
theorem dX5_fits_8 : decode cX5_fits 8 = .ok (.iload_n 3, 1) := by decide +kernel
theorem dX5_fits_9 : decode cX5_fits 9 = .ok (.invokevirtual 58, 3) := by decide +kernel
theorem dX5_fits_12 : decode cX5_fits 12 = .ok (.istore 5, 2) := by decide +kernel
theorem dX5_fits_14 : decode cX5_fits 14 = .ok (.iload_n 1, 1) := by decide +kernel
theorem dX5_fits_15 : decode cX5_fits 15 = .ok (.tableswitch 371 0 16 #[81, 108, 135, 165, 185, 205, 221, 252, 270, 339, 285, 339, 305, 323, 323, 339, 353], 81) := by decide +kernel
theorem dX5_fits_96 : decode cX5_fits 96 = .ok (.iload 4, 2) := by decide +kernel
theorem dX5_fits_98 : decode cX5_fits 98 = .ok (.iconst (-1), 1) := by decide +kernel
theorem dX5_fits_99 : decode cX5_fits 99 = .ok (.if_icmp .eq 22, 3) := by decide +kernel
theorem dX5_fits_102 : decode cX5_fits 102 = .ok (.iload 4, 2) := by decide +kernel
theorem dX5_fits_104 : decode cX5_fits 104 = .ok (.invokestatic 55, 3) := by decide +kernel
theorem dX5_fits_107 : decode cX5_fits 107 = .ok (.ifCond .ne 14, 3) := by decide +kernel
theorem dX5_fits_110 : decode cX5_fits 110 = .ok (.iload_n 3, 1) := by decide +kernel
theorem dX5_fits_111 : decode cX5_fits 111 = .ok (.invokestatic 68, 3) := by decide +kernel
theorem dX5_fits_114 : decode cX5_fits 114 = .ok (.ifCond .eq 7, 3) := by decide +kernel
theorem dX5_fits_117 : decode cX5_fits 117 = .ok (.iconst 1, 1) := by decide +kernel
theorem dX5_fits_118 : decode cX5_fits 118 = .ok (.goto 4, 3) := by decide +kernel
theorem dX5_fits_121 : decode cX5_fits 121 = .ok (.iconst 0, 1) := by decide +kernel
theorem dX5_fits_122 : decode cX5_fits 122 = .ok (.ireturn, 1) := by decide +kernel
theorem dX5_fits_123 : decode cX5_fits 123 = .ok (.iload 4, 2) := by decide +kernel
theorem dX5_fits_125 : decode cX5_fits 125 = .ok (.iload 5, 2) := by decide +kernel
theorem dX5_fits_127 : decode cX5_fits 127 = .ok (.if_icmp .ne 21, 3) := by decide +kernel
theorem dX5_fits_130 : decode cX5_fits 130 = .ok (.iload 4, 2) := by decide +kernel
theorem dX5_fits_132 : decode cX5_fits 132 = .ok (.invokestatic 65, 3) := by decide +kernel
theorem dX5_fits_135 : decode cX5_fits 135 = .ok (.ifCond .ne 9, 3) := by decide +kernel
theorem dX5_fits_138 : decode cX5_fits 138 = .ok (.iload 4, 2) := by decide +kernel
theorem dX5_fits_140 : decode cX5_fits 140 = .ok (.iconst 4, 1) := by decide +kernel
theorem dX5_fits_141 : decode cX5_fits 141 = .ok (.if_icmp .ne 7, 3) := by decide +kernel
theorem dX5_fits_144 : decode cX5_fits 144 = .ok (.iconst 1, 1) := by decide +kernel
theorem dX5_fits_145 : decode cX5_fits 145 = .ok (.goto 4, 3) := by decide +kernel
theorem dX5_fits_148 : decode cX5_fits 148 = .ok (.iconst 0, 1) := by decide +kernel
theorem dX5_fits_149 : decode cX5_fits 149 = .ok (.ireturn, 1) := by decide +kernel
theorem dX5_fits_150 : decode cX5_fits 150 = .ok (.iload 4, 2) := by decide +kernel
theorem dX5_fits_152 : decode cX5_fits 152 = .ok (.iload 5, 2) := by decide +kernel
theorem dX5_fits_154 : decode cX5_fits 154 = .ok (.if_icmp .ne 24, 3) := by decide +kernel
theorem dX5_fits_157 : decode cX5_fits 157 = .ok (.iload 4, 2) := by decide +kernel
theorem dX5_fits_159 : decode cX5_fits 159 = .ok (.ifCond .eq 15, 3) := by decide +kernel
theorem dX5_fits_162 : decode cX5_fits 162 = .ok (.iload 4, 2) := by decide +kernel
theorem dX5_fits_164 : decode cX5_fits 164 = .ok (.iconst 3, 1) := by decide +kernel
theorem dX5_fits_165 : decode cX5_fits 165 = .ok (.if_icmp .eq 9, 3) := by decide +kernel
theorem dX5_fits_168 : decode cX5_fits 168 = .ok (.iload 4, 2) := by decide +kernel
theorem dX5_fits_170 : decode cX5_fits 170 = .ok (.iconst 5, 1) := by decide +kernel
theorem dX5_fits_171 : decode cX5_fits 171 = .ok (.if_icmp .ne 7, 3) := by decide +kernel
theorem dX5_fits_174 : decode cX5_fits 174 = .ok (.iconst 1, 1) := by decide +kernel
theorem dX5_fits_175 : decode cX5_fits 175 = .ok (.goto 4, 3) := by decide +kernel
theorem dX5_fits_178 : decode cX5_fits 178 = .ok (.iconst 0, 1) := by decide +kernel
theorem dX5_fits_179 : decode cX5_fits 179 = .ok (.ireturn, 1) := by decide +kernel
theorem dX5_fits_180 : decode cX5_fits 180 = .ok (.iload 4, 2) := by decide +kernel
theorem dX5_fits_182 : decode cX5_fits 182 = .ok (.iconst 3, 1) := by decide +kernel
theorem dX5_fits_183 : decode cX5_fits 183 = .ok (.if_icmp .ne 15, 3) := by decide +kernel
theorem dX5_fits_186 : decode cX5_fits 186 = .ok (.iload 5, 2) := by decide +kernel
theorem dX5_fits_188 : decode cX5_fits 188 = .ok (.invokestatic 71, 3) := by decide +kernel
theorem dX5_fits_191 : decode cX5_fits 191 = .ok (.ifCond .eq 7, 3) := by decide +kernel
theorem dX5_fits_194 : decode cX5_fits 194 = .ok (.iconst 1, 1) := by decide +kernel
theorem dX5_fits_195 : decode cX5_fits 195 = .ok (.goto 4, 3) := by decide +kernel
theorem dX5_fits_198 : decode cX5_fits 198 = .ok (.iconst 0, 1) := by decide +kernel
theorem dX5_fits_199 : decode cX5_fits 199 = .ok (.ireturn, 1) := by decide +kernel
theorem dX5_fits_200 : decode cX5_fits 200 = .ok (.iload 4, 2) := by decide +kernel
theorem dX5_fits_202 : decode cX5_fits 202 = .ok (.iconst 4, 1) := by decide +kernel
theorem dX5_fits_203 : decode cX5_fits 203 = .ok (.if_icmp .ne 15, 3) := by decide +kernel
theorem dX5_fits_206 : decode cX5_fits 206 = .ok (.iload 5, 2) := by decide +kernel
theorem dX5_fits_208 : decode cX5_fits 208 = .ok (.invokestatic 71, 3) := by decide +kernel
theorem dX5_fits_211 : decode cX5_fits 211 = .ok (.ifCond .eq 7, 3) := by decide +kernel
theorem dX5_fits_214 : decode cX5_fits 214 = .ok (.iconst 1, 1) := by decide +kernel
theorem dX5_fits_215 : decode cX5_fits 215 = .ok (.goto 4, 3) := by decide +kernel
theorem dX5_fits_218 : decode cX5_fits 218 = .ok (.iconst 0, 1) := by decide +kernel
theorem dX5_fits_219 : decode cX5_fits 219 = .ok (.ireturn, 1) := by decide +kernel
theorem dX5_fits_220 : decode cX5_fits 220 = .ok (.iload 4, 2) := by decide +kernel
theorem dX5_fits_222 : decode cX5_fits 222 = .ok (.iconst (-1), 1) := by decide +kernel
theorem dX5_fits_223 : decode cX5_fits 223 = .ok (.if_icmp .eq 11, 3) := by decide +kernel
theorem dX5_fits_226 : decode cX5_fits 226 = .ok (.iload_n 3, 1) := by decide +kernel
theorem dX5_fits_227 : decode cX5_fits 227 = .ok (.ifCond .ne 7, 3) := by decide +kernel
theorem dX5_fits_230 : decode cX5_fits 230 = .ok (.iconst 1, 1) := by decide +kernel
theorem dX5_fits_231 : decode cX5_fits 231 = .ok (.goto 4, 3) := by decide +kernel
theorem dX5_fits_234 : decode cX5_fits 234 = .ok (.iconst 0, 1) := by decide +kernel
theorem dX5_fits_235 : decode cX5_fits 235 = .ok (.ireturn, 1) := by decide +kernel
theorem dX5_fits_236 : decode cX5_fits 236 = .ok (.iload 4, 2) := by decide +kernel
theorem dX5_fits_238 : decode cX5_fits 238 = .ok (.iconst (-1), 1) := by decide +kernel
theorem dX5_fits_239 : decode cX5_fits 239 = .ok (.if_icmp .eq 26, 3) := by decide +kernel
theorem dX5_fits_242 : decode cX5_fits 242 = .ok (.iload 4, 2) := by decide +kernel
theorem dX5_fits_244 : decode cX5_fits 244 = .ok (.iconst 2, 1) := by decide +kernel
theorem dX5_fits_245 : decode cX5_fits 245 = .ok (.if_icmp .eq 20, 3) := by decide +kernel
theorem dX5_fits_248 : decode cX5_fits 248 = .ok (.iload 4, 2) := by decide +kernel
theorem dX5_fits_250 : decode cX5_fits 250 = .ok (.iconst 3, 1) := by decide +kernel
theorem dX5_fits_251 : decode cX5_fits 251 = .ok (.if_icmp .eq 14, 3) := by decide +kernel
theorem dX5_fits_254 : decode cX5_fits 254 = .ok (.iload_n 3, 1) := by decide +kernel
theorem dX5_fits_255 : decode cX5_fits 255 = .ok (.invokestatic 68, 3) := by decide +kernel
theorem dX5_fits_258 : decode cX5_fits 258 = .ok (.ifCond .eq 7, 3) := by decide +kernel
theorem dX5_fits_261 : decode cX5_fits 261 = .ok (.iconst 1, 1) := by decide +kernel
theorem dX5_fits_262 : decode cX5_fits 262 = .ok (.goto 4, 3) := by decide +kernel
theorem dX5_fits_265 : decode cX5_fits 265 = .ok (.iconst 0, 1) := by decide +kernel
theorem dX5_fits_266 : decode cX5_fits 266 = .ok (.ireturn, 1) := by decide +kernel
theorem dX5_fits_267 : decode cX5_fits 267 = .ok (.iload 4, 2) := by decide +kernel
theorem dX5_fits_269 : decode cX5_fits 269 = .ok (.invokestatic 65, 3) := by decide +kernel
theorem dX5_fits_272 : decode cX5_fits 272 = .ok (.ifCond .eq 11, 3) := by decide +kernel
theorem dX5_fits_275 : decode cX5_fits 275 = .ok (.iload_n 3, 1) := by decide +kernel
theorem dX5_fits_276 : decode cX5_fits 276 = .ok (.ifCond .ne 7, 3) := by decide +kernel
theorem dX5_fits_279 : decode cX5_fits 279 = .ok (.iconst 1, 1) := by decide +kernel
theorem dX5_fits_280 : decode cX5_fits 280 = .ok (.goto 4, 3) := by decide +kernel
theorem dX5_fits_283 : decode cX5_fits 283 = .ok (.iconst 0, 1) := by decide +kernel
theorem dX5_fits_284 : decode cX5_fits 284 = .ok (.ireturn, 1) := by decide +kernel
theorem dX5_fits_285 : decode cX5_fits 285 = .ok (.iload 4, 2) := by decide +kernel
theorem dX5_fits_287 : decode cX5_fits 287 = .ok (.ifCond .ne 11, 3) := by decide +kernel
theorem dX5_fits_290 : decode cX5_fits 290 = .ok (.iload_n 3, 1) := by decide +kernel
theorem dX5_fits_291 : decode cX5_fits 291 = .ok (.ifCond .ne 7, 3) := by decide +kernel
theorem dX5_fits_294 : decode cX5_fits 294 = .ok (.iconst 1, 1) := by decide +kernel
theorem dX5_fits_295 : decode cX5_fits 295 = .ok (.goto 4, 3) := by decide +kernel
theorem dX5_fits_298 : decode cX5_fits 298 = .ok (.iconst 0, 1) := by decide +kernel
theorem dX5_fits_299 : decode cX5_fits 299 = .ok (.ireturn, 1) := by decide +kernel
theorem dX5_fits_300 : decode cX5_fits 300 = .ok (.iload_n 2, 1) := by decide +kernel
theorem dX5_fits_301 : decode cX5_fits 301 = .ok (.iconst 1, 1) := by decide +kernel
theorem dX5_fits_302 : decode cX5_fits 302 = .ok (.if_icmp .lt 16, 3) := by decide +kernel
theorem dX5_fits_305 : decode cX5_fits 305 = .ok (.iload_n 2, 1) := by decide +kernel
theorem dX5_fits_306 : decode cX5_fits 306 = .ok (.iconst 4, 1) := by decide +kernel
theorem dX5_fits_307 : decode cX5_fits 307 = .ok (.if_icmp .gt 11, 3) := by decide +kernel
theorem dX5_fits_310 : decode cX5_fits 310 = .ok (.iload_n 3, 1) := by decide +kernel
theorem dX5_fits_311 : decode cX5_fits 311 = .ok (.ifCond .ne 7, 3) := by decide +kernel
theorem dX5_fits_314 : decode cX5_fits 314 = .ok (.iconst 1, 1) := by decide +kernel
theorem dX5_fits_315 : decode cX5_fits 315 = .ok (.goto 4, 3) := by decide +kernel
theorem dX5_fits_318 : decode cX5_fits 318 = .ok (.iconst 0, 1) := by decide +kernel
theorem dX5_fits_319 : decode cX5_fits 319 = .ok (.ireturn, 1) := by decide +kernel
theorem dX5_fits_320 : decode cX5_fits 320 = .ok (.iload 4, 2) := by decide +kernel
theorem dX5_fits_322 : decode cX5_fits 322 = .ok (.iconst 5, 1) := by decide +kernel
theorem dX5_fits_323 : decode cX5_fits 323 = .ok (.if_icmp .ne 13, 3) := by decide +kernel
theorem dX5_fits_326 : decode cX5_fits 326 = .ok (.iload 5, 2) := by decide +kernel
theorem dX5_fits_328 : decode cX5_fits 328 = .ok (.iconst 5, 1) := by decide +kernel
theorem dX5_fits_329 : decode cX5_fits 329 = .ok (.if_icmp .ne 7, 3) := by decide +kernel
theorem dX5_fits_332 : decode cX5_fits 332 = .ok (.iconst 1, 1) := by decide +kernel
theorem dX5_fits_333 : decode cX5_fits 333 = .ok (.goto 4, 3) := by decide +kernel
theorem dX5_fits_336 : decode cX5_fits 336 = .ok (.iconst 0, 1) := by decide +kernel
theorem dX5_fits_337 : decode cX5_fits 337 = .ok (.ireturn, 1) := by decide +kernel
theorem dX5_fits_338 : decode cX5_fits 338 = .ok (.iload 4, 2) := by decide +kernel
theorem dX5_fits_340 : decode cX5_fits 340 = .ok (.iconst 5, 1) := by decide +kernel
theorem dX5_fits_341 : decode cX5_fits 341 = .ok (.if_icmp .ne 11, 3) := by decide +kernel
theorem dX5_fits_344 : decode cX5_fits 344 = .ok (.iload_n 3, 1) := by decide +kernel
theorem dX5_fits_345 : decode cX5_fits 345 = .ok (.ifCond .ne 7, 3) := by decide +kernel
theorem dX5_fits_348 : decode cX5_fits 348 = .ok (.iconst 1, 1) := by decide +kernel
theorem dX5_fits_349 : decode cX5_fits 349 = .ok (.goto 4, 3) := by decide +kernel
theorem dX5_fits_352 : decode cX5_fits 352 = .ok (.iconst 0, 1) := by decide +kernel
theorem dX5_fits_353 : decode cX5_fits 353 = .ok (.ireturn, 1) := by decide +kernel
theorem dX5_fits_354 : decode cX5_fits 354 = .ok (.iload_n 2, 1) := by decide +kernel
theorem dX5_fits_355 : decode cX5_fits 355 = .ok (.ifCond .ne 11, 3) := by decide +kernel
theorem dX5_fits_358 : decode cX5_fits 358 = .ok (.iload_n 3, 1) := by decide +kernel
theorem dX5_fits_359 : decode cX5_fits 359 = .ok (.ifCond .ne 7, 3) := by decide +kernel
theorem dX5_fits_362 : decode cX5_fits 362 = .ok (.iconst 1, 1) := by decide +kernel
theorem dX5_fits_363 : decode cX5_fits 363 = .ok (.goto 4, 3) := by decide +kernel
theorem dX5_fits_366 : decode cX5_fits 366 = .ok (.iconst 0, 1) := by decide +kernel
theorem dX5_fits_367 : decode cX5_fits 367 = .ok (.ireturn, 1) := by decide +kernel
theorem dX5_fits_368 : decode cX5_fits 368 = .ok (.iload 4, 2) := by decide +kernel
theorem dX5_fits_370 : decode cX5_fits 370 = .ok (.ifCond .ne 14, 3) := by decide +kernel
theorem dX5_fits_373 : decode cX5_fits 373 = .ok (.iload_n 3, 1) := by decide +kernel
theorem dX5_fits_374 : decode cX5_fits 374 = .ok (.invokestatic 68, 3) := by decide +kernel
theorem dX5_fits_377 : decode cX5_fits 377 = .ok (.ifCond .eq 7, 3) := by decide +kernel
theorem dX5_fits_380 : decode cX5_fits 380 = .ok (.iconst 1, 1) := by decide +kernel
theorem dX5_fits_381 : decode cX5_fits 381 = .ok (.goto 4, 3) := by decide +kernel
theorem dX5_fits_384 : decode cX5_fits 384 = .ok (.iconst 0, 1) := by decide +kernel
theorem dX5_fits_385 : decode cX5_fits 385 = .ok (.ireturn, 1) := by decide +kernel
theorem dX5_fits_386 : decode cX5_fits 386 = .ok (.iconst 0, 1) := by decide +kernel
theorem dX5_fits_387 : decode cX5_fits 387 = .ok (.ireturn, 1) := by decide +kernel
theorem dX5_countLoans_0 : decode cX5_countLoans 0 = .ok (.iconst 0, 1) := by decide +kernel
theorem dX5_countLoans_1 : decode cX5_countLoans 1 = .ok (.istore_n 1, 1) := by decide +kernel
theorem dX5_countLoans_2 : decode cX5_countLoans 2 = .ok (.iconst 0, 1) := by decide +kernel
theorem dX5_countLoans_3 : decode cX5_countLoans 3 = .ok (.istore_n 2, 1) := by decide +kernel
theorem dX5_countLoans_4 : decode cX5_countLoans 4 = .ok (.iload_n 2, 1) := by decide +kernel
theorem dX5_countLoans_5 : decode cX5_countLoans 5 = .ok (.aload_n 0, 1) := by decide +kernel
theorem dX5_countLoans_6 : decode cX5_countLoans 6 = .ok (.getfield 28, 3) := by decide +kernel
theorem dX5_countLoans_9 : decode cX5_countLoans 9 = .ok (.if_icmp .ge 21, 3) := by decide +kernel
theorem dX5_countLoans_12 : decode cX5_countLoans 12 = .ok (.iload_n 1, 1) := by decide +kernel
theorem dX5_countLoans_13 : decode cX5_countLoans 13 = .ok (.aload_n 0, 1) := by decide +kernel
theorem dX5_countLoans_14 : decode cX5_countLoans 14 = .ok (.getfield 15, 3) := by decide +kernel
theorem dX5_countLoans_17 : decode cX5_countLoans 17 = .ok (.iload_n 2, 1) := by decide +kernel
theorem dX5_countLoans_18 : decode cX5_countLoans 18 = .ok (.iaload, 1) := by decide +kernel
theorem dX5_countLoans_19 : decode cX5_countLoans 19 = .ok (.invokestatic 74, 3) := by decide +kernel
theorem dX5_countLoans_22 : decode cX5_countLoans 22 = .ok (.iadd, 1) := by decide +kernel
theorem dX5_countLoans_23 : decode cX5_countLoans 23 = .ok (.istore_n 1, 1) := by decide +kernel
theorem dX5_countLoans_24 : decode cX5_countLoans 24 = .ok (.iinc 2 1, 3) := by decide +kernel
theorem dX5_countLoans_27 : decode cX5_countLoans 27 = .ok (.goto (-23), 3) := by decide +kernel
theorem dX5_countLoans_30 : decode cX5_countLoans 30 = .ok (.iload_n 1, 1) := by decide +kernel
theorem dX5_countLoans_31 : decode cX5_countLoans 31 = .ok (.ireturn, 1) := by decide +kernel
theorem dX6_init_0 : decode cX6_init 0 = .ok (.aload_n 0, 1) := by decide +kernel
theorem dX6_init_1 : decode cX6_init 1 = .ok (.invokespecial 3, 3) := by decide +kernel
theorem dX6_init_4 : decode cX6_init 4 = .ok (.aload_n 0, 1) := by decide +kernel
theorem dX6_init_5 : decode cX6_init 5 = .ok (.aload_n 1, 1) := by decide +kernel
theorem dX6_init_6 : decode cX6_init 6 = .ok (.putfield 9, 3) := by decide +kernel
theorem dX6_init_9 : decode cX6_init 9 = .ok (.aload_n 0, 1) := by decide +kernel
theorem dX6_init_10 : decode cX6_init 10 = .ok (.aload_n 2, 1) := by decide +kernel
theorem dX6_init_11 : decode cX6_init 11 = .ok (.putfield 15, 3) := by decide +kernel
theorem dX6_init_14 : decode cX6_init 14 = .ok (.aload_n 0, 1) := by decide +kernel
theorem dX6_init_15 : decode cX6_init 15 = .ok (.new 19, 3) := by decide +kernel
theorem dX6_init_18 : decode cX6_init 18 = .ok (.dup, 1) := by decide +kernel
theorem dX6_init_19 : decode cX6_init 19 = .ok (.invokespecial 21, 3) := by decide +kernel
theorem dX6_init_22 : decode cX6_init 22 = .ok (.putfield 22, 3) := by decide +kernel
theorem dX6_init_25 : decode cX6_init 25 = .ok (.aload_n 0, 1) := by decide +kernel
theorem dX6_init_26 : decode cX6_init 26 = .ok (.new 26, 3) := by decide +kernel
theorem dX6_init_29 : decode cX6_init 29 = .ok (.dup, 1) := by decide +kernel
theorem dX6_init_30 : decode cX6_init 30 = .ok (.invokespecial 28, 3) := by decide +kernel
theorem dX6_init_33 : decode cX6_init 33 = .ok (.putfield 29, 3) := by decide +kernel
theorem dX6_init_36 : decode cX6_init 36 = .ok (.aload_n 0, 1) := by decide +kernel
theorem dX6_init_37 : decode cX6_init 37 = .ok (.bipush 24, 2) := by decide +kernel
theorem dX6_init_39 : decode cX6_init 39 = .ok (.newarray .boolean, 2) := by decide +kernel
theorem dX6_init_41 : decode cX6_init 41 = .ok (.putfield 33, 3) := by decide +kernel
theorem dX6_init_44 : decode cX6_init 44 = .ok (.aload_n 0, 1) := by decide +kernel
theorem dX6_init_45 : decode cX6_init 45 = .ok (.bipush 24, 2) := by decide +kernel
theorem dX6_init_47 : decode cX6_init 47 = .ok (.newarray .int, 2) := by decide +kernel
theorem dX6_init_49 : decode cX6_init 49 = .ok (.putfield 37, 3) := by decide +kernel
theorem dX6_init_52 : decode cX6_init 52 = .ok (.aload_n 0, 1) := by decide +kernel
theorem dX6_init_53 : decode cX6_init 53 = .ok (.bipush 34, 2) := by decide +kernel
theorem dX6_init_55 : decode cX6_init 55 = .ok (.newarray .int, 2) := by decide +kernel
theorem dX6_init_57 : decode cX6_init 57 = .ok (.putfield 41, 3) := by decide +kernel
theorem dX6_init_60 : decode cX6_init 60 = .ok (.aload_n 0, 1) := by decide +kernel
theorem dX6_init_61 : decode cX6_init 61 = .ok (.iconst 2, 1) := by decide +kernel
theorem dX6_init_62 : decode cX6_init 62 = .ok (.newarray .int, 2) := by decide +kernel
theorem dX6_init_64 : decode cX6_init 64 = .ok (.putfield 44, 3) := by decide +kernel
theorem dX6_init_67 : decode cX6_init 67 = .ok (.aload_n 0, 1) := by decide +kernel
theorem dX6_init_68 : decode cX6_init 68 = .ok (.iconst (-1), 1) := by decide +kernel
theorem dX6_init_69 : decode cX6_init 69 = .ok (.putfield 47, 3) := by decide +kernel
theorem dX6_init_72 : decode cX6_init 72 = .ok (.aload_n 0, 1) := by decide +kernel
theorem dX6_init_73 : decode cX6_init 73 = .ok (.iconst 0, 1) := by decide +kernel
theorem dX6_init_74 : decode cX6_init 74 = .ok (.putfield 51, 3) := by decide +kernel
theorem dX6_init_77 : decode cX6_init 77 = .ok (.aload_n 0, 1) := by decide +kernel
theorem dX6_init_78 : decode cX6_init 78 = .ok (.iconst 0, 1) := by decide +kernel
theorem dX6_init_79 : decode cX6_init 79 = .ok (.putfield 54, 3) := by decide +kernel
theorem dX6_init_82 : decode cX6_init 82 = .ok (.aload_n 0, 1) := by decide +kernel
theorem dX6_init_83 : decode cX6_init 83 = .ok (.iconst 0, 1) := by decide +kernel
theorem dX6_init_84 : decode cX6_init 84 = .ok (.putfield 57, 3) := by decide +kernel
theorem dX6_init_87 : decode cX6_init 87 = .ok (.aload_n 0, 1) := by decide +kernel
theorem dX6_init_88 : decode cX6_init 88 = .ok (.iconst 0, 1) := by decide +kernel
theorem dX6_init_89 : decode cX6_init 89 = .ok (.putfield 60, 3) := by decide +kernel
theorem dX6_init_92 : decode cX6_init 92 = .ok (.aload_n 0, 1) := by decide +kernel
theorem dX6_init_93 : decode cX6_init 93 = .ok (.iconst 0, 1) := by decide +kernel
theorem dX6_init_94 : decode cX6_init 94 = .ok (.putfield 63, 3) := by decide +kernel
theorem dX6_init_97 : decode cX6_init 97 = .ok (.aload_n 0, 1) := by decide +kernel
theorem dX6_init_98 : decode cX6_init 98 = .ok (.iconst 0, 1) := by decide +kernel
theorem dX6_init_99 : decode cX6_init 99 = .ok (.putfield 66, 3) := by decide +kernel
theorem dX6_init_102 : decode cX6_init 102 = .ok (.aload_n 0, 1) := by decide +kernel
theorem dX6_init_103 : decode cX6_init 103 = .ok (.iconst (-1), 1) := by decide +kernel
theorem dX6_init_104 : decode cX6_init 104 = .ok (.putfield 69, 3) := by decide +kernel
theorem dX6_init_107 : decode cX6_init 107 = .ok (.aload_n 0, 1) := by decide +kernel
theorem dX6_init_108 : decode cX6_init 108 = .ok (.iconst 0, 1) := by decide +kernel
theorem dX6_init_109 : decode cX6_init 109 = .ok (.putfield 72, 3) := by decide +kernel
theorem dX6_init_112 : decode cX6_init 112 = .ok (.return_, 1) := by decide +kernel
theorem dX6_countLeaked_0 : decode cX6_countLeaked 0 = .ok (.aload_n 0, 1) := by decide +kernel
theorem dX6_countLeaked_1 : decode cX6_countLeaked 1 = .ok (.getfield 63, 3) := by decide +kernel
theorem dX6_countLeaked_4 : decode cX6_countLeaked 4 = .ok (.aload_n 0, 1) := by decide +kernel
theorem dX6_countLeaked_5 : decode cX6_countLeaked 5 = .ok (.getfield 29, 3) := by decide +kernel
theorem dX6_countLeaked_8 : decode cX6_countLeaked 8 = .ok (.getfield 76, 3) := by decide +kernel
theorem dX6_countLeaked_11 : decode cX6_countLeaked 11 = .ok (.iadd, 1) := by decide +kernel
theorem dX6_countLeaked_12 : decode cX6_countLeaked 12 = .ok (.aload_n 0, 1) := by decide +kernel
theorem dX6_countLeaked_13 : decode cX6_countLeaked 13 = .ok (.getfield 66, 3) := by decide +kernel
theorem dX6_countLeaked_16 : decode cX6_countLeaked 16 = .ok (.isub, 1) := by decide +kernel
theorem dX6_countLeaked_17 : decode cX6_countLeaked 17 = .ok (.aload_n 0, 1) := by decide +kernel
theorem dX6_countLeaked_18 : decode cX6_countLeaked 18 = .ok (.getfield 29, 3) := by decide +kernel
theorem dX6_countLeaked_21 : decode cX6_countLeaked 21 = .ok (.getfield 79, 3) := by decide +kernel
theorem dX6_countLeaked_24 : decode cX6_countLeaked 24 = .ok (.isub, 1) := by decide +kernel
theorem dX6_countLeaked_25 : decode cX6_countLeaked 25 = .ok (.ireturn, 1) := by decide +kernel
theorem dX6_go_0 : decode cX6_go 0 = .ok (.aload_n 0, 1) := by decide +kernel
theorem dX6_go_1 : decode cX6_go 1 = .ok (.invokevirtual 82, 3) := by decide +kernel
theorem dX6_go_4 : decode cX6_go 4 = .ok (.aload_n 0, 1) := by decide +kernel
theorem dX6_go_5 : decode cX6_go 5 = .ok (.getfield 60, 3) := by decide +kernel
theorem dX6_go_8 : decode cX6_go 8 = .ok (.sipush 500, 3) := by decide +kernel
theorem dX6_go_11 : decode cX6_go 11 = .ok (.if_icmp .ge 99, 3) := by decide +kernel
theorem dX6_go_14 : decode cX6_go 14 = .ok (.aload_n 0, 1) := by decide +kernel
theorem dX6_go_15 : decode cX6_go 15 = .ok (.getfield 9, 3) := by decide +kernel
theorem dX6_go_18 : decode cX6_go 18 = .ok (.aload_n 0, 1) := by decide +kernel
theorem dX6_go_19 : decode cX6_go 19 = .ok (.getfield 54, 3) := by decide +kernel
theorem dX6_go_22 : decode cX6_go 22 = .ok (.invokevirtual 85, 3) := by decide +kernel
theorem dX6_go_25 : decode cX6_go 25 = .ok (.ifCond .eq 85, 3) := by decide +kernel
theorem dX6_go_28 : decode cX6_go 28 = .ok (.aload_n 0, 1) := by decide +kernel
theorem dX6_go_29 : decode cX6_go 29 = .ok (.getfield 69, 3) := by decide +kernel
theorem dX6_go_32 : decode cX6_go 32 = .ok (.iconst (-1), 1) := by decide +kernel
theorem dX6_go_33 : decode cX6_go 33 = .ok (.if_icmp .ne 77, 3) := by decide +kernel
theorem dX6_go_36 : decode cX6_go 36 = .ok (.aload_n 0, 1) := by decide +kernel
theorem dX6_go_37 : decode cX6_go 37 = .ok (.dup, 1) := by decide +kernel
theorem dX6_go_38 : decode cX6_go 38 = .ok (.getfield 60, 3) := by decide +kernel
theorem dX6_go_41 : decode cX6_go 41 = .ok (.iconst 1, 1) := by decide +kernel
theorem dX6_go_42 : decode cX6_go 42 = .ok (.iadd, 1) := by decide +kernel
theorem dX6_go_43 : decode cX6_go 43 = .ok (.putfield 60, 3) := by decide +kernel
theorem dX6_go_46 : decode cX6_go 46 = .ok (.aload_n 0, 1) := by decide +kernel
theorem dX6_go_47 : decode cX6_go 47 = .ok (.aload_n 0, 1) := by decide +kernel
theorem dX6_go_48 : decode cX6_go 48 = .ok (.getfield 9, 3) := by decide +kernel
theorem dX6_go_51 : decode cX6_go 51 = .ok (.aload_n 0, 1) := by decide +kernel
theorem dX6_go_52 : decode cX6_go 52 = .ok (.getfield 54, 3) := by decide +kernel
theorem dX6_go_55 : decode cX6_go 55 = .ok (.invokevirtual 91, 3) := by decide +kernel
theorem dX6_go_58 : decode cX6_go 58 = .ok (.aload_n 0, 1) := by decide +kernel
theorem dX6_go_59 : decode cX6_go 59 = .ok (.getfield 9, 3) := by decide +kernel
theorem dX6_go_62 : decode cX6_go 62 = .ok (.aload_n 0, 1) := by decide +kernel
theorem dX6_go_63 : decode cX6_go 63 = .ok (.getfield 54, 3) := by decide +kernel
theorem dX6_go_66 : decode cX6_go 66 = .ok (.invokevirtual 95, 3) := by decide +kernel
theorem dX6_go_69 : decode cX6_go 69 = .ok (.aload_n 0, 1) := by decide +kernel
theorem dX6_go_70 : decode cX6_go 70 = .ok (.getfield 9, 3) := by decide +kernel
theorem dX6_go_73 : decode cX6_go 73 = .ok (.aload_n 0, 1) := by decide +kernel
theorem dX6_go_74 : decode cX6_go 74 = .ok (.getfield 54, 3) := by decide +kernel
theorem dX6_go_77 : decode cX6_go 77 = .ok (.invokevirtual 98, 3) := by decide +kernel
theorem dX6_go_80 : decode cX6_go 80 = .ok (.invokevirtual 101, 3) := by decide +kernel
theorem dX6_go_83 : decode cX6_go 83 = .ok (.aload_n 0, 1) := by decide +kernel
theorem dX6_go_84 : decode cX6_go 84 = .ok (.invokevirtual 105, 3) := by decide +kernel
theorem dX6_go_87 : decode cX6_go 87 = .ok (.aload_n 0, 1) := by decide +kernel
theorem dX6_go_88 : decode cX6_go 88 = .ok (.getfield 69, 3) := by decide +kernel
theorem dX6_go_91 : decode cX6_go 91 = .ok (.iconst (-1), 1) := by decide +kernel
theorem dX6_go_92 : decode cX6_go 92 = .ok (.if_icmp .ne (-88), 3) := by decide +kernel
theorem dX6_go_95 : decode cX6_go 95 = .ok (.aload_n 0, 1) := by decide +kernel
theorem dX6_go_96 : decode cX6_go 96 = .ok (.aload_n 0, 1) := by decide +kernel
theorem dX6_go_97 : decode cX6_go 97 = .ok (.aload_n 0, 1) := by decide +kernel
theorem dX6_go_98 : decode cX6_go 98 = .ok (.getfield 54, 3) := by decide +kernel
theorem dX6_go_101 : decode cX6_go 101 = .ok (.invokevirtual 108, 3) := by decide +kernel
theorem dX6_go_104 : decode cX6_go 104 = .ok (.putfield 54, 3) := by decide +kernel
theorem dX6_go_107 : decode cX6_go 107 = .ok (.goto (-103), 3) := by decide +kernel
theorem dX6_go_110 : decode cX6_go 110 = .ok (.aload_n 0, 1) := by decide +kernel
theorem dX6_go_111 : decode cX6_go 111 = .ok (.getfield 69, 3) := by decide +kernel
theorem dX6_go_114 : decode cX6_go 114 = .ok (.iconst (-1), 1) := by decide +kernel
theorem dX6_go_115 : decode cX6_go 115 = .ok (.if_icmp .ne 23, 3) := by decide +kernel
theorem dX6_go_118 : decode cX6_go 118 = .ok (.aload_n 0, 1) := by decide +kernel
theorem dX6_go_119 : decode cX6_go 119 = .ok (.getfield 9, 3) := by decide +kernel
theorem dX6_go_122 : decode cX6_go 122 = .ok (.aload_n 0, 1) := by decide +kernel
theorem dX6_go_123 : decode cX6_go 123 = .ok (.getfield 54, 3) := by decide +kernel
theorem dX6_go_126 : decode cX6_go 126 = .ok (.invokevirtual 85, 3) := by decide +kernel
theorem dX6_go_129 : decode cX6_go 129 = .ok (.ifCond .eq 9, 3) := by decide +kernel
theorem dX6_go_132 : decode cX6_go 132 = .ok (.aload_n 0, 1) := by decide +kernel
theorem dX6_go_133 : decode cX6_go 133 = .ok (.iconst 3, 1) := by decide +kernel
theorem dX6_go_134 : decode cX6_go 134 = .ok (.putfield 57, 3) := by decide +kernel
theorem dX6_go_137 : decode cX6_go 137 = .ok (.return_, 1) := by decide +kernel
theorem dX6_go_138 : decode cX6_go 138 = .ok (.aload_n 0, 1) := by decide +kernel
theorem dX6_go_139 : decode cX6_go 139 = .ok (.aload_n 0, 1) := by decide +kernel
theorem dX6_go_140 : decode cX6_go 140 = .ok (.getfield 9, 3) := by decide +kernel
theorem dX6_go_143 : decode cX6_go 143 = .ok (.getfield 111, 3) := by decide +kernel
theorem dX6_go_146 : decode cX6_go 146 = .ok (.putfield 54, 3) := by decide +kernel
theorem dX6_go_149 : decode cX6_go 149 = .ok (.aload_n 0, 1) := by decide +kernel
theorem dX6_go_150 : decode cX6_go 150 = .ok (.invokevirtual 114, 3) := by decide +kernel
theorem dX6_go_153 : decode cX6_go 153 = .ok (.aload_n 0, 1) := by decide +kernel
theorem dX6_go_154 : decode cX6_go 154 = .ok (.getfield 72, 3) := by decide +kernel
theorem dX6_go_157 : decode cX6_go 157 = .ok (.ifCond .eq 11, 3) := by decide +kernel
theorem dX6_go_160 : decode cX6_go 160 = .ok (.aload_n 0, 1) := by decide +kernel
theorem dX6_go_161 : decode cX6_go 161 = .ok (.iconst 2, 1) := by decide +kernel
theorem dX6_go_162 : decode cX6_go 162 = .ok (.putfield 57, 3) := by decide +kernel
theorem dX6_go_165 : decode cX6_go 165 = .ok (.goto 20, 3) := by decide +kernel
theorem dX6_go_168 : decode cX6_go 168 = .ok (.aload_n 0, 1) := by decide +kernel
theorem dX6_go_169 : decode cX6_go 169 = .ok (.aload_n 0, 1) := by decide +kernel
theorem dX6_go_170 : decode cX6_go 170 = .ok (.getfield 69, 3) := by decide +kernel
theorem dX6_go_173 : decode cX6_go 173 = .ok (.iconst (-1), 1) := by decide +kernel
theorem dX6_go_174 : decode cX6_go 174 = .ok (.if_icmp .ne 7, 3) := by decide +kernel
theorem dX6_go_177 : decode cX6_go 177 = .ok (.iconst 0, 1) := by decide +kernel
theorem dX6_go_178 : decode cX6_go 178 = .ok (.goto 4, 3) := by decide +kernel
theorem dX6_go_181 : decode cX6_go 181 = .ok (.iconst 1, 1) := by decide +kernel
theorem dX6_go_182 : decode cX6_go 182 = .ok (.putfield 57, 3) := by decide +kernel
theorem dX6_go_185 : decode cX6_go 185 = .ok (.return_, 1) := by decide +kernel
theorem dX6_clear_0 : decode cX6_clear 0 = .ok (.aload_n 0, 1) := by decide +kernel
theorem dX6_clear_1 : decode cX6_clear 1 = .ok (.getfield 22, 3) := by decide +kernel
theorem dX6_clear_4 : decode cX6_clear 4 = .ok (.iconst 0, 1) := by decide +kernel
theorem dX6_clear_5 : decode cX6_clear 5 = .ok (.putfield 117, 3) := by decide +kernel
theorem dX6_clear_8 : decode cX6_clear 8 = .ok (.aload_n 0, 1) := by decide +kernel
theorem dX6_clear_9 : decode cX6_clear 9 = .ok (.getfield 29, 3) := by decide +kernel
theorem dX6_clear_12 : decode cX6_clear 12 = .ok (.invokevirtual 120, 3) := by decide +kernel
theorem dX6_clear_15 : decode cX6_clear 15 = .ok (.iconst 0, 1) := by decide +kernel
theorem dX6_clear_16 : decode cX6_clear 16 = .ok (.istore_n 1, 1) := by decide +kernel
theorem dX6_clear_17 : decode cX6_clear 17 = .ok (.iload_n 1, 1) := by decide +kernel
theorem dX6_clear_18 : decode cX6_clear 18 = .ok (.bipush 24, 2) := by decide +kernel
theorem dX6_clear_20 : decode cX6_clear 20 = .ok (.if_icmp .ge 23, 3) := by decide +kernel
theorem dX6_clear_23 : decode cX6_clear 23 = .ok (.aload_n 0, 1) := by decide +kernel
theorem dX6_clear_24 : decode cX6_clear 24 = .ok (.getfield 33, 3) := by decide +kernel
theorem dX6_clear_27 : decode cX6_clear 27 = .ok (.iload_n 1, 1) := by decide +kernel
theorem dX6_clear_28 : decode cX6_clear 28 = .ok (.iconst 0, 1) := by decide +kernel
theorem dX6_clear_29 : decode cX6_clear 29 = .ok (.bastore, 1) := by decide +kernel
theorem dX6_clear_30 : decode cX6_clear 30 = .ok (.aload_n 0, 1) := by decide +kernel
theorem dX6_clear_31 : decode cX6_clear 31 = .ok (.getfield 37, 3) := by decide +kernel
theorem dX6_clear_34 : decode cX6_clear 34 = .ok (.iload_n 1, 1) := by decide +kernel
theorem dX6_clear_35 : decode cX6_clear 35 = .ok (.iconst 0, 1) := by decide +kernel
theorem dX6_clear_36 : decode cX6_clear 36 = .ok (.iastore, 1) := by decide +kernel
theorem dX6_clear_37 : decode cX6_clear 37 = .ok (.iinc 1 1, 3) := by decide +kernel
theorem dX6_clear_40 : decode cX6_clear 40 = .ok (.goto (-23), 3) := by decide +kernel
theorem dX6_clear_43 : decode cX6_clear 43 = .ok (.aload_n 0, 1) := by decide +kernel
theorem dX6_clear_44 : decode cX6_clear 44 = .ok (.getfield 41, 3) := by decide +kernel
theorem dX6_clear_47 : decode cX6_clear 47 = .ok (.iconst 0, 1) := by decide +kernel
theorem dX6_clear_48 : decode cX6_clear 48 = .ok (.invokestatic 121, 3) := by decide +kernel
theorem dX6_clear_51 : decode cX6_clear 51 = .ok (.aload_n 0, 1) := by decide +kernel
theorem dX6_clear_52 : decode cX6_clear 52 = .ok (.iconst 0, 1) := by decide +kernel
theorem dX6_clear_53 : decode cX6_clear 53 = .ok (.putfield 51, 3) := by decide +kernel
theorem dX6_clear_56 : decode cX6_clear 56 = .ok (.aload_n 0, 1) := by decide +kernel
theorem dX6_clear_57 : decode cX6_clear 57 = .ok (.iconst 0, 1) := by decide +kernel
theorem dX6_clear_58 : decode cX6_clear 58 = .ok (.putfield 54, 3) := by decide +kernel
theorem dX6_clear_61 : decode cX6_clear 61 = .ok (.aload_n 0, 1) := by decide +kernel
theorem dX6_clear_62 : decode cX6_clear 62 = .ok (.iconst 0, 1) := by decide +kernel
theorem dX6_clear_63 : decode cX6_clear 63 = .ok (.putfield 60, 3) := by decide +kernel
theorem dX6_clear_66 : decode cX6_clear 66 = .ok (.aload_n 0, 1) := by decide +kernel
theorem dX6_clear_67 : decode cX6_clear 67 = .ok (.iconst 0, 1) := by decide +kernel
theorem dX6_clear_68 : decode cX6_clear 68 = .ok (.putfield 63, 3) := by decide +kernel
theorem dX6_clear_71 : decode cX6_clear 71 = .ok (.aload_n 0, 1) := by decide +kernel
theorem dX6_clear_72 : decode cX6_clear 72 = .ok (.iconst 0, 1) := by decide +kernel
theorem dX6_clear_73 : decode cX6_clear 73 = .ok (.putfield 66, 3) := by decide +kernel
theorem dX6_clear_76 : decode cX6_clear 76 = .ok (.aload_n 0, 1) := by decide +kernel
theorem dX6_clear_77 : decode cX6_clear 77 = .ok (.iconst (-1), 1) := by decide +kernel
theorem dX6_clear_78 : decode cX6_clear 78 = .ok (.putfield 69, 3) := by decide +kernel
theorem dX6_clear_81 : decode cX6_clear 81 = .ok (.aload_n 0, 1) := by decide +kernel
theorem dX6_clear_82 : decode cX6_clear 82 = .ok (.iconst 0, 1) := by decide +kernel
theorem dX6_clear_83 : decode cX6_clear 83 = .ok (.putfield 72, 3) := by decide +kernel
theorem dX6_clear_86 : decode cX6_clear 86 = .ok (.return_, 1) := by decide +kernel
theorem dX6_lineBehind_0 : decode cX6_lineBehind 0 = .ok (.aload_n 0, 1) := by decide +kernel
theorem dX6_lineBehind_1 : decode cX6_lineBehind 1 = .ok (.getfield 9, 3) := by decide +kernel
theorem dX6_lineBehind_4 : decode cX6_lineBehind 4 = .ok (.iload_n 1, 1) := by decide +kernel
theorem dX6_lineBehind_5 : decode cX6_lineBehind 5 = .ok (.invokevirtual 91, 3) := by decide +kernel
theorem dX6_lineBehind_8 : decode cX6_lineBehind 8 = .ok (.istore_n 2, 1) := by decide +kernel
theorem dX6_lineBehind_9 : decode cX6_lineBehind 9 = .ok (.iload_n 2, 1) := by decide +kernel
theorem dX6_lineBehind_10 : decode cX6_lineBehind 10 = .ok (.bipush 8, 2) := by decide +kernel
theorem dX6_lineBehind_12 : decode cX6_lineBehind 12 = .ok (.if_icmp .ne 38, 3) := by decide +kernel
theorem dX6_lineBehind_15 : decode cX6_lineBehind 15 = .ok (.aload_n 0, 1) := by decide +kernel
theorem dX6_lineBehind_16 : decode cX6_lineBehind 16 = .ok (.aload_n 0, 1) := by decide +kernel
theorem dX6_lineBehind_17 : decode cX6_lineBehind 17 = .ok (.getfield 9, 3) := by decide +kernel
theorem dX6_lineBehind_20 : decode cX6_lineBehind 20 = .ok (.iload_n 1, 1) := by decide +kernel
theorem dX6_lineBehind_21 : decode cX6_lineBehind 21 = .ok (.invokevirtual 95, 3) := by decide +kernel
theorem dX6_lineBehind_24 : decode cX6_lineBehind 24 = .ok (.invokevirtual 127, 3) := by decide +kernel
theorem dX6_lineBehind_27 : decode cX6_lineBehind 27 = .ok (.ifCond .le 14, 3) := by decide +kernel
theorem dX6_lineBehind_30 : decode cX6_lineBehind 30 = .ok (.aload_n 0, 1) := by decide +kernel
theorem dX6_lineBehind_31 : decode cX6_lineBehind 31 = .ok (.getfield 15, 3) := by decide +kernel
theorem dX6_lineBehind_34 : decode cX6_lineBehind 34 = .ok (.iload_n 1, 1) := by decide +kernel
theorem dX6_lineBehind_35 : decode cX6_lineBehind 35 = .ok (.invokevirtual 130, 3) := by decide +kernel
theorem dX6_lineBehind_38 : decode cX6_lineBehind 38 = .ok (.goto 11, 3) := by decide +kernel
theorem dX6_lineBehind_41 : decode cX6_lineBehind 41 = .ok (.aload_n 0, 1) := by decide +kernel
theorem dX6_lineBehind_42 : decode cX6_lineBehind 42 = .ok (.getfield 15, 3) := by decide +kernel
theorem dX6_lineBehind_45 : decode cX6_lineBehind 45 = .ok (.iload_n 1, 1) := by decide +kernel
theorem dX6_lineBehind_46 : decode cX6_lineBehind 46 = .ok (.invokevirtual 135, 3) := by decide +kernel
theorem dX6_lineBehind_49 : decode cX6_lineBehind 49 = .ok (.ireturn, 1) := by decide +kernel
theorem dX6_lineBehind_50 : decode cX6_lineBehind 50 = .ok (.iload_n 2, 1) := by decide +kernel
theorem dX6_lineBehind_51 : decode cX6_lineBehind 51 = .ok (.bipush 10, 2) := by decide +kernel
theorem dX6_lineBehind_53 : decode cX6_lineBehind 53 = .ok (.if_icmp .ne 28, 3) := by decide +kernel
theorem dX6_lineBehind_56 : decode cX6_lineBehind 56 = .ok (.aload_n 0, 1) := by decide +kernel
theorem dX6_lineBehind_57 : decode cX6_lineBehind 57 = .ok (.getfield 41, 3) := by decide +kernel
theorem dX6_lineBehind_60 : decode cX6_lineBehind 60 = .ok (.iload_n 1, 1) := by decide +kernel
theorem dX6_lineBehind_61 : decode cX6_lineBehind 61 = .ok (.invokestatic 138, 3) := by decide +kernel
theorem dX6_lineBehind_64 : decode cX6_lineBehind 64 = .ok (.ifCond .eq 17, 3) := by decide +kernel
theorem dX6_lineBehind_67 : decode cX6_lineBehind 67 = .ok (.aload_n 0, 1) := by decide +kernel
theorem dX6_lineBehind_68 : decode cX6_lineBehind 68 = .ok (.getfield 41, 3) := by decide +kernel
theorem dX6_lineBehind_71 : decode cX6_lineBehind 71 = .ok (.iload_n 1, 1) := by decide +kernel
theorem dX6_lineBehind_72 : decode cX6_lineBehind 72 = .ok (.aload_n 0, 1) := by decide +kernel
theorem dX6_lineBehind_73 : decode cX6_lineBehind 73 = .ok (.getfield 9, 3) := by decide +kernel
theorem dX6_lineBehind_76 : decode cX6_lineBehind 76 = .ok (.iload_n 1, 1) := by decide +kernel
theorem dX6_lineBehind_77 : decode cX6_lineBehind 77 = .ok (.invokevirtual 95, 3) := by decide +kernel
theorem dX6_lineBehind_80 : decode cX6_lineBehind 80 = .ok (.iastore, 1) := by decide +kernel
theorem dX6_lineBehind_81 : decode cX6_lineBehind 81 = .ok (.aload_n 0, 1) := by decide +kernel
theorem dX6_lineBehind_82 : decode cX6_lineBehind 82 = .ok (.getfield 15, 3) := by decide +kernel
theorem dX6_lineBehind_85 : decode cX6_lineBehind 85 = .ok (.iload_n 1, 1) := by decide +kernel
theorem dX6_lineBehind_86 : decode cX6_lineBehind 86 = .ok (.invokevirtual 142, 3) := by decide +kernel
theorem dX6_lineBehind_89 : decode cX6_lineBehind 89 = .ok (.istore_n 3, 1) := by decide +kernel
theorem dX6_lineBehind_90 : decode cX6_lineBehind 90 = .ok (.iload_n 2, 1) := by decide +kernel
theorem dX6_lineBehind_91 : decode cX6_lineBehind 91 = .ok (.bipush 11, 2) := by decide +kernel
theorem dX6_lineBehind_93 : decode cX6_lineBehind 93 = .ok (.if_icmp .ne 66, 3) := by decide +kernel
theorem dX6_lineBehind_96 : decode cX6_lineBehind 96 = .ok (.aload_n 0, 1) := by decide +kernel
theorem dX6_lineBehind_97 : decode cX6_lineBehind 97 = .ok (.getfield 9, 3) := by decide +kernel
theorem dX6_lineBehind_100 : decode cX6_lineBehind 100 = .ok (.iload_n 3, 1) := by decide +kernel
theorem dX6_lineBehind_101 : decode cX6_lineBehind 101 = .ok (.invokevirtual 91, 3) := by decide +kernel
theorem dX6_lineBehind_104 : decode cX6_lineBehind 104 = .ok (.bipush 10, 2) := by decide +kernel
theorem dX6_lineBehind_106 : decode cX6_lineBehind 106 = .ok (.if_icmp .ne 53, 3) := by decide +kernel
theorem dX6_lineBehind_109 : decode cX6_lineBehind 109 = .ok (.aload_n 0, 1) := by decide +kernel
theorem dX6_lineBehind_110 : decode cX6_lineBehind 110 = .ok (.getfield 41, 3) := by decide +kernel
theorem dX6_lineBehind_113 : decode cX6_lineBehind 113 = .ok (.iload_n 3, 1) := by decide +kernel
theorem dX6_lineBehind_114 : decode cX6_lineBehind 114 = .ok (.invokestatic 138, 3) := by decide +kernel
theorem dX6_lineBehind_117 : decode cX6_lineBehind 117 = .ok (.ifCond .eq 42, 3) := by decide +kernel
theorem dX6_lineBehind_120 : decode cX6_lineBehind 120 = .ok (.aload_n 0, 1) := by decide +kernel
theorem dX6_lineBehind_121 : decode cX6_lineBehind 121 = .ok (.getfield 41, 3) := by decide +kernel
theorem dX6_lineBehind_124 : decode cX6_lineBehind 124 = .ok (.iload_n 3, 1) := by decide +kernel
theorem dX6_lineBehind_125 : decode cX6_lineBehind 125 = .ok (.dup2, 1) := by decide +kernel
theorem dX6_lineBehind_126 : decode cX6_lineBehind 126 = .ok (.iaload, 1) := by decide +kernel
theorem dX6_lineBehind_127 : decode cX6_lineBehind 127 = .ok (.iconst 1, 1) := by decide +kernel
theorem dX6_lineBehind_128 : decode cX6_lineBehind 128 = .ok (.isub, 1) := by decide +kernel
theorem dX6_lineBehind_129 : decode cX6_lineBehind 129 = .ok (.iastore, 1) := by decide +kernel
theorem dX6_lineBehind_130 : decode cX6_lineBehind 130 = .ok (.aload_n 0, 1) := by decide +kernel
theorem dX6_lineBehind_131 : decode cX6_lineBehind 131 = .ok (.getfield 41, 3) := by decide +kernel
theorem dX6_lineBehind_134 : decode cX6_lineBehind 134 = .ok (.iload_n 3, 1) := by decide +kernel
theorem dX6_lineBehind_135 : decode cX6_lineBehind 135 = .ok (.iaload, 1) := by decide +kernel
theorem dX6_lineBehind_136 : decode cX6_lineBehind 136 = .ok (.ifCond .le 14, 3) := by decide +kernel
theorem dX6_lineBehind_139 : decode cX6_lineBehind 139 = .ok (.aload_n 0, 1) := by decide +kernel
theorem dX6_lineBehind_140 : decode cX6_lineBehind 140 = .ok (.getfield 15, 3) := by decide +kernel
theorem dX6_lineBehind_143 : decode cX6_lineBehind 143 = .ok (.iload_n 1, 1) := by decide +kernel
theorem dX6_lineBehind_144 : decode cX6_lineBehind 144 = .ok (.invokevirtual 130, 3) := by decide +kernel
theorem dX6_lineBehind_147 : decode cX6_lineBehind 147 = .ok (.goto 11, 3) := by decide +kernel
theorem dX6_lineBehind_150 : decode cX6_lineBehind 150 = .ok (.aload_n 0, 1) := by decide +kernel
theorem dX6_lineBehind_151 : decode cX6_lineBehind 151 = .ok (.getfield 15, 3) := by decide +kernel
theorem dX6_lineBehind_154 : decode cX6_lineBehind 154 = .ok (.iload_n 1, 1) := by decide +kernel
theorem dX6_lineBehind_155 : decode cX6_lineBehind 155 = .ok (.invokevirtual 135, 3) := by decide +kernel
theorem dX6_lineBehind_158 : decode cX6_lineBehind 158 = .ok (.ireturn, 1) := by decide +kernel
theorem dX6_lineBehind_159 : decode cX6_lineBehind 159 = .ok (.aload_n 0, 1) := by decide +kernel
theorem dX6_lineBehind_160 : decode cX6_lineBehind 160 = .ok (.getfield 15, 3) := by decide +kernel
theorem dX6_lineBehind_163 : decode cX6_lineBehind 163 = .ok (.iload_n 1, 1) := by decide +kernel
theorem dX6_lineBehind_164 : decode cX6_lineBehind 164 = .ok (.invokevirtual 130, 3) := by decide +kernel
theorem dX6_lineBehind_167 : decode cX6_lineBehind 167 = .ok (.ireturn, 1) := by decide +kernel
theorem dX6_doLine_0 : decode cX6_doLine 0 = .ok (.iload_n 1, 1) := by decide +kernel
theorem dX6_doLine_1 : decode cX6_doLine 1 = .ok (.tableswitch 212 0 16 #[83, 92, 101, 110, 110, 120, 128, 137, 212, 212, 212, 212, 145, 162, 174, 190, 197], 83) := by decide +kernel
theorem dX6_doLine_84 : decode cX6_doLine 84 = .ok (.aload_n 0, 1) := by decide +kernel
theorem dX6_doLine_85 : decode cX6_doLine 85 = .ok (.iload_n 2, 1) := by decide +kernel
theorem dX6_doLine_86 : decode cX6_doLine 86 = .ok (.iload_n 3, 1) := by decide +kernel
theorem dX6_doLine_87 : decode cX6_doLine 87 = .ok (.invokevirtual 145, 3) := by decide +kernel
theorem dX6_doLine_90 : decode cX6_doLine 90 = .ok (.goto 123, 3) := by decide +kernel
theorem dX6_doLine_93 : decode cX6_doLine 93 = .ok (.aload_n 0, 1) := by decide +kernel
theorem dX6_doLine_94 : decode cX6_doLine 94 = .ok (.iload_n 2, 1) := by decide +kernel
theorem dX6_doLine_95 : decode cX6_doLine 95 = .ok (.iload_n 3, 1) := by decide +kernel
theorem dX6_doLine_96 : decode cX6_doLine 96 = .ok (.invokevirtual 149, 3) := by decide +kernel
theorem dX6_doLine_99 : decode cX6_doLine 99 = .ok (.goto 114, 3) := by decide +kernel
theorem dX6_doLine_102 : decode cX6_doLine 102 = .ok (.aload_n 0, 1) := by decide +kernel
theorem dX6_doLine_103 : decode cX6_doLine 103 = .ok (.iload_n 2, 1) := by decide +kernel
theorem dX6_doLine_104 : decode cX6_doLine 104 = .ok (.iload_n 3, 1) := by decide +kernel
theorem dX6_doLine_105 : decode cX6_doLine 105 = .ok (.invokevirtual 152, 3) := by decide +kernel
theorem dX6_doLine_108 : decode cX6_doLine 108 = .ok (.goto 105, 3) := by decide +kernel
theorem dX6_doLine_111 : decode cX6_doLine 111 = .ok (.aload_n 0, 1) := by decide +kernel
theorem dX6_doLine_112 : decode cX6_doLine 112 = .ok (.iload_n 2, 1) := by decide +kernel
theorem dX6_doLine_113 : decode cX6_doLine 113 = .ok (.iload_n 3, 1) := by decide +kernel
theorem dX6_doLine_114 : decode cX6_doLine 114 = .ok (.iconst 0, 1) := by decide +kernel
theorem dX6_doLine_115 : decode cX6_doLine 115 = .ok (.invokevirtual 155, 3) := by decide +kernel
theorem dX6_doLine_118 : decode cX6_doLine 118 = .ok (.goto 95, 3) := by decide +kernel
theorem dX6_doLine_121 : decode cX6_doLine 121 = .ok (.aload_n 0, 1) := by decide +kernel
theorem dX6_doLine_122 : decode cX6_doLine 122 = .ok (.iload_n 2, 1) := by decide +kernel
theorem dX6_doLine_123 : decode cX6_doLine 123 = .ok (.invokevirtual 158, 3) := by decide +kernel
theorem dX6_doLine_126 : decode cX6_doLine 126 = .ok (.goto 87, 3) := by decide +kernel
theorem dX6_doLine_129 : decode cX6_doLine 129 = .ok (.aload_n 0, 1) := by decide +kernel
theorem dX6_doLine_130 : decode cX6_doLine 130 = .ok (.iload_n 2, 1) := by decide +kernel
theorem dX6_doLine_131 : decode cX6_doLine 131 = .ok (.iload_n 3, 1) := by decide +kernel
theorem dX6_doLine_132 : decode cX6_doLine 132 = .ok (.invokevirtual 162, 3) := by decide +kernel
theorem dX6_doLine_135 : decode cX6_doLine 135 = .ok (.goto 78, 3) := by decide +kernel
theorem dX6_doLine_138 : decode cX6_doLine 138 = .ok (.aload_n 0, 1) := by decide +kernel
theorem dX6_doLine_139 : decode cX6_doLine 139 = .ok (.iload_n 2, 1) := by decide +kernel
theorem dX6_doLine_140 : decode cX6_doLine 140 = .ok (.invokevirtual 165, 3) := by decide +kernel
theorem dX6_doLine_143 : decode cX6_doLine 143 = .ok (.goto 70, 3) := by decide +kernel
theorem dX6_doLine_146 : decode cX6_doLine 146 = .ok (.aload_n 0, 1) := by decide +kernel
theorem dX6_doLine_147 : decode cX6_doLine 147 = .ok (.aload_n 0, 1) := by decide +kernel
theorem dX6_doLine_148 : decode cX6_doLine 148 = .ok (.iload_n 2, 1) := by decide +kernel
theorem dX6_doLine_149 : decode cX6_doLine 149 = .ok (.invokevirtual 168, 3) := by decide +kernel
theorem dX6_doLine_152 : decode cX6_doLine 152 = .ok (.aload_n 0, 1) := by decide +kernel
theorem dX6_doLine_153 : decode cX6_doLine 153 = .ok (.iload_n 3, 1) := by decide +kernel
theorem dX6_doLine_154 : decode cX6_doLine 154 = .ok (.invokevirtual 168, 3) := by decide +kernel
theorem dX6_doLine_157 : decode cX6_doLine 157 = .ok (.invokevirtual 171, 3) := by decide +kernel
theorem dX6_doLine_160 : decode cX6_doLine 160 = .ok (.goto 53, 3) := by decide +kernel
theorem dX6_doLine_163 : decode cX6_doLine 163 = .ok (.aload_n 0, 1) := by decide +kernel
theorem dX6_doLine_164 : decode cX6_doLine 164 = .ok (.aload_n 0, 1) := by decide +kernel
theorem dX6_doLine_165 : decode cX6_doLine 165 = .ok (.iload_n 2, 1) := by decide +kernel
theorem dX6_doLine_166 : decode cX6_doLine 166 = .ok (.invokevirtual 168, 3) := by decide +kernel
theorem dX6_doLine_169 : decode cX6_doLine 169 = .ok (.invokevirtual 174, 3) := by decide +kernel
theorem dX6_doLine_172 : decode cX6_doLine 172 = .ok (.goto 41, 3) := by decide +kernel
theorem dX6_doLine_175 : decode cX6_doLine 175 = .ok (.aload_n 0, 1) := by decide +kernel
theorem dX6_doLine_176 : decode cX6_doLine 176 = .ok (.getfield 29, 3) := by decide +kernel
theorem dX6_doLine_179 : decode cX6_doLine 179 = .ok (.aload_n 0, 1) := by decide +kernel
theorem dX6_doLine_180 : decode cX6_doLine 180 = .ok (.iload_n 2, 1) := by decide +kernel
theorem dX6_doLine_181 : decode cX6_doLine 181 = .ok (.invokevirtual 168, 3) := by decide +kernel
theorem dX6_doLine_184 : decode cX6_doLine 184 = .ok (.iconst 0, 1) := by decide +kernel
theorem dX6_doLine_185 : decode cX6_doLine 185 = .ok (.invokevirtual 177, 3) := by decide +kernel
theorem dX6_doLine_188 : decode cX6_doLine 188 = .ok (.goto 25, 3) := by decide +kernel
theorem dX6_doLine_191 : decode cX6_doLine 191 = .ok (.aload_n 0, 1) := by decide +kernel
theorem dX6_doLine_192 : decode cX6_doLine 192 = .ok (.invokevirtual 181, 3) := by decide +kernel
theorem dX6_doLine_195 : decode cX6_doLine 195 = .ok (.goto 18, 3) := by decide +kernel
theorem dX6_doLine_198 : decode cX6_doLine 198 = .ok (.aload_n 0, 1) := by decide +kernel
theorem dX6_doLine_199 : decode cX6_doLine 199 = .ok (.iload_n 2, 1) := by decide +kernel
theorem dX6_doLine_200 : decode cX6_doLine 200 = .ok (.aload_n 0, 1) := by decide +kernel
theorem dX6_doLine_201 : decode cX6_doLine 201 = .ok (.iload_n 2, 1) := by decide +kernel
theorem dX6_doLine_202 : decode cX6_doLine 202 = .ok (.invokevirtual 168, 3) := by decide +kernel
theorem dX6_doLine_205 : decode cX6_doLine 205 = .ok (.iload_n 3, 1) := by decide +kernel
theorem dX6_doLine_206 : decode cX6_doLine 206 = .ok (.iadd, 1) := by decide +kernel
theorem dX6_doLine_207 : decode cX6_doLine 207 = .ok (.invokevirtual 184, 3) := by decide +kernel
theorem dX6_doLine_210 : decode cX6_doLine 210 = .ok (.goto 3, 3) := by decide +kernel
theorem dX6_doLine_213 : decode cX6_doLine 213 = .ok (.return_, 1) := by decide +kernel
theorem dX6_panic_0 : decode cX6_panic 0 = .ok (.aload_n 0, 1) := by decide +kernel
theorem dX6_panic_1 : decode cX6_panic 1 = .ok (.getfield 69, 3) := by decide +kernel
theorem dX6_panic_4 : decode cX6_panic 4 = .ok (.iconst (-1), 1) := by decide +kernel
theorem dX6_panic_5 : decode cX6_panic 5 = .ok (.if_icmp .ne 14, 3) := by decide +kernel
theorem dX6_panic_8 : decode cX6_panic 8 = .ok (.aload_n 0, 1) := by decide +kernel
theorem dX6_panic_9 : decode cX6_panic 9 = .ok (.aload_n 0, 1) := by decide +kernel
theorem dX6_panic_10 : decode cX6_panic 10 = .ok (.getfield 54, 3) := by decide +kernel
theorem dX6_panic_13 : decode cX6_panic 13 = .ok (.putfield 69, 3) := by decide +kernel
theorem dX6_panic_16 : decode cX6_panic 16 = .ok (.goto 8, 3) := by decide +kernel
theorem dX6_panic_19 : decode cX6_panic 19 = .ok (.aload_n 0, 1) := by decide +kernel
theorem dX6_panic_20 : decode cX6_panic 20 = .ok (.iconst 1, 1) := by decide +kernel
theorem dX6_panic_21 : decode cX6_panic 21 = .ok (.putfield 72, 3) := by decide +kernel
theorem dX6_panic_24 : decode cX6_panic 24 = .ok (.return_, 1) := by decide +kernel
theorem dX6_make_0 : decode cX6_make 0 = .ok (.aload_n 0, 1) := by decide +kernel
theorem dX6_make_1 : decode cX6_make 1 = .ok (.getfield 9, 3) := by decide +kernel
theorem dX6_make_4 : decode cX6_make 4 = .ok (.iload_n 1, 1) := by decide +kernel
theorem dX6_make_5 : decode cX6_make 5 = .ok (.invokevirtual 187, 3) := by decide +kernel
theorem dX6_make_8 : decode cX6_make 8 = .ok (.istore_n 3, 1) := by decide +kernel
theorem dX6_make_9 : decode cX6_make 9 = .ok (.iload_n 3, 1) := by decide +kernel
theorem dX6_make_10 : decode cX6_make 10 = .ok (.iconst 1, 1) := by decide +kernel
theorem dX6_make_11 : decode cX6_make 11 = .ok (.if_icmp .ne 16, 3) := by decide +kernel
theorem dX6_make_14 : decode cX6_make 14 = .ok (.aload_n 0, 1) := by decide +kernel
theorem dX6_make_15 : decode cX6_make 15 = .ok (.dup, 1) := by decide +kernel
theorem dX6_make_16 : decode cX6_make 16 = .ok (.getfield 63, 3) := by decide +kernel
theorem dX6_make_19 : decode cX6_make 19 = .ok (.iconst 1, 1) := by decide +kernel
theorem dX6_make_20 : decode cX6_make 20 = .ok (.iadd, 1) := by decide +kernel
theorem dX6_make_21 : decode cX6_make 21 = .ok (.putfield 63, 3) := by decide +kernel
theorem dX6_make_24 : decode cX6_make 24 = .ok (.goto 18, 3) := by decide +kernel
theorem dX6_make_27 : decode cX6_make 27 = .ok (.iload_n 3, 1) := by decide +kernel
theorem dX6_make_28 : decode cX6_make 28 = .ok (.iconst 2, 1) := by decide +kernel
theorem dX6_make_29 : decode cX6_make 29 = .ok (.if_icmp .ne 13, 3) := by decide +kernel
theorem dX6_make_32 : decode cX6_make 32 = .ok (.aload_n 0, 1) := by decide +kernel
theorem dX6_make_33 : decode cX6_make 33 = .ok (.dup, 1) := by decide +kernel
theorem dX6_make_34 : decode cX6_make 34 = .ok (.getfield 63, 3) := by decide +kernel
theorem dX6_make_37 : decode cX6_make 37 = .ok (.iconst 2, 1) := by decide +kernel
theorem dX6_make_38 : decode cX6_make 38 = .ok (.iadd, 1) := by decide +kernel
theorem dX6_make_39 : decode cX6_make 39 = .ok (.putfield 63, 3) := by decide +kernel
theorem dX6_make_42 : decode cX6_make 42 = .ok (.aload_n 0, 1) := by decide +kernel
theorem dX6_make_43 : decode cX6_make 43 = .ok (.iload_n 1, 1) := by decide +kernel
theorem dX6_make_44 : decode cX6_make 44 = .ok (.iload_n 3, 1) := by decide +kernel
theorem dX6_make_45 : decode cX6_make 45 = .ok (.iconst 5, 1) := by decide +kernel
theorem dX6_make_46 : decode cX6_make 46 = .ok (.if_icmp .ne 14, 3) := by decide +kernel
theorem dX6_make_49 : decode cX6_make 49 = .ok (.aload_n 0, 1) := by decide +kernel
theorem dX6_make_50 : decode cX6_make 50 = .ok (.getfield 29, 3) := by decide +kernel
theorem dX6_make_53 : decode cX6_make 53 = .ok (.iload_n 2, 1) := by decide +kernel
theorem dX6_make_54 : decode cX6_make 54 = .ok (.invokevirtual 190, 3) := by decide +kernel
theorem dX6_make_57 : decode cX6_make 57 = .ok (.goto 4, 3) := by decide +kernel
theorem dX6_make_60 : decode cX6_make 60 = .ok (.iload_n 2, 1) := by decide +kernel
theorem dX6_make_61 : decode cX6_make 61 = .ok (.iload_n 2, 1) := by decide +kernel
theorem dX6_make_62 : decode cX6_make 62 = .ok (.iconst 1, 1) := by decide +kernel
theorem dX6_make_63 : decode cX6_make 63 = .ok (.iadd, 1) := by decide +kernel
theorem dX6_make_64 : decode cX6_make 64 = .ok (.invokevirtual 155, 3) := by decide +kernel
theorem dX6_make_67 : decode cX6_make 67 = .ok (.return_, 1) := by decide +kernel
theorem dX6_move_0 : decode cX6_move 0 = .ok (.aload_n 0, 1) := by decide +kernel
theorem dX6_move_1 : decode cX6_move 1 = .ok (.iload_n 2, 1) := by decide +kernel
theorem dX6_move_2 : decode cX6_move 2 = .ok (.invokevirtual 193, 3) := by decide +kernel
theorem dX6_move_5 : decode cX6_move 5 = .ok (.istore_n 3, 1) := by decide +kernel
theorem dX6_move_6 : decode cX6_move 6 = .ok (.aload_n 0, 1) := by decide +kernel
theorem dX6_move_7 : decode cX6_move 7 = .ok (.iload_n 3, 1) := by decide +kernel
theorem dX6_move_8 : decode cX6_move 8 = .ok (.invokevirtual 168, 3) := by decide +kernel
theorem dX6_move_11 : decode cX6_move 11 = .ok (.istore 4, 2) := by decide +kernel
theorem dX6_move_13 : decode cX6_move 13 = .ok (.aload_n 0, 1) := by decide +kernel
theorem dX6_move_14 : decode cX6_move 14 = .ok (.iload_n 3, 1) := by decide +kernel
theorem dX6_move_15 : decode cX6_move 15 = .ok (.iconst 1, 1) := by decide +kernel
theorem dX6_move_16 : decode cX6_move 16 = .ok (.iadd, 1) := by decide +kernel
theorem dX6_move_17 : decode cX6_move 17 = .ok (.invokevirtual 168, 3) := by decide +kernel
theorem dX6_move_20 : decode cX6_move 20 = .ok (.istore 5, 2) := by decide +kernel
theorem dX6_move_22 : decode cX6_move 22 = .ok (.aload_n 0, 1) := by decide +kernel
theorem dX6_move_23 : decode cX6_move 23 = .ok (.iload_n 3, 1) := by decide +kernel
theorem dX6_move_24 : decode cX6_move 24 = .ok (.invokevirtual 196, 3) := by decide +kernel
theorem dX6_move_27 : decode cX6_move 27 = .ok (.aload_n 0, 1) := by decide +kernel
theorem dX6_move_28 : decode cX6_move 28 = .ok (.getfield 9, 3) := by decide +kernel
theorem dX6_move_31 : decode cX6_move 31 = .ok (.iload_n 2, 1) := by decide +kernel
theorem dX6_move_32 : decode cX6_move 32 = .ok (.invokevirtual 187, 3) := by decide +kernel
theorem dX6_move_35 : decode cX6_move 35 = .ok (.iconst 2, 1) := by decide +kernel
theorem dX6_move_36 : decode cX6_move 36 = .ok (.if_icmp .ne 10, 3) := by decide +kernel
theorem dX6_move_39 : decode cX6_move 39 = .ok (.aload_n 0, 1) := by decide +kernel
theorem dX6_move_40 : decode cX6_move 40 = .ok (.iload_n 3, 1) := by decide +kernel
theorem dX6_move_41 : decode cX6_move 41 = .ok (.iconst 1, 1) := by decide +kernel
theorem dX6_move_42 : decode cX6_move 42 = .ok (.iadd, 1) := by decide +kernel
theorem dX6_move_43 : decode cX6_move 43 = .ok (.invokevirtual 196, 3) := by decide +kernel
theorem dX6_move_46 : decode cX6_move 46 = .ok (.aload_n 0, 1) := by decide +kernel
theorem dX6_move_47 : decode cX6_move 47 = .ok (.iload_n 1, 1) := by decide +kernel
theorem dX6_move_48 : decode cX6_move 48 = .ok (.iload 4, 2) := by decide +kernel
theorem dX6_move_50 : decode cX6_move 50 = .ok (.iload 5, 2) := by decide +kernel
theorem dX6_move_52 : decode cX6_move 52 = .ok (.invokevirtual 155, 3) := by decide +kernel
theorem dX6_move_55 : decode cX6_move 55 = .ok (.return_, 1) := by decide +kernel
theorem dX6_copy_0 : decode cX6_copy 0 = .ok (.aload_n 0, 1) := by decide +kernel
theorem dX6_copy_1 : decode cX6_copy 1 = .ok (.getfield 9, 3) := by decide +kernel
theorem dX6_copy_4 : decode cX6_copy 4 = .ok (.iload_n 2, 1) := by decide +kernel
theorem dX6_copy_5 : decode cX6_copy 5 = .ok (.invokevirtual 187, 3) := by decide +kernel
theorem dX6_copy_8 : decode cX6_copy 8 = .ok (.iconst 5, 1) := by decide +kernel
theorem dX6_copy_9 : decode cX6_copy 9 = .ok (.if_icmp .ne 15, 3) := by decide +kernel
theorem dX6_copy_12 : decode cX6_copy 12 = .ok (.aload_n 0, 1) := by decide +kernel
theorem dX6_copy_13 : decode cX6_copy 13 = .ok (.getfield 29, 3) := by decide +kernel
theorem dX6_copy_16 : decode cX6_copy 16 = .ok (.aload_n 0, 1) := by decide +kernel
theorem dX6_copy_17 : decode cX6_copy 17 = .ok (.iload_n 2, 1) := by decide +kernel
theorem dX6_copy_18 : decode cX6_copy 18 = .ok (.invokevirtual 168, 3) := by decide +kernel
theorem dX6_copy_21 : decode cX6_copy 21 = .ok (.invokevirtual 199, 3) := by decide +kernel
theorem dX6_copy_24 : decode cX6_copy 24 = .ok (.aload_n 0, 1) := by decide +kernel
theorem dX6_copy_25 : decode cX6_copy 25 = .ok (.iload_n 1, 1) := by decide +kernel
theorem dX6_copy_26 : decode cX6_copy 26 = .ok (.aload_n 0, 1) := by decide +kernel
theorem dX6_copy_27 : decode cX6_copy 27 = .ok (.iload_n 2, 1) := by decide +kernel
theorem dX6_copy_28 : decode cX6_copy 28 = .ok (.invokevirtual 168, 3) := by decide +kernel
theorem dX6_copy_31 : decode cX6_copy 31 = .ok (.iconst 0, 1) := by decide +kernel
theorem dX6_copy_32 : decode cX6_copy 32 = .ok (.invokevirtual 155, 3) := by decide +kernel
theorem dX6_copy_35 : decode cX6_copy 35 = .ok (.return_, 1) := by decide +kernel
theorem dX6_give_0 : decode cX6_give 0 = .ok (.aload_n 0, 1) := by decide +kernel
theorem dX6_give_1 : decode cX6_give 1 = .ok (.iload_n 1, 1) := by decide +kernel
theorem dX6_give_2 : decode cX6_give 2 = .ok (.invokevirtual 193, 3) := by decide +kernel
theorem dX6_give_5 : decode cX6_give 5 = .ok (.istore 4, 2) := by decide +kernel
theorem dX6_give_7 : decode cX6_give 7 = .ok (.aload_n 0, 1) := by decide +kernel
theorem dX6_give_8 : decode cX6_give 8 = .ok (.iload_n 1, 1) := by decide +kernel
theorem dX6_give_9 : decode cX6_give 9 = .ok (.invokevirtual 165, 3) := by decide +kernel
theorem dX6_give_12 : decode cX6_give 12 = .ok (.aload_n 0, 1) := by decide +kernel
theorem dX6_give_13 : decode cX6_give 13 = .ok (.iload 4, 2) := by decide +kernel
theorem dX6_give_15 : decode cX6_give 15 = .ok (.iload_n 2, 1) := by decide +kernel
theorem dX6_give_16 : decode cX6_give 16 = .ok (.invokevirtual 184, 3) := by decide +kernel
theorem dX6_give_19 : decode cX6_give 19 = .ok (.aload_n 0, 1) := by decide +kernel
theorem dX6_give_20 : decode cX6_give 20 = .ok (.getfield 9, 3) := by decide +kernel
theorem dX6_give_23 : decode cX6_give 23 = .ok (.iload_n 1, 1) := by decide +kernel
theorem dX6_give_24 : decode cX6_give 24 = .ok (.invokevirtual 187, 3) := by decide +kernel
theorem dX6_give_27 : decode cX6_give 27 = .ok (.iconst 2, 1) := by decide +kernel
theorem dX6_give_28 : decode cX6_give 28 = .ok (.if_icmp .ne 12, 3) := by decide +kernel
theorem dX6_give_31 : decode cX6_give 31 = .ok (.aload_n 0, 1) := by decide +kernel
theorem dX6_give_32 : decode cX6_give 32 = .ok (.iload 4, 2) := by decide +kernel
theorem dX6_give_34 : decode cX6_give 34 = .ok (.iconst 1, 1) := by decide +kernel
theorem dX6_give_35 : decode cX6_give 35 = .ok (.iadd, 1) := by decide +kernel
theorem dX6_give_36 : decode cX6_give 36 = .ok (.iload_n 3, 1) := by decide +kernel
theorem dX6_give_37 : decode cX6_give 37 = .ok (.invokevirtual 184, 3) := by decide +kernel
theorem dX6_give_40 : decode cX6_give 40 = .ok (.return_, 1) := by decide +kernel
theorem dX6_drop_0 : decode cX6_drop 0 = .ok (.aload_n 0, 1) := by decide +kernel
theorem dX6_drop_1 : decode cX6_drop 1 = .ok (.getfield 9, 3) := by decide +kernel
theorem dX6_drop_4 : decode cX6_drop 4 = .ok (.iload_n 1, 1) := by decide +kernel
theorem dX6_drop_5 : decode cX6_drop 5 = .ok (.invokevirtual 187, 3) := by decide +kernel
theorem dX6_drop_8 : decode cX6_drop 8 = .ok (.istore_n 2, 1) := by decide +kernel
theorem dX6_drop_9 : decode cX6_drop 9 = .ok (.iload_n 2, 1) := by decide +kernel
theorem dX6_drop_10 : decode cX6_drop 10 = .ok (.iconst 2, 1) := by decide +kernel
theorem dX6_drop_11 : decode cX6_drop 11 = .ok (.if_icmp .ne 22, 3) := by decide +kernel
theorem dX6_drop_14 : decode cX6_drop 14 = .ok (.aload_n 0, 1) := by decide +kernel
theorem dX6_drop_15 : decode cX6_drop 15 = .ok (.iload_n 2, 1) := by decide +kernel
theorem dX6_drop_16 : decode cX6_drop 16 = .ok (.iload_n 1, 1) := by decide +kernel
theorem dX6_drop_17 : decode cX6_drop 17 = .ok (.iconst 1, 1) := by decide +kernel
theorem dX6_drop_18 : decode cX6_drop 18 = .ok (.iadd, 1) := by decide +kernel
theorem dX6_drop_19 : decode cX6_drop 19 = .ok (.invokevirtual 202, 3) := by decide +kernel
theorem dX6_drop_22 : decode cX6_drop 22 = .ok (.aload_n 0, 1) := by decide +kernel
theorem dX6_drop_23 : decode cX6_drop 23 = .ok (.iload_n 2, 1) := by decide +kernel
theorem dX6_drop_24 : decode cX6_drop 24 = .ok (.iload_n 1, 1) := by decide +kernel
theorem dX6_drop_25 : decode cX6_drop 25 = .ok (.iconst 2, 1) := by decide +kernel
theorem dX6_drop_26 : decode cX6_drop 26 = .ok (.iadd, 1) := by decide +kernel
theorem dX6_drop_27 : decode cX6_drop 27 = .ok (.invokevirtual 202, 3) := by decide +kernel
theorem dX6_drop_30 : decode cX6_drop 30 = .ok (.goto 9, 3) := by decide +kernel
theorem dX6_drop_33 : decode cX6_drop 33 = .ok (.aload_n 0, 1) := by decide +kernel
theorem dX6_drop_34 : decode cX6_drop 34 = .ok (.iload_n 2, 1) := by decide +kernel
theorem dX6_drop_35 : decode cX6_drop 35 = .ok (.iload_n 1, 1) := by decide +kernel
theorem dX6_drop_36 : decode cX6_drop 36 = .ok (.invokevirtual 202, 3) := by decide +kernel
theorem dX6_drop_39 : decode cX6_drop 39 = .ok (.return_, 1) := by decide +kernel
theorem dX6_setAside_0 : decode cX6_setAside 0 = .ok (.iload_n 2, 1) := by decide +kernel
theorem dX6_setAside_1 : decode cX6_setAside 1 = .ok (.ifCond .lt 18, 3) := by decide +kernel
theorem dX6_setAside_4 : decode cX6_setAside 4 = .ok (.iload_n 2, 1) := by decide +kernel
theorem dX6_setAside_5 : decode cX6_setAside 5 = .ok (.bipush 24, 2) := by decide +kernel
theorem dX6_setAside_7 : decode cX6_setAside 7 = .ok (.if_icmp .ge 12, 3) := by decide +kernel
theorem dX6_setAside_10 : decode cX6_setAside 10 = .ok (.aload_n 0, 1) := by decide +kernel
theorem dX6_setAside_11 : decode cX6_setAside 11 = .ok (.getfield 33, 3) := by decide +kernel
theorem dX6_setAside_14 : decode cX6_setAside 14 = .ok (.iload_n 2, 1) := by decide +kernel
theorem dX6_setAside_15 : decode cX6_setAside 15 = .ok (.baload, 1) := by decide +kernel
theorem dX6_setAside_16 : decode cX6_setAside 16 = .ok (.ifCond .ne 4, 3) := by decide +kernel
theorem dX6_setAside_19 : decode cX6_setAside 19 = .ok (.return_, 1) := by decide +kernel
theorem dX6_setAside_20 : decode cX6_setAside 20 = .ok (.aload_n 0, 1) := by decide +kernel
theorem dX6_setAside_21 : decode cX6_setAside 21 = .ok (.getfield 33, 3) := by decide +kernel
theorem dX6_setAside_24 : decode cX6_setAside 24 = .ok (.iload_n 2, 1) := by decide +kernel
theorem dX6_setAside_25 : decode cX6_setAside 25 = .ok (.iconst 0, 1) := by decide +kernel
theorem dX6_setAside_26 : decode cX6_setAside 26 = .ok (.bastore, 1) := by decide +kernel
theorem dX6_setAside_27 : decode cX6_setAside 27 = .ok (.aload_n 0, 1) := by decide +kernel
theorem dX6_setAside_28 : decode cX6_setAside 28 = .ok (.getfield 51, 3) := by decide +kernel
theorem dX6_setAside_31 : decode cX6_setAside 31 = .ok (.aload_n 0, 1) := by decide +kernel
theorem dX6_setAside_32 : decode cX6_setAside 32 = .ok (.getfield 44, 3) := by decide +kernel
theorem dX6_setAside_35 : decode cX6_setAside 35 = .ok (.arraylength, 1) := by decide +kernel
theorem dX6_setAside_36 : decode cX6_setAside 36 = .ok (.if_icmp .ge 33, 3) := by decide +kernel
theorem dX6_setAside_39 : decode cX6_setAside 39 = .ok (.aload_n 0, 1) := by decide +kernel
theorem dX6_setAside_40 : decode cX6_setAside 40 = .ok (.iload_n 1, 1) := by decide +kernel
theorem dX6_setAside_41 : decode cX6_setAside 41 = .ok (.putfield 47, 3) := by decide +kernel
theorem dX6_setAside_44 : decode cX6_setAside 44 = .ok (.aload_n 0, 1) := by decide +kernel
theorem dX6_setAside_45 : decode cX6_setAside 45 = .ok (.getfield 44, 3) := by decide +kernel
theorem dX6_setAside_48 : decode cX6_setAside 48 = .ok (.aload_n 0, 1) := by decide +kernel
theorem dX6_setAside_49 : decode cX6_setAside 49 = .ok (.getfield 51, 3) := by decide +kernel
theorem dX6_setAside_52 : decode cX6_setAside 52 = .ok (.aload_n 0, 1) := by decide +kernel
theorem dX6_setAside_53 : decode cX6_setAside 53 = .ok (.getfield 37, 3) := by decide +kernel
theorem dX6_setAside_56 : decode cX6_setAside 56 = .ok (.iload_n 2, 1) := by decide +kernel
theorem dX6_setAside_57 : decode cX6_setAside 57 = .ok (.iaload, 1) := by decide +kernel
theorem dX6_setAside_58 : decode cX6_setAside 58 = .ok (.iastore, 1) := by decide +kernel
theorem dX6_setAside_59 : decode cX6_setAside 59 = .ok (.aload_n 0, 1) := by decide +kernel
theorem dX6_setAside_60 : decode cX6_setAside 60 = .ok (.dup, 1) := by decide +kernel
theorem dX6_setAside_61 : decode cX6_setAside 61 = .ok (.getfield 51, 3) := by decide +kernel
theorem dX6_setAside_64 : decode cX6_setAside 64 = .ok (.iconst 1, 1) := by decide +kernel
theorem dX6_setAside_65 : decode cX6_setAside 65 = .ok (.iadd, 1) := by decide +kernel
theorem dX6_setAside_66 : decode cX6_setAside 66 = .ok (.putfield 51, 3) := by decide +kernel
theorem dX6_setAside_69 : decode cX6_setAside 69 = .ok (.return_, 1) := by decide +kernel
theorem dX6_dropOlds_0 : decode cX6_dropOlds 0 = .ok (.iconst 0, 1) := by decide +kernel
theorem dX6_dropOlds_1 : decode cX6_dropOlds 1 = .ok (.istore_n 1, 1) := by decide +kernel
theorem dX6_dropOlds_2 : decode cX6_dropOlds 2 = .ok (.iload_n 1, 1) := by decide +kernel
theorem dX6_dropOlds_3 : decode cX6_dropOlds 3 = .ok (.aload_n 0, 1) := by decide +kernel
theorem dX6_dropOlds_4 : decode cX6_dropOlds 4 = .ok (.getfield 51, 3) := by decide +kernel
theorem dX6_dropOlds_7 : decode cX6_dropOlds 7 = .ok (.if_icmp .ge 66, 3) := by decide +kernel
theorem dX6_dropOlds_10 : decode cX6_dropOlds 10 = .ok (.iload_n 1, 1) := by decide +kernel
theorem dX6_dropOlds_11 : decode cX6_dropOlds 11 = .ok (.aload_n 0, 1) := by decide +kernel
theorem dX6_dropOlds_12 : decode cX6_dropOlds 12 = .ok (.getfield 44, 3) := by decide +kernel
theorem dX6_dropOlds_15 : decode cX6_dropOlds 15 = .ok (.arraylength, 1) := by decide +kernel
theorem dX6_dropOlds_16 : decode cX6_dropOlds 16 = .ok (.if_icmp .ge 57, 3) := by decide +kernel
theorem dX6_dropOlds_19 : decode cX6_dropOlds 19 = .ok (.aload_n 0, 1) := by decide +kernel
theorem dX6_dropOlds_20 : decode cX6_dropOlds 20 = .ok (.getfield 72, 3) := by decide +kernel
theorem dX6_dropOlds_23 : decode cX6_dropOlds 23 = .ok (.ifCond .ne 50, 3) := by decide +kernel
theorem dX6_dropOlds_26 : decode cX6_dropOlds 26 = .ok (.aload_n 0, 1) := by decide +kernel
theorem dX6_dropOlds_27 : decode cX6_dropOlds 27 = .ok (.getfield 47, 3) := by decide +kernel
theorem dX6_dropOlds_30 : decode cX6_dropOlds 30 = .ok (.iconst 5, 1) := by decide +kernel
theorem dX6_dropOlds_31 : decode cX6_dropOlds 31 = .ok (.if_icmp .ne 16, 3) := by decide +kernel
theorem dX6_dropOlds_34 : decode cX6_dropOlds 34 = .ok (.aload_n 0, 1) := by decide +kernel
theorem dX6_dropOlds_35 : decode cX6_dropOlds 35 = .ok (.aload_n 0, 1) := by decide +kernel
theorem dX6_dropOlds_36 : decode cX6_dropOlds 36 = .ok (.getfield 44, 3) := by decide +kernel
theorem dX6_dropOlds_39 : decode cX6_dropOlds 39 = .ok (.iload_n 1, 1) := by decide +kernel
theorem dX6_dropOlds_40 : decode cX6_dropOlds 40 = .ok (.iaload, 1) := by decide +kernel
theorem dX6_dropOlds_41 : decode cX6_dropOlds 41 = .ok (.invokevirtual 205, 3) := by decide +kernel
theorem dX6_dropOlds_44 : decode cX6_dropOlds 44 = .ok (.goto 23, 3) := by decide +kernel
theorem dX6_dropOlds_47 : decode cX6_dropOlds 47 = .ok (.aload_n 0, 1) := by decide +kernel
theorem dX6_dropOlds_48 : decode cX6_dropOlds 48 = .ok (.getfield 47, 3) := by decide +kernel
theorem dX6_dropOlds_51 : decode cX6_dropOlds 51 = .ok (.invokestatic 208, 3) := by decide +kernel
theorem dX6_dropOlds_54 : decode cX6_dropOlds 54 = .ok (.ifCond .eq 13, 3) := by decide +kernel
theorem dX6_dropOlds_57 : decode cX6_dropOlds 57 = .ok (.aload_n 0, 1) := by decide +kernel
theorem dX6_dropOlds_58 : decode cX6_dropOlds 58 = .ok (.aload_n 0, 1) := by decide +kernel
theorem dX6_dropOlds_59 : decode cX6_dropOlds 59 = .ok (.getfield 44, 3) := by decide +kernel
theorem dX6_dropOlds_62 : decode cX6_dropOlds 62 = .ok (.iload_n 1, 1) := by decide +kernel
theorem dX6_dropOlds_63 : decode cX6_dropOlds 63 = .ok (.iaload, 1) := by decide +kernel
theorem dX6_dropOlds_64 : decode cX6_dropOlds 64 = .ok (.invokevirtual 211, 3) := by decide +kernel
theorem dX6_dropOlds_67 : decode cX6_dropOlds 67 = .ok (.iinc 1 1, 3) := by decide +kernel
theorem dX6_dropOlds_70 : decode cX6_dropOlds 70 = .ok (.goto (-68), 3) := by decide +kernel
theorem dX6_dropOlds_73 : decode cX6_dropOlds 73 = .ok (.aload_n 0, 1) := by decide +kernel
theorem dX6_dropOlds_74 : decode cX6_dropOlds 74 = .ok (.iconst 0, 1) := by decide +kernel
theorem dX6_dropOlds_75 : decode cX6_dropOlds 75 = .ok (.putfield 51, 3) := by decide +kernel
theorem dX6_dropOlds_78 : decode cX6_dropOlds 78 = .ok (.return_, 1) := by decide +kernel
theorem dX6_dropBox_0 : decode cX6_dropBox 0 = .ok (.aload_n 0, 1) := by decide +kernel
theorem dX6_dropBox_1 : decode cX6_dropBox 1 = .ok (.dup, 1) := by decide +kernel
theorem dX6_dropBox_2 : decode cX6_dropBox 2 = .ok (.getfield 66, 3) := by decide +kernel
theorem dX6_dropBox_5 : decode cX6_dropBox 5 = .ok (.iconst 1, 1) := by decide +kernel
theorem dX6_dropBox_6 : decode cX6_dropBox 6 = .ok (.iadd, 1) := by decide +kernel
theorem dX6_dropBox_7 : decode cX6_dropBox 7 = .ok (.putfield 66, 3) := by decide +kernel
theorem dX6_dropBox_10 : decode cX6_dropBox 10 = .ok (.aload_n 0, 1) := by decide +kernel
theorem dX6_dropBox_11 : decode cX6_dropBox 11 = .ok (.getfield 22, 3) := by decide +kernel
theorem dX6_dropBox_14 : decode cX6_dropBox 14 = .ok (.iconst 1, 1) := by decide +kernel
theorem dX6_dropBox_15 : decode cX6_dropBox 15 = .ok (.iload_n 1, 1) := by decide +kernel
theorem dX6_dropBox_16 : decode cX6_dropBox 16 = .ok (.aload_n 0, 1) := by decide +kernel
theorem dX6_dropBox_17 : decode cX6_dropBox 17 = .ok (.getfield 54, 3) := by decide +kernel
theorem dX6_dropBox_20 : decode cX6_dropBox 20 = .ok (.invokevirtual 214, 3) := by decide +kernel
theorem dX6_dropBox_23 : decode cX6_dropBox 23 = .ok (.iload_n 1, 1) := by decide +kernel
theorem dX6_dropBox_24 : decode cX6_dropBox 24 = .ok (.ifCond .ge 7, 3) := by decide +kernel
theorem dX6_dropBox_27 : decode cX6_dropBox 27 = .ok (.aload_n 0, 1) := by decide +kernel
theorem dX6_dropBox_28 : decode cX6_dropBox 28 = .ok (.invokevirtual 181, 3) := by decide +kernel
theorem dX6_dropBox_31 : decode cX6_dropBox 31 = .ok (.return_, 1) := by decide +kernel
theorem dX6_letDown_0 : decode cX6_letDown 0 = .ok (.iload_n 1, 1) := by decide +kernel
theorem dX6_letDown_1 : decode cX6_letDown 1 = .ok (.istore_n 2, 1) := by decide +kernel
theorem dX6_letDown_2 : decode cX6_letDown 2 = .ok (.iconst 0, 1) := by decide +kernel
theorem dX6_letDown_3 : decode cX6_letDown 3 = .ok (.istore_n 3, 1) := by decide +kernel
theorem dX6_letDown_4 : decode cX6_letDown 4 = .ok (.iload_n 3, 1) := by decide +kernel
theorem dX6_letDown_5 : decode cX6_letDown 5 = .ok (.sipush 500, 3) := by decide +kernel
theorem dX6_letDown_8 : decode cX6_letDown 8 = .ok (.if_icmp .ge 49, 3) := by decide +kernel
theorem dX6_letDown_11 : decode cX6_letDown 11 = .ok (.aload_n 0, 1) := by decide +kernel
theorem dX6_letDown_12 : decode cX6_letDown 12 = .ok (.getfield 29, 3) := by decide +kernel
theorem dX6_letDown_15 : decode cX6_letDown 15 = .ok (.iload_n 2, 1) := by decide +kernel
theorem dX6_letDown_16 : decode cX6_letDown 16 = .ok (.invokevirtual 217, 3) := by decide +kernel
theorem dX6_letDown_19 : decode cX6_letDown 19 = .ok (.ifCond .eq 38, 3) := by decide +kernel
theorem dX6_letDown_22 : decode cX6_letDown 22 = .ok (.aload_n 0, 1) := by decide +kernel
theorem dX6_letDown_23 : decode cX6_letDown 23 = .ok (.getfield 22, 3) := by decide +kernel
theorem dX6_letDown_26 : decode cX6_letDown 26 = .ok (.iconst 2, 1) := by decide +kernel
theorem dX6_letDown_27 : decode cX6_letDown 27 = .ok (.aload_n 0, 1) := by decide +kernel
theorem dX6_letDown_28 : decode cX6_letDown 28 = .ok (.getfield 29, 3) := by decide +kernel
theorem dX6_letDown_31 : decode cX6_letDown 31 = .ok (.iload_n 2, 1) := by decide +kernel
theorem dX6_letDown_32 : decode cX6_letDown 32 = .ok (.invokevirtual 220, 3) := by decide +kernel
theorem dX6_letDown_35 : decode cX6_letDown 35 = .ok (.aload_n 0, 1) := by decide +kernel
theorem dX6_letDown_36 : decode cX6_letDown 36 = .ok (.getfield 54, 3) := by decide +kernel
theorem dX6_letDown_39 : decode cX6_letDown 39 = .ok (.invokevirtual 214, 3) := by decide +kernel
theorem dX6_letDown_42 : decode cX6_letDown 42 = .ok (.aload_n 0, 1) := by decide +kernel
theorem dX6_letDown_43 : decode cX6_letDown 43 = .ok (.getfield 29, 3) := by decide +kernel
theorem dX6_letDown_46 : decode cX6_letDown 46 = .ok (.iload_n 2, 1) := by decide +kernel
theorem dX6_letDown_47 : decode cX6_letDown 47 = .ok (.invokevirtual 223, 3) := by decide +kernel
theorem dX6_letDown_50 : decode cX6_letDown 50 = .ok (.istore_n 2, 1) := by decide +kernel
theorem dX6_letDown_51 : decode cX6_letDown 51 = .ok (.iinc 3 1, 3) := by decide +kernel
theorem dX6_letDown_54 : decode cX6_letDown 54 = .ok (.goto (-50), 3) := by decide +kernel
theorem dX6_letDown_57 : decode cX6_letDown 57 = .ok (.return_, 1) := by decide +kernel
theorem dX6_link_0 : decode cX6_link 0 = .ok (.aload_n 0, 1) := by decide +kernel
theorem dX6_link_1 : decode cX6_link 1 = .ok (.getfield 29, 3) := by decide +kernel
theorem dX6_link_4 : decode cX6_link 4 = .ok (.iload_n 2, 1) := by decide +kernel
theorem dX6_link_5 : decode cX6_link 5 = .ok (.invokevirtual 199, 3) := by decide +kernel
theorem dX6_link_8 : decode cX6_link 8 = .ok (.aload_n 0, 1) := by decide +kernel
theorem dX6_link_9 : decode cX6_link 9 = .ok (.getfield 29, 3) := by decide +kernel
theorem dX6_link_12 : decode cX6_link 12 = .ok (.iload_n 1, 1) := by decide +kernel
theorem dX6_link_13 : decode cX6_link 13 = .ok (.invokevirtual 223, 3) := by decide +kernel
theorem dX6_link_16 : decode cX6_link 16 = .ok (.istore_n 3, 1) := by decide +kernel
theorem dX6_link_17 : decode cX6_link 17 = .ok (.aload_n 0, 1) := by decide +kernel
theorem dX6_link_18 : decode cX6_link 18 = .ok (.getfield 29, 3) := by decide +kernel
theorem dX6_link_21 : decode cX6_link 21 = .ok (.iload_n 1, 1) := by decide +kernel
theorem dX6_link_22 : decode cX6_link 22 = .ok (.iload_n 2, 1) := by decide +kernel
theorem dX6_link_23 : decode cX6_link 23 = .ok (.invokevirtual 226, 3) := by decide +kernel
theorem dX6_link_26 : decode cX6_link 26 = .ok (.iload_n 3, 1) := by decide +kernel
theorem dX6_link_27 : decode cX6_link 27 = .ok (.iconst (-1), 1) := by decide +kernel
theorem dX6_link_28 : decode cX6_link 28 = .ok (.if_icmp .eq 40, 3) := by decide +kernel
theorem dX6_link_31 : decode cX6_link 31 = .ok (.aload_n 0, 1) := by decide +kernel
theorem dX6_link_32 : decode cX6_link 32 = .ok (.getfield 51, 3) := by decide +kernel
theorem dX6_link_35 : decode cX6_link 35 = .ok (.aload_n 0, 1) := by decide +kernel
theorem dX6_link_36 : decode cX6_link 36 = .ok (.getfield 44, 3) := by decide +kernel
theorem dX6_link_39 : decode cX6_link 39 = .ok (.arraylength, 1) := by decide +kernel
theorem dX6_link_40 : decode cX6_link 40 = .ok (.if_icmp .ge 28, 3) := by decide +kernel
theorem dX6_link_43 : decode cX6_link 43 = .ok (.aload_n 0, 1) := by decide +kernel
theorem dX6_link_44 : decode cX6_link 44 = .ok (.iconst 5, 1) := by decide +kernel
theorem dX6_link_45 : decode cX6_link 45 = .ok (.putfield 47, 3) := by decide +kernel
theorem dX6_link_48 : decode cX6_link 48 = .ok (.aload_n 0, 1) := by decide +kernel
theorem dX6_link_49 : decode cX6_link 49 = .ok (.getfield 44, 3) := by decide +kernel
theorem dX6_link_52 : decode cX6_link 52 = .ok (.aload_n 0, 1) := by decide +kernel
theorem dX6_link_53 : decode cX6_link 53 = .ok (.getfield 51, 3) := by decide +kernel
theorem dX6_link_56 : decode cX6_link 56 = .ok (.iload_n 3, 1) := by decide +kernel
theorem dX6_link_57 : decode cX6_link 57 = .ok (.iastore, 1) := by decide +kernel
theorem dX6_link_58 : decode cX6_link 58 = .ok (.aload_n 0, 1) := by decide +kernel
theorem dX6_link_59 : decode cX6_link 59 = .ok (.dup, 1) := by decide +kernel
theorem dX6_link_60 : decode cX6_link 60 = .ok (.getfield 51, 3) := by decide +kernel
theorem dX6_link_63 : decode cX6_link 63 = .ok (.iconst 1, 1) := by decide +kernel
theorem dX6_link_64 : decode cX6_link 64 = .ok (.iadd, 1) := by decide +kernel
theorem dX6_link_65 : decode cX6_link 65 = .ok (.putfield 51, 3) := by decide +kernel
theorem dX6_link_68 : decode cX6_link 68 = .ok (.return_, 1) := by decide +kernel
theorem dX6_hold_0 : decode cX6_hold 0 = .ok (.aload_n 0, 1) := by decide +kernel
theorem dX6_hold_1 : decode cX6_hold 1 = .ok (.getfield 29, 3) := by decide +kernel
theorem dX6_hold_4 : decode cX6_hold 4 = .ok (.iload_n 1, 1) := by decide +kernel
theorem dX6_hold_5 : decode cX6_hold 5 = .ok (.invokevirtual 229, 3) := by decide +kernel
theorem dX6_hold_8 : decode cX6_hold 8 = .ok (.ifCond .eq 10, 3) := by decide +kernel
theorem dX6_hold_11 : decode cX6_hold 11 = .ok (.aload_n 0, 1) := by decide +kernel
theorem dX6_hold_12 : decode cX6_hold 12 = .ok (.invokevirtual 181, 3) := by decide +kernel
theorem dX6_hold_15 : decode cX6_hold 15 = .ok (.goto 12, 3) := by decide +kernel
theorem dX6_hold_18 : decode cX6_hold 18 = .ok (.aload_n 0, 1) := by decide +kernel
theorem dX6_hold_19 : decode cX6_hold 19 = .ok (.getfield 29, 3) := by decide +kernel
theorem dX6_hold_22 : decode cX6_hold 22 = .ok (.iload_n 1, 1) := by decide +kernel
theorem dX6_hold_23 : decode cX6_hold 23 = .ok (.iconst 1, 1) := by decide +kernel
theorem dX6_hold_24 : decode cX6_hold 24 = .ok (.invokevirtual 177, 3) := by decide +kernel
theorem dX6_hold_27 : decode cX6_hold 27 = .ok (.return_, 1) := by decide +kernel
theorem dX6_read_0 : decode cX6_read 0 = .ok (.aload_n 0, 1) := by decide +kernel
theorem dX6_read_1 : decode cX6_read 1 = .ok (.getfield 9, 3) := by decide +kernel
theorem dX6_read_4 : decode cX6_read 4 = .ok (.iload_n 1, 1) := by decide +kernel
theorem dX6_read_5 : decode cX6_read 5 = .ok (.invokevirtual 187, 3) := by decide +kernel
theorem dX6_read_8 : decode cX6_read 8 = .ok (.istore_n 2, 1) := by decide +kernel
theorem dX6_read_9 : decode cX6_read 9 = .ok (.iload_n 2, 1) := by decide +kernel
theorem dX6_read_10 : decode cX6_read 10 = .ok (.iconst 5, 1) := by decide +kernel
theorem dX6_read_11 : decode cX6_read 11 = .ok (.if_icmp .ne 50, 3) := by decide +kernel
theorem dX6_read_14 : decode cX6_read 14 = .ok (.aload_n 0, 1) := by decide +kernel
theorem dX6_read_15 : decode cX6_read 15 = .ok (.iload_n 1, 1) := by decide +kernel
theorem dX6_read_16 : decode cX6_read 16 = .ok (.invokevirtual 168, 3) := by decide +kernel
theorem dX6_read_19 : decode cX6_read 19 = .ok (.istore_n 3, 1) := by decide +kernel
theorem dX6_read_20 : decode cX6_read 20 = .ok (.aload_n 0, 1) := by decide +kernel
theorem dX6_read_21 : decode cX6_read 21 = .ok (.getfield 29, 3) := by decide +kernel
theorem dX6_read_24 : decode cX6_read 24 = .ok (.iload_n 3, 1) := by decide +kernel
theorem dX6_read_25 : decode cX6_read 25 = .ok (.invokevirtual 229, 3) := by decide +kernel
theorem dX6_read_28 : decode cX6_read 28 = .ok (.ifCond .eq 10, 3) := by decide +kernel
theorem dX6_read_31 : decode cX6_read 31 = .ok (.aload_n 0, 1) := by decide +kernel
theorem dX6_read_32 : decode cX6_read 32 = .ok (.invokevirtual 181, 3) := by decide +kernel
theorem dX6_read_35 : decode cX6_read 35 = .ok (.goto 23, 3) := by decide +kernel
theorem dX6_read_38 : decode cX6_read 38 = .ok (.aload_n 0, 1) := by decide +kernel
theorem dX6_read_39 : decode cX6_read 39 = .ok (.getfield 22, 3) := by decide +kernel
theorem dX6_read_42 : decode cX6_read 42 = .ok (.iconst 0, 1) := by decide +kernel
theorem dX6_read_43 : decode cX6_read 43 = .ok (.aload_n 0, 1) := by decide +kernel
theorem dX6_read_44 : decode cX6_read 44 = .ok (.getfield 29, 3) := by decide +kernel
theorem dX6_read_47 : decode cX6_read 47 = .ok (.iload_n 3, 1) := by decide +kernel
theorem dX6_read_48 : decode cX6_read 48 = .ok (.invokevirtual 220, 3) := by decide +kernel
theorem dX6_read_51 : decode cX6_read 51 = .ok (.aload_n 0, 1) := by decide +kernel
theorem dX6_read_52 : decode cX6_read 52 = .ok (.getfield 54, 3) := by decide +kernel
theorem dX6_read_55 : decode cX6_read 55 = .ok (.invokevirtual 214, 3) := by decide +kernel
theorem dX6_read_58 : decode cX6_read 58 = .ok (.goto 37, 3) := by decide +kernel
theorem dX6_read_61 : decode cX6_read 61 = .ok (.iload_n 2, 1) := by decide +kernel
theorem dX6_read_62 : decode cX6_read 62 = .ok (.invokestatic 232, 3) := by decide +kernel
theorem dX6_read_65 : decode cX6_read 65 = .ok (.ifCond .eq 11, 3) := by decide +kernel
theorem dX6_read_68 : decode cX6_read 68 = .ok (.aload_n 0, 1) := by decide +kernel
theorem dX6_read_69 : decode cX6_read 69 = .ok (.iload_n 1, 1) := by decide +kernel
theorem dX6_read_70 : decode cX6_read 70 = .ok (.invokevirtual 168, 3) := by decide +kernel
theorem dX6_read_73 : decode cX6_read 73 = .ok (.goto 4, 3) := by decide +kernel
theorem dX6_read_76 : decode cX6_read 76 = .ok (.iload_n 1, 1) := by decide +kernel
theorem dX6_read_77 : decode cX6_read 77 = .ok (.istore_n 3, 1) := by decide +kernel
theorem dX6_read_78 : decode cX6_read 78 = .ok (.aload_n 0, 1) := by decide +kernel
theorem dX6_read_79 : decode cX6_read 79 = .ok (.getfield 22, 3) := by decide +kernel
theorem dX6_read_82 : decode cX6_read 82 = .ok (.iconst 0, 1) := by decide +kernel
theorem dX6_read_83 : decode cX6_read 83 = .ok (.aload_n 0, 1) := by decide +kernel
theorem dX6_read_84 : decode cX6_read 84 = .ok (.iload_n 3, 1) := by decide +kernel
theorem dX6_read_85 : decode cX6_read 85 = .ok (.invokevirtual 127, 3) := by decide +kernel
theorem dX6_read_88 : decode cX6_read 88 = .ok (.aload_n 0, 1) := by decide +kernel
theorem dX6_read_89 : decode cX6_read 89 = .ok (.getfield 54, 3) := by decide +kernel
theorem dX6_read_92 : decode cX6_read 92 = .ok (.invokevirtual 214, 3) := by decide +kernel
theorem dX6_read_95 : decode cX6_read 95 = .ok (.return_, 1) := by decide +kernel
theorem dX6_write_0 : decode cX6_write 0 = .ok (.aload_n 0, 1) := by decide +kernel
theorem dX6_write_1 : decode cX6_write 1 = .ok (.getfield 9, 3) := by decide +kernel
theorem dX6_write_4 : decode cX6_write 4 = .ok (.iload_n 1, 1) := by decide +kernel
theorem dX6_write_5 : decode cX6_write 5 = .ok (.invokevirtual 187, 3) := by decide +kernel
theorem dX6_write_8 : decode cX6_write 8 = .ok (.istore_n 3, 1) := by decide +kernel
theorem dX6_write_9 : decode cX6_write 9 = .ok (.iload_n 3, 1) := by decide +kernel
theorem dX6_write_10 : decode cX6_write 10 = .ok (.iconst 5, 1) := by decide +kernel
theorem dX6_write_11 : decode cX6_write 11 = .ok (.if_icmp .ne 42, 3) := by decide +kernel
theorem dX6_write_14 : decode cX6_write 14 = .ok (.aload_n 0, 1) := by decide +kernel
theorem dX6_write_15 : decode cX6_write 15 = .ok (.iload_n 1, 1) := by decide +kernel
theorem dX6_write_16 : decode cX6_write 16 = .ok (.invokevirtual 168, 3) := by decide +kernel
theorem dX6_write_19 : decode cX6_write 19 = .ok (.istore 4, 2) := by decide +kernel
theorem dX6_write_21 : decode cX6_write 21 = .ok (.aload_n 0, 1) := by decide +kernel
theorem dX6_write_22 : decode cX6_write 22 = .ok (.getfield 29, 3) := by decide +kernel
theorem dX6_write_25 : decode cX6_write 25 = .ok (.iload 4, 2) := by decide +kernel
theorem dX6_write_27 : decode cX6_write 27 = .ok (.invokevirtual 229, 3) := by decide +kernel
theorem dX6_write_30 : decode cX6_write 30 = .ok (.ifCond .eq 10, 3) := by decide +kernel
theorem dX6_write_33 : decode cX6_write 33 = .ok (.aload_n 0, 1) := by decide +kernel
theorem dX6_write_34 : decode cX6_write 34 = .ok (.invokevirtual 181, 3) := by decide +kernel
theorem dX6_write_37 : decode cX6_write 37 = .ok (.goto 13, 3) := by decide +kernel
theorem dX6_write_40 : decode cX6_write 40 = .ok (.aload_n 0, 1) := by decide +kernel
theorem dX6_write_41 : decode cX6_write 41 = .ok (.getfield 29, 3) := by decide +kernel
theorem dX6_write_44 : decode cX6_write 44 = .ok (.iload 4, 2) := by decide +kernel
theorem dX6_write_46 : decode cX6_write 46 = .ok (.iload_n 2, 1) := by decide +kernel
theorem dX6_write_47 : decode cX6_write 47 = .ok (.invokevirtual 235, 3) := by decide +kernel
theorem dX6_write_50 : decode cX6_write 50 = .ok (.goto 24, 3) := by decide +kernel
theorem dX6_write_53 : decode cX6_write 53 = .ok (.aload_n 0, 1) := by decide +kernel
theorem dX6_write_54 : decode cX6_write 54 = .ok (.iload_n 3, 1) := by decide +kernel
theorem dX6_write_55 : decode cX6_write 55 = .ok (.invokestatic 232, 3) := by decide +kernel
theorem dX6_write_58 : decode cX6_write 58 = .ok (.ifCond .eq 11, 3) := by decide +kernel
theorem dX6_write_61 : decode cX6_write 61 = .ok (.aload_n 0, 1) := by decide +kernel
theorem dX6_write_62 : decode cX6_write 62 = .ok (.iload_n 1, 1) := by decide +kernel
theorem dX6_write_63 : decode cX6_write 63 = .ok (.invokevirtual 168, 3) := by decide +kernel
theorem dX6_write_66 : decode cX6_write 66 = .ok (.goto 4, 3) := by decide +kernel
theorem dX6_write_69 : decode cX6_write 69 = .ok (.iload_n 1, 1) := by decide +kernel
theorem dX6_write_70 : decode cX6_write 70 = .ok (.iload_n 2, 1) := by decide +kernel
theorem dX6_write_71 : decode cX6_write 71 = .ok (.invokevirtual 238, 3) := by decide +kernel
theorem dX6_write_74 : decode cX6_write 74 = .ok (.return_, 1) := by decide +kernel
theorem dX6_numberAt_0 : decode cX6_numberAt 0 = .ok (.aload_n 0, 1) := by decide +kernel
theorem dX6_numberAt_1 : decode cX6_numberAt 1 = .ok (.iload_n 1, 1) := by decide +kernel
theorem dX6_numberAt_2 : decode cX6_numberAt 2 = .ok (.invokevirtual 193, 3) := by decide +kernel
theorem dX6_numberAt_5 : decode cX6_numberAt 5 = .ok (.istore_n 2, 1) := by decide +kernel
theorem dX6_numberAt_6 : decode cX6_numberAt 6 = .ok (.aload_n 0, 1) := by decide +kernel
theorem dX6_numberAt_7 : decode cX6_numberAt 7 = .ok (.getfield 9, 3) := by decide +kernel
theorem dX6_numberAt_10 : decode cX6_numberAt 10 = .ok (.iload_n 1, 1) := by decide +kernel
theorem dX6_numberAt_11 : decode cX6_numberAt 11 = .ok (.invokevirtual 187, 3) := by decide +kernel
theorem dX6_numberAt_14 : decode cX6_numberAt 14 = .ok (.iconst 2, 1) := by decide +kernel
theorem dX6_numberAt_15 : decode cX6_numberAt 15 = .ok (.if_icmp .ne 19, 3) := by decide +kernel
theorem dX6_numberAt_18 : decode cX6_numberAt 18 = .ok (.aload_n 0, 1) := by decide +kernel
theorem dX6_numberAt_19 : decode cX6_numberAt 19 = .ok (.iload_n 2, 1) := by decide +kernel
theorem dX6_numberAt_20 : decode cX6_numberAt 20 = .ok (.invokevirtual 168, 3) := by decide +kernel
theorem dX6_numberAt_23 : decode cX6_numberAt 23 = .ok (.aload_n 0, 1) := by decide +kernel
theorem dX6_numberAt_24 : decode cX6_numberAt 24 = .ok (.iload_n 2, 1) := by decide +kernel
theorem dX6_numberAt_25 : decode cX6_numberAt 25 = .ok (.iconst 1, 1) := by decide +kernel
theorem dX6_numberAt_26 : decode cX6_numberAt 26 = .ok (.iadd, 1) := by decide +kernel
theorem dX6_numberAt_27 : decode cX6_numberAt 27 = .ok (.invokevirtual 168, 3) := by decide +kernel
theorem dX6_numberAt_30 : decode cX6_numberAt 30 = .ok (.iadd, 1) := by decide +kernel
theorem dX6_numberAt_31 : decode cX6_numberAt 31 = .ok (.goto 8, 3) := by decide +kernel
theorem dX6_numberAt_34 : decode cX6_numberAt 34 = .ok (.aload_n 0, 1) := by decide +kernel
theorem dX6_numberAt_35 : decode cX6_numberAt 35 = .ok (.iload_n 2, 1) := by decide +kernel
theorem dX6_numberAt_36 : decode cX6_numberAt 36 = .ok (.invokevirtual 168, 3) := by decide +kernel
theorem dX6_numberAt_39 : decode cX6_numberAt 39 = .ok (.ireturn, 1) := by decide +kernel
theorem dX6_writeNumber_0 : decode cX6_writeNumber 0 = .ok (.aload_n 0, 1) := by decide +kernel
theorem dX6_writeNumber_1 : decode cX6_writeNumber 1 = .ok (.iload_n 1, 1) := by decide +kernel
theorem dX6_writeNumber_2 : decode cX6_writeNumber 2 = .ok (.invokevirtual 193, 3) := by decide +kernel
theorem dX6_writeNumber_5 : decode cX6_writeNumber 5 = .ok (.istore_n 3, 1) := by decide +kernel
theorem dX6_writeNumber_6 : decode cX6_writeNumber 6 = .ok (.aload_n 0, 1) := by decide +kernel
theorem dX6_writeNumber_7 : decode cX6_writeNumber 7 = .ok (.iload_n 3, 1) := by decide +kernel
theorem dX6_writeNumber_8 : decode cX6_writeNumber 8 = .ok (.iload_n 2, 1) := by decide +kernel
theorem dX6_writeNumber_9 : decode cX6_writeNumber 9 = .ok (.invokevirtual 184, 3) := by decide +kernel
theorem dX6_writeNumber_12 : decode cX6_writeNumber 12 = .ok (.aload_n 0, 1) := by decide +kernel
theorem dX6_writeNumber_13 : decode cX6_writeNumber 13 = .ok (.getfield 9, 3) := by decide +kernel
theorem dX6_writeNumber_16 : decode cX6_writeNumber 16 = .ok (.iload_n 1, 1) := by decide +kernel
theorem dX6_writeNumber_17 : decode cX6_writeNumber 17 = .ok (.invokevirtual 187, 3) := by decide +kernel
theorem dX6_writeNumber_20 : decode cX6_writeNumber 20 = .ok (.iconst 2, 1) := by decide +kernel
theorem dX6_writeNumber_21 : decode cX6_writeNumber 21 = .ok (.if_icmp .ne 11, 3) := by decide +kernel
theorem dX6_writeNumber_24 : decode cX6_writeNumber 24 = .ok (.aload_n 0, 1) := by decide +kernel
theorem dX6_writeNumber_25 : decode cX6_writeNumber 25 = .ok (.iload_n 3, 1) := by decide +kernel
theorem dX6_writeNumber_26 : decode cX6_writeNumber 26 = .ok (.iconst 1, 1) := by decide +kernel
theorem dX6_writeNumber_27 : decode cX6_writeNumber 27 = .ok (.iadd, 1) := by decide +kernel
theorem dX6_writeNumber_28 : decode cX6_writeNumber 28 = .ok (.iload_n 2, 1) := by decide +kernel
theorem dX6_writeNumber_29 : decode cX6_writeNumber 29 = .ok (.invokevirtual 184, 3) := by decide +kernel
theorem dX6_writeNumber_32 : decode cX6_writeNumber 32 = .ok (.return_, 1) := by decide +kernel
theorem dX6_unwind_0 : decode cX6_unwind 0 = .ok (.aload_n 0, 1) := by decide +kernel
theorem dX6_unwind_1 : decode cX6_unwind 1 = .ok (.getfield 9, 3) := by decide +kernel
theorem dX6_unwind_4 : decode cX6_unwind 4 = .ok (.getfield 241, 3) := by decide +kernel
theorem dX6_unwind_7 : decode cX6_unwind 7 = .ok (.iconst 1, 1) := by decide +kernel
theorem dX6_unwind_8 : decode cX6_unwind 8 = .ok (.isub, 1) := by decide +kernel
theorem dX6_unwind_9 : decode cX6_unwind 9 = .ok (.istore_n 1, 1) := by decide +kernel
theorem dX6_unwind_10 : decode cX6_unwind 10 = .ok (.iload_n 1, 1) := by decide +kernel
theorem dX6_unwind_11 : decode cX6_unwind 11 = .ok (.ifCond .lt 43, 3) := by decide +kernel
theorem dX6_unwind_14 : decode cX6_unwind 14 = .ok (.aload_n 0, 1) := by decide +kernel
theorem dX6_unwind_15 : decode cX6_unwind 15 = .ok (.getfield 72, 3) := by decide +kernel
theorem dX6_unwind_18 : decode cX6_unwind 18 = .ok (.ifCond .ne 36, 3) := by decide +kernel
theorem dX6_unwind_21 : decode cX6_unwind 21 = .ok (.aload_n 0, 1) := by decide +kernel
theorem dX6_unwind_22 : decode cX6_unwind 22 = .ok (.getfield 9, 3) := by decide +kernel
theorem dX6_unwind_25 : decode cX6_unwind 25 = .ok (.iconst 3, 1) := by decide +kernel
theorem dX6_unwind_26 : decode cX6_unwind 26 = .ok (.iload_n 1, 1) := by decide +kernel
theorem dX6_unwind_27 : decode cX6_unwind 27 = .ok (.imul, 1) := by decide +kernel
theorem dX6_unwind_28 : decode cX6_unwind 28 = .ok (.invokevirtual 187, 3) := by decide +kernel
theorem dX6_unwind_31 : decode cX6_unwind 31 = .ok (.invokestatic 208, 3) := by decide +kernel
theorem dX6_unwind_34 : decode cX6_unwind 34 = .ok (.ifCond .eq 14, 3) := by decide +kernel
theorem dX6_unwind_37 : decode cX6_unwind 37 = .ok (.aload_n 0, 1) := by decide +kernel
theorem dX6_unwind_38 : decode cX6_unwind 38 = .ok (.iconst 3, 1) := by decide +kernel
theorem dX6_unwind_39 : decode cX6_unwind 39 = .ok (.iload_n 1, 1) := by decide +kernel
theorem dX6_unwind_40 : decode cX6_unwind 40 = .ok (.imul, 1) := by decide +kernel
theorem dX6_unwind_41 : decode cX6_unwind 41 = .ok (.invokevirtual 165, 3) := by decide +kernel
theorem dX6_unwind_44 : decode cX6_unwind 44 = .ok (.aload_n 0, 1) := by decide +kernel
theorem dX6_unwind_45 : decode cX6_unwind 45 = .ok (.invokevirtual 105, 3) := by decide +kernel
theorem dX6_unwind_48 : decode cX6_unwind 48 = .ok (.iinc 1 (-1), 3) := by decide +kernel
theorem dX6_unwind_51 : decode cX6_unwind 51 = .ok (.goto (-41), 3) := by decide +kernel
theorem dX6_unwind_54 : decode cX6_unwind 54 = .ok (.return_, 1) := by decide +kernel
theorem dX6_firstLeaf_0 : decode cX6_firstLeaf 0 = .ok (.aload_n 0, 1) := by decide +kernel
theorem dX6_firstLeaf_1 : decode cX6_firstLeaf 1 = .ok (.getfield 9, 3) := by decide +kernel
theorem dX6_firstLeaf_4 : decode cX6_firstLeaf 4 = .ok (.iload_n 1, 1) := by decide +kernel
theorem dX6_firstLeaf_5 : decode cX6_firstLeaf 5 = .ok (.invokevirtual 187, 3) := by decide +kernel
theorem dX6_firstLeaf_8 : decode cX6_firstLeaf 8 = .ok (.iconst 2, 1) := by decide +kernel
theorem dX6_firstLeaf_9 : decode cX6_firstLeaf 9 = .ok (.if_icmp .ne 9, 3) := by decide +kernel
theorem dX6_firstLeaf_12 : decode cX6_firstLeaf 12 = .ok (.iload_n 1, 1) := by decide +kernel
theorem dX6_firstLeaf_13 : decode cX6_firstLeaf 13 = .ok (.iconst 1, 1) := by decide +kernel
theorem dX6_firstLeaf_14 : decode cX6_firstLeaf 14 = .ok (.iadd, 1) := by decide +kernel
theorem dX6_firstLeaf_15 : decode cX6_firstLeaf 15 = .ok (.goto 4, 3) := by decide +kernel
theorem dX6_firstLeaf_18 : decode cX6_firstLeaf 18 = .ok (.iload_n 1, 1) := by decide +kernel
theorem dX6_firstLeaf_19 : decode cX6_firstLeaf 19 = .ok (.ireturn, 1) := by decide +kernel
theorem dX6_valueAt_0 : decode cX6_valueAt 0 = .ok (.aload_n 0, 1) := by decide +kernel
theorem dX6_valueAt_1 : decode cX6_valueAt 1 = .ok (.getfield 37, 3) := by decide +kernel
theorem dX6_valueAt_4 : decode cX6_valueAt 4 = .ok (.iload_n 1, 1) := by decide +kernel
theorem dX6_valueAt_5 : decode cX6_valueAt 5 = .ok (.invokestatic 138, 3) := by decide +kernel
theorem dX6_valueAt_8 : decode cX6_valueAt 8 = .ok (.ifCond .eq 12, 3) := by decide +kernel
theorem dX6_valueAt_11 : decode cX6_valueAt 11 = .ok (.aload_n 0, 1) := by decide +kernel
theorem dX6_valueAt_12 : decode cX6_valueAt 12 = .ok (.getfield 37, 3) := by decide +kernel
theorem dX6_valueAt_15 : decode cX6_valueAt 15 = .ok (.iload_n 1, 1) := by decide +kernel
theorem dX6_valueAt_16 : decode cX6_valueAt 16 = .ok (.iaload, 1) := by decide +kernel
theorem dX6_valueAt_17 : decode cX6_valueAt 17 = .ok (.goto 4, 3) := by decide +kernel
theorem dX6_valueAt_20 : decode cX6_valueAt 20 = .ok (.iconst 0, 1) := by decide +kernel
theorem dX6_valueAt_21 : decode cX6_valueAt 21 = .ok (.ireturn, 1) := by decide +kernel
theorem dX6_setValue_0 : decode cX6_setValue 0 = .ok (.iload_n 1, 1) := by decide +kernel
theorem dX6_setValue_1 : decode cX6_setValue 1 = .ok (.ifCond .lt 23, 3) := by decide +kernel
theorem dX6_setValue_4 : decode cX6_setValue 4 = .ok (.iload_n 1, 1) := by decide +kernel
theorem dX6_setValue_5 : decode cX6_setValue 5 = .ok (.bipush 24, 2) := by decide +kernel
theorem dX6_setValue_7 : decode cX6_setValue 7 = .ok (.if_icmp .ge 17, 3) := by decide +kernel
theorem dX6_setValue_10 : decode cX6_setValue 10 = .ok (.aload_n 0, 1) := by decide +kernel
theorem dX6_setValue_11 : decode cX6_setValue 11 = .ok (.getfield 33, 3) := by decide +kernel
theorem dX6_setValue_14 : decode cX6_setValue 14 = .ok (.iload_n 1, 1) := by decide +kernel
theorem dX6_setValue_15 : decode cX6_setValue 15 = .ok (.iconst 1, 1) := by decide +kernel
theorem dX6_setValue_16 : decode cX6_setValue 16 = .ok (.bastore, 1) := by decide +kernel
theorem dX6_setValue_17 : decode cX6_setValue 17 = .ok (.aload_n 0, 1) := by decide +kernel
theorem dX6_setValue_18 : decode cX6_setValue 18 = .ok (.getfield 37, 3) := by decide +kernel
theorem dX6_setValue_21 : decode cX6_setValue 21 = .ok (.iload_n 1, 1) := by decide +kernel
theorem dX6_setValue_22 : decode cX6_setValue 22 = .ok (.iload_n 2, 1) := by decide +kernel
theorem dX6_setValue_23 : decode cX6_setValue 23 = .ok (.iastore, 1) := by decide +kernel
theorem dX6_setValue_24 : decode cX6_setValue 24 = .ok (.return_, 1) := by decide +kernel
theorem dX6_setEmpty_0 : decode cX6_setEmpty 0 = .ok (.iload_n 1, 1) := by decide +kernel
theorem dX6_setEmpty_1 : decode cX6_setEmpty 1 = .ok (.ifCond .lt 16, 3) := by decide +kernel
theorem dX6_setEmpty_4 : decode cX6_setEmpty 4 = .ok (.iload_n 1, 1) := by decide +kernel
theorem dX6_setEmpty_5 : decode cX6_setEmpty 5 = .ok (.bipush 24, 2) := by decide +kernel
theorem dX6_setEmpty_7 : decode cX6_setEmpty 7 = .ok (.if_icmp .ge 10, 3) := by decide +kernel
theorem dX6_setEmpty_10 : decode cX6_setEmpty 10 = .ok (.aload_n 0, 1) := by decide +kernel
theorem dX6_setEmpty_11 : decode cX6_setEmpty 11 = .ok (.getfield 33, 3) := by decide +kernel
theorem dX6_setEmpty_14 : decode cX6_setEmpty 14 = .ok (.iload_n 1, 1) := by decide +kernel
theorem dX6_setEmpty_15 : decode cX6_setEmpty 15 = .ok (.iconst 0, 1) := by decide +kernel
theorem dX6_setEmpty_16 : decode cX6_setEmpty 16 = .ok (.bastore, 1) := by decide +kernel
theorem dX6_setEmpty_17 : decode cX6_setEmpty 17 = .ok (.return_, 1) := by decide +kernel
theorem dX7_init_0 : decode cX7_init 0 = .ok (.aload_n 0, 1) := by decide +kernel
theorem dX7_init_1 : decode cX7_init 1 = .ok (.invokespecial 3, 3) := by decide +kernel
theorem dX7_init_4 : decode cX7_init 4 = .ok (.aload_n 0, 1) := by decide +kernel
theorem dX7_init_5 : decode cX7_init 5 = .ok (.bipush 60, 2) := by decide +kernel
theorem dX7_init_7 : decode cX7_init 7 = .ok (.newarray .int, 2) := by decide +kernel
theorem dX7_init_9 : decode cX7_init 9 = .ok (.putfield 9, 3) := by decide +kernel
theorem dX7_init_12 : decode cX7_init 12 = .ok (.aload_n 0, 1) := by decide +kernel
theorem dX7_init_13 : decode cX7_init 13 = .ok (.bipush 60, 2) := by decide +kernel
theorem dX7_init_15 : decode cX7_init 15 = .ok (.newarray .int, 2) := by decide +kernel
theorem dX7_init_17 : decode cX7_init 17 = .ok (.putfield 15, 3) := by decide +kernel
theorem dX7_init_20 : decode cX7_init 20 = .ok (.aload_n 0, 1) := by decide +kernel
theorem dX7_init_21 : decode cX7_init 21 = .ok (.bipush 60, 2) := by decide +kernel
theorem dX7_init_23 : decode cX7_init 23 = .ok (.newarray .int, 2) := by decide +kernel
theorem dX7_init_25 : decode cX7_init 25 = .ok (.putfield 18, 3) := by decide +kernel
theorem dX7_init_28 : decode cX7_init 28 = .ok (.aload_n 0, 1) := by decide +kernel
theorem dX7_init_29 : decode cX7_init 29 = .ok (.iconst 0, 1) := by decide +kernel
theorem dX7_init_30 : decode cX7_init 30 = .ok (.putfield 21, 3) := by decide +kernel
theorem dX7_init_33 : decode cX7_init 33 = .ok (.return_, 1) := by decide +kernel
theorem dX7_tell_0 : decode cX7_tell 0 = .ok (.aload_n 0, 1) := by decide +kernel
theorem dX7_tell_1 : decode cX7_tell 1 = .ok (.getfield 9, 3) := by decide +kernel
theorem dX7_tell_4 : decode cX7_tell 4 = .ok (.aload_n 0, 1) := by decide +kernel
theorem dX7_tell_5 : decode cX7_tell 5 = .ok (.getfield 21, 3) := by decide +kernel
theorem dX7_tell_8 : decode cX7_tell 8 = .ok (.invokestatic 25, 3) := by decide +kernel
theorem dX7_tell_11 : decode cX7_tell 11 = .ok (.ifCond .eq 33, 3) := by decide +kernel
theorem dX7_tell_14 : decode cX7_tell 14 = .ok (.aload_n 0, 1) := by decide +kernel
theorem dX7_tell_15 : decode cX7_tell 15 = .ok (.getfield 9, 3) := by decide +kernel
theorem dX7_tell_18 : decode cX7_tell 18 = .ok (.aload_n 0, 1) := by decide +kernel
theorem dX7_tell_19 : decode cX7_tell 19 = .ok (.getfield 21, 3) := by decide +kernel
theorem dX7_tell_22 : decode cX7_tell 22 = .ok (.iload_n 1, 1) := by decide +kernel
theorem dX7_tell_23 : decode cX7_tell 23 = .ok (.iastore, 1) := by decide +kernel
theorem dX7_tell_24 : decode cX7_tell 24 = .ok (.aload_n 0, 1) := by decide +kernel
theorem dX7_tell_25 : decode cX7_tell 25 = .ok (.getfield 15, 3) := by decide +kernel
theorem dX7_tell_28 : decode cX7_tell 28 = .ok (.aload_n 0, 1) := by decide +kernel
theorem dX7_tell_29 : decode cX7_tell 29 = .ok (.getfield 21, 3) := by decide +kernel
theorem dX7_tell_32 : decode cX7_tell 32 = .ok (.iload_n 2, 1) := by decide +kernel
theorem dX7_tell_33 : decode cX7_tell 33 = .ok (.iastore, 1) := by decide +kernel
theorem dX7_tell_34 : decode cX7_tell 34 = .ok (.aload_n 0, 1) := by decide +kernel
theorem dX7_tell_35 : decode cX7_tell 35 = .ok (.getfield 18, 3) := by decide +kernel
theorem dX7_tell_38 : decode cX7_tell 38 = .ok (.aload_n 0, 1) := by decide +kernel
theorem dX7_tell_39 : decode cX7_tell 39 = .ok (.getfield 21, 3) := by decide +kernel
theorem dX7_tell_42 : decode cX7_tell 42 = .ok (.iload_n 3, 1) := by decide +kernel
theorem dX7_tell_43 : decode cX7_tell 43 = .ok (.iastore, 1) := by decide +kernel
theorem dX7_tell_44 : decode cX7_tell 44 = .ok (.aload_n 0, 1) := by decide +kernel
theorem dX7_tell_45 : decode cX7_tell 45 = .ok (.dup, 1) := by decide +kernel
theorem dX7_tell_46 : decode cX7_tell 46 = .ok (.getfield 21, 3) := by decide +kernel
theorem dX7_tell_49 : decode cX7_tell 49 = .ok (.iconst 1, 1) := by decide +kernel
theorem dX7_tell_50 : decode cX7_tell 50 = .ok (.iadd, 1) := by decide +kernel
theorem dX7_tell_51 : decode cX7_tell 51 = .ok (.putfield 21, 3) := by decide +kernel
theorem dX7_tell_54 : decode cX7_tell 54 = .ok (.return_, 1) := by decide +kernel
theorem dX7_countKept_0 : decode cX7_countKept 0 = .ok (.aload_n 0, 1) := by decide +kernel
theorem dX7_countKept_1 : decode cX7_countKept 1 = .ok (.getfield 21, 3) := by decide +kernel
theorem dX7_countKept_4 : decode cX7_countKept 4 = .ok (.bipush 60, 2) := by decide +kernel
theorem dX7_countKept_6 : decode cX7_countKept 6 = .ok (.invokestatic 29, 3) := by decide +kernel
theorem dX7_countKept_9 : decode cX7_countKept 9 = .ok (.ireturn, 1) := by decide +kernel
theorem dX7_isKept_0 : decode cX7_isKept 0 = .ok (.iload_n 1, 1) := by decide +kernel
theorem dX7_isKept_1 : decode cX7_isKept 1 = .ok (.ifCond .lt 15, 3) := by decide +kernel
theorem dX7_isKept_4 : decode cX7_isKept 4 = .ok (.iload_n 1, 1) := by decide +kernel
theorem dX7_isKept_5 : decode cX7_isKept 5 = .ok (.aload_n 0, 1) := by decide +kernel
theorem dX7_isKept_6 : decode cX7_isKept 6 = .ok (.invokevirtual 35, 3) := by decide +kernel
theorem dX7_isKept_9 : decode cX7_isKept 9 = .ok (.if_icmp .ge 7, 3) := by decide +kernel
theorem dX7_isKept_12 : decode cX7_isKept 12 = .ok (.iconst 1, 1) := by decide +kernel
theorem dX7_isKept_13 : decode cX7_isKept 13 = .ok (.goto 4, 3) := by decide +kernel
theorem dX7_isKept_16 : decode cX7_isKept 16 = .ok (.iconst 0, 1) := by decide +kernel
theorem dX7_isKept_17 : decode cX7_isKept 17 = .ok (.ireturn, 1) := by decide +kernel
theorem dX7_fact_0 : decode cX7_fact 0 = .ok (.aload_n 0, 1) := by decide +kernel
theorem dX7_fact_1 : decode cX7_fact 1 = .ok (.iload_n 1, 1) := by decide +kernel
theorem dX7_fact_2 : decode cX7_fact 2 = .ok (.invokevirtual 39, 3) := by decide +kernel
theorem dX7_fact_5 : decode cX7_fact 5 = .ok (.ifCond .ne 5, 3) := by decide +kernel
theorem dX7_fact_8 : decode cX7_fact 8 = .ok (.iconst (-1), 1) := by decide +kernel
theorem dX7_fact_9 : decode cX7_fact 9 = .ok (.ireturn, 1) := by decide +kernel
theorem dX7_fact_10 : decode cX7_fact 10 = .ok (.iload_n 2, 1) := by decide +kernel
theorem dX7_fact_11 : decode cX7_fact 11 = .ok (.lookupswitch 39 #[(0, 25), (1, 32)], 25) := by decide +kernel
theorem dX7_fact_36 : decode cX7_fact 36 = .ok (.aload_n 0, 1) := by decide +kernel
theorem dX7_fact_37 : decode cX7_fact 37 = .ok (.getfield 9, 3) := by decide +kernel
theorem dX7_fact_40 : decode cX7_fact 40 = .ok (.iload_n 1, 1) := by decide +kernel
theorem dX7_fact_41 : decode cX7_fact 41 = .ok (.iaload, 1) := by decide +kernel
theorem dX7_fact_42 : decode cX7_fact 42 = .ok (.ireturn, 1) := by decide +kernel
theorem dX7_fact_43 : decode cX7_fact 43 = .ok (.aload_n 0, 1) := by decide +kernel
theorem dX7_fact_44 : decode cX7_fact 44 = .ok (.getfield 15, 3) := by decide +kernel
theorem dX7_fact_47 : decode cX7_fact 47 = .ok (.iload_n 1, 1) := by decide +kernel
theorem dX7_fact_48 : decode cX7_fact 48 = .ok (.iaload, 1) := by decide +kernel
theorem dX7_fact_49 : decode cX7_fact 49 = .ok (.ireturn, 1) := by decide +kernel
theorem dX7_fact_50 : decode cX7_fact 50 = .ok (.aload_n 0, 1) := by decide +kernel
theorem dX7_fact_51 : decode cX7_fact 51 = .ok (.getfield 18, 3) := by decide +kernel
theorem dX7_fact_54 : decode cX7_fact 54 = .ok (.iload_n 1, 1) := by decide +kernel
theorem dX7_fact_55 : decode cX7_fact 55 = .ok (.iaload, 1) := by decide +kernel
theorem dX7_fact_56 : decode cX7_fact 56 = .ok (.ireturn, 1) := by decide +kernel
theorem dX8_init_0 : decode cX8_init 0 = .ok (.aload_n 0, 1) := by decide +kernel
theorem dX8_init_1 : decode cX8_init 1 = .ok (.invokespecial 3, 3) := by decide +kernel
theorem dX8_init_4 : decode cX8_init 4 = .ok (.aload_n 0, 1) := by decide +kernel
theorem dX8_init_5 : decode cX8_init 5 = .ok (.aload_n 1, 1) := by decide +kernel
theorem dX8_init_6 : decode cX8_init 6 = .ok (.putfield 9, 3) := by decide +kernel
theorem dX8_init_9 : decode cX8_init 9 = .ok (.aload_n 0, 1) := by decide +kernel
theorem dX8_init_10 : decode cX8_init 10 = .ok (.bipush 34, 2) := by decide +kernel
theorem dX8_init_12 : decode cX8_init 12 = .ok (.newarray .int, 2) := by decide +kernel
theorem dX8_init_14 : decode cX8_init 14 = .ok (.putfield 15, 3) := by decide +kernel
theorem dX8_init_17 : decode cX8_init 17 = .ok (.aload_n 0, 1) := by decide +kernel
theorem dX8_init_18 : decode cX8_init 18 = .ok (.bipush 34, 2) := by decide +kernel
theorem dX8_init_20 : decode cX8_init 20 = .ok (.newarray .int, 2) := by decide +kernel
theorem dX8_init_22 : decode cX8_init 22 = .ok (.putfield 19, 3) := by decide +kernel
theorem dX8_init_25 : decode cX8_init 25 = .ok (.aload_n 0, 1) := by decide +kernel
theorem dX8_init_26 : decode cX8_init 26 = .ok (.bipush 34, 2) := by decide +kernel
theorem dX8_init_28 : decode cX8_init 28 = .ok (.newarray .int, 2) := by decide +kernel
theorem dX8_init_30 : decode cX8_init 30 = .ok (.putfield 22, 3) := by decide +kernel
theorem dX8_init_33 : decode cX8_init 33 = .ok (.aload_n 0, 1) := by decide +kernel
theorem dX8_init_34 : decode cX8_init 34 = .ok (.bipush 34, 2) := by decide +kernel
