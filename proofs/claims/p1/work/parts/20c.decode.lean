theorem dL_variable_0 : decode cL_variable 0 = .ok (.aload_n 2, 1) := by decide +kernel
theorem dL_variable_1 : decode cL_variable 1 = .ok (.iconst 0, 1) := by decide +kernel
theorem dL_variable_2 : decode cL_variable 2 = .ok (.aload_n 0, 1) := by decide +kernel
theorem dL_variable_3 : decode cL_variable 3 = .ok (.iload_n 1, 1) := by decide +kernel
theorem dL_variable_4 : decode cL_variable 4 = .ok (.invokevirtual 7, 3) := by decide +kernel
theorem dL_variable_7 : decode cL_variable 7 = .ok (.i2l, 1) := by decide +kernel
theorem dL_variable_8 : decode cL_variable 8 = .ok (.lastore, 1) := by decide +kernel
theorem dL_variable_9 : decode cL_variable 9 = .ok (.goto 9, 3) := by decide +kernel
theorem dL_variable_12 : decode cL_variable 12 = .ok (.astore_n 3, 1) := by decide +kernel
theorem dL_variable_13 : decode cL_variable 13 = .ok (.iconst 1, 1) := by decide +kernel
theorem dL_variable_14 : decode cL_variable 14 = .ok (.ireturn, 1) := by decide +kernel
theorem dL_variable_15 : decode cL_variable 15 = .ok (.astore_n 3, 1) := by decide +kernel
theorem dL_variable_16 : decode cL_variable 16 = .ok (.iconst 2, 1) := by decide +kernel
theorem dL_variable_17 : decode cL_variable 17 = .ok (.ireturn, 1) := by decide +kernel
theorem dL_variable_18 : decode cL_variable 18 = .ok (.iconst 0, 1) := by decide +kernel
theorem dL_variable_19 : decode cL_variable 19 = .ok (.ireturn, 1) := by decide +kernel
theorem dL_add_0 : decode cL_add 0 = .ok (.aload 4, 2) := by decide +kernel
theorem dL_add_2 : decode cL_add 2 = .ok (.iconst 0, 1) := by decide +kernel
theorem dL_add_3 : decode cL_add 3 = .ok (.aload_n 0, 1) := by decide +kernel
theorem dL_add_4 : decode cL_add 4 = .ok (.iload_n 1, 1) := by decide +kernel
theorem dL_add_5 : decode cL_add 5 = .ok (.iload_n 2, 1) := by decide +kernel
theorem dL_add_6 : decode cL_add 6 = .ok (.iload_n 3, 1) := by decide +kernel
theorem dL_add_7 : decode cL_add 7 = .ok (.invokevirtual 17, 3) := by decide +kernel
theorem dL_add_10 : decode cL_add 10 = .ok (.i2l, 1) := by decide +kernel
theorem dL_add_11 : decode cL_add 11 = .ok (.lastore, 1) := by decide +kernel
theorem dL_add_12 : decode cL_add 12 = .ok (.goto 11, 3) := by decide +kernel
theorem dL_add_15 : decode cL_add 15 = .ok (.astore 5, 2) := by decide +kernel
theorem dL_add_17 : decode cL_add 17 = .ok (.iconst 1, 1) := by decide +kernel
theorem dL_add_18 : decode cL_add 18 = .ok (.ireturn, 1) := by decide +kernel
theorem dL_add_19 : decode cL_add 19 = .ok (.astore 5, 2) := by decide +kernel
theorem dL_add_21 : decode cL_add 21 = .ok (.iconst 2, 1) := by decide +kernel
theorem dL_add_22 : decode cL_add 22 = .ok (.ireturn, 1) := by decide +kernel
theorem dL_add_23 : decode cL_add 23 = .ok (.iconst 0, 1) := by decide +kernel
theorem dL_add_24 : decode cL_add 24 = .ok (.ireturn, 1) := by decide +kernel
theorem dL_put_0 : decode cL_put 0 = .ok (.aload 5, 2) := by decide +kernel
theorem dL_put_2 : decode cL_put 2 = .ok (.iconst 0, 1) := by decide +kernel
theorem dL_put_3 : decode cL_put 3 = .ok (.aload_n 0, 1) := by decide +kernel
theorem dL_put_4 : decode cL_put 4 = .ok (.iload_n 1, 1) := by decide +kernel
theorem dL_put_5 : decode cL_put 5 = .ok (.iload_n 2, 1) := by decide +kernel
theorem dL_put_6 : decode cL_put 6 = .ok (.iload_n 3, 1) := by decide +kernel
theorem dL_put_7 : decode cL_put 7 = .ok (.iload 4, 2) := by decide +kernel
theorem dL_put_9 : decode cL_put 9 = .ok (.invokevirtual 21, 3) := by decide +kernel
theorem dL_put_12 : decode cL_put 12 = .ok (.i2l, 1) := by decide +kernel
theorem dL_put_13 : decode cL_put 13 = .ok (.lastore, 1) := by decide +kernel
theorem dL_put_14 : decode cL_put 14 = .ok (.goto 15, 3) := by decide +kernel
theorem dL_put_17 : decode cL_put 17 = .ok (.astore 6, 2) := by decide +kernel
theorem dL_put_19 : decode cL_put 19 = .ok (.iconst 1, 1) := by decide +kernel
theorem dL_put_20 : decode cL_put 20 = .ok (.ireturn, 1) := by decide +kernel
theorem dL_put_21 : decode cL_put 21 = .ok (.astore 6, 2) := by decide +kernel
theorem dL_put_23 : decode cL_put 23 = .ok (.iconst 2, 1) := by decide +kernel
theorem dL_put_24 : decode cL_put 24 = .ok (.ireturn, 1) := by decide +kernel
theorem dL_put_25 : decode cL_put 25 = .ok (.astore 6, 2) := by decide +kernel
theorem dL_put_27 : decode cL_put 27 = .ok (.iconst 3, 1) := by decide +kernel
theorem dL_put_28 : decode cL_put 28 = .ok (.ireturn, 1) := by decide +kernel
theorem dL_put_29 : decode cL_put 29 = .ok (.iconst 0, 1) := by decide +kernel
theorem dL_put_30 : decode cL_put 30 = .ok (.ireturn, 1) := by decide +kernel
theorem dL_cut_0 : decode cL_cut 0 = .ok (.aload_n 1, 1) := by decide +kernel
theorem dL_cut_1 : decode cL_cut 1 = .ok (.iconst 0, 1) := by decide +kernel
theorem dL_cut_2 : decode cL_cut 2 = .ok (.aload_n 0, 1) := by decide +kernel
theorem dL_cut_3 : decode cL_cut 3 = .ok (.invokevirtual 27, 3) := by decide +kernel
theorem dL_cut_6 : decode cL_cut 6 = .ok (.i2l, 1) := by decide +kernel
theorem dL_cut_7 : decode cL_cut 7 = .ok (.lastore, 1) := by decide +kernel
theorem dL_cut_8 : decode cL_cut 8 = .ok (.goto 6, 3) := by decide +kernel
theorem dL_cut_11 : decode cL_cut 11 = .ok (.astore_n 2, 1) := by decide +kernel
theorem dL_cut_12 : decode cL_cut 12 = .ok (.iconst 1, 1) := by decide +kernel
theorem dL_cut_13 : decode cL_cut 13 = .ok (.ireturn, 1) := by decide +kernel
theorem dL_cut_14 : decode cL_cut 14 = .ok (.iconst 0, 1) := by decide +kernel
theorem dL_cut_15 : decode cL_cut 15 = .ok (.ireturn, 1) := by decide +kernel
theorem dL_ofLine_0 : decode cL_ofLine 0 = .ok (.aload_n 3, 1) := by decide +kernel
theorem dL_ofLine_1 : decode cL_ofLine 1 = .ok (.iconst 0, 1) := by decide +kernel
theorem dL_ofLine_2 : decode cL_ofLine 2 = .ok (.aload_n 0, 1) := by decide +kernel
theorem dL_ofLine_3 : decode cL_ofLine 3 = .ok (.iload_n 1, 1) := by decide +kernel
theorem dL_ofLine_4 : decode cL_ofLine 4 = .ok (.iload_n 2, 1) := by decide +kernel
theorem dL_ofLine_5 : decode cL_ofLine 5 = .ok (.invokevirtual 31, 3) := by decide +kernel
theorem dL_ofLine_8 : decode cL_ofLine 8 = .ok (.i2l, 1) := by decide +kernel
theorem dL_ofLine_9 : decode cL_ofLine 9 = .ok (.lastore, 1) := by decide +kernel
theorem dL_ofLine_10 : decode cL_ofLine 10 = .ok (.goto 11, 3) := by decide +kernel
theorem dL_ofLine_13 : decode cL_ofLine 13 = .ok (.astore 4, 2) := by decide +kernel
theorem dL_ofLine_15 : decode cL_ofLine 15 = .ok (.iconst 1, 1) := by decide +kernel
theorem dL_ofLine_16 : decode cL_ofLine 16 = .ok (.ireturn, 1) := by decide +kernel
theorem dL_ofLine_17 : decode cL_ofLine 17 = .ok (.astore 4, 2) := by decide +kernel
theorem dL_ofLine_19 : decode cL_ofLine 19 = .ok (.iconst 2, 1) := by decide +kernel
theorem dL_ofLine_20 : decode cL_ofLine 20 = .ok (.ireturn, 1) := by decide +kernel
theorem dL_ofLine_21 : decode cL_ofLine 21 = .ok (.iconst 0, 1) := by decide +kernel
theorem dL_ofLine_22 : decode cL_ofLine 22 = .ok (.ireturn, 1) := by decide +kernel
theorem dL_state_0 : decode cL_state 0 = .ok (.aload_n 3, 1) := by decide +kernel
theorem dL_state_1 : decode cL_state 1 = .ok (.iconst 0, 1) := by decide +kernel
theorem dL_state_2 : decode cL_state 2 = .ok (.aload_n 0, 1) := by decide +kernel
theorem dL_state_3 : decode cL_state 3 = .ok (.iload_n 1, 1) := by decide +kernel
theorem dL_state_4 : decode cL_state 4 = .ok (.iload_n 2, 1) := by decide +kernel
theorem dL_state_5 : decode cL_state 5 = .ok (.invokevirtual 35, 3) := by decide +kernel
theorem dL_state_8 : decode cL_state 8 = .ok (.i2l, 1) := by decide +kernel
theorem dL_state_9 : decode cL_state 9 = .ok (.lastore, 1) := by decide +kernel
theorem dL_state_10 : decode cL_state 10 = .ok (.goto 7, 3) := by decide +kernel
theorem dL_state_13 : decode cL_state 13 = .ok (.astore 4, 2) := by decide +kernel
theorem dL_state_15 : decode cL_state 15 = .ok (.iconst 1, 1) := by decide +kernel
theorem dL_state_16 : decode cL_state 16 = .ok (.ireturn, 1) := by decide +kernel
theorem dL_state_17 : decode cL_state 17 = .ok (.iconst 0, 1) := by decide +kernel
theorem dL_state_18 : decode cL_state 18 = .ok (.ireturn, 1) := by decide +kernel
theorem dL_holds_0 : decode cL_holds 0 = .ok (.aload_n 3, 1) := by decide +kernel
theorem dL_holds_1 : decode cL_holds 1 = .ok (.iconst 0, 1) := by decide +kernel
theorem dL_holds_2 : decode cL_holds 2 = .ok (.aload_n 0, 1) := by decide +kernel
theorem dL_holds_3 : decode cL_holds 3 = .ok (.iload_n 1, 1) := by decide +kernel
theorem dL_holds_4 : decode cL_holds 4 = .ok (.iload_n 2, 1) := by decide +kernel
theorem dL_holds_5 : decode cL_holds 5 = .ok (.invokevirtual 38, 3) := by decide +kernel
theorem dL_holds_8 : decode cL_holds 8 = .ok (.i2l, 1) := by decide +kernel
theorem dL_holds_9 : decode cL_holds 9 = .ok (.lastore, 1) := by decide +kernel
theorem dL_holds_10 : decode cL_holds 10 = .ok (.goto 7, 3) := by decide +kernel
theorem dL_holds_13 : decode cL_holds 13 = .ok (.astore 4, 2) := by decide +kernel
theorem dL_holds_15 : decode cL_holds 15 = .ok (.iconst 1, 1) := by decide +kernel
theorem dL_holds_16 : decode cL_holds 16 = .ok (.ireturn, 1) := by decide +kernel
theorem dL_holds_17 : decode cL_holds 17 = .ok (.iconst 0, 1) := by decide +kernel
theorem dL_holds_18 : decode cL_holds 18 = .ok (.ireturn, 1) := by decide +kernel
theorem dL_isWanted_0 : decode cL_isWanted 0 = .ok (.aload_n 3, 1) := by decide +kernel
theorem dL_isWanted_1 : decode cL_isWanted 1 = .ok (.iconst 0, 1) := by decide +kernel
theorem dL_isWanted_2 : decode cL_isWanted 2 = .ok (.aload_n 0, 1) := by decide +kernel
theorem dL_isWanted_3 : decode cL_isWanted 3 = .ok (.iload_n 1, 1) := by decide +kernel
theorem dL_isWanted_4 : decode cL_isWanted 4 = .ok (.iload_n 2, 1) := by decide +kernel
theorem dL_isWanted_5 : decode cL_isWanted 5 = .ok (.invokevirtual 41, 3) := by decide +kernel
theorem dL_isWanted_8 : decode cL_isWanted 8 = .ok (.ifCond .eq 7, 3) := by decide +kernel
theorem dL_isWanted_11 : decode cL_isWanted 11 = .ok (.lconst 1, 1) := by decide +kernel
theorem dL_isWanted_12 : decode cL_isWanted 12 = .ok (.goto 4, 3) := by decide +kernel
theorem dL_isWanted_15 : decode cL_isWanted 15 = .ok (.lconst 0, 1) := by decide +kernel
theorem dL_isWanted_16 : decode cL_isWanted 16 = .ok (.lastore, 1) := by decide +kernel
theorem dL_isWanted_17 : decode cL_isWanted 17 = .ok (.goto 7, 3) := by decide +kernel
theorem dL_isWanted_20 : decode cL_isWanted 20 = .ok (.astore 4, 2) := by decide +kernel
theorem dL_isWanted_22 : decode cL_isWanted 22 = .ok (.iconst 1, 1) := by decide +kernel
theorem dL_isWanted_23 : decode cL_isWanted 23 = .ok (.ireturn, 1) := by decide +kernel
theorem dL_isWanted_24 : decode cL_isWanted 24 = .ok (.iconst 0, 1) := by decide +kernel
theorem dL_isWanted_25 : decode cL_isWanted 25 = .ok (.ireturn, 1) := by decide +kernel
theorem dL_inTheWay_0 : decode cL_inTheWay 0 = .ok (.aload_n 3, 1) := by decide +kernel
theorem dL_inTheWay_1 : decode cL_inTheWay 1 = .ok (.iconst 0, 1) := by decide +kernel
theorem dL_inTheWay_2 : decode cL_inTheWay 2 = .ok (.aload_n 0, 1) := by decide +kernel
theorem dL_inTheWay_3 : decode cL_inTheWay 3 = .ok (.iload_n 1, 1) := by decide +kernel
theorem dL_inTheWay_4 : decode cL_inTheWay 4 = .ok (.iload_n 2, 1) := by decide +kernel
theorem dL_inTheWay_5 : decode cL_inTheWay 5 = .ok (.invokevirtual 45, 3) := by decide +kernel
theorem dL_inTheWay_8 : decode cL_inTheWay 8 = .ok (.i2l, 1) := by decide +kernel
theorem dL_inTheWay_9 : decode cL_inTheWay 9 = .ok (.lastore, 1) := by decide +kernel
theorem dL_inTheWay_10 : decode cL_inTheWay 10 = .ok (.goto 7, 3) := by decide +kernel
theorem dL_inTheWay_13 : decode cL_inTheWay 13 = .ok (.astore 4, 2) := by decide +kernel
theorem dL_inTheWay_15 : decode cL_inTheWay 15 = .ok (.iconst 1, 1) := by decide +kernel
theorem dL_inTheWay_16 : decode cL_inTheWay 16 = .ok (.ireturn, 1) := by decide +kernel
theorem dL_inTheWay_17 : decode cL_inTheWay 17 = .ok (.iconst 0, 1) := by decide +kernel
theorem dL_inTheWay_18 : decode cL_inTheWay 18 = .ok (.ireturn, 1) := by decide +kernel
theorem dL_ofLoan_0 : decode cL_ofLoan 0 = .ok (.aload_n 3, 1) := by decide +kernel
theorem dL_ofLoan_1 : decode cL_ofLoan 1 = .ok (.iconst 0, 1) := by decide +kernel
theorem dL_ofLoan_2 : decode cL_ofLoan 2 = .ok (.aload_n 0, 1) := by decide +kernel
theorem dL_ofLoan_3 : decode cL_ofLoan 3 = .ok (.iload_n 1, 1) := by decide +kernel
theorem dL_ofLoan_4 : decode cL_ofLoan 4 = .ok (.iload_n 2, 1) := by decide +kernel
theorem dL_ofLoan_5 : decode cL_ofLoan 5 = .ok (.invokevirtual 48, 3) := by decide +kernel
theorem dL_ofLoan_8 : decode cL_ofLoan 8 = .ok (.i2l, 1) := by decide +kernel
theorem dL_ofLoan_9 : decode cL_ofLoan 9 = .ok (.lastore, 1) := by decide +kernel
theorem dL_ofLoan_10 : decode cL_ofLoan 10 = .ok (.goto 11, 3) := by decide +kernel
theorem dL_ofLoan_13 : decode cL_ofLoan 13 = .ok (.astore 4, 2) := by decide +kernel
theorem dL_ofLoan_15 : decode cL_ofLoan 15 = .ok (.iconst 1, 1) := by decide +kernel
theorem dL_ofLoan_16 : decode cL_ofLoan 16 = .ok (.ireturn, 1) := by decide +kernel
theorem dL_ofLoan_17 : decode cL_ofLoan 17 = .ok (.astore 4, 2) := by decide +kernel
theorem dL_ofLoan_19 : decode cL_ofLoan 19 = .ok (.iconst 2, 1) := by decide +kernel
theorem dL_ofLoan_20 : decode cL_ofLoan 20 = .ok (.ireturn, 1) := by decide +kernel
theorem dL_ofLoan_21 : decode cL_ofLoan 21 = .ok (.iconst 0, 1) := by decide +kernel
theorem dL_ofLoan_22 : decode cL_ofLoan 22 = .ok (.ireturn, 1) := by decide +kernel
theorem dL_fault_0 : decode cL_fault 0 = .ok (.aload_n 3, 1) := by decide +kernel
theorem dL_fault_1 : decode cL_fault 1 = .ok (.iconst 0, 1) := by decide +kernel
theorem dL_fault_2 : decode cL_fault 2 = .ok (.aload_n 0, 1) := by decide +kernel
theorem dL_fault_3 : decode cL_fault 3 = .ok (.iload_n 1, 1) := by decide +kernel
theorem dL_fault_4 : decode cL_fault 4 = .ok (.iload_n 2, 1) := by decide +kernel
theorem dL_fault_5 : decode cL_fault 5 = .ok (.invokevirtual 51, 3) := by decide +kernel
theorem dL_fault_8 : decode cL_fault 8 = .ok (.i2l, 1) := by decide +kernel
theorem dL_fault_9 : decode cL_fault 9 = .ok (.lastore, 1) := by decide +kernel
theorem dL_fault_10 : decode cL_fault 10 = .ok (.goto 11, 3) := by decide +kernel
theorem dL_fault_13 : decode cL_fault 13 = .ok (.astore 4, 2) := by decide +kernel
theorem dL_fault_15 : decode cL_fault 15 = .ok (.iconst 1, 1) := by decide +kernel
theorem dL_fault_16 : decode cL_fault 16 = .ok (.ireturn, 1) := by decide +kernel
theorem dL_fault_17 : decode cL_fault 17 = .ok (.astore 4, 2) := by decide +kernel
theorem dL_fault_19 : decode cL_fault 19 = .ok (.iconst 2, 1) := by decide +kernel
theorem dL_fault_20 : decode cL_fault 20 = .ok (.ireturn, 1) := by decide +kernel
theorem dL_fault_21 : decode cL_fault 21 = .ok (.iconst 0, 1) := by decide +kernel
theorem dL_fault_22 : decode cL_fault 22 = .ok (.ireturn, 1) := by decide +kernel
theorem dL_ofVariable_0 : decode cL_ofVariable 0 = .ok (.aload_n 3, 1) := by decide +kernel
theorem dL_ofVariable_1 : decode cL_ofVariable 1 = .ok (.iconst 0, 1) := by decide +kernel
theorem dL_ofVariable_2 : decode cL_ofVariable 2 = .ok (.aload_n 0, 1) := by decide +kernel
theorem dL_ofVariable_3 : decode cL_ofVariable 3 = .ok (.iload_n 1, 1) := by decide +kernel
theorem dL_ofVariable_4 : decode cL_ofVariable 4 = .ok (.iload_n 2, 1) := by decide +kernel
theorem dL_ofVariable_5 : decode cL_ofVariable 5 = .ok (.invokevirtual 54, 3) := by decide +kernel
theorem dL_ofVariable_8 : decode cL_ofVariable 8 = .ok (.i2l, 1) := by decide +kernel
theorem dL_ofVariable_9 : decode cL_ofVariable 9 = .ok (.lastore, 1) := by decide +kernel
theorem dL_ofVariable_10 : decode cL_ofVariable 10 = .ok (.goto 11, 3) := by decide +kernel
theorem dL_ofVariable_13 : decode cL_ofVariable 13 = .ok (.astore 4, 2) := by decide +kernel
theorem dL_ofVariable_15 : decode cL_ofVariable 15 = .ok (.iconst 1, 1) := by decide +kernel
theorem dL_ofVariable_16 : decode cL_ofVariable 16 = .ok (.ireturn, 1) := by decide +kernel
theorem dL_ofVariable_17 : decode cL_ofVariable 17 = .ok (.astore 4, 2) := by decide +kernel
theorem dL_ofVariable_19 : decode cL_ofVariable 19 = .ok (.iconst 2, 1) := by decide +kernel
theorem dL_ofVariable_20 : decode cL_ofVariable 20 = .ok (.ireturn, 1) := by decide +kernel
theorem dL_ofVariable_21 : decode cL_ofVariable 21 = .ok (.iconst 0, 1) := by decide +kernel
theorem dL_ofVariable_22 : decode cL_ofVariable 22 = .ok (.ireturn, 1) := by decide +kernel
theorem dL_run_0 : decode cL_run 0 = .ok (.aload_n 1, 1) := by decide +kernel
theorem dL_run_1 : decode cL_run 1 = .ok (.iconst 0, 1) := by decide +kernel
theorem dL_run_2 : decode cL_run 2 = .ok (.aload_n 0, 1) := by decide +kernel
theorem dL_run_3 : decode cL_run 3 = .ok (.invokevirtual 57, 3) := by decide +kernel
theorem dL_run_6 : decode cL_run 6 = .ok (.i2l, 1) := by decide +kernel
theorem dL_run_7 : decode cL_run 7 = .ok (.lastore, 1) := by decide +kernel
theorem dL_run_8 : decode cL_run 8 = .ok (.goto 6, 3) := by decide +kernel
theorem dL_run_11 : decode cL_run 11 = .ok (.astore_n 2, 1) := by decide +kernel
theorem dL_run_12 : decode cL_run 12 = .ok (.iconst 1, 1) := by decide +kernel
theorem dL_run_13 : decode cL_run 13 = .ok (.ireturn, 1) := by decide +kernel
theorem dL_run_14 : decode cL_run 14 = .ok (.iconst 0, 1) := by decide +kernel
theorem dL_run_15 : decode cL_run 15 = .ok (.ireturn, 1) := by decide +kernel
theorem dL_ofRun_0 : decode cL_ofRun 0 = .ok (.aload_n 2, 1) := by decide +kernel
theorem dL_ofRun_1 : decode cL_ofRun 1 = .ok (.iconst 0, 1) := by decide +kernel
theorem dL_ofRun_2 : decode cL_ofRun 2 = .ok (.aload_n 0, 1) := by decide +kernel
theorem dL_ofRun_3 : decode cL_ofRun 3 = .ok (.iload_n 1, 1) := by decide +kernel
theorem dL_ofRun_4 : decode cL_ofRun 4 = .ok (.invokevirtual 60, 3) := by decide +kernel
theorem dL_ofRun_7 : decode cL_ofRun 7 = .ok (.i2l, 1) := by decide +kernel
theorem dL_ofRun_8 : decode cL_ofRun 8 = .ok (.lastore, 1) := by decide +kernel
theorem dL_ofRun_9 : decode cL_ofRun 9 = .ok (.goto 6, 3) := by decide +kernel
theorem dL_ofRun_12 : decode cL_ofRun 12 = .ok (.astore_n 3, 1) := by decide +kernel
theorem dL_ofRun_13 : decode cL_ofRun 13 = .ok (.iconst 1, 1) := by decide +kernel
theorem dL_ofRun_14 : decode cL_ofRun 14 = .ok (.ireturn, 1) := by decide +kernel
theorem dL_ofRun_15 : decode cL_ofRun 15 = .ok (.iconst 0, 1) := by decide +kernel
theorem dL_ofRun_16 : decode cL_ofRun 16 = .ok (.ireturn, 1) := by decide +kernel
theorem dL_told_0 : decode cL_told 0 = .ok (.aload_n 3, 1) := by decide +kernel
theorem dL_told_1 : decode cL_told 1 = .ok (.iconst 0, 1) := by decide +kernel
theorem dL_told_2 : decode cL_told 2 = .ok (.aload_n 0, 1) := by decide +kernel
theorem dL_told_3 : decode cL_told 3 = .ok (.iload_n 1, 1) := by decide +kernel
theorem dL_told_4 : decode cL_told 4 = .ok (.iload_n 2, 1) := by decide +kernel
theorem dL_told_5 : decode cL_told 5 = .ok (.invokevirtual 63, 3) := by decide +kernel
theorem dL_told_8 : decode cL_told 8 = .ok (.i2l, 1) := by decide +kernel
theorem dL_told_9 : decode cL_told 9 = .ok (.lastore, 1) := by decide +kernel
theorem dL_told_10 : decode cL_told 10 = .ok (.goto 11, 3) := by decide +kernel
theorem dL_told_13 : decode cL_told 13 = .ok (.astore 4, 2) := by decide +kernel
theorem dL_told_15 : decode cL_told 15 = .ok (.iconst 1, 1) := by decide +kernel
theorem dL_told_16 : decode cL_told 16 = .ok (.ireturn, 1) := by decide +kernel
theorem dL_told_17 : decode cL_told 17 = .ok (.astore 4, 2) := by decide +kernel
theorem dL_told_19 : decode cL_told 19 = .ok (.iconst 2, 1) := by decide +kernel
theorem dL_told_20 : decode cL_told 20 = .ok (.ireturn, 1) := by decide +kernel
theorem dL_told_21 : decode cL_told 21 = .ok (.iconst 0, 1) := by decide +kernel
theorem dL_told_22 : decode cL_told 22 = .ok (.ireturn, 1) := by decide +kernel
theorem dL_many_0 : decode cL_many 0 = .ok (.aload_n 2, 1) := by decide +kernel
theorem dL_many_1 : decode cL_many 1 = .ok (.iconst 0, 1) := by decide +kernel
theorem dL_many_2 : decode cL_many 2 = .ok (.aload_n 0, 1) := by decide +kernel
theorem dL_many_3 : decode cL_many 3 = .ok (.iload_n 1, 1) := by decide +kernel
theorem dL_many_4 : decode cL_many 4 = .ok (.invokevirtual 66, 3) := by decide +kernel
theorem dL_many_7 : decode cL_many 7 = .ok (.i2l, 1) := by decide +kernel
theorem dL_many_8 : decode cL_many 8 = .ok (.lastore, 1) := by decide +kernel
theorem dL_many_9 : decode cL_many 9 = .ok (.goto 6, 3) := by decide +kernel
theorem dL_many_12 : decode cL_many 12 = .ok (.astore_n 3, 1) := by decide +kernel
theorem dL_many_13 : decode cL_many 13 = .ok (.iconst 1, 1) := by decide +kernel
theorem dL_many_14 : decode cL_many 14 = .ok (.ireturn, 1) := by decide +kernel
theorem dL_many_15 : decode cL_many 15 = .ok (.iconst 0, 1) := by decide +kernel
theorem dL_many_16 : decode cL_many 16 = .ok (.ireturn, 1) := by decide +kernel
theorem dL_faultsWithout_0 : decode cL_faultsWithout 0 = .ok (.aload_n 2, 1) := by decide +kernel
theorem dL_faultsWithout_1 : decode cL_faultsWithout 1 = .ok (.iconst 0, 1) := by decide +kernel
theorem dL_faultsWithout_2 : decode cL_faultsWithout 2 = .ok (.aload_n 0, 1) := by decide +kernel
theorem dL_faultsWithout_3 : decode cL_faultsWithout 3 = .ok (.iload_n 1, 1) := by decide +kernel
theorem dL_faultsWithout_4 : decode cL_faultsWithout 4 = .ok (.invokevirtual 69, 3) := by decide +kernel
theorem dL_faultsWithout_7 : decode cL_faultsWithout 7 = .ok (.i2l, 1) := by decide +kernel
theorem dL_faultsWithout_8 : decode cL_faultsWithout 8 = .ok (.lastore, 1) := by decide +kernel
theorem dL_faultsWithout_9 : decode cL_faultsWithout 9 = .ok (.goto 6, 3) := by decide +kernel
theorem dL_faultsWithout_12 : decode cL_faultsWithout 12 = .ok (.astore_n 3, 1) := by decide +kernel
theorem dL_faultsWithout_13 : decode cL_faultsWithout 13 = .ok (.iconst 1, 1) := by decide +kernel
theorem dL_faultsWithout_14 : decode cL_faultsWithout 14 = .ok (.ireturn, 1) := by decide +kernel
theorem dL_faultsWithout_15 : decode cL_faultsWithout 15 = .ok (.iconst 0, 1) := by decide +kernel
theorem dL_faultsWithout_16 : decode cL_faultsWithout 16 = .ok (.ireturn, 1) := by decide +kernel
theorem dL_couldDrop_0 : decode cL_couldDrop 0 = .ok (.aload_n 3, 1) := by decide +kernel
theorem dL_couldDrop_1 : decode cL_couldDrop 1 = .ok (.iconst 0, 1) := by decide +kernel
theorem dL_couldDrop_2 : decode cL_couldDrop 2 = .ok (.aload_n 0, 1) := by decide +kernel
theorem dL_couldDrop_3 : decode cL_couldDrop 3 = .ok (.iload_n 1, 1) := by decide +kernel
theorem dL_couldDrop_4 : decode cL_couldDrop 4 = .ok (.iload_n 2, 1) := by decide +kernel
theorem dL_couldDrop_5 : decode cL_couldDrop 5 = .ok (.invokevirtual 72, 3) := by decide +kernel
theorem dL_couldDrop_8 : decode cL_couldDrop 8 = .ok (.i2l, 1) := by decide +kernel
theorem dL_couldDrop_9 : decode cL_couldDrop 9 = .ok (.lastore, 1) := by decide +kernel
theorem dL_couldDrop_10 : decode cL_couldDrop 10 = .ok (.goto 7, 3) := by decide +kernel
theorem dL_couldDrop_13 : decode cL_couldDrop 13 = .ok (.astore 4, 2) := by decide +kernel
theorem dL_couldDrop_15 : decode cL_couldDrop 15 = .ok (.iconst 1, 1) := by decide +kernel
theorem dL_couldDrop_16 : decode cL_couldDrop 16 = .ok (.ireturn, 1) := by decide +kernel
theorem dL_couldDrop_17 : decode cL_couldDrop 17 = .ok (.iconst 0, 1) := by decide +kernel
theorem dL_couldDrop_18 : decode cL_couldDrop 18 = .ok (.ireturn, 1) := by decide +kernel
theorem dL_leakedBy_0 : decode cL_leakedBy 0 = .ok (.aload_n 2, 1) := by decide +kernel
theorem dL_leakedBy_1 : decode cL_leakedBy 1 = .ok (.iconst 0, 1) := by decide +kernel
theorem dL_leakedBy_2 : decode cL_leakedBy 2 = .ok (.aload_n 0, 1) := by decide +kernel
theorem dL_leakedBy_3 : decode cL_leakedBy 3 = .ok (.iload_n 1, 1) := by decide +kernel
theorem dL_leakedBy_4 : decode cL_leakedBy 4 = .ok (.invokevirtual 75, 3) := by decide +kernel
theorem dL_leakedBy_7 : decode cL_leakedBy 7 = .ok (.i2l, 1) := by decide +kernel
theorem dL_leakedBy_8 : decode cL_leakedBy 8 = .ok (.lastore, 1) := by decide +kernel
theorem dL_leakedBy_9 : decode cL_leakedBy 9 = .ok (.goto 6, 3) := by decide +kernel
theorem dL_leakedBy_12 : decode cL_leakedBy 12 = .ok (.astore_n 3, 1) := by decide +kernel
theorem dL_leakedBy_13 : decode cL_leakedBy 13 = .ok (.iconst 1, 1) := by decide +kernel
theorem dL_leakedBy_14 : decode cL_leakedBy 14 = .ok (.ireturn, 1) := by decide +kernel
theorem dL_leakedBy_15 : decode cL_leakedBy 15 = .ok (.iconst 0, 1) := by decide +kernel
theorem dL_leakedBy_16 : decode cL_leakedBy 16 = .ok (.ireturn, 1) := by decide +kernel
theorem dL_outcomeWith_0 : decode cL_outcomeWith 0 = .ok (.aload_n 3, 1) := by decide +kernel
theorem dL_outcomeWith_1 : decode cL_outcomeWith 1 = .ok (.iconst 0, 1) := by decide +kernel
theorem dL_outcomeWith_2 : decode cL_outcomeWith 2 = .ok (.aload_n 0, 1) := by decide +kernel
theorem dL_outcomeWith_3 : decode cL_outcomeWith 3 = .ok (.iload_n 1, 1) := by decide +kernel
theorem dL_outcomeWith_4 : decode cL_outcomeWith 4 = .ok (.iload_n 2, 1) := by decide +kernel
theorem dL_outcomeWith_5 : decode cL_outcomeWith 5 = .ok (.invokevirtual 78, 3) := by decide +kernel
theorem dL_outcomeWith_8 : decode cL_outcomeWith 8 = .ok (.i2l, 1) := by decide +kernel
theorem dL_outcomeWith_9 : decode cL_outcomeWith 9 = .ok (.lastore, 1) := by decide +kernel
theorem dL_outcomeWith_10 : decode cL_outcomeWith 10 = .ok (.goto 11, 3) := by decide +kernel
theorem dL_outcomeWith_13 : decode cL_outcomeWith 13 = .ok (.astore 4, 2) := by decide +kernel
theorem dL_outcomeWith_15 : decode cL_outcomeWith 15 = .ok (.iconst 1, 1) := by decide +kernel
theorem dL_outcomeWith_16 : decode cL_outcomeWith 16 = .ok (.ireturn, 1) := by decide +kernel
theorem dL_outcomeWith_17 : decode cL_outcomeWith 17 = .ok (.astore 4, 2) := by decide +kernel
theorem dL_outcomeWith_19 : decode cL_outcomeWith 19 = .ok (.iconst 2, 1) := by decide +kernel
theorem dL_outcomeWith_20 : decode cL_outcomeWith 20 = .ok (.ireturn, 1) := by decide +kernel
theorem dL_outcomeWith_21 : decode cL_outcomeWith 21 = .ok (.iconst 0, 1) := by decide +kernel
theorem dL_outcomeWith_22 : decode cL_outcomeWith 22 = .ok (.ireturn, 1) := by decide +kernel
