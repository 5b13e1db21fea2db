theorem dX16_ofLoan_0 : decode cX16_ofLoan 0 = .ok (.aload_n 0, 1) := by decide +kernel
theorem dX16_ofLoan_1 : decode cX16_ofLoan 1 = .ok (.iload_n 1, 1) := by decide +kernel
theorem dX16_ofLoan_2 : decode cX16_ofLoan 2 = .ok (.iconst 0, 1) := by decide +kernel
theorem dX16_ofLoan_3 : decode cX16_ofLoan 3 = .ok (.aload_n 0, 1) := by decide +kernel
theorem dX16_ofLoan_4 : decode cX16_ofLoan 4 = .ok (.getfield 10, 3) := by decide +kernel
theorem dX16_ofLoan_7 : decode cX16_ofLoan 7 = .ok (.invokevirtual 71, 3) := by decide +kernel
theorem dX16_ofLoan_10 : decode cX16_ofLoan 10 = .ok (.iconst 1, 1) := by decide +kernel
theorem dX16_ofLoan_11 : decode cX16_ofLoan 11 = .ok (.isub, 1) := by decide +kernel
theorem dX16_ofLoan_12 : decode cX16_ofLoan 12 = .ok (.invokestatic 29, 3) := by decide +kernel
theorem dX16_ofLoan_15 : decode cX16_ofLoan 15 = .ok (.ifCond .ne 7, 3) := by decide +kernel
theorem dX16_ofLoan_18 : decode cX16_ofLoan 18 = .ok (.iconst 1, 1) := by decide +kernel
theorem dX16_ofLoan_19 : decode cX16_ofLoan 19 = .ok (.goto 4, 3) := by decide +kernel
theorem dX16_ofLoan_22 : decode cX16_ofLoan 22 = .ok (.iconst 0, 1) := by decide +kernel
theorem dX16_ofLoan_23 : decode cX16_ofLoan 23 = .ok (.iconst 1, 1) := by decide +kernel
theorem dX16_ofLoan_24 : decode cX16_ofLoan 24 = .ok (.invokevirtual 33, 3) := by decide +kernel
theorem dX16_ofLoan_27 : decode cX16_ofLoan 27 = .ok (.ifCond .ne 25, 3) := by decide +kernel
theorem dX16_ofLoan_30 : decode cX16_ofLoan 30 = .ok (.aload_n 0, 1) := by decide +kernel
theorem dX16_ofLoan_31 : decode cX16_ofLoan 31 = .ok (.iload_n 2, 1) := by decide +kernel
theorem dX16_ofLoan_32 : decode cX16_ofLoan 32 = .ok (.iconst 0, 1) := by decide +kernel
theorem dX16_ofLoan_33 : decode cX16_ofLoan 33 = .ok (.iconst 3, 1) := by decide +kernel
theorem dX16_ofLoan_34 : decode cX16_ofLoan 34 = .ok (.invokestatic 29, 3) := by decide +kernel
theorem dX16_ofLoan_37 : decode cX16_ofLoan 37 = .ok (.ifCond .ne 7, 3) := by decide +kernel
theorem dX16_ofLoan_40 : decode cX16_ofLoan 40 = .ok (.iconst 1, 1) := by decide +kernel
theorem dX16_ofLoan_41 : decode cX16_ofLoan 41 = .ok (.goto 4, 3) := by decide +kernel
theorem dX16_ofLoan_44 : decode cX16_ofLoan 44 = .ok (.iconst 0, 1) := by decide +kernel
theorem dX16_ofLoan_45 : decode cX16_ofLoan 45 = .ok (.iconst 2, 1) := by decide +kernel
theorem dX16_ofLoan_46 : decode cX16_ofLoan 46 = .ok (.invokevirtual 20, 3) := by decide +kernel
theorem dX16_ofLoan_49 : decode cX16_ofLoan 49 = .ok (.ifCond .eq 7, 3) := by decide +kernel
theorem dX16_ofLoan_52 : decode cX16_ofLoan 52 = .ok (.iconst 0, 1) := by decide +kernel
theorem dX16_ofLoan_53 : decode cX16_ofLoan 53 = .ok (.goto 13, 3) := by decide +kernel
theorem dX16_ofLoan_56 : decode cX16_ofLoan 56 = .ok (.aload_n 0, 1) := by decide +kernel
theorem dX16_ofLoan_57 : decode cX16_ofLoan 57 = .ok (.aload_n 0, 1) := by decide +kernel
theorem dX16_ofLoan_58 : decode cX16_ofLoan 58 = .ok (.invokevirtual 112, 3) := by decide +kernel
theorem dX16_ofLoan_61 : decode cX16_ofLoan 61 = .ok (.iload_n 1, 1) := by decide +kernel
theorem dX16_ofLoan_62 : decode cX16_ofLoan 62 = .ok (.iload_n 2, 1) := by decide +kernel
theorem dX16_ofLoan_63 : decode cX16_ofLoan 63 = .ok (.invokevirtual 153, 3) := by decide +kernel
theorem dX16_ofLoan_66 : decode cX16_ofLoan 66 = .ok (.ireturn, 1) := by decide +kernel
set_option maxRecDepth 20000 in
theorem ggX16_told_X11_lastUse : GoodIn wsX16_told wsX11_lastUse := goodIn_r _ [5, 6, 7, 8, 9, 10, 11, 12, 13, 14, 15, 16, 17, 18, 19, 20, 21, 22, 23, 24, 25, 26, 27, 28, 29, 30, 31, 32, 33, 34, 35, 36, 37, 38, 39, 40, 41, 42, 43, 44, 45, 46, 47, 48, 49, 50, 51, 52, 53, 54, 55, 56, 57, 58, 59, 60, 61, 62, 63, 64, 65, 66, 67, 68, 69, 70, 71, 72, 73, 74, 75, 76, 77, 78, 79, 80, 81, 82, 83, 84, 85, 86, 87, 88] (by decide +kernel) (by decide +kernel)
set_option maxRecDepth 20000 in
theorem gX16_told_X11_lastUse : GoodIn wsX16_told (wsV RX16 150 RX11 yX11_lastUse wsX11_lastUse) := goodIn_app (goodIn_of _ (by decide +kernel)) ggX16_told_X11_lastUse
theorem dX16_told_0 : decode cX16_told 0 = .ok (.iload_n 2, 1) := by decide +kernel
theorem dX16_told_1 : decode cX16_told 1 = .ok (.iconst 4, 1) := by decide +kernel
theorem dX16_told_2 : decode cX16_told 2 = .ok (.if_icmp .ge 9, 3) := by decide +kernel
theorem dX16_told_5 : decode cX16_told 5 = .ok (.aload_n 1, 1) := by decide +kernel
theorem dX16_told_6 : decode cX16_told 6 = .ok (.iload_n 2, 1) := by decide +kernel
theorem dX16_told_7 : decode cX16_told 7 = .ok (.iaload, 1) := by decide +kernel
theorem dX16_told_8 : decode cX16_told 8 = .ok (.goto 21, 3) := by decide +kernel
theorem dX16_told_11 : decode cX16_told 11 = .ok (.aload_n 1, 1) := by decide +kernel
theorem dX16_told_12 : decode cX16_told 12 = .ok (.iconst 3, 1) := by decide +kernel
theorem dX16_told_13 : decode cX16_told 13 = .ok (.iaload, 1) := by decide +kernel
theorem dX16_told_14 : decode cX16_told 14 = .ok (.iconst (-1), 1) := by decide +kernel
theorem dX16_told_15 : decode cX16_told 15 = .ok (.if_icmp .ne 7, 3) := by decide +kernel
theorem dX16_told_18 : decode cX16_told 18 = .ok (.iconst (-1), 1) := by decide +kernel
theorem dX16_told_19 : decode cX16_told 19 = .ok (.goto 10, 3) := by decide +kernel
theorem dX16_told_22 : decode cX16_told 22 = .ok (.aload_n 0, 1) := by decide +kernel
theorem dX16_told_23 : decode cX16_told 23 = .ok (.aload_n 1, 1) := by decide +kernel
theorem dX16_told_24 : decode cX16_told 24 = .ok (.iconst 3, 1) := by decide +kernel
theorem dX16_told_25 : decode cX16_told 25 = .ok (.iaload, 1) := by decide +kernel
theorem dX16_told_26 : decode cX16_told 26 = .ok (.invokevirtual 150, 3) := by decide +kernel
theorem dX16_told_29 : decode cX16_told 29 = .ok (.ireturn, 1) := by decide +kernel
set_option maxRecDepth 20000 in
theorem ggX16_fault_X16_check : GoodIn wsX16_fault wsX16_check := goodIn_r _ [6, 7, 8, 9, 10, 11, 12, 13, 14, 15, 16, 17, 18, 19, 20, 21, 22, 23, 24, 25, 26, 27, 28, 29, 30, 31, 32, 33, 34, 35, 36, 37, 38, 39, 40, 41, 42, 43, 44, 45, 46, 47, 48, 49, 50, 51, 52, 53, 54, 55, 56, 57, 58, 59, 60, 61, 62, 63, 64, 65, 66, 67, 68, 69, 70, 71, 72, 73, 74, 75, 76, 77, 78, 79, 80, 81, 82, 83, 84, 85, 86, 87, 88, 89, 90, 91, 92, 93, 94, 95, 96, 97, 98, 99, 100, 101, 102, 103, 104, 105, 106, 107, 108, 109, 110, 111, 112, 113, 114, 115, 116, 117, 118, 119, 120, 121, 122, 123, 124, 125, 126, 127, 128, 129, 130, 131, 132, 133, 134, 135, 136, 137, 138, 139, 140, 141, 142, 143, 144, 145, 146, 147, 148, 149, 150, 151, 152, 153, 154, 155, 156, 157, 158, 159, 160, 161, 162, 163, 164, 165, 166, 167, 168, 169, 170, 171, 172, 173, 174, 175, 176, 177, 178, 179, 180, 181, 182, 183, 184, 185, 186, 187, 188, 189, 190, 191, 192, 193, 194, 195, 196, 197, 198, 199, 200, 5, 201, 202, 203, 204, 205, 206, 207, 208, 209, 210, 211, 212, 213, 214, 215, 216, 217, 218, 219, 220, 221, 222, 223, 224, 225, 226, 227, 228, 229, 230, 231, 232, 233, 234, 235, 236, 237, 238, 239, 240, 241, 242, 243, 244, 245, 246, 247, 248, 249, 250, 251, 252, 253, 254, 255, 256, 341, 342, 343, 344, 345, 346, 347, 348, 349, 350, 351, 352, 353, 354, 355, 356, 357, 358, 359, 360, 361, 362] (by decide +kernel) (by decide +kernel)
set_option maxRecDepth 20000 in
theorem gX16_fault_X16_check : GoodIn wsX16_fault (wsV RX16 112 RX16 yX16_check wsX16_check) := goodIn_app (goodIn_of _ (by decide +kernel)) ggX16_fault_X16_check
set_option maxRecDepth 20000 in
theorem ggX16_fault_X11_faults : GoodIn wsX16_fault wsX11_faults := goodIn_r _ [260, 43, 44, 36, 30, 17, 20, 25, 48, 49, 50, 51, 52, 53, 54, 55, 56, 57, 58, 59, 60, 61, 62, 15, 16, 261, 262, 263, 9, 264, 104, 105, 106, 107, 108, 109, 38, 110, 111, 112, 113, 114, 115, 116, 117, 118, 119, 120, 121, 122, 123, 124, 125, 126, 127, 128, 129, 130, 131, 132, 133, 134, 135, 136, 137, 138, 139, 140, 141, 142, 143, 144, 145, 146, 147, 148, 149, 150, 151, 152, 153, 154, 155, 265, 266, 267, 268, 18, 19, 45, 28, 27, 63, 64, 65, 66, 67, 68, 69, 70, 71, 72, 73, 74, 75, 76, 77, 78, 269, 242, 243, 191, 244, 245, 246, 247, 188, 189, 190, 192, 193, 194, 195, 196, 197, 198, 199, 34, 35, 37, 200, 5, 201, 202, 203, 84, 85, 86, 87, 88, 270, 271, 272, 273, 274, 275, 234, 235, 236, 276, 277, 278, 279, 182, 46, 23, 31, 280, 281, 282, 283, 218, 219, 284, 285, 286, 287, 288, 289, 290, 291, 292, 293, 294, 295, 296, 297, 298, 299, 300, 301, 302, 303, 304, 305, 306, 307, 308, 309, 310, 311, 312, 220, 211, 212, 207, 213, 209, 313, 314, 315, 316, 317, 318, 319, 33, 320, 321, 253, 254, 255, 256, 22, 32, 248, 249, 250, 251, 252, 205, 206, 208, 356, 357, 358, 341, 342, 343, 344, 345, 346, 347, 348, 349, 354, 355, 359, 360, 361, 362, 363, 364, 365, 366] (by decide +kernel) (by decide +kernel)
set_option maxRecDepth 20000 in
theorem gX16_fault_X11_faults : GoodIn wsX16_fault (wsV RX16 156 RX11 yX11_faults wsX11_faults) := goodIn_app (goodIn_of _ (by decide +kernel)) ggX16_fault_X11_faults
set_option maxRecDepth 20000 in
theorem ggX16_fault_Jx4a65c_size_8abf5 : GoodIn wsX16_fault wsJx4a65c_size_8abf5 := goodIn_r _ [37, 38, 356, 357, 358] (by decide +kernel) (by decide +kernel)
set_option maxRecDepth 20000 in
theorem gX16_fault_Jx4a65c_size_8abf5 : GoodIn wsX16_fault (wsV RX16 40 RJx4a65c yJx4a65c_size_8abf5 wsJx4a65c_size_8abf5) := goodIn_app (goodIn_of _ (by decide +kernel)) ggX16_fault_Jx4a65c_size_8abf5
set_option maxRecDepth 20000 in
theorem ggX16_fault_X16_isIn : GoodIn wsX16_fault wsX16_isIn := goodIn_r _ [201] (by decide +kernel) (by decide +kernel)
set_option maxRecDepth 20000 in
theorem gX16_fault_X16_isIn : GoodIn wsX16_fault (va_wsS RX16 29 yX16_isIn wsX16_isIn) := goodIn_app (goodIn_of _ (by decide +kernel)) ggX16_fault_X16_isIn
set_option maxRecDepth 20000 in
theorem ggX16_fault_X16_start : GoodIn wsX16_fault wsX16_start := goodIn_r _ [327, 328, 329, 330, 331, 5, 332, 350, 351, 352, 353] (by decide +kernel) (by decide +kernel)
set_option maxRecDepth 20000 in
theorem gX16_fault_X16_start : GoodIn wsX16_fault (wsV RX16 33 RX16 yX16_start wsX16_start) := goodIn_app (goodIn_of _ (by decide +kernel)) ggX16_fault_X16_start
set_option maxRecDepth 20000 in
theorem ggX16_fault_X16_refuse : GoodIn wsX16_fault wsX16_refuse := goodIn_r _ [332, 328, 350, 351, 352, 353] (by decide +kernel) (by decide +kernel)
set_option maxRecDepth 20000 in
theorem gX16_fault_X16_refuse : GoodIn wsX16_fault (wsV RX16 20 RX16 yX16_refuse wsX16_refuse) := goodIn_app (goodIn_of _ (by decide +kernel)) ggX16_fault_X16_refuse
set_option maxRecDepth 20000 in
theorem ggX16_fault_Jx4a65c_get_915e3 : GoodIn wsX16_fault wsJx4a65c_get_915e3 := goodIn_r _ [66, 38, 67, 68, 69, 70, 71, 72, 73, 74, 75, 76, 77, 36, 78, 52, 356, 357, 358] (by decide +kernel) (by decide +kernel)
set_option maxRecDepth 20000 in
theorem gX16_fault_Jx4a65c_get_915e3 : GoodIn wsX16_fault (wsV RX16 78 RJx4a65c yJx4a65c_get_915e3 wsJx4a65c_get_915e3) := goodIn_app (goodIn_of _ (by decide +kernel)) ggX16_fault_Jx4a65c_get_915e3
set_option maxRecDepth 20000 in
theorem ggX16_fault_X16_told : GoodIn wsX16_fault wsX16_told := goodIn_r _ [336, 337, 338, 339, 9, 340, 20, 18, 23, 19, 45, 31, 33, 34, 35, 36, 37, 38, 233, 234, 235, 191, 236, 193, 194, 195, 196, 197, 198, 199, 200, 5, 201, 202, 64, 65, 66, 67, 68, 69, 70, 71, 72, 73, 74, 75, 76, 77, 78, 52, 203, 84, 85, 86, 87, 88, 63, 237, 238, 239, 240, 241, 242, 243, 244, 245, 30, 246, 247, 320, 321, 341, 342, 343, 344, 345, 346, 347, 348, 349, 354, 355, 356, 357, 358, 362, 359, 360, 361] (by decide +kernel) (by decide +kernel)
set_option maxRecDepth 20000 in
theorem gX16_fault_X16_told : GoodIn wsX16_fault (va_wsS RX16 162 yX16_told wsX16_told) := goodIn_app (goodIn_of _ (by decide +kernel)) ggX16_fault_X16_told
theorem dX16_fault_0 : decode cX16_fault 0 = .ok (.aload_n 0, 1) := by decide +kernel
theorem dX16_fault_1 : decode cX16_fault 1 = .ok (.invokevirtual 112, 3) := by decide +kernel
theorem dX16_fault_4 : decode cX16_fault 4 = .ok (.astore_n 3, 1) := by decide +kernel
theorem dX16_fault_5 : decode cX16_fault 5 = .ok (.aload_n 3, 1) := by decide +kernel
theorem dX16_fault_6 : decode cX16_fault 6 = .ok (.invokevirtual 156, 3) := by decide +kernel
theorem dX16_fault_9 : decode cX16_fault 9 = .ok (.astore 4, 2) := by decide +kernel
theorem dX16_fault_11 : decode cX16_fault 11 = .ok (.aload_n 0, 1) := by decide +kernel
theorem dX16_fault_12 : decode cX16_fault 12 = .ok (.iload_n 1, 1) := by decide +kernel
theorem dX16_fault_13 : decode cX16_fault 13 = .ok (.iconst 0, 1) := by decide +kernel
theorem dX16_fault_14 : decode cX16_fault 14 = .ok (.aload 4, 2) := by decide +kernel
theorem dX16_fault_16 : decode cX16_fault 16 = .ok (.invokevirtual 40, 3) := by decide +kernel
theorem dX16_fault_19 : decode cX16_fault 19 = .ok (.iconst 1, 1) := by decide +kernel
theorem dX16_fault_20 : decode cX16_fault 20 = .ok (.isub, 1) := by decide +kernel
theorem dX16_fault_21 : decode cX16_fault 21 = .ok (.invokestatic 29, 3) := by decide +kernel
theorem dX16_fault_24 : decode cX16_fault 24 = .ok (.ifCond .ne 7, 3) := by decide +kernel
theorem dX16_fault_27 : decode cX16_fault 27 = .ok (.iconst 1, 1) := by decide +kernel
theorem dX16_fault_28 : decode cX16_fault 28 = .ok (.goto 4, 3) := by decide +kernel
theorem dX16_fault_31 : decode cX16_fault 31 = .ok (.iconst 0, 1) := by decide +kernel
theorem dX16_fault_32 : decode cX16_fault 32 = .ok (.iconst 1, 1) := by decide +kernel
theorem dX16_fault_33 : decode cX16_fault 33 = .ok (.invokevirtual 33, 3) := by decide +kernel
theorem dX16_fault_36 : decode cX16_fault 36 = .ok (.ifCond .ne 25, 3) := by decide +kernel
theorem dX16_fault_39 : decode cX16_fault 39 = .ok (.aload_n 0, 1) := by decide +kernel
theorem dX16_fault_40 : decode cX16_fault 40 = .ok (.iload_n 2, 1) := by decide +kernel
theorem dX16_fault_41 : decode cX16_fault 41 = .ok (.iconst 0, 1) := by decide +kernel
theorem dX16_fault_42 : decode cX16_fault 42 = .ok (.iconst 4, 1) := by decide +kernel
theorem dX16_fault_43 : decode cX16_fault 43 = .ok (.invokestatic 29, 3) := by decide +kernel
theorem dX16_fault_46 : decode cX16_fault 46 = .ok (.ifCond .ne 7, 3) := by decide +kernel
theorem dX16_fault_49 : decode cX16_fault 49 = .ok (.iconst 1, 1) := by decide +kernel
theorem dX16_fault_50 : decode cX16_fault 50 = .ok (.goto 4, 3) := by decide +kernel
theorem dX16_fault_53 : decode cX16_fault 53 = .ok (.iconst 0, 1) := by decide +kernel
theorem dX16_fault_54 : decode cX16_fault 54 = .ok (.iconst 2, 1) := by decide +kernel
theorem dX16_fault_55 : decode cX16_fault 55 = .ok (.invokevirtual 20, 3) := by decide +kernel
theorem dX16_fault_58 : decode cX16_fault 58 = .ok (.ifCond .eq 7, 3) := by decide +kernel
theorem dX16_fault_61 : decode cX16_fault 61 = .ok (.iconst 0, 1) := by decide +kernel
theorem dX16_fault_62 : decode cX16_fault 62 = .ok (.goto 17, 3) := by decide +kernel
theorem dX16_fault_65 : decode cX16_fault 65 = .ok (.aload_n 3, 1) := by decide +kernel
theorem dX16_fault_66 : decode cX16_fault 66 = .ok (.aload 4, 2) := by decide +kernel
theorem dX16_fault_68 : decode cX16_fault 68 = .ok (.iload_n 1, 1) := by decide +kernel
theorem dX16_fault_69 : decode cX16_fault 69 = .ok (.invokevirtual 78, 3) := by decide +kernel
theorem dX16_fault_72 : decode cX16_fault 72 = .ok (.checkcast 160, 3) := by decide +kernel
theorem dX16_fault_75 : decode cX16_fault 75 = .ok (.iload_n 2, 1) := by decide +kernel
theorem dX16_fault_76 : decode cX16_fault 76 = .ok (.invokestatic 162, 3) := by decide +kernel
theorem dX16_fault_79 : decode cX16_fault 79 = .ok (.ireturn, 1) := by decide +kernel
set_option maxRecDepth 20000 in
theorem ggX16_flags_X11_isWhole : GoodIn wsX16_flags wsX11_isWhole := goodIn_r _ [6, 7, 81, 82, 83, 84, 85, 86, 87, 88, 89] (by decide +kernel) (by decide +kernel)
set_option maxRecDepth 20000 in
theorem gX16_flags_X11_isWhole : GoodIn wsX16_flags (wsV RX16 101 RX11 yX11_isWhole wsX11_isWhole) := goodIn_app (goodIn_of _ (by decide +kernel)) ggX16_flags_X11_isWhole
set_option maxRecDepth 20000 in
theorem ggX16_flags_X14_isOwned : GoodIn wsX16_flags wsX14_isOwned := goodIn_r _ [12, 13, 14, 15, 11, 16, 17, 18, 19, 20, 21, 22, 23, 24, 25, 26, 27, 28, 29, 30, 31, 32, 33, 34, 35, 36, 37, 38, 39, 40, 41, 42, 43, 44, 45, 46, 47, 48, 49, 50, 90, 91, 92, 93, 94, 95] (by decide +kernel) (by decide +kernel)
set_option maxRecDepth 20000 in
theorem gX16_flags_X14_isOwned : GoodIn wsX16_flags (wsV RX16 166 RX14 yX14_isOwned wsX14_isOwned) := goodIn_app (goodIn_of _ (by decide +kernel)) ggX16_flags_X14_isOwned
set_option maxRecDepth 20000 in
theorem ggX16_flags_X14_leaves : GoodIn wsX16_flags wsX14_leaves := goodIn_r _ [54, 55, 13, 14, 15, 11, 16, 17, 18, 19, 20, 21, 22, 23, 24, 25, 26, 27, 28, 29, 30, 31, 32, 33, 34, 35, 36, 37, 38, 39, 40, 41, 42, 43, 44, 45, 46, 47, 48, 49, 50, 90, 91, 92, 93, 94, 95] (by decide +kernel) (by decide +kernel)
set_option maxRecDepth 20000 in
theorem gX16_flags_X14_leaves : GoodIn wsX16_flags (wsV RX16 169 RX14 yX14_leaves wsX14_leaves) := goodIn_app (goodIn_of _ (by decide +kernel)) ggX16_flags_X14_leaves
set_option maxRecDepth 20000 in
theorem ggX16_flags_X11_needsFlag : GoodIn wsX16_flags wsX11_needsFlag := goodIn_r _ [59, 60, 61, 62, 63, 64, 65, 66, 67, 29, 30, 22, 31, 24, 32, 33, 34, 35, 36, 37, 38, 39, 40, 41, 42, 43, 44, 68, 69, 70, 5, 71, 72, 73, 74, 75, 11, 76, 81, 82, 83, 84, 85, 86, 87, 88, 89, 90, 91, 92, 93, 94, 96, 97, 98] (by decide +kernel) (by decide +kernel)
set_option maxRecDepth 20000 in
theorem gX16_flags_X11_needsFlag : GoodIn wsX16_flags (wsV RX16 173 RX11 yX11_needsFlag wsX11_needsFlag) := goodIn_app (goodIn_of _ (by decide +kernel)) ggX16_flags_X11_needsFlag
theorem dX16_flags_0 : decode cX16_flags 0 = .ok (.aload_n 1, 1) := by decide +kernel
theorem dX16_flags_1 : decode cX16_flags 1 = .ok (.invokevirtual 101, 3) := by decide +kernel
theorem dX16_flags_4 : decode cX16_flags 4 = .ok (.ifCond .eq 16, 3) := by decide +kernel
theorem dX16_flags_7 : decode cX16_flags 7 = .ok (.aload_n 0, 1) := by decide +kernel
theorem dX16_flags_8 : decode cX16_flags 8 = .ok (.getfield 10, 3) := by decide +kernel
theorem dX16_flags_11 : decode cX16_flags 11 = .ok (.iconst 3, 1) := by decide +kernel
theorem dX16_flags_12 : decode cX16_flags 12 = .ok (.iload_n 2, 1) := by decide +kernel
theorem dX16_flags_13 : decode cX16_flags 13 = .ok (.imul, 1) := by decide +kernel
theorem dX16_flags_14 : decode cX16_flags 14 = .ok (.invokevirtual 166, 3) := by decide +kernel
theorem dX16_flags_17 : decode cX16_flags 17 = .ok (.ifCond .ne 5, 3) := by decide +kernel
theorem dX16_flags_20 : decode cX16_flags 20 = .ok (.iconst 0, 1) := by decide +kernel
theorem dX16_flags_21 : decode cX16_flags 21 = .ok (.ireturn, 1) := by decide +kernel
theorem dX16_flags_22 : decode cX16_flags 22 = .ok (.iconst 0, 1) := by decide +kernel
theorem dX16_flags_23 : decode cX16_flags 23 = .ok (.istore_n 3, 1) := by decide +kernel
theorem dX16_flags_24 : decode cX16_flags 24 = .ok (.aload_n 0, 1) := by decide +kernel
theorem dX16_flags_25 : decode cX16_flags 25 = .ok (.getfield 10, 3) := by decide +kernel
theorem dX16_flags_28 : decode cX16_flags 28 = .ok (.iconst 3, 1) := by decide +kernel
theorem dX16_flags_29 : decode cX16_flags 29 = .ok (.iload_n 2, 1) := by decide +kernel
theorem dX16_flags_30 : decode cX16_flags 30 = .ok (.imul, 1) := by decide +kernel
theorem dX16_flags_31 : decode cX16_flags 31 = .ok (.invokevirtual 169, 3) := by decide +kernel
theorem dX16_flags_34 : decode cX16_flags 34 = .ok (.astore 4, 2) := by decide +kernel
theorem dX16_flags_36 : decode cX16_flags 36 = .ok (.iconst 0, 1) := by decide +kernel
theorem dX16_flags_37 : decode cX16_flags 37 = .ok (.istore 5, 2) := by decide +kernel
theorem dX16_flags_39 : decode cX16_flags 39 = .ok (.iload 5, 2) := by decide +kernel
theorem dX16_flags_41 : decode cX16_flags 41 = .ok (.aload 4, 2) := by decide +kernel
theorem dX16_flags_43 : decode cX16_flags 43 = .ok (.arraylength, 1) := by decide +kernel
theorem dX16_flags_44 : decode cX16_flags 44 = .ok (.if_icmp .ge 32, 3) := by decide +kernel
theorem dX16_flags_47 : decode cX16_flags 47 = .ok (.iload_n 3, 1) := by decide +kernel
theorem dX16_flags_48 : decode cX16_flags 48 = .ok (.aload_n 1, 1) := by decide +kernel
theorem dX16_flags_49 : decode cX16_flags 49 = .ok (.aload 4, 2) := by decide +kernel
theorem dX16_flags_51 : decode cX16_flags 51 = .ok (.iload 5, 2) := by decide +kernel
theorem dX16_flags_53 : decode cX16_flags 53 = .ok (.iaload, 1) := by decide +kernel
theorem dX16_flags_54 : decode cX16_flags 54 = .ok (.invokevirtual 173, 3) := by decide +kernel
theorem dX16_flags_57 : decode cX16_flags 57 = .ok (.ifCond .eq 10, 3) := by decide +kernel
theorem dX16_flags_60 : decode cX16_flags 60 = .ok (.iconst 1, 1) := by decide +kernel
theorem dX16_flags_61 : decode cX16_flags 61 = .ok (.iload 5, 2) := by decide +kernel
theorem dX16_flags_63 : decode cX16_flags 63 = .ok (.ishl, 1) := by decide +kernel
theorem dX16_flags_64 : decode cX16_flags 64 = .ok (.goto 4, 3) := by decide +kernel
theorem dX16_flags_67 : decode cX16_flags 67 = .ok (.iconst 0, 1) := by decide +kernel
theorem dX16_flags_68 : decode cX16_flags 68 = .ok (.ior, 1) := by decide +kernel
theorem dX16_flags_69 : decode cX16_flags 69 = .ok (.istore_n 3, 1) := by decide +kernel
theorem dX16_flags_70 : decode cX16_flags 70 = .ok (.iinc 5 1, 3) := by decide +kernel
theorem dX16_flags_73 : decode cX16_flags 73 = .ok (.goto (-34), 3) := by decide +kernel
theorem dX16_flags_76 : decode cX16_flags 76 = .ok (.iload_n 3, 1) := by decide +kernel
theorem dX16_flags_77 : decode cX16_flags 77 = .ok (.ireturn, 1) := by decide +kernel
set_option maxRecDepth 20000 in
theorem ggX16_ofVariableNow_Jx4a65c_get_915e3 : GoodIn wsX16_ofVariableNow wsJx4a65c_get_915e3 := goodIn_r _ [10, 11, 12, 13, 14, 15, 16, 17, 18, 19, 20, 21, 22, 9, 23, 24, 146, 147, 148] (by decide +kernel) (by decide +kernel)
set_option maxRecDepth 20000 in
theorem gX16_ofVariableNow_Jx4a65c_get_915e3 : GoodIn wsX16_ofVariableNow (wsV RX16 78 RJx4a65c yJx4a65c_get_915e3 wsJx4a65c_get_915e3) := goodIn_app (goodIn_of _ (by decide +kernel)) ggX16_ofVariableNow_Jx4a65c_get_915e3
set_option maxRecDepth 20000 in
theorem ggX16_ofVariableNow_J6_intValue_8abf5 : GoodIn wsX16_ofVariableNow wsJ6_intValue_8abf5 := goodIn_r _ [29, 30, 149] (by decide +kernel) (by decide +kernel)
set_option maxRecDepth 20000 in
theorem gX16_ofVariableNow_J6_intValue_8abf5 : GoodIn wsX16_ofVariableNow (wsV RX16 176 RJ6 yJ6_intValue_8abf5 wsJ6_intValue_8abf5) := goodIn_app (goodIn_of _ (by decide +kernel)) ggX16_ofVariableNow_J6_intValue_8abf5
set_option maxRecDepth 20000 in
theorem ggX16_ofVariableNow_X16_flags : GoodIn wsX16_ofVariableNow wsX16_flags := goodIn_r _ [35, 1, 36, 37, 38, 39, 40, 41, 42, 43, 44, 45, 46, 47, 48, 49, 50, 51, 52, 53, 54, 55, 9, 56, 11, 57, 34, 58, 59, 7, 8, 10, 12, 13, 14, 15, 16, 17, 18, 19, 20, 21, 22, 23, 24, 60, 26, 27, 28, 29, 30, 61, 62, 63, 64, 65, 66, 67, 68, 69, 70, 71, 72, 73, 74, 75, 76, 77, 78, 79, 80, 81, 82, 83, 84, 85, 86, 140, 141, 142, 143, 150, 151, 152, 153, 154, 155, 156, 157, 158, 144, 145, 146, 147, 148, 149, 159, 160, 161] (by decide +kernel) (by decide +kernel)
set_option maxRecDepth 20000 in
theorem gX16_ofVariableNow_X16_flags : GoodIn wsX16_ofVariableNow (wsV RX16 179 RX16 yX16_flags wsX16_flags) := goodIn_app (goodIn_of _ (by decide +kernel)) ggX16_ofVariableNow_X16_flags
set_option maxRecDepth 20000 in
theorem ggX16_ofVariableNow_Jx4a65c_iterator_32c93 : GoodIn wsX16_ofVariableNow wsJx4a65c_iterator_32c93 := goodIn_r _ [90, 91, 92, 93, 94, 95, 96, 97, 98, 99, 100, 101, 102, 103, 104, 162, 163, 164, 165, 146, 147, 148] (by decide +kernel) (by decide +kernel)
set_option maxRecDepth 20000 in
theorem gX16_ofVariableNow_Jx4a65c_iterator_32c93 : GoodIn wsX16_ofVariableNow (wsV RX16 183 RJx4a65c yJx4a65c_iterator_32c93 wsJx4a65c_iterator_32c93) := goodIn_app (goodIn_of _ (by decide +kernel)) ggX16_ofVariableNow_Jx4a65c_iterator_32c93
set_option maxRecDepth 20000 in
theorem ggX16_ofVariableNow_Jx35411_hasNext_aae02 : GoodIn wsX16_ofVariableNow wsJx35411_hasNext_aae02 := goodIn_r _ [108, 109, 97, 162, 163, 164, 165, 146, 147, 148] (by decide +kernel) (by decide +kernel)
set_option maxRecDepth 20000 in
theorem gX16_ofVariableNow_Jx35411_hasNext_aae02_f187Jx35411 : GoodIn wsX16_ofVariableNow (va_wsF RX16 187 RJx35411 ⟨"java/util/Iterator", "hasNext", "()Z"⟩ yJx35411_hasNext_aae02 wsJx35411_hasNext_aae02) := goodIn_app (goodIn_of _ (by decide +kernel)) ggX16_ofVariableNow_Jx35411_hasNext_aae02
set_option maxRecDepth 20000 in
theorem ggX16_ofVariableNow_Jx35411_next_0502b : GoodIn wsX16_ofVariableNow wsJx35411_next_0502b := goodIn_r _ [113, 109, 97, 114, 101, 115, 116, 117, 93, 118, 102, 103, 104, 162, 163, 164, 165, 146, 147, 148] (by decide +kernel) (by decide +kernel)
set_option maxRecDepth 20000 in
theorem gX16_ofVariableNow_Jx35411_next_0502b_f192Jx35411 : GoodIn wsX16_ofVariableNow (va_wsF RX16 192 RJx35411 ⟨"java/util/Iterator", "next", "()Ljava/lang/Object;"⟩ yJx35411_next_0502b wsJx35411_next_0502b) := goodIn_app (goodIn_of _ (by decide +kernel)) ggX16_ofVariableNow_Jx35411_next_0502b
set_option maxRecDepth 20000 in
theorem ggX16_ofVariableNow_X14_uses_ : GoodIn wsX16_ofVariableNow wsX14_uses_ := goodIn_r _ [122, 123, 124, 125, 45, 126, 127, 65, 128, 129, 159, 160, 161] (by decide +kernel) (by decide +kernel)
set_option maxRecDepth 20000 in
theorem gX16_ofVariableNow_X14_uses_ : GoodIn wsX16_ofVariableNow (wsV RX16 195 RX14 yX14_uses_ wsX14_uses_) := goodIn_app (goodIn_of _ (by decide +kernel)) ggX16_ofVariableNow_X14_uses_
set_option maxRecDepth 20000 in
theorem ggX16_ofVariableNow_X14_gives : GoodIn wsX16_ofVariableNow wsX14_gives := goodIn_r _ [133, 129, 134, 135, 136, 137, 138, 139, 159, 160, 161] (by decide +kernel) (by decide +kernel)
set_option maxRecDepth 20000 in
theorem gX16_ofVariableNow_X14_gives : GoodIn wsX16_ofVariableNow (wsV RX16 199 RX14 yX14_gives wsX14_gives) := goodIn_app (goodIn_of _ (by decide +kernel)) ggX16_ofVariableNow_X14_gives
theorem dX16_ofVariableNow_0 : decode cX16_ofVariableNow 0 = .ok (.iload_n 3, 1) := by decide +kernel
theorem dX16_ofVariableNow_1 : decode cX16_ofVariableNow 1 = .ok (.ifCond .ne 21, 3) := by decide +kernel
theorem dX16_ofVariableNow_4 : decode cX16_ofVariableNow 4 = .ok (.aload_n 0, 1) := by decide +kernel
theorem dX16_ofVariableNow_5 : decode cX16_ofVariableNow 5 = .ok (.getfield 10, 3) := by decide +kernel
theorem dX16_ofVariableNow_8 : decode cX16_ofVariableNow 8 = .ok (.getfield 36, 3) := by decide +kernel
theorem dX16_ofVariableNow_11 : decode cX16_ofVariableNow 11 = .ok (.iload_n 2, 1) := by decide +kernel
theorem dX16_ofVariableNow_12 : decode cX16_ofVariableNow 12 = .ok (.invokevirtual 78, 3) := by decide +kernel
theorem dX16_ofVariableNow_15 : decode cX16_ofVariableNow 15 = .ok (.checkcast 47, 3) := by decide +kernel
theorem dX16_ofVariableNow_18 : decode cX16_ofVariableNow 18 = .ok (.invokevirtual 176, 3) := by decide +kernel
theorem dX16_ofVariableNow_21 : decode cX16_ofVariableNow 21 = .ok (.ireturn, 1) := by decide +kernel
theorem dX16_ofVariableNow_22 : decode cX16_ofVariableNow 22 = .ok (.iload_n 3, 1) := by decide +kernel
theorem dX16_ofVariableNow_23 : decode cX16_ofVariableNow 23 = .ok (.iconst 1, 1) := by decide +kernel
theorem dX16_ofVariableNow_24 : decode cX16_ofVariableNow 24 = .ok (.if_icmp .ne 10, 3) := by decide +kernel
theorem dX16_ofVariableNow_27 : decode cX16_ofVariableNow 27 = .ok (.aload_n 0, 1) := by decide +kernel
theorem dX16_ofVariableNow_28 : decode cX16_ofVariableNow 28 = .ok (.aload_n 1, 1) := by decide +kernel
theorem dX16_ofVariableNow_29 : decode cX16_ofVariableNow 29 = .ok (.iload_n 2, 1) := by decide +kernel
theorem dX16_ofVariableNow_30 : decode cX16_ofVariableNow 30 = .ok (.invokevirtual 179, 3) := by decide +kernel
theorem dX16_ofVariableNow_33 : decode cX16_ofVariableNow 33 = .ok (.ireturn, 1) := by decide +kernel
theorem dX16_ofVariableNow_34 : decode cX16_ofVariableNow 34 = .ok (.iconst 0, 1) := by decide +kernel
theorem dX16_ofVariableNow_35 : decode cX16_ofVariableNow 35 = .ok (.istore 4, 2) := by decide +kernel
theorem dX16_ofVariableNow_37 : decode cX16_ofVariableNow 37 = .ok (.aload_n 0, 1) := by decide +kernel
theorem dX16_ofVariableNow_38 : decode cX16_ofVariableNow 38 = .ok (.getfield 10, 3) := by decide +kernel
theorem dX16_ofVariableNow_41 : decode cX16_ofVariableNow 41 = .ok (.getfield 64, 3) := by decide +kernel
theorem dX16_ofVariableNow_44 : decode cX16_ofVariableNow 44 = .ok (.invokevirtual 183, 3) := by decide +kernel
theorem dX16_ofVariableNow_47 : decode cX16_ofVariableNow 47 = .ok (.astore 5, 2) := by decide +kernel
theorem dX16_ofVariableNow_49 : decode cX16_ofVariableNow 49 = .ok (.aload 5, 2) := by decide +kernel
theorem dX16_ofVariableNow_51 : decode cX16_ofVariableNow 51 = .ok (.invokeinterface 187 1, 5) := by decide +kernel
theorem dX16_ofVariableNow_56 : decode cX16_ofVariableNow 56 = .ok (.ifCond .eq 62, 3) := by decide +kernel
theorem dX16_ofVariableNow_59 : decode cX16_ofVariableNow 59 = .ok (.aload 5, 2) := by decide +kernel
theorem dX16_ofVariableNow_61 : decode cX16_ofVariableNow 61 = .ok (.invokeinterface 192 1, 5) := by decide +kernel
theorem dX16_ofVariableNow_66 : decode cX16_ofVariableNow 66 = .ok (.checkcast 59, 3) := by decide +kernel
theorem dX16_ofVariableNow_69 : decode cX16_ofVariableNow 69 = .ok (.astore 6, 2) := by decide +kernel
theorem dX16_ofVariableNow_71 : decode cX16_ofVariableNow 71 = .ok (.iload 4, 2) := by decide +kernel
theorem dX16_ofVariableNow_73 : decode cX16_ofVariableNow 73 = .ok (.iload_n 3, 1) := by decide +kernel
theorem dX16_ofVariableNow_74 : decode cX16_ofVariableNow 74 = .ok (.iconst 2, 1) := by decide +kernel
theorem dX16_ofVariableNow_75 : decode cX16_ofVariableNow 75 = .ok (.if_icmp .ne 19, 3) := by decide +kernel
theorem dX16_ofVariableNow_78 : decode cX16_ofVariableNow 78 = .ok (.aload_n 0, 1) := by decide +kernel
theorem dX16_ofVariableNow_79 : decode cX16_ofVariableNow 79 = .ok (.getfield 10, 3) := by decide +kernel
theorem dX16_ofVariableNow_82 : decode cX16_ofVariableNow 82 = .ok (.aload 6, 2) := by decide +kernel
theorem dX16_ofVariableNow_84 : decode cX16_ofVariableNow 84 = .ok (.iload_n 2, 1) := by decide +kernel
theorem dX16_ofVariableNow_85 : decode cX16_ofVariableNow 85 = .ok (.invokevirtual 195, 3) := by decide +kernel
theorem dX16_ofVariableNow_88 : decode cX16_ofVariableNow 88 = .ok (.ifCond .eq 23, 3) := by decide +kernel
theorem dX16_ofVariableNow_91 : decode cX16_ofVariableNow 91 = .ok (.goto 16, 3) := by decide +kernel
theorem dX16_ofVariableNow_94 : decode cX16_ofVariableNow 94 = .ok (.aload_n 0, 1) := by decide +kernel
theorem dX16_ofVariableNow_95 : decode cX16_ofVariableNow 95 = .ok (.getfield 10, 3) := by decide +kernel
theorem dX16_ofVariableNow_98 : decode cX16_ofVariableNow 98 = .ok (.aload 6, 2) := by decide +kernel
theorem dX16_ofVariableNow_100 : decode cX16_ofVariableNow 100 = .ok (.iload_n 2, 1) := by decide +kernel
theorem dX16_ofVariableNow_101 : decode cX16_ofVariableNow 101 = .ok (.invokevirtual 199, 3) := by decide +kernel
theorem dX16_ofVariableNow_104 : decode cX16_ofVariableNow 104 = .ok (.ifCond .eq 7, 3) := by decide +kernel
theorem dX16_ofVariableNow_107 : decode cX16_ofVariableNow 107 = .ok (.iconst 1, 1) := by decide +kernel
theorem dX16_ofVariableNow_108 : decode cX16_ofVariableNow 108 = .ok (.goto 4, 3) := by decide +kernel
theorem dX16_ofVariableNow_111 : decode cX16_ofVariableNow 111 = .ok (.iconst 0, 1) := by decide +kernel
theorem dX16_ofVariableNow_112 : decode cX16_ofVariableNow 112 = .ok (.iadd, 1) := by decide +kernel
theorem dX16_ofVariableNow_113 : decode cX16_ofVariableNow 113 = .ok (.istore 4, 2) := by decide +kernel
theorem dX16_ofVariableNow_115 : decode cX16_ofVariableNow 115 = .ok (.goto (-66), 3) := by decide +kernel
theorem dX16_ofVariableNow_118 : decode cX16_ofVariableNow 118 = .ok (.iload 4, 2) := by decide +kernel
theorem dX16_ofVariableNow_120 : decode cX16_ofVariableNow 120 = .ok (.ireturn, 1) := by decide +kernel
set_option maxRecDepth 20000 in
theorem ggX16_ofVariable_Jx4a65c_size_8abf5 : GoodIn wsX16_ofVariable wsJx4a65c_size_8abf5 := goodIn_r _ [7, 8, 338, 339, 340] (by decide +kernel) (by decide +kernel)
set_option maxRecDepth 20000 in
theorem gX16_ofVariable_Jx4a65c_size_8abf5 : GoodIn wsX16_ofVariable (wsV RX16 40 RJx4a65c yJx4a65c_size_8abf5 wsJx4a65c_size_8abf5) := goodIn_app (goodIn_of _ (by decide +kernel)) ggX16_ofVariable_Jx4a65c_size_8abf5
set_option maxRecDepth 20000 in
theorem ggX16_ofVariable_X16_isIn : GoodIn wsX16_ofVariable wsX16_isIn := goodIn_r _ [12] (by decide +kernel) (by decide +kernel)
set_option maxRecDepth 20000 in
theorem gX16_ofVariable_X16_isIn : GoodIn wsX16_ofVariable (va_wsS RX16 29 yX16_isIn wsX16_isIn) := goodIn_app (goodIn_of _ (by decide +kernel)) ggX16_ofVariable_X16_isIn
set_option maxRecDepth 20000 in
theorem ggX16_ofVariable_X16_start : GoodIn wsX16_ofVariable wsX16_start := goodIn_r _ [16, 17, 18, 19, 20, 11, 21, 332, 333, 334, 335] (by decide +kernel) (by decide +kernel)
set_option maxRecDepth 20000 in
theorem gX16_ofVariable_X16_start : GoodIn wsX16_ofVariable (wsV RX16 33 RX16 yX16_start wsX16_start) := goodIn_app (goodIn_of _ (by decide +kernel)) ggX16_ofVariable_X16_start
set_option maxRecDepth 20000 in
theorem ggX16_ofVariable_X16_refuse : GoodIn wsX16_ofVariable wsX16_refuse := goodIn_r _ [21, 17, 332, 333, 334, 335] (by decide +kernel) (by decide +kernel)
set_option maxRecDepth 20000 in
theorem gX16_ofVariable_X16_refuse : GoodIn wsX16_ofVariable (wsV RX16 20 RX16 yX16_refuse wsX16_refuse) := goodIn_app (goodIn_of _ (by decide +kernel)) ggX16_ofVariable_X16_refuse
set_option maxRecDepth 20000 in
theorem ggX16_ofVariable_X16_check : GoodIn wsX16_ofVariable wsX16_check := goodIn_r _ [25, 26, 27, 28, 1, 29, 30, 31, 32, 33, 34, 35, 36, 37, 38, 39, 40, 41, 42, 43, 44, 45, 46, 47, 48, 49, 50, 51, 4, 5, 6, 7, 8, 52, 53, 54, 55, 56, 57, 58, 59, 60, 61, 62, 63, 64, 65, 66, 67, 68, 69, 70, 71, 72, 73, 74, 75, 76, 77, 78, 79, 80, 81, 82, 83, 84, 85, 86, 87, 88, 89, 90, 91, 92, 93, 94, 95, 96, 97, 98, 99, 100, 101, 102, 103, 104, 105, 106, 107, 108, 109, 110, 111, 112, 113, 114, 115, 116, 117, 118, 119, 120, 121, 122, 123, 124, 125, 126, 127, 128, 129, 130, 131, 132, 133, 134, 135, 136, 137, 138, 139, 140, 141, 142, 143, 144, 145, 146, 147, 148, 149, 150, 151, 152, 153, 154, 155, 156, 157, 158, 159, 160, 161, 162, 163, 164, 165, 166, 167, 168, 169, 170, 171, 172, 173, 174, 175, 176, 177, 178, 179, 180, 181, 182, 183, 184, 185, 186, 187, 188, 189, 190, 191, 192, 193, 194, 195, 196, 197, 198, 199, 200, 201, 202, 203, 204, 205, 206, 207, 208, 209, 210, 211, 212, 10, 11, 12, 213, 214, 215, 216, 217, 218, 219, 220, 221, 222, 223, 224, 225, 226, 227, 228, 229, 230, 231, 232, 233, 234, 235, 236, 237, 238, 239, 240, 241, 242, 243, 244, 245, 246, 247, 248, 249, 250, 251, 252, 253, 254, 255, 256, 257, 258, 259, 260, 261, 262, 263, 264, 265, 266, 267, 341, 342, 343, 344, 345, 346, 347, 348, 349, 332, 333, 334, 335, 336, 337, 338, 339, 340, 350, 351, 352, 353] (by decide +kernel) (by decide +kernel)
set_option maxRecDepth 20000 in
theorem gX16_ofVariable_X16_check : GoodIn wsX16_ofVariable (wsV RX16 112 RX16 yX16_check wsX16_check) := goodIn_app (goodIn_of _ (by decide +kernel)) ggX16_ofVariable_X16_check
set_option maxRecDepth 20000 in
theorem ggX16_ofVariable_X16_ofVariableNow : GoodIn wsX16_ofVariable wsX16_ofVariableNow := goodIn_r _ [271, 1, 2, 272, 273, 274, 275, 77, 78, 6, 79, 8, 80, 81, 82, 83, 84, 85, 86, 87, 88, 89, 90, 91, 65, 276, 97, 98, 99, 100, 101, 277, 278, 279, 11, 280, 281, 282, 283, 28, 284, 35, 285, 286, 287, 204, 288, 206, 207, 208, 209, 210, 211, 212, 4, 5, 7, 10, 12, 213, 214, 289, 202, 203, 205, 48, 290, 291, 292, 293, 38, 43, 45, 46, 36, 37, 58, 76, 294, 295, 296, 297, 59, 196, 298, 299, 300, 301, 302, 303, 304, 305, 306, 307, 308, 309, 310, 311, 312, 33, 34, 313, 314, 122, 315, 316, 317, 318, 319, 320, 321, 322, 323, 324, 325, 326, 327, 328, 329, 330, 249, 250, 251, 252, 253, 254, 255, 256, 257, 258, 331, 260, 261, 262, 263, 216, 217, 218, 219, 220, 332, 333, 334, 335, 336, 337, 338, 339, 340, 353, 341, 342, 343, 344, 345, 346, 347, 348, 349, 350, 351, 352, 354, 355, 356, 357] (by decide +kernel) (by decide +kernel)
set_option maxRecDepth 20000 in
theorem gX16_ofVariable_X16_ofVariableNow : GoodIn wsX16_ofVariable (wsV RX16 202 RX16 yX16_ofVariableNow wsX16_ofVariableNow) := goodIn_app (goodIn_of _ (by decide +kernel)) ggX16_ofVariable_X16_ofVariableNow
theorem dX16_ofVariable_0 : decode cX16_ofVariable 0 = .ok (.aload_n 0, 1) := by decide +kernel
theorem dX16_ofVariable_1 : decode cX16_ofVariable 1 = .ok (.iload_n 1, 1) := by decide +kernel
theorem dX16_ofVariable_2 : decode cX16_ofVariable 2 = .ok (.iconst 0, 1) := by decide +kernel
theorem dX16_ofVariable_3 : decode cX16_ofVariable 3 = .ok (.aload_n 0, 1) := by decide +kernel
theorem dX16_ofVariable_4 : decode cX16_ofVariable 4 = .ok (.getfield 10, 3) := by decide +kernel
theorem dX16_ofVariable_7 : decode cX16_ofVariable 7 = .ok (.getfield 36, 3) := by decide +kernel
theorem dX16_ofVariable_10 : decode cX16_ofVariable 10 = .ok (.invokevirtual 40, 3) := by decide +kernel
theorem dX16_ofVariable_13 : decode cX16_ofVariable 13 = .ok (.iconst 1, 1) := by decide +kernel
theorem dX16_ofVariable_14 : decode cX16_ofVariable 14 = .ok (.isub, 1) := by decide +kernel
theorem dX16_ofVariable_15 : decode cX16_ofVariable 15 = .ok (.invokestatic 29, 3) := by decide +kernel
theorem dX16_ofVariable_18 : decode cX16_ofVariable 18 = .ok (.ifCond .ne 7, 3) := by decide +kernel
theorem dX16_ofVariable_21 : decode cX16_ofVariable 21 = .ok (.iconst 1, 1) := by decide +kernel
theorem dX16_ofVariable_22 : decode cX16_ofVariable 22 = .ok (.goto 4, 3) := by decide +kernel
theorem dX16_ofVariable_25 : decode cX16_ofVariable 25 = .ok (.iconst 0, 1) := by decide +kernel
theorem dX16_ofVariable_26 : decode cX16_ofVariable 26 = .ok (.iconst 1, 1) := by decide +kernel
theorem dX16_ofVariable_27 : decode cX16_ofVariable 27 = .ok (.invokevirtual 33, 3) := by decide +kernel
theorem dX16_ofVariable_30 : decode cX16_ofVariable 30 = .ok (.ifCond .ne 25, 3) := by decide +kernel
theorem dX16_ofVariable_33 : decode cX16_ofVariable 33 = .ok (.aload_n 0, 1) := by decide +kernel
theorem dX16_ofVariable_34 : decode cX16_ofVariable 34 = .ok (.iload_n 2, 1) := by decide +kernel
theorem dX16_ofVariable_35 : decode cX16_ofVariable 35 = .ok (.iconst 0, 1) := by decide +kernel
theorem dX16_ofVariable_36 : decode cX16_ofVariable 36 = .ok (.iconst 3, 1) := by decide +kernel
theorem dX16_ofVariable_37 : decode cX16_ofVariable 37 = .ok (.invokestatic 29, 3) := by decide +kernel
theorem dX16_ofVariable_40 : decode cX16_ofVariable 40 = .ok (.ifCond .ne 7, 3) := by decide +kernel
theorem dX16_ofVariable_43 : decode cX16_ofVariable 43 = .ok (.iconst 1, 1) := by decide +kernel
theorem dX16_ofVariable_44 : decode cX16_ofVariable 44 = .ok (.goto 4, 3) := by decide +kernel
theorem dX16_ofVariable_47 : decode cX16_ofVariable 47 = .ok (.iconst 0, 1) := by decide +kernel
theorem dX16_ofVariable_48 : decode cX16_ofVariable 48 = .ok (.iconst 2, 1) := by decide +kernel
theorem dX16_ofVariable_49 : decode cX16_ofVariable 49 = .ok (.invokevirtual 20, 3) := by decide +kernel
theorem dX16_ofVariable_52 : decode cX16_ofVariable 52 = .ok (.ifCond .eq 7, 3) := by decide +kernel
theorem dX16_ofVariable_55 : decode cX16_ofVariable 55 = .ok (.iconst 0, 1) := by decide +kernel
theorem dX16_ofVariable_56 : decode cX16_ofVariable 56 = .ok (.goto 13, 3) := by decide +kernel
theorem dX16_ofVariable_59 : decode cX16_ofVariable 59 = .ok (.aload_n 0, 1) := by decide +kernel
theorem dX16_ofVariable_60 : decode cX16_ofVariable 60 = .ok (.aload_n 0, 1) := by decide +kernel
theorem dX16_ofVariable_61 : decode cX16_ofVariable 61 = .ok (.invokevirtual 112, 3) := by decide +kernel
theorem dX16_ofVariable_64 : decode cX16_ofVariable 64 = .ok (.iload_n 1, 1) := by decide +kernel
theorem dX16_ofVariable_65 : decode cX16_ofVariable 65 = .ok (.iload_n 2, 1) := by decide +kernel
theorem dX16_ofVariable_66 : decode cX16_ofVariable 66 = .ok (.invokevirtual 202, 3) := by decide +kernel
theorem dX16_ofVariable_69 : decode cX16_ofVariable 69 = .ok (.ireturn, 1) := by decide +kernel
set_option maxRecDepth 20000 in
theorem ggX16_run_X16_check : GoodIn wsX16_run wsX16_check := goodIn_r _ [11, 12, 13, 14, 4, 15, 16, 17, 18, 19, 20, 21, 22, 23, 24, 25, 26, 27, 28, 29, 30, 31, 32, 33, 34, 35, 36, 37, 38, 39, 40, 41, 42, 43, 44, 45, 46, 47, 48, 49, 50, 51, 52, 53, 54, 55, 56, 57, 58, 59, 60, 61, 62, 63, 64, 65, 66, 67, 68, 69, 70, 71, 72, 73, 74, 75, 76, 77, 78, 79, 80, 81, 82, 83, 84, 85, 86, 87, 88, 89, 90, 91, 92, 93, 94, 95, 96, 97, 98, 99, 100, 101, 102, 103, 104, 105, 106, 107, 108, 109, 110, 111, 112, 113, 114, 115, 116, 117, 118, 119, 120, 121, 122, 123, 124, 125, 126, 127, 128, 129, 130, 131, 132, 133, 134, 135, 136, 137, 138, 139, 140, 141, 142, 143, 144, 145, 146, 147, 148, 149, 150, 151, 152, 153, 154, 155, 156, 157, 158, 159, 160, 161, 162, 163, 164, 165, 166, 167, 168, 169, 170, 171, 172, 173, 174, 175, 176, 177, 178, 179, 180, 181, 182, 183, 184, 185, 186, 187, 188, 189, 190, 191, 192, 193, 194, 195, 196, 197, 198, 199, 200, 201, 202, 203, 204, 10, 205, 206, 207, 208, 209, 210, 211, 212, 213, 214, 215, 216, 217, 218, 219, 220, 221, 222, 223, 224, 225, 226, 227, 228, 229, 230, 231, 232, 233, 234, 235, 236, 237, 238, 239, 240, 241, 242, 243, 244, 245, 246, 247, 248, 249, 250, 251, 252, 253, 254, 255, 256, 257, 258, 259, 260, 513, 514, 515, 516, 517, 518, 519, 520, 521, 509, 510, 511, 512, 522, 523, 524, 525, 526, 527, 528, 529, 530] (by decide +kernel) (by decide +kernel)
set_option maxRecDepth 20000 in
theorem gX16_run_X16_check : GoodIn wsX16_run (wsV RX16 112 RX16 yX16_check wsX16_check) := goodIn_app (goodIn_of _ (by decide +kernel)) ggX16_run_X16_check
set_option maxRecDepth 20000 in
theorem ggX16_run_X11_faults : GoodIn wsX16_run wsX11_faults := goodIn_r _ [264, 47, 48, 40, 34, 21, 24, 29, 52, 53, 54, 55, 56, 57, 58, 59, 60, 61, 62, 63, 64, 65, 66, 19, 20, 265, 266, 267, 14, 268, 108, 109, 110, 111, 112, 113, 42, 114, 115, 116, 117, 118, 119, 120, 121, 122, 123, 124, 125, 126, 127, 128, 129, 130, 131, 132, 133, 134, 135, 136, 137, 138, 139, 140, 141, 142, 143, 144, 145, 146, 147, 148, 149, 150, 151, 152, 153, 154, 155, 156, 157, 158, 159, 269, 270, 271, 272, 22, 23, 49, 32, 31, 67, 68, 69, 70, 71, 72, 73, 74, 75, 76, 77, 78, 79, 80, 81, 82, 273, 246, 247, 195, 248, 249, 250, 251, 192, 193, 194, 196, 197, 198, 199, 200, 201, 202, 203, 38, 39, 41, 204, 10, 205, 206, 207, 88, 89, 90, 91, 92, 274, 275, 276, 277, 278, 279, 238, 239, 240, 280, 281, 282, 283, 186, 50, 27, 35, 284, 285, 286, 287, 222, 223, 288, 289, 290, 291, 292, 293, 294, 295, 296, 297, 298, 299, 300, 301, 302, 303, 304, 305, 306, 307, 308, 309, 310, 311, 312, 313, 314, 315, 316, 224, 215, 216, 211, 217, 213, 317, 318, 319, 320, 321, 322, 323, 37, 324, 325, 257, 258, 259, 260, 26, 36, 252, 253, 254, 255, 256, 209, 210, 212, 524, 525, 526, 513, 514, 515, 516, 517, 518, 519, 520, 521, 522, 523, 527, 528, 529, 530, 531, 532, 533, 534] (by decide +kernel) (by decide +kernel)
set_option maxRecDepth 20000 in
theorem gX16_run_X11_faults : GoodIn wsX16_run (wsV RX16 156 RX11 yX11_faults wsX11_faults) := goodIn_app (goodIn_of _ (by decide +kernel)) ggX16_run_X11_faults
set_option maxRecDepth 20000 in
theorem ggX16_run_Jx4a65c_isEmpty_aae02 : GoodIn wsX16_run wsJx4a65c_isEmpty_aae02 := goodIn_r _ [86, 42, 524, 525, 526] (by decide +kernel) (by decide +kernel)
set_option maxRecDepth 20000 in
theorem gX16_run_Jx4a65c_isEmpty_aae02 : GoodIn wsX16_run (wsV RX16 89 RJx4a65c yJx4a65c_isEmpty_aae02 wsJx4a65c_isEmpty_aae02) := goodIn_app (goodIn_of _ (by decide +kernel)) ggX16_run_Jx4a65c_isEmpty_aae02
set_option maxRecDepth 20000 in
theorem ggX16_run_X16_start : GoodIn wsX16_run wsX16_start := goodIn_r _ [330, 331, 332, 333, 334, 10, 335, 509, 510, 511, 512] (by decide +kernel) (by decide +kernel)
set_option maxRecDepth 20000 in
theorem gX16_run_X16_start : GoodIn wsX16_run (wsV RX16 33 RX16 yX16_start wsX16_start) := goodIn_app (goodIn_of _ (by decide +kernel)) ggX16_run_X16_start
set_option maxRecDepth 20000 in
theorem ggX16_run_X14_copy : GoodIn wsX16_run wsX14_copy := goodIn_r _ [339, 340, 341, 195, 201, 222, 342, 343, 344, 345, 19, 20, 346, 48, 40, 347, 53, 54, 55, 56, 57, 58, 59, 60, 61, 62, 63, 64, 65, 66, 348, 349, 350, 351, 112, 113, 42, 168, 157, 158, 159, 352, 353, 354, 355, 140, 141, 142, 143, 144, 145, 146, 147, 148, 149, 150, 151, 152, 153, 154, 128, 155, 156, 122, 123, 124, 125, 126, 127, 129, 130, 131, 132, 133, 134, 135, 136, 137, 138, 139, 522, 523, 524, 525, 526] (by decide +kernel) (by decide +kernel)
set_option maxRecDepth 20000 in
theorem gX16_run_X14_copy : GoodIn wsX16_run (wsV RX16 207 RX14 yX14_copy wsX14_copy) := goodIn_app (goodIn_of _ (by decide +kernel)) ggX16_run_X14_copy
set_option maxRecDepth 20000 in
theorem ggX16_run_X15_init : GoodIn wsX16_run wsX15_init := goodIn_r _ [358, 359, 19, 20, 360, 48, 40, 361, 362, 363, 364, 365, 366, 367, 34, 368, 369, 370, 371, 372, 373, 374, 375, 53, 54, 55, 56, 57, 58, 59, 60, 61, 62, 63, 64, 65, 66, 376, 38, 39, 41, 42, 377, 378, 379, 3, 380, 381, 382, 383, 384, 385, 386, 68, 69, 70, 71, 72, 73, 74, 75, 76, 77, 78, 79, 80, 81, 82, 387, 388, 389, 390, 391, 392, 393, 394, 395, 396, 397, 398, 399, 400, 401, 402, 403, 404, 405, 406, 198, 199, 195, 200, 201, 202, 203, 204, 10, 205, 206, 207, 88, 89, 90, 91, 92, 407, 408, 409, 410, 411, 412, 413, 414, 415, 416, 417, 418, 419, 420, 421, 422, 423, 424, 425, 109, 110, 111, 112, 113, 114, 115, 116, 117, 118, 119, 120, 121, 122, 123, 124, 125, 126, 127, 128, 129, 130, 131, 132, 133, 134, 135, 136, 137, 138, 139, 140, 141, 142, 143, 144, 145, 146, 147, 148, 149, 150, 151, 152, 153, 154, 155, 156, 157, 158, 159, 426, 193, 194, 196, 197, 427, 428, 429, 430, 431, 432, 433, 434, 435, 436, 437, 438, 439, 440, 441, 442, 443, 444, 445, 446, 447, 448, 449, 450, 451, 452, 453, 454, 455, 456, 457, 458, 459, 460, 461, 462, 238, 239, 240, 463, 464, 465, 466, 467, 468, 469, 470, 471, 472, 473, 474, 475, 476, 477, 478, 479, 480, 481, 482, 483, 484, 485, 486, 524, 525, 526, 491, 492, 493, 494, 495, 496, 497, 498, 499, 500, 501, 502, 503, 504, 505, 506, 507, 508, 522, 523, 527, 528, 529, 513, 514, 515, 516, 517, 518, 519, 520, 521, 535, 536, 537, 538, 539, 530] (by decide +kernel) (by decide +kernel)
set_option maxRecDepth 20000 in
theorem gX16_run_X15_init : GoodIn wsX16_run (wsX15_init) := ggX16_run_X15_init
set_option maxRecDepth 20000 in
theorem ggX16_run_X15_outcome : GoodIn wsX16_run wsX15_outcome := goodIn_r _ [490, 383, 385, 362, 491, 492, 493, 494, 495, 496, 497, 498, 499, 500, 501, 502, 503, 504, 505, 506, 507, 508] (by decide +kernel) (by decide +kernel)
set_option maxRecDepth 20000 in
theorem gX16_run_X15_outcome : GoodIn wsX16_run (wsV RX16 221 RX15 yX15_outcome wsX15_outcome) := goodIn_app (goodIn_of _ (by decide +kernel)) ggX16_run_X15_outcome
theorem dX16_run_0 : decode cX16_run 0 = .ok (.aload_n 0, 1) := by decide +kernel
theorem dX16_run_1 : decode cX16_run 1 = .ok (.invokevirtual 112, 3) := by decide +kernel
theorem dX16_run_4 : decode cX16_run 4 = .ok (.astore_n 1, 1) := by decide +kernel
theorem dX16_run_5 : decode cX16_run 5 = .ok (.aload_n 0, 1) := by decide +kernel
theorem dX16_run_6 : decode cX16_run 6 = .ok (.aload_n 1, 1) := by decide +kernel
theorem dX16_run_7 : decode cX16_run 7 = .ok (.invokevirtual 156, 3) := by decide +kernel
theorem dX16_run_10 : decode cX16_run 10 = .ok (.invokevirtual 89, 3) := by decide +kernel
theorem dX16_run_13 : decode cX16_run 13 = .ok (.ifCond .ne 7, 3) := by decide +kernel
theorem dX16_run_16 : decode cX16_run 16 = .ok (.iconst 1, 1) := by decide +kernel
theorem dX16_run_17 : decode cX16_run 17 = .ok (.goto 4, 3) := by decide +kernel
theorem dX16_run_20 : decode cX16_run 20 = .ok (.iconst 0, 1) := by decide +kernel
theorem dX16_run_21 : decode cX16_run 21 = .ok (.iconst 1, 1) := by decide +kernel
theorem dX16_run_22 : decode cX16_run 22 = .ok (.invokevirtual 33, 3) := by decide +kernel
theorem dX16_run_25 : decode cX16_run 25 = .ok (.ifCond .eq 5, 3) := by decide +kernel
theorem dX16_run_28 : decode cX16_run 28 = .ok (.iconst 0, 1) := by decide +kernel
theorem dX16_run_29 : decode cX16_run 29 = .ok (.ireturn, 1) := by decide +kernel
theorem dX16_run_30 : decode cX16_run 30 = .ok (.aload_n 0, 1) := by decide +kernel
theorem dX16_run_31 : decode cX16_run 31 = .ok (.new 205, 3) := by decide +kernel
theorem dX16_run_34 : decode cX16_run 34 = .ok (.dup, 1) := by decide +kernel
theorem dX16_run_35 : decode cX16_run 35 = .ok (.aload_n 0, 1) := by decide +kernel
theorem dX16_run_36 : decode cX16_run 36 = .ok (.getfield 10, 3) := by decide +kernel
theorem dX16_run_39 : decode cX16_run 39 = .ok (.invokevirtual 207, 3) := by decide +kernel
theorem dX16_run_42 : decode cX16_run 42 = .ok (.aload_n 1, 1) := by decide +kernel
theorem dX16_run_43 : decode cX16_run 43 = .ok (.invokespecial 211, 3) := by decide +kernel
theorem dX16_run_46 : decode cX16_run 46 = .ok (.putfield 214, 3) := by decide +kernel
theorem dX16_run_49 : decode cX16_run 49 = .ok (.aload_n 0, 1) := by decide +kernel
theorem dX16_run_50 : decode cX16_run 50 = .ok (.dup, 1) := by decide +kernel
theorem dX16_run_51 : decode cX16_run 51 = .ok (.getfield 218, 3) := by decide +kernel
theorem dX16_run_54 : decode cX16_run 54 = .ok (.iconst 1, 1) := by decide +kernel
theorem dX16_run_55 : decode cX16_run 55 = .ok (.iadd, 1) := by decide +kernel
theorem dX16_run_56 : decode cX16_run 56 = .ok (.putfield 218, 3) := by decide +kernel
theorem dX16_run_59 : decode cX16_run 59 = .ok (.aload_n 0, 1) := by decide +kernel
theorem dX16_run_60 : decode cX16_run 60 = .ok (.getfield 214, 3) := by decide +kernel
theorem dX16_run_63 : decode cX16_run 63 = .ok (.invokevirtual 221, 3) := by decide +kernel
theorem dX16_run_66 : decode cX16_run 66 = .ok (.ireturn, 1) := by decide +kernel
set_option maxRecDepth 20000 in
theorem ggX16_ofRunNow_X15_told : GoodIn wsX16_ofRunNow wsX15_told := goodIn_r _ [7, 8, 9, 10, 11, 12, 13, 14, 15, 16, 17, 18, 6, 19, 20, 21, 22, 23, 24, 25, 26, 27, 28, 29, 30, 31, 36, 37, 38, 39, 40, 41, 42, 43, 44, 45, 46, 47, 48, 49, 50, 51, 52, 53, 54, 55, 56] (by decide +kernel) (by decide +kernel)
set_option maxRecDepth 20000 in
theorem gX16_ofRunNow_X15_told : GoodIn wsX16_ofRunNow (wsV RX16 224 RX15 yX15_told wsX15_told) := goodIn_app (goodIn_of _ (by decide +kernel)) ggX16_ofRunNow_X15_told
theorem dX16_ofRunNow_0 : decode cX16_ofRunNow 0 = .ok (.iload_n 1, 1) := by decide +kernel
theorem dX16_ofRunNow_1 : decode cX16_ofRunNow 1 = .ok (.bipush 9, 2) := by decide +kernel
theorem dX16_ofRunNow_3 : decode cX16_ofRunNow 3 = .ok (.if_icmp .ne 10, 3) := by decide +kernel
theorem dX16_ofRunNow_6 : decode cX16_ofRunNow 6 = .ok (.aload_n 0, 1) := by decide +kernel
theorem dX16_ofRunNow_7 : decode cX16_ofRunNow 7 = .ok (.getfield 218, 3) := by decide +kernel
theorem dX16_ofRunNow_10 : decode cX16_ofRunNow 10 = .ok (.goto 22, 3) := by decide +kernel
theorem dX16_ofRunNow_13 : decode cX16_ofRunNow 13 = .ok (.aload_n 0, 1) := by decide +kernel
theorem dX16_ofRunNow_14 : decode cX16_ofRunNow 14 = .ok (.getfield 214, 3) := by decide +kernel
theorem dX16_ofRunNow_17 : decode cX16_ofRunNow 17 = .ok (.ifnonnull 7, 3) := by decide +kernel
theorem dX16_ofRunNow_20 : decode cX16_ofRunNow 20 = .ok (.iconst 0, 1) := by decide +kernel
theorem dX16_ofRunNow_21 : decode cX16_ofRunNow 21 = .ok (.goto 11, 3) := by decide +kernel
theorem dX16_ofRunNow_24 : decode cX16_ofRunNow 24 = .ok (.aload_n 0, 1) := by decide +kernel
theorem dX16_ofRunNow_25 : decode cX16_ofRunNow 25 = .ok (.getfield 214, 3) := by decide +kernel
theorem dX16_ofRunNow_28 : decode cX16_ofRunNow 28 = .ok (.iload_n 1, 1) := by decide +kernel
theorem dX16_ofRunNow_29 : decode cX16_ofRunNow 29 = .ok (.invokevirtual 224, 3) := by decide +kernel
theorem dX16_ofRunNow_32 : decode cX16_ofRunNow 32 = .ok (.ireturn, 1) := by decide +kernel
set_option maxRecDepth 20000 in
theorem ggX16_ofRun_X16_isIn : GoodIn wsX16_ofRun wsX16_isIn := goodIn_r _ [4] (by decide +kernel) (by decide +kernel)
set_option maxRecDepth 20000 in
theorem gX16_ofRun_X16_isIn : GoodIn wsX16_ofRun (va_wsS RX16 29 yX16_isIn wsX16_isIn) := goodIn_app (goodIn_of _ (by decide +kernel)) ggX16_ofRun_X16_isIn
set_option maxRecDepth 20000 in
theorem ggX16_ofRun_X16_start : GoodIn wsX16_ofRun wsX16_start := goodIn_r _ [8, 9, 10, 11, 12, 3, 13, 49, 50, 51, 52] (by decide +kernel) (by decide +kernel)
set_option maxRecDepth 20000 in
theorem gX16_ofRun_X16_start : GoodIn wsX16_ofRun (wsV RX16 33 RX16 yX16_start wsX16_start) := goodIn_app (goodIn_of _ (by decide +kernel)) ggX16_ofRun_X16_start
set_option maxRecDepth 20000 in
theorem ggX16_ofRun_X16_ofRunNow : GoodIn wsX16_ofRun wsX16_ofRunNow := goodIn_r _ [17, 18, 19, 20, 21, 22, 23, 24, 25, 26, 27, 28, 29, 30, 31, 32, 33, 34, 35, 36, 37, 38, 39, 40, 41, 42, 43, 44, 45, 46, 47, 48, 49, 50, 51, 52, 53, 54, 55, 56, 57, 58, 59, 60, 61, 62, 63, 64, 65, 66, 67, 68, 69, 70, 71, 72, 73] (by decide +kernel) (by decide +kernel)
set_option maxRecDepth 20000 in
theorem gX16_ofRun_X16_ofRunNow : GoodIn wsX16_ofRun (wsV RX16 226 RX16 yX16_ofRunNow wsX16_ofRunNow) := goodIn_app (goodIn_of _ (by decide +kernel)) ggX16_ofRun_X16_ofRunNow
theorem dX16_ofRun_0 : decode cX16_ofRun 0 = .ok (.aload_n 0, 1) := by decide +kernel
theorem dX16_ofRun_1 : decode cX16_ofRun 1 = .ok (.iload_n 1, 1) := by decide +kernel
theorem dX16_ofRun_2 : decode cX16_ofRun 2 = .ok (.iconst 0, 1) := by decide +kernel
theorem dX16_ofRun_3 : decode cX16_ofRun 3 = .ok (.bipush 9, 2) := by decide +kernel
theorem dX16_ofRun_5 : decode cX16_ofRun 5 = .ok (.invokestatic 29, 3) := by decide +kernel
theorem dX16_ofRun_8 : decode cX16_ofRun 8 = .ok (.ifCond .ne 7, 3) := by decide +kernel
theorem dX16_ofRun_11 : decode cX16_ofRun 11 = .ok (.iconst 1, 1) := by decide +kernel
theorem dX16_ofRun_12 : decode cX16_ofRun 12 = .ok (.goto 4, 3) := by decide +kernel
theorem dX16_ofRun_15 : decode cX16_ofRun 15 = .ok (.iconst 0, 1) := by decide +kernel
theorem dX16_ofRun_16 : decode cX16_ofRun 16 = .ok (.iconst 1, 1) := by decide +kernel
theorem dX16_ofRun_17 : decode cX16_ofRun 17 = .ok (.invokevirtual 33, 3) := by decide +kernel
theorem dX16_ofRun_20 : decode cX16_ofRun 20 = .ok (.ifCond .eq 7, 3) := by decide +kernel
theorem dX16_ofRun_23 : decode cX16_ofRun 23 = .ok (.iconst 0, 1) := by decide +kernel
theorem dX16_ofRun_24 : decode cX16_ofRun 24 = .ok (.goto 8, 3) := by decide +kernel
theorem dX16_ofRun_27 : decode cX16_ofRun 27 = .ok (.aload_n 0, 1) := by decide +kernel
theorem dX16_ofRun_28 : decode cX16_ofRun 28 = .ok (.iload_n 1, 1) := by decide +kernel
theorem dX16_ofRun_29 : decode cX16_ofRun 29 = .ok (.invokevirtual 226, 3) := by decide +kernel
theorem dX16_ofRun_32 : decode cX16_ofRun 32 = .ok (.ireturn, 1) := by decide +kernel
set_option maxRecDepth 20000 in
theorem ggX16_kept_Jx4a65c_size_8abf5 : GoodIn wsX16_kept wsJx4a65c_size_8abf5 := goodIn_r _ [11, 12, 35, 36, 37] (by decide +kernel) (by decide +kernel)
set_option maxRecDepth 20000 in
theorem gX16_kept_Jx4a65c_size_8abf5 : GoodIn wsX16_kept (wsV RX16 40 RJx4a65c yJx4a65c_size_8abf5 wsJx4a65c_size_8abf5) := goodIn_app (goodIn_of _ (by decide +kernel)) ggX16_kept_Jx4a65c_size_8abf5
theorem dX16_kept_0 : decode cX16_kept 0 = .ok (.aload_n 0, 1) := by decide +kernel
theorem dX16_kept_1 : decode cX16_kept 1 = .ok (.getfield 214, 3) := by decide +kernel
theorem dX16_kept_4 : decode cX16_kept 4 = .ok (.ifnonnull 7, 3) := by decide +kernel
theorem dX16_kept_7 : decode cX16_kept 7 = .ok (.iconst 0, 1) := by decide +kernel
theorem dX16_kept_8 : decode cX16_kept 8 = .ok (.goto 18, 3) := by decide +kernel
theorem dX16_kept_11 : decode cX16_kept 11 = .ok (.bipush 60, 2) := by decide +kernel
theorem dX16_kept_13 : decode cX16_kept 13 = .ok (.aload_n 0, 1) := by decide +kernel
theorem dX16_kept_14 : decode cX16_kept 14 = .ok (.getfield 214, 3) := by decide +kernel
theorem dX16_kept_17 : decode cX16_kept 17 = .ok (.getfield 229, 3) := by decide +kernel
theorem dX16_kept_20 : decode cX16_kept 20 = .ok (.invokevirtual 40, 3) := by decide +kernel
theorem dX16_kept_23 : decode cX16_kept 23 = .ok (.invokestatic 231, 3) := by decide +kernel
theorem dX16_kept_26 : decode cX16_kept 26 = .ok (.ireturn, 1) := by decide +kernel
set_option maxRecDepth 20000 in
theorem ggX16_told__X16_kept : GoodIn wsX16_told_ wsX16_kept := goodIn_r _ [8, 1, 2, 9, 10, 11, 12, 13, 14, 15, 16, 17, 18, 48, 49, 50, 51, 52, 53, 54, 55, 56, 57, 58, 59, 60, 61, 62, 63, 64, 65, 66, 67, 68, 69, 70, 71, 72] (by decide +kernel) (by decide +kernel)
set_option maxRecDepth 20000 in
theorem gX16_told__X16_kept : GoodIn wsX16_told_ (wsV RX16 236 RX16 yX16_kept wsX16_kept) := goodIn_app (goodIn_of _ (by decide +kernel)) ggX16_told__X16_kept
set_option maxRecDepth 20000 in
theorem ggX16_told__X16_isIn : GoodIn wsX16_told_ wsX16_isIn := goodIn_r _ [21] (by decide +kernel) (by decide +kernel)
set_option maxRecDepth 20000 in
theorem gX16_told__X16_isIn : GoodIn wsX16_told_ (va_wsS RX16 29 yX16_isIn wsX16_isIn) := goodIn_app (goodIn_of _ (by decide +kernel)) ggX16_told__X16_isIn
set_option maxRecDepth 20000 in
theorem ggX16_told__X16_start : GoodIn wsX16_told_ wsX16_start := goodIn_r _ [25, 26, 27, 28, 29, 7, 30, 48, 49, 50, 51] (by decide +kernel) (by decide +kernel)
set_option maxRecDepth 20000 in
theorem gX16_told__X16_start : GoodIn wsX16_told_ (wsV RX16 33 RX16 yX16_start wsX16_start) := goodIn_app (goodIn_of _ (by decide +kernel)) ggX16_told__X16_start
set_option maxRecDepth 20000 in
theorem ggX16_told__X16_refuse : GoodIn wsX16_told_ wsX16_refuse := goodIn_r _ [30, 26, 48, 49, 50, 51] (by decide +kernel) (by decide +kernel)
set_option maxRecDepth 20000 in
theorem gX16_told__X16_refuse : GoodIn wsX16_told_ (wsV RX16 20 RX16 yX16_refuse wsX16_refuse) := goodIn_app (goodIn_of _ (by decide +kernel)) ggX16_told__X16_refuse
set_option maxRecDepth 20000 in
theorem ggX16_told__Jx4a65c_get_915e3 : GoodIn wsX16_told_ wsJx4a65c_get_915e3 := goodIn_r _ [34, 18, 35, 36, 37, 38, 39, 40, 41, 42, 43, 44, 45, 16, 46, 47, 70, 71, 72] (by decide +kernel) (by decide +kernel)
set_option maxRecDepth 20000 in
theorem gX16_told__Jx4a65c_get_915e3 : GoodIn wsX16_told_ (wsV RX16 78 RJx4a65c yJx4a65c_get_915e3 wsJx4a65c_get_915e3) := goodIn_app (goodIn_of _ (by decide +kernel)) ggX16_told__Jx4a65c_get_915e3
theorem dX16_told__0 : decode cX16_told_ 0 = .ok (.aload_n 0, 1) := by decide +kernel
theorem dX16_told__1 : decode cX16_told_ 1 = .ok (.iload_n 1, 1) := by decide +kernel
theorem dX16_told__2 : decode cX16_told_ 2 = .ok (.iconst 0, 1) := by decide +kernel
theorem dX16_told__3 : decode cX16_told_ 3 = .ok (.aload_n 0, 1) := by decide +kernel
theorem dX16_told__4 : decode cX16_told_ 4 = .ok (.invokevirtual 236, 3) := by decide +kernel
theorem dX16_told__7 : decode cX16_told_ 7 = .ok (.iconst 1, 1) := by decide +kernel
theorem dX16_told__8 : decode cX16_told_ 8 = .ok (.isub, 1) := by decide +kernel
theorem dX16_told__9 : decode cX16_told_ 9 = .ok (.invokestatic 29, 3) := by decide +kernel
theorem dX16_told__12 : decode cX16_told_ 12 = .ok (.ifCond .ne 7, 3) := by decide +kernel
theorem dX16_told__15 : decode cX16_told_ 15 = .ok (.iconst 1, 1) := by decide +kernel
theorem dX16_told__16 : decode cX16_told_ 16 = .ok (.goto 4, 3) := by decide +kernel
theorem dX16_told__19 : decode cX16_told_ 19 = .ok (.iconst 0, 1) := by decide +kernel
theorem dX16_told__20 : decode cX16_told_ 20 = .ok (.iconst 1, 1) := by decide +kernel
theorem dX16_told__21 : decode cX16_told_ 21 = .ok (.invokevirtual 33, 3) := by decide +kernel
theorem dX16_told__24 : decode cX16_told_ 24 = .ok (.ifCond .ne 25, 3) := by decide +kernel
theorem dX16_told__27 : decode cX16_told_ 27 = .ok (.aload_n 0, 1) := by decide +kernel
theorem dX16_told__28 : decode cX16_told_ 28 = .ok (.iload_n 2, 1) := by decide +kernel
theorem dX16_told__29 : decode cX16_told_ 29 = .ok (.iconst 0, 1) := by decide +kernel
theorem dX16_told__30 : decode cX16_told_ 30 = .ok (.iconst 2, 1) := by decide +kernel
theorem dX16_told__31 : decode cX16_told_ 31 = .ok (.invokestatic 29, 3) := by decide +kernel
theorem dX16_told__34 : decode cX16_told_ 34 = .ok (.ifCond .ne 7, 3) := by decide +kernel
theorem dX16_told__37 : decode cX16_told_ 37 = .ok (.iconst 1, 1) := by decide +kernel
theorem dX16_told__38 : decode cX16_told_ 38 = .ok (.goto 4, 3) := by decide +kernel
theorem dX16_told__41 : decode cX16_told_ 41 = .ok (.iconst 0, 1) := by decide +kernel
theorem dX16_told__42 : decode cX16_told_ 42 = .ok (.iconst 2, 1) := by decide +kernel
theorem dX16_told__43 : decode cX16_told_ 43 = .ok (.invokevirtual 20, 3) := by decide +kernel
theorem dX16_told__46 : decode cX16_told_ 46 = .ok (.ifCond .eq 7, 3) := by decide +kernel
theorem dX16_told__49 : decode cX16_told_ 49 = .ok (.iconst 0, 1) := by decide +kernel
theorem dX16_told__50 : decode cX16_told_ 50 = .ok (.goto 19, 3) := by decide +kernel
theorem dX16_told__53 : decode cX16_told_ 53 = .ok (.aload_n 0, 1) := by decide +kernel
theorem dX16_told__54 : decode cX16_told_ 54 = .ok (.getfield 214, 3) := by decide +kernel
theorem dX16_told__57 : decode cX16_told_ 57 = .ok (.getfield 229, 3) := by decide +kernel
theorem dX16_told__60 : decode cX16_told_ 60 = .ok (.iload_n 1, 1) := by decide +kernel
theorem dX16_told__61 : decode cX16_told_ 61 = .ok (.invokevirtual 78, 3) := by decide +kernel
theorem dX16_told__64 : decode cX16_told_ 64 = .ok (.checkcast 160, 3) := by decide +kernel
theorem dX16_told__67 : decode cX16_told_ 67 = .ok (.iload_n 2, 1) := by decide +kernel
theorem dX16_told__68 : decode cX16_told_ 68 = .ok (.iaload, 1) := by decide +kernel
theorem dX16_told__69 : decode cX16_told_ 69 = .ok (.ireturn, 1) := by decide +kernel
set_option maxRecDepth 20000 in
theorem ggX16_count_Jx4a65c_size_8abf5 : GoodIn wsX16_count wsJx4a65c_size_8abf5 := goodIn_r _ [12, 13, 279, 280, 281] (by decide +kernel) (by decide +kernel)
set_option maxRecDepth 20000 in
theorem gX16_count_Jx4a65c_size_8abf5 : GoodIn wsX16_count (wsV RX16 40 RJx4a65c yJx4a65c_size_8abf5 wsJx4a65c_size_8abf5) := goodIn_app (goodIn_of _ (by decide +kernel)) ggX16_count_Jx4a65c_size_8abf5
set_option maxRecDepth 20000 in
theorem ggX16_count_X11_faults : GoodIn wsX16_count wsX11_faults := goodIn_r _ [18, 19, 20, 11, 21, 22, 23, 24, 25, 26, 27, 28, 29, 30, 31, 32, 33, 34, 35, 36, 37, 38, 39, 40, 41, 42, 43, 44, 17, 45, 46, 47, 48, 49, 50, 51, 13, 52, 53, 54, 55, 56, 57, 58, 59, 60, 61, 62, 63, 64, 5, 6, 7, 65, 66, 67, 68, 69, 70, 71, 72, 73, 74, 75, 76, 77, 78, 79, 80, 81, 82, 83, 84, 85, 86, 87, 88, 89, 90, 91, 92, 93, 94, 95, 96, 97, 98, 99, 100, 101, 102, 103, 104, 105, 106, 107, 108, 109, 110, 111, 112, 113, 114, 115, 116, 117, 118, 119, 120, 121, 122, 123, 124, 125, 126, 127, 128, 129, 130, 131, 132, 133, 134, 135, 136, 137, 138, 9, 10, 12, 139, 140, 141, 142, 143, 144, 145, 146, 147, 148, 149, 150, 151, 152, 153, 154, 155, 156, 157, 158, 159, 160, 161, 162, 163, 164, 165, 166, 167, 168, 169, 170, 171, 172, 173, 174, 175, 176, 177, 178, 179, 180, 181, 182, 183, 184, 185, 186, 187, 188, 189, 190, 191, 192, 193, 194, 195, 196, 197, 198, 199, 200, 201, 202, 203, 204, 205, 206, 207, 208, 209, 210, 211, 212, 213, 214, 215, 216, 217, 218, 219, 220, 221, 222, 223, 224, 225, 226, 227, 228, 229, 230, 279, 280, 281, 282, 283, 284, 285, 286, 287, 288, 289, 290, 277, 278, 291, 292, 293, 294, 295, 296, 297, 298] (by decide +kernel) (by decide +kernel)
set_option maxRecDepth 20000 in
theorem gX16_count_X11_faults : GoodIn wsX16_count (wsV RX16 156 RX11 yX11_faults wsX11_faults) := goodIn_app (goodIn_of _ (by decide +kernel)) ggX16_count_X11_faults
set_option maxRecDepth 20000 in
theorem ggX16_count_X14_loans : GoodIn wsX16_count wsX14_loans := goodIn_r _ [169, 170, 171, 172, 173, 174, 11, 175, 176, 177, 178, 179, 180, 181, 182, 183, 40, 41, 184, 185, 51, 186, 187, 188, 189, 190, 191, 192, 193, 194, 195, 196, 197, 198, 199, 200, 201, 202, 203, 204, 205, 206, 277, 278, 295, 296, 297, 298, 279, 280, 281, 291, 292, 293] (by decide +kernel) (by decide +kernel)
set_option maxRecDepth 20000 in
theorem gX16_count_X14_loans : GoodIn wsX16_count (wsV RX16 71 RX14 yX14_loans wsX14_loans) := goodIn_app (goodIn_of _ (by decide +kernel)) ggX16_count_X14_loans
set_option maxRecDepth 20000 in
theorem ggX16_count_X16_flags : GoodIn wsX16_count wsX16_flags := goodIn_r _ [235, 1, 236, 43, 44, 17, 45, 22, 237, 238, 239, 123, 240, 132, 133, 134, 135, 136, 137, 138, 9, 10, 11, 12, 13, 139, 140, 141, 142, 105, 106, 107, 108, 109, 110, 111, 112, 113, 114, 115, 116, 117, 118, 119, 29, 143, 144, 145, 146, 147, 148, 241, 129, 130, 131, 21, 242, 243, 244, 245, 23, 24, 103, 102, 99, 100, 101, 104, 246, 247, 248, 249, 163, 250, 211, 212, 213, 273, 274, 275, 276, 282, 283, 284, 285, 286, 287, 288, 289, 290, 277, 278, 279, 280, 281, 294, 291, 292, 293] (by decide +kernel) (by decide +kernel)
set_option maxRecDepth 20000 in
theorem gX16_count_X16_flags : GoodIn wsX16_count (wsV RX16 179 RX16 yX16_flags wsX16_flags) := goodIn_app (goodIn_of _ (by decide +kernel)) ggX16_count_X16_flags
set_option maxRecDepth 20000 in
theorem ggX16_count_J6_bitCount_0f7a4 : GoodIn wsX16_count wsJ6_bitCount_0f7a4 := goodIn_r _ [253, 254, 255, 256] (by decide +kernel) (by decide +kernel)
set_option maxRecDepth 20000 in
theorem gX16_count_J6_bitCount_0f7a4 : GoodIn wsX16_count (va_wsS RX16 239 yJ6_bitCount_0f7a4 wsJ6_bitCount_0f7a4) := goodIn_app (goodIn_of _ (by decide +kernel)) ggX16_count_J6_bitCount_0f7a4
set_option maxRecDepth 20000 in
theorem ggX16_count_X16_ofLineNow : GoodIn wsX16_count wsX16_ofLineNow := goodIn_r _ [260, 1, 3, 261, 262, 263, 264, 265, 266, 267, 105, 106, 11, 107, 13, 108, 109, 110, 111, 112, 113, 114, 115, 116, 117, 118, 119, 29, 236, 43, 44, 17, 45, 22, 273, 274, 275, 276, 277, 278, 291, 292, 293, 282, 283, 284, 285, 286, 287, 288, 289, 290, 279, 280, 281] (by decide +kernel) (by decide +kernel)
set_option maxRecDepth 20000 in
theorem gX16_count_X16_ofLineNow : GoodIn wsX16_count (wsV RX16 116 RX16 yX16_ofLineNow wsX16_ofLineNow) := goodIn_app (goodIn_of _ (by decide +kernel)) ggX16_count_X16_ofLineNow
set_option maxRecDepth 20000 in
theorem ggX16_count_X16_wanted : GoodIn wsX16_count wsX16_wanted := goodIn_r _ [271, 1, 2, 272, 8, 9, 10, 11, 12, 13, 273, 274, 275, 276, 277, 278, 282, 283, 284, 285, 286, 287, 288, 289, 290, 279, 280, 281] (by decide +kernel) (by decide +kernel)
set_option maxRecDepth 20000 in
theorem gX16_count_X16_wanted : GoodIn wsX16_count (wsV RX16 242 RX16 yX16_wanted wsX16_wanted) := goodIn_app (goodIn_of _ (by decide +kernel)) ggX16_count_X16_wanted
theorem dX16_count_0 : decode cX16_count 0 = .ok (.iconst 0, 1) := by decide +kernel
theorem dX16_count_1 : decode cX16_count 1 = .ok (.istore_n 3, 1) := by decide +kernel
theorem dX16_count_2 : decode cX16_count 2 = .ok (.iload_n 2, 1) := by decide +kernel
theorem dX16_count_3 : decode cX16_count 3 = .ok (.tableswitch 151 0 5 #[37, 48, 59, 67, 75, 114], 37) := by decide +kernel
theorem dX16_count_40 : decode cX16_count 40 = .ok (.aload_n 0, 1) := by decide +kernel
theorem dX16_count_41 : decode cX16_count 41 = .ok (.getfield 10, 3) := by decide +kernel
theorem dX16_count_44 : decode cX16_count 44 = .ok (.getfield 36, 3) := by decide +kernel
theorem dX16_count_47 : decode cX16_count 47 = .ok (.invokevirtual 40, 3) := by decide +kernel
theorem dX16_count_50 : decode cX16_count 50 = .ok (.ireturn, 1) := by decide +kernel
theorem dX16_count_51 : decode cX16_count 51 = .ok (.aload_n 0, 1) := by decide +kernel
theorem dX16_count_52 : decode cX16_count 52 = .ok (.getfield 10, 3) := by decide +kernel
theorem dX16_count_55 : decode cX16_count 55 = .ok (.getfield 64, 3) := by decide +kernel
theorem dX16_count_58 : decode cX16_count 58 = .ok (.invokevirtual 40, 3) := by decide +kernel
theorem dX16_count_61 : decode cX16_count 61 = .ok (.ireturn, 1) := by decide +kernel
theorem dX16_count_62 : decode cX16_count 62 = .ok (.aload_n 1, 1) := by decide +kernel
theorem dX16_count_63 : decode cX16_count 63 = .ok (.invokevirtual 156, 3) := by decide +kernel
theorem dX16_count_66 : decode cX16_count 66 = .ok (.invokevirtual 40, 3) := by decide +kernel
theorem dX16_count_69 : decode cX16_count 69 = .ok (.ireturn, 1) := by decide +kernel
theorem dX16_count_70 : decode cX16_count 70 = .ok (.aload_n 0, 1) := by decide +kernel
theorem dX16_count_71 : decode cX16_count 71 = .ok (.getfield 10, 3) := by decide +kernel
theorem dX16_count_74 : decode cX16_count 74 = .ok (.invokevirtual 71, 3) := by decide +kernel
theorem dX16_count_77 : decode cX16_count 77 = .ok (.ireturn, 1) := by decide +kernel
theorem dX16_count_78 : decode cX16_count 78 = .ok (.iconst 0, 1) := by decide +kernel
theorem dX16_count_79 : decode cX16_count 79 = .ok (.istore 4, 2) := by decide +kernel
theorem dX16_count_81 : decode cX16_count 81 = .ok (.iload 4, 2) := by decide +kernel
theorem dX16_count_83 : decode cX16_count 83 = .ok (.aload_n 0, 1) := by decide +kernel
theorem dX16_count_84 : decode cX16_count 84 = .ok (.getfield 10, 3) := by decide +kernel
theorem dX16_count_87 : decode cX16_count 87 = .ok (.getfield 36, 3) := by decide +kernel
theorem dX16_count_90 : decode cX16_count 90 = .ok (.invokevirtual 40, 3) := by decide +kernel
theorem dX16_count_93 : decode cX16_count 93 = .ok (.if_icmp .ge 22, 3) := by decide +kernel
theorem dX16_count_96 : decode cX16_count 96 = .ok (.iload_n 3, 1) := by decide +kernel
theorem dX16_count_97 : decode cX16_count 97 = .ok (.aload_n 0, 1) := by decide +kernel
theorem dX16_count_98 : decode cX16_count 98 = .ok (.aload_n 1, 1) := by decide +kernel
theorem dX16_count_99 : decode cX16_count 99 = .ok (.iload 4, 2) := by decide +kernel
theorem dX16_count_101 : decode cX16_count 101 = .ok (.invokevirtual 179, 3) := by decide +kernel
theorem dX16_count_104 : decode cX16_count 104 = .ok (.invokestatic 239, 3) := by decide +kernel
theorem dX16_count_107 : decode cX16_count 107 = .ok (.iadd, 1) := by decide +kernel
theorem dX16_count_108 : decode cX16_count 108 = .ok (.istore_n 3, 1) := by decide +kernel
theorem dX16_count_109 : decode cX16_count 109 = .ok (.iinc 4 1, 3) := by decide +kernel
theorem dX16_count_112 : decode cX16_count 112 = .ok (.goto (-31), 3) := by decide +kernel
theorem dX16_count_115 : decode cX16_count 115 = .ok (.iload_n 3, 1) := by decide +kernel
theorem dX16_count_116 : decode cX16_count 116 = .ok (.ireturn, 1) := by decide +kernel
theorem dX16_count_117 : decode cX16_count 117 = .ok (.iconst 0, 1) := by decide +kernel
theorem dX16_count_118 : decode cX16_count 118 = .ok (.istore 4, 2) := by decide +kernel
theorem dX16_count_120 : decode cX16_count 120 = .ok (.iload 4, 2) := by decide +kernel
theorem dX16_count_122 : decode cX16_count 122 = .ok (.aload_n 0, 1) := by decide +kernel
theorem dX16_count_123 : decode cX16_count 123 = .ok (.getfield 10, 3) := by decide +kernel
theorem dX16_count_126 : decode cX16_count 126 = .ok (.getfield 64, 3) := by decide +kernel
theorem dX16_count_129 : decode cX16_count 129 = .ok (.invokevirtual 40, 3) := by decide +kernel
theorem dX16_count_132 : decode cX16_count 132 = .ok (.if_icmp .ge 20, 3) := by decide +kernel
theorem dX16_count_135 : decode cX16_count 135 = .ok (.iload_n 3, 1) := by decide +kernel
theorem dX16_count_136 : decode cX16_count 136 = .ok (.aload_n 0, 1) := by decide +kernel
theorem dX16_count_137 : decode cX16_count 137 = .ok (.aload_n 1, 1) := by decide +kernel
theorem dX16_count_138 : decode cX16_count 138 = .ok (.iload 4, 2) := by decide +kernel
theorem dX16_count_140 : decode cX16_count 140 = .ok (.iconst 5, 1) := by decide +kernel
theorem dX16_count_141 : decode cX16_count 141 = .ok (.invokevirtual 116, 3) := by decide +kernel
theorem dX16_count_144 : decode cX16_count 144 = .ok (.iadd, 1) := by decide +kernel
theorem dX16_count_145 : decode cX16_count 145 = .ok (.istore_n 3, 1) := by decide +kernel
theorem dX16_count_146 : decode cX16_count 146 = .ok (.iinc 4 1, 3) := by decide +kernel
theorem dX16_count_149 : decode cX16_count 149 = .ok (.goto (-29), 3) := by decide +kernel
theorem dX16_count_152 : decode cX16_count 152 = .ok (.iload_n 3, 1) := by decide +kernel
theorem dX16_count_153 : decode cX16_count 153 = .ok (.ireturn, 1) := by decide +kernel
theorem dX16_count_154 : decode cX16_count 154 = .ok (.iconst 0, 1) := by decide +kernel
theorem dX16_count_155 : decode cX16_count 155 = .ok (.istore 4, 2) := by decide +kernel
theorem dX16_count_157 : decode cX16_count 157 = .ok (.iload 4, 2) := by decide +kernel
theorem dX16_count_159 : decode cX16_count 159 = .ok (.aload_n 0, 1) := by decide +kernel
theorem dX16_count_160 : decode cX16_count 160 = .ok (.getfield 10, 3) := by decide +kernel
theorem dX16_count_163 : decode cX16_count 163 = .ok (.getfield 64, 3) := by decide +kernel
theorem dX16_count_166 : decode cX16_count 166 = .ok (.invokevirtual 40, 3) := by decide +kernel
theorem dX16_count_169 : decode cX16_count 169 = .ok (.if_icmp .ge 21, 3) := by decide +kernel
theorem dX16_count_172 : decode cX16_count 172 = .ok (.iload_n 3, 1) := by decide +kernel
theorem dX16_count_173 : decode cX16_count 173 = .ok (.aload_n 0, 1) := by decide +kernel
theorem dX16_count_174 : decode cX16_count 174 = .ok (.aload_n 1, 1) := by decide +kernel
theorem dX16_count_175 : decode cX16_count 175 = .ok (.iload 4, 2) := by decide +kernel
theorem dX16_count_177 : decode cX16_count 177 = .ok (.invokevirtual 242, 3) := by decide +kernel
theorem dX16_count_180 : decode cX16_count 180 = .ok (.invokestatic 245, 3) := by decide +kernel
theorem dX16_count_183 : decode cX16_count 183 = .ok (.istore_n 3, 1) := by decide +kernel
theorem dX16_count_184 : decode cX16_count 184 = .ok (.iinc 4 1, 3) := by decide +kernel
theorem dX16_count_187 : decode cX16_count 187 = .ok (.goto (-30), 3) := by decide +kernel
theorem dX16_count_190 : decode cX16_count 190 = .ok (.iload_n 3, 1) := by decide +kernel
theorem dX16_count_191 : decode cX16_count 191 = .ok (.ireturn, 1) := by decide +kernel
set_option maxRecDepth 20000 in
theorem ggX16_wanted_Jx4a65c_size_8abf5 : GoodIn wsX16_wanted wsJx4a65c_size_8abf5 := goodIn_r _ [8, 9, 25, 26, 27] (by decide +kernel) (by decide +kernel)
set_option maxRecDepth 20000 in
theorem gX16_wanted_Jx4a65c_size_8abf5 : GoodIn wsX16_wanted (wsV RX16 40 RJx4a65c yJx4a65c_size_8abf5 wsJx4a65c_size_8abf5) := goodIn_app (goodIn_of _ (by decide +kernel)) ggX16_wanted_Jx4a65c_size_8abf5
theorem dX16_wanted_0 : decode cX16_wanted 0 = .ok (.iconst 0, 1) := by decide +kernel
theorem dX16_wanted_1 : decode cX16_wanted 1 = .ok (.istore_n 3, 1) := by decide +kernel
theorem dX16_wanted_2 : decode cX16_wanted 2 = .ok (.iconst 0, 1) := by decide +kernel
theorem dX16_wanted_3 : decode cX16_wanted 3 = .ok (.istore 4, 2) := by decide +kernel
theorem dX16_wanted_5 : decode cX16_wanted 5 = .ok (.iload 4, 2) := by decide +kernel
theorem dX16_wanted_7 : decode cX16_wanted 7 = .ok (.aload_n 0, 1) := by decide +kernel
theorem dX16_wanted_8 : decode cX16_wanted 8 = .ok (.getfield 10, 3) := by decide +kernel
theorem dX16_wanted_11 : decode cX16_wanted 11 = .ok (.getfield 36, 3) := by decide +kernel
theorem dX16_wanted_14 : decode cX16_wanted 14 = .ok (.invokevirtual 40, 3) := by decide +kernel
theorem dX16_wanted_17 : decode cX16_wanted 17 = .ok (.if_icmp .ge 29, 3) := by decide +kernel
theorem dX16_wanted_20 : decode cX16_wanted 20 = .ok (.iload_n 3, 1) := by decide +kernel
theorem dX16_wanted_21 : decode cX16_wanted 21 = .ok (.aload_n 1, 1) := by decide +kernel
theorem dX16_wanted_22 : decode cX16_wanted 22 = .ok (.getfield 140, 3) := by decide +kernel
theorem dX16_wanted_25 : decode cX16_wanted 25 = .ok (.iload_n 2, 1) := by decide +kernel
theorem dX16_wanted_26 : decode cX16_wanted 26 = .ok (.aaload, 1) := by decide +kernel
theorem dX16_wanted_27 : decode cX16_wanted 27 = .ok (.iload 4, 2) := by decide +kernel
theorem dX16_wanted_29 : decode cX16_wanted 29 = .ok (.baload, 1) := by decide +kernel
theorem dX16_wanted_30 : decode cX16_wanted 30 = .ok (.ifCond .eq 7, 3) := by decide +kernel
theorem dX16_wanted_33 : decode cX16_wanted 33 = .ok (.iconst 1, 1) := by decide +kernel
theorem dX16_wanted_34 : decode cX16_wanted 34 = .ok (.goto 4, 3) := by decide +kernel
theorem dX16_wanted_37 : decode cX16_wanted 37 = .ok (.iconst 0, 1) := by decide +kernel
theorem dX16_wanted_38 : decode cX16_wanted 38 = .ok (.iadd, 1) := by decide +kernel
theorem dX16_wanted_39 : decode cX16_wanted 39 = .ok (.istore_n 3, 1) := by decide +kernel
theorem dX16_wanted_40 : decode cX16_wanted 40 = .ok (.iinc 4 1, 3) := by decide +kernel
theorem dX16_wanted_43 : decode cX16_wanted 43 = .ok (.goto (-38), 3) := by decide +kernel
theorem dX16_wanted_46 : decode cX16_wanted 46 = .ok (.iload_n 3, 1) := by decide +kernel
theorem dX16_wanted_47 : decode cX16_wanted 47 = .ok (.ireturn, 1) := by decide +kernel
set_option maxRecDepth 20000 in
theorem ggX16_many_X16_isIn : GoodIn wsX16_many wsX16_isIn := goodIn_r _ [4] (by decide +kernel) (by decide +kernel)
set_option maxRecDepth 20000 in
theorem gX16_many_X16_isIn : GoodIn wsX16_many (va_wsS RX16 29 yX16_isIn wsX16_isIn) := goodIn_app (goodIn_of _ (by decide +kernel)) ggX16_many_X16_isIn
set_option maxRecDepth 20000 in
theorem ggX16_many_X16_start : GoodIn wsX16_many wsX16_start := goodIn_r _ [8, 9, 10, 11, 12, 3, 13, 380, 381, 382, 383] (by decide +kernel) (by decide +kernel)
set_option maxRecDepth 20000 in
theorem gX16_many_X16_start : GoodIn wsX16_many (wsV RX16 33 RX16 yX16_start wsX16_start) := goodIn_app (goodIn_of _ (by decide +kernel)) ggX16_many_X16_start
set_option maxRecDepth 20000 in
theorem ggX16_many_X16_check : GoodIn wsX16_many wsX16_check := goodIn_r _ [17, 18, 19, 20, 21, 22, 23, 24, 25, 26, 27, 28, 29, 30, 31, 32, 33, 34, 35, 36, 37, 38, 39, 40, 41, 42, 43, 44, 45, 46, 47, 48, 49, 50, 51, 52, 53, 54, 55, 56, 57, 58, 59, 60, 61, 62, 63, 64, 65, 66, 67, 68, 69, 70, 71, 72, 73, 74, 75, 76, 77, 78, 79, 80, 81, 82, 83, 84, 85, 86, 87, 88, 89, 90, 91, 92, 93, 94, 95, 96, 97, 98, 99, 100, 101, 102, 103, 104, 105, 106, 107, 108, 109, 110, 111, 112, 113, 114, 115, 116, 117, 118, 119, 120, 121, 122, 123, 124, 125, 126, 127, 128, 129, 130, 131, 132, 133, 134, 135, 136, 137, 138, 139, 140, 141, 142, 143, 144, 145, 146, 147, 148, 149, 150, 151, 152, 153, 154, 155, 156, 157, 158, 159, 160, 161, 162, 163, 164, 165, 166, 167, 168, 169, 170, 171, 172, 173, 174, 175, 176, 177, 178, 179, 180, 181, 182, 183, 184, 185, 186, 187, 188, 189, 190, 191, 192, 193, 194, 195, 196, 197, 198, 199, 200, 201, 202, 203, 204, 205, 206, 207, 208, 209, 210, 2, 3, 4, 211, 212, 213, 214, 215, 216, 217, 218, 219, 220, 221, 222, 223, 224, 225, 226, 227, 228, 229, 230, 231, 232, 233, 234, 235, 236, 237, 238, 239, 240, 241, 242, 243, 244, 245, 246, 247, 248, 249, 250, 251, 252, 253, 254, 255, 256, 257, 258, 259, 260, 261, 262, 263, 264, 265, 384, 385, 386, 387, 388, 389, 390, 391, 392, 380, 381, 382, 383, 393, 394, 395, 396, 397, 398, 399, 400, 401] (by decide +kernel) (by decide +kernel)
set_option maxRecDepth 20000 in
theorem gX16_many_X16_check : GoodIn wsX16_many (wsV RX16 112 RX16 yX16_check wsX16_check) := goodIn_app (goodIn_of _ (by decide +kernel)) ggX16_many_X16_check
set_option maxRecDepth 20000 in
theorem ggX16_many_X16_count : GoodIn wsX16_many wsX16_count := goodIn_r _ [269, 21, 270, 271, 272, 134, 135, 136, 273, 45, 46, 47, 48, 49, 274, 275, 276, 20, 277, 54, 55, 41, 28, 31, 36, 59, 60, 61, 62, 63, 64, 65, 66, 67, 68, 69, 70, 71, 72, 73, 26, 27, 278, 279, 280, 281, 115, 116, 117, 118, 119, 120, 121, 122, 123, 124, 125, 126, 127, 128, 129, 130, 131, 132, 133, 137, 138, 139, 140, 141, 142, 143, 144, 145, 146, 147, 148, 149, 150, 151, 152, 153, 154, 155, 156, 157, 158, 159, 160, 161, 162, 163, 164, 165, 166, 282, 283, 284, 285, 29, 30, 56, 39, 38, 74, 75, 76, 77, 78, 79, 80, 81, 82, 83, 84, 85, 86, 87, 88, 89, 286, 251, 252, 202, 253, 254, 255, 256, 199, 200, 201, 203, 204, 205, 206, 207, 208, 209, 210, 2, 3, 4, 211, 212, 95, 96, 97, 98, 99, 287, 288, 289, 290, 291, 292, 243, 244, 245, 293, 294, 295, 296, 193, 57, 34, 42, 297, 298, 299, 300, 227, 228, 301, 302, 303, 304, 305, 306, 307, 308, 309, 310, 311, 312, 313, 314, 315, 316, 317, 318, 319, 320, 321, 322, 323, 324, 325, 326, 327, 328, 329, 229, 220, 221, 216, 222, 218, 330, 331, 332, 333, 334, 335, 336, 44, 337, 338, 262, 263, 264, 265, 33, 43, 257, 258, 259, 260, 261, 214, 215, 217, 339, 340, 341, 342, 343, 344, 345, 346, 347, 348, 349, 350, 351, 352, 353, 354, 355, 356, 357, 194, 358, 359, 360, 361, 362, 363, 364, 365, 366, 367, 368, 369, 370, 371, 372, 373, 374, 375, 376, 377, 378, 379, 380, 381, 382, 383, 393, 394, 395, 396, 397, 384, 385, 386, 387, 388, 389, 390, 391, 392, 398, 399, 400, 401, 402, 403, 404, 405] (by decide +kernel) (by decide +kernel)
set_option maxRecDepth 20000 in
theorem gX16_many_X16_count : GoodIn wsX16_many (wsV RX16 248 RX16 yX16_count wsX16_count) := goodIn_app (goodIn_of _ (by decide +kernel)) ggX16_many_X16_count
theorem dX16_many_0 : decode cX16_many 0 = .ok (.aload_n 0, 1) := by decide +kernel
theorem dX16_many_1 : decode cX16_many 1 = .ok (.iload_n 1, 1) := by decide +kernel
theorem dX16_many_2 : decode cX16_many 2 = .ok (.iconst 0, 1) := by decide +kernel
theorem dX16_many_3 : decode cX16_many 3 = .ok (.bipush 6, 2) := by decide +kernel
theorem dX16_many_5 : decode cX16_many 5 = .ok (.invokestatic 29, 3) := by decide +kernel
theorem dX16_many_8 : decode cX16_many 8 = .ok (.ifCond .ne 7, 3) := by decide +kernel
theorem dX16_many_11 : decode cX16_many 11 = .ok (.iconst 1, 1) := by decide +kernel
theorem dX16_many_12 : decode cX16_many 12 = .ok (.goto 4, 3) := by decide +kernel
theorem dX16_many_15 : decode cX16_many 15 = .ok (.iconst 0, 1) := by decide +kernel
theorem dX16_many_16 : decode cX16_many 16 = .ok (.iconst 1, 1) := by decide +kernel
theorem dX16_many_17 : decode cX16_many 17 = .ok (.invokevirtual 33, 3) := by decide +kernel
theorem dX16_many_20 : decode cX16_many 20 = .ok (.ifCond .eq 7, 3) := by decide +kernel
theorem dX16_many_23 : decode cX16_many 23 = .ok (.iconst 0, 1) := by decide +kernel
theorem dX16_many_24 : decode cX16_many 24 = .ok (.goto 12, 3) := by decide +kernel
theorem dX16_many_27 : decode cX16_many 27 = .ok (.aload_n 0, 1) := by decide +kernel
theorem dX16_many_28 : decode cX16_many 28 = .ok (.aload_n 0, 1) := by decide +kernel
theorem dX16_many_29 : decode cX16_many 29 = .ok (.invokevirtual 112, 3) := by decide +kernel
theorem dX16_many_32 : decode cX16_many 32 = .ok (.iload_n 1, 1) := by decide +kernel
theorem dX16_many_33 : decode cX16_many 33 = .ok (.invokevirtual 248, 3) := by decide +kernel
theorem dX16_many_36 : decode cX16_many 36 = .ok (.ireturn, 1) := by decide +kernel
set_option maxRecDepth 20000 in
theorem ggX16_meanRead_X16_kept : GoodIn wsX16_meanRead wsX16_kept := goodIn_r _ [9, 2, 3, 10, 11, 12, 13, 14, 15, 16, 17, 18, 19, 37, 38, 39, 40, 41, 42, 43, 44, 45, 46, 47, 48, 49, 50, 51, 52, 53, 54, 55, 56, 57, 58, 59, 60, 61] (by decide +kernel) (by decide +kernel)
set_option maxRecDepth 20000 in
theorem gX16_meanRead_X16_kept : GoodIn wsX16_meanRead (wsV RX16 236 RX16 yX16_kept wsX16_kept) := goodIn_app (goodIn_of _ (by decide +kernel)) ggX16_meanRead_X16_kept
set_option maxRecDepth 20000 in
theorem ggX16_meanRead_Jx4a65c_get_915e3 : GoodIn wsX16_meanRead wsJx4a65c_get_915e3 := goodIn_r _ [23, 19, 24, 25, 26, 27, 28, 29, 30, 31, 32, 33, 34, 17, 35, 36, 59, 60, 61] (by decide +kernel) (by decide +kernel)
set_option maxRecDepth 20000 in
theorem gX16_meanRead_Jx4a65c_get_915e3 : GoodIn wsX16_meanRead (wsV RX16 78 RJx4a65c yJx4a65c_get_915e3 wsJx4a65c_get_915e3) := goodIn_app (goodIn_of _ (by decide +kernel)) ggX16_meanRead_Jx4a65c_get_915e3
theorem dX16_meanRead_0 : decode cX16_meanRead 0 = .ok (.aload_n 0, 1) := by decide +kernel
theorem dX16_meanRead_1 : decode cX16_meanRead 1 = .ok (.iconst 0, 1) := by decide +kernel
theorem dX16_meanRead_2 : decode cX16_meanRead 2 = .ok (.putfield 16, 3) := by decide +kernel
theorem dX16_meanRead_5 : decode cX16_meanRead 5 = .ok (.lconst 0, 1) := by decide +kernel
theorem dX16_meanRead_6 : decode cX16_meanRead 6 = .ok (.lstore_n 1, 1) := by decide +kernel
theorem dX16_meanRead_7 : decode cX16_meanRead 7 = .ok (.iconst 0, 1) := by decide +kernel
theorem dX16_meanRead_8 : decode cX16_meanRead 8 = .ok (.istore_n 3, 1) := by decide +kernel
theorem dX16_meanRead_9 : decode cX16_meanRead 9 = .ok (.iconst 0, 1) := by decide +kernel
theorem dX16_meanRead_10 : decode cX16_meanRead 10 = .ok (.istore 4, 2) := by decide +kernel
theorem dX16_meanRead_12 : decode cX16_meanRead 12 = .ok (.iload 4, 2) := by decide +kernel
theorem dX16_meanRead_14 : decode cX16_meanRead 14 = .ok (.aload_n 0, 1) := by decide +kernel
theorem dX16_meanRead_15 : decode cX16_meanRead 15 = .ok (.invokevirtual 236, 3) := by decide +kernel
theorem dX16_meanRead_18 : decode cX16_meanRead 18 = .ok (.if_icmp .ge 56, 3) := by decide +kernel
theorem dX16_meanRead_21 : decode cX16_meanRead 21 = .ok (.aload_n 0, 1) := by decide +kernel
theorem dX16_meanRead_22 : decode cX16_meanRead 22 = .ok (.getfield 214, 3) := by decide +kernel
theorem dX16_meanRead_25 : decode cX16_meanRead 25 = .ok (.getfield 229, 3) := by decide +kernel
theorem dX16_meanRead_28 : decode cX16_meanRead 28 = .ok (.iload 4, 2) := by decide +kernel
theorem dX16_meanRead_30 : decode cX16_meanRead 30 = .ok (.invokevirtual 78, 3) := by decide +kernel
theorem dX16_meanRead_33 : decode cX16_meanRead 33 = .ok (.checkcast 160, 3) := by decide +kernel
theorem dX16_meanRead_36 : decode cX16_meanRead 36 = .ok (.iconst 0, 1) := by decide +kernel
theorem dX16_meanRead_37 : decode cX16_meanRead 37 = .ok (.iaload, 1) := by decide +kernel
theorem dX16_meanRead_38 : decode cX16_meanRead 38 = .ok (.ifCond .eq 6, 3) := by decide +kernel
theorem dX16_meanRead_41 : decode cX16_meanRead 41 = .ok (.goto 27, 3) := by decide +kernel
theorem dX16_meanRead_44 : decode cX16_meanRead 44 = .ok (.lload_n 1, 1) := by decide +kernel
theorem dX16_meanRead_45 : decode cX16_meanRead 45 = .ok (.aload_n 0, 1) := by decide +kernel
theorem dX16_meanRead_46 : decode cX16_meanRead 46 = .ok (.getfield 214, 3) := by decide +kernel
theorem dX16_meanRead_49 : decode cX16_meanRead 49 = .ok (.getfield 229, 3) := by decide +kernel
theorem dX16_meanRead_52 : decode cX16_meanRead 52 = .ok (.iload 4, 2) := by decide +kernel
theorem dX16_meanRead_54 : decode cX16_meanRead 54 = .ok (.invokevirtual 78, 3) := by decide +kernel
theorem dX16_meanRead_57 : decode cX16_meanRead 57 = .ok (.checkcast 160, 3) := by decide +kernel
theorem dX16_meanRead_60 : decode cX16_meanRead 60 = .ok (.iconst 1, 1) := by decide +kernel
theorem dX16_meanRead_61 : decode cX16_meanRead 61 = .ok (.iaload, 1) := by decide +kernel
theorem dX16_meanRead_62 : decode cX16_meanRead 62 = .ok (.i2l, 1) := by decide +kernel
theorem dX16_meanRead_63 : decode cX16_meanRead 63 = .ok (.ladd, 1) := by decide +kernel
theorem dX16_meanRead_64 : decode cX16_meanRead 64 = .ok (.lstore_n 1, 1) := by decide +kernel
theorem dX16_meanRead_65 : decode cX16_meanRead 65 = .ok (.iinc 3 1, 3) := by decide +kernel
theorem dX16_meanRead_68 : decode cX16_meanRead 68 = .ok (.iinc 4 1, 3) := by decide +kernel
theorem dX16_meanRead_71 : decode cX16_meanRead 71 = .ok (.goto (-59), 3) := by decide +kernel
theorem dX16_meanRead_74 : decode cX16_meanRead 74 = .ok (.iload_n 3, 1) := by decide +kernel
theorem dX16_meanRead_75 : decode cX16_meanRead 75 = .ok (.ifCond .ne 7, 3) := by decide +kernel
theorem dX16_meanRead_78 : decode cX16_meanRead 78 = .ok (.dconst 0, 1) := by decide +kernel
theorem dX16_meanRead_79 : decode cX16_meanRead 79 = .ok (.goto 8, 3) := by decide +kernel
theorem dX16_meanRead_82 : decode cX16_meanRead 82 = .ok (.lload_n 1, 1) := by decide +kernel
theorem dX16_meanRead_83 : decode cX16_meanRead 83 = .ok (.l2d, 1) := by decide +kernel
theorem dX16_meanRead_84 : decode cX16_meanRead 84 = .ok (.iload_n 3, 1) := by decide +kernel
theorem dX16_meanRead_85 : decode cX16_meanRead 85 = .ok (.i2d, 1) := by decide +kernel
theorem dX16_meanRead_86 : decode cX16_meanRead 86 = .ok (.ddiv, 1) := by decide +kernel
theorem dX16_meanRead_87 : decode cX16_meanRead 87 = .ok (.dreturn, 1) := by decide +kernel
set_option maxRecDepth 20000 in
theorem ggX16_faultsWithoutNow_X14_copy : GoodIn wsX16_faultsWithoutNow wsX14_copy := goodIn_r _ [10, 11, 12, 9, 13, 14, 15, 16, 17, 18, 19, 20, 21, 22, 23, 24, 25, 26, 27, 28, 29, 30, 31, 32, 33, 34, 35, 36, 37, 38, 39, 40, 41, 42, 43, 44, 45, 46, 47, 48, 49, 50, 51, 52, 53, 54, 55, 56, 57, 58, 59, 60, 61, 62, 63, 64, 65, 66, 67, 68, 69, 70, 71, 72, 73, 74, 75, 76, 77, 78, 79, 80, 81, 82, 83, 84, 85, 86, 87, 88, 344, 345, 355, 356, 357] (by decide +kernel) (by decide +kernel)
set_option maxRecDepth 20000 in
theorem gX16_faultsWithoutNow_X14_copy : GoodIn wsX16_faultsWithoutNow (wsV RX16 207 RX14 yX14_copy wsX14_copy) := goodIn_app (goodIn_of _ (by decide +kernel)) ggX16_faultsWithoutNow_X14_copy
set_option maxRecDepth 20000 in
theorem ggX16_faultsWithoutNow_Jx4a65c_remove_915e3 : GoodIn wsX16_faultsWithoutNow wsJx4a65c_remove_915e3 := goodIn_r _ [92, 45, 28, 93, 94, 95, 96, 97, 98, 99, 100, 101, 102, 103, 23, 104, 43, 44, 46, 47, 48, 49, 355, 356, 357] (by decide +kernel) (by decide +kernel)
set_option maxRecDepth 20000 in
theorem gX16_faultsWithoutNow_Jx4a65c_remove_915e3 : GoodIn wsX16_faultsWithoutNow (wsV RX16 92 RJx4a65c yJx4a65c_remove_915e3 wsJx4a65c_remove_915e3) := goodIn_app (goodIn_of _ (by decide +kernel)) ggX16_faultsWithoutNow_Jx4a65c_remove_915e3
set_option maxRecDepth 20000 in
theorem ggX16_faultsWithoutNow_X11_init : GoodIn wsX16_faultsWithoutNow wsX11_init := goodIn_r _ [107, 108, 19, 20, 109, 110, 111, 112, 113, 114, 115, 116, 117, 118, 119, 120, 121, 122, 123, 124, 125, 126, 127, 23, 128, 45, 129, 130, 131, 5, 132, 133, 22, 134, 135, 136, 137, 25, 26, 27, 28, 29, 30, 31, 32, 33, 34, 35, 36, 37, 38, 138, 139, 140, 141, 93, 94, 95, 96, 97, 98, 99, 100, 142, 143, 144, 145, 146, 147, 148, 149, 150, 151, 152, 153, 154, 155, 156, 157, 158, 159, 160, 161, 162, 163, 164, 165, 166, 167, 168, 169, 170, 171, 172, 173, 174, 43, 44, 175, 176, 177, 178, 179, 180, 181, 182, 72, 73, 74, 75, 76, 77, 69, 78, 79, 80, 81, 82, 83, 84, 85, 86, 87, 88, 54, 55, 56, 57, 58, 59, 60, 61, 62, 63, 64, 65, 66, 67, 68, 70, 71, 47, 48, 49, 183, 90, 91, 92, 101, 102, 103, 104, 46, 184, 185, 186, 187, 188, 189, 190, 191, 192, 193, 194, 195, 196, 197, 198, 199, 200, 201, 202, 203, 204, 205, 206, 207, 208, 209, 9, 210, 211, 212, 213, 214, 13, 215, 216, 217, 218, 219, 220, 221, 222, 223, 224, 225, 226, 227, 228, 229, 230, 231, 232, 233, 234, 235, 14, 236, 237, 238, 239, 240, 241, 242, 243, 244, 245, 246, 247, 248, 249, 250, 251, 252, 253, 254, 255, 256, 257, 258, 259, 260, 261, 262, 263, 264, 265, 266, 267, 268, 269, 270, 271, 272, 273, 346, 347, 348, 349, 350, 351, 352, 353, 354, 344, 345, 355, 356, 357, 358, 359, 360, 361] (by decide +kernel) (by decide +kernel)
set_option maxRecDepth 20000 in
theorem gX16_faultsWithoutNow_X11_init : GoodIn wsX16_faultsWithoutNow (wsX11_init) := ggX16_faultsWithoutNow_X11_init
set_option maxRecDepth 20000 in
theorem ggX16_faultsWithoutNow_X11_faults : GoodIn wsX16_faultsWithoutNow wsX11_faults := goodIn_r _ [277, 133, 22, 23, 122, 109, 112, 117, 137, 25, 26, 27, 28, 29, 30, 31, 32, 33, 34, 35, 36, 37, 38, 19, 20, 278, 279, 280, 5, 281, 171, 172, 173, 174, 43, 44, 45, 175, 176, 177, 178, 179, 180, 181, 182, 72, 73, 74, 75, 76, 77, 69, 78, 79, 80, 81, 82, 83, 84, 85, 86, 87, 88, 54, 55, 56, 57, 58, 59, 60, 61, 62, 63, 64, 65, 66, 67, 68, 70, 71, 47, 48, 49, 282, 283, 284, 285, 110, 111, 134, 120, 119, 138, 139, 140, 141, 93, 94, 95, 96, 97, 98, 99, 100, 142, 143, 144, 145, 286, 259, 260, 9, 261, 262, 263, 264, 207, 208, 209, 210, 211, 212, 213, 214, 13, 215, 216, 126, 127, 128, 217, 218, 219, 220, 221, 151, 152, 153, 154, 155, 287, 288, 289, 290, 291, 292, 251, 252, 253, 293, 294, 295, 296, 201, 135, 115, 123, 297, 298, 299, 300, 14, 236, 301, 302, 303, 304, 305, 306, 307, 308, 309, 310, 311, 312, 313, 314, 315, 316, 317, 318, 319, 320, 321, 322, 323, 324, 325, 326, 327, 328, 329, 237, 229, 230, 225, 231, 227, 330, 331, 332, 333, 334, 335, 336, 125, 337, 338, 270, 271, 272, 273, 114, 124, 265, 266, 267, 268, 269, 223, 224, 226, 355, 356, 357, 346, 347, 348, 349, 350, 351, 352, 353, 354, 344, 345, 358, 359, 360, 361, 362, 363, 364, 365] (by decide +kernel) (by decide +kernel)
set_option maxRecDepth 20000 in
theorem gX16_faultsWithoutNow_X11_faults : GoodIn wsX16_faultsWithoutNow (wsV RX16 156 RX11 yX11_faults wsX11_faults) := goodIn_app (goodIn_of _ (by decide +kernel)) ggX16_faultsWithoutNow_X11_faults
set_option maxRecDepth 20000 in
theorem ggX16_faultsWithoutNow_Jx4a65c_size_8abf5 : GoodIn wsX16_faultsWithoutNow wsJx4a65c_size_8abf5 := goodIn_r _ [128, 45, 355, 356, 357] (by decide +kernel) (by decide +kernel)
set_option maxRecDepth 20000 in
theorem gX16_faultsWithoutNow_Jx4a65c_size_8abf5 : GoodIn wsX16_faultsWithoutNow (wsV RX16 40 RJx4a65c yJx4a65c_size_8abf5 wsJx4a65c_size_8abf5) := goodIn_app (goodIn_of _ (by decide +kernel)) ggX16_faultsWithoutNow_Jx4a65c_size_8abf5
theorem dX16_faultsWithoutNow_0 : decode cX16_faultsWithoutNow 0 = .ok (.aload_n 0, 1) := by decide +kernel
theorem dX16_faultsWithoutNow_1 : decode cX16_faultsWithoutNow 1 = .ok (.getfield 10, 3) := by decide +kernel
theorem dX16_faultsWithoutNow_4 : decode cX16_faultsWithoutNow 4 = .ok (.invokevirtual 207, 3) := by decide +kernel
theorem dX16_faultsWithoutNow_7 : decode cX16_faultsWithoutNow 7 = .ok (.astore_n 2, 1) := by decide +kernel
theorem dX16_faultsWithoutNow_8 : decode cX16_faultsWithoutNow 8 = .ok (.aload_n 2, 1) := by decide +kernel
theorem dX16_faultsWithoutNow_9 : decode cX16_faultsWithoutNow 9 = .ok (.getfield 64, 3) := by decide +kernel
theorem dX16_faultsWithoutNow_12 : decode cX16_faultsWithoutNow 12 = .ok (.iload_n 1, 1) := by decide +kernel
theorem dX16_faultsWithoutNow_13 : decode cX16_faultsWithoutNow 13 = .ok (.invokevirtual 92, 3) := by decide +kernel
theorem dX16_faultsWithoutNow_16 : decode cX16_faultsWithoutNow 16 = .ok (.pop, 1) := by decide +kernel
theorem dX16_faultsWithoutNow_17 : decode cX16_faultsWithoutNow 17 = .ok (.new 24, 3) := by decide +kernel
theorem dX16_faultsWithoutNow_20 : decode cX16_faultsWithoutNow 20 = .ok (.dup, 1) := by decide +kernel
theorem dX16_faultsWithoutNow_21 : decode cX16_faultsWithoutNow 21 = .ok (.aload_n 2, 1) := by decide +kernel
theorem dX16_faultsWithoutNow_22 : decode cX16_faultsWithoutNow 22 = .ok (.invokespecial 26, 3) := by decide +kernel
theorem dX16_faultsWithoutNow_25 : decode cX16_faultsWithoutNow 25 = .ok (.invokevirtual 156, 3) := by decide +kernel
theorem dX16_faultsWithoutNow_28 : decode cX16_faultsWithoutNow 28 = .ok (.invokevirtual 40, 3) := by decide +kernel
theorem dX16_faultsWithoutNow_31 : decode cX16_faultsWithoutNow 31 = .ok (.ireturn, 1) := by decide +kernel
set_option maxRecDepth 20000 in
theorem ggX16_faultsWithout_X16_isNoLine : GoodIn wsX16_faultsWithout wsX16_isNoLine := goodIn_r _ [5, 6, 7, 8, 9, 10, 11, 12, 13, 14, 15, 4, 16, 358, 359, 360, 361, 362, 363, 364, 365, 366] (by decide +kernel) (by decide +kernel)
set_option maxRecDepth 20000 in
theorem gX16_faultsWithout_X16_isNoLine : GoodIn wsX16_faultsWithout (wsV RX16 74 RX16 yX16_isNoLine wsX16_isNoLine) := goodIn_app (goodIn_of _ (by decide +kernel)) ggX16_faultsWithout_X16_isNoLine
set_option maxRecDepth 20000 in
theorem ggX16_faultsWithout_X16_start : GoodIn wsX16_faultsWithout wsX16_start := goodIn_r _ [20, 21, 22, 23, 24, 4, 25, 358, 359, 360, 361] (by decide +kernel) (by decide +kernel)
set_option maxRecDepth 20000 in
theorem gX16_faultsWithout_X16_start : GoodIn wsX16_faultsWithout (wsV RX16 33 RX16 yX16_start wsX16_start) := goodIn_app (goodIn_of _ (by decide +kernel)) ggX16_faultsWithout_X16_start
set_option maxRecDepth 20000 in
theorem ggX16_faultsWithout_X16_faultsWithoutNow : GoodIn wsX16_faultsWithout wsX16_faultsWithoutNow := goodIn_r _ [29, 6, 7, 30, 31, 32, 33, 34, 35, 36, 37, 38, 39, 40, 41, 42, 43, 44, 45, 46, 47, 48, 49, 11, 50, 51, 52, 53, 54, 55, 56, 57, 58, 59, 60, 61, 62, 63, 64, 65, 66, 67, 68, 69, 70, 13, 71, 72, 73, 74, 75, 76, 77, 78, 79, 80, 81, 82, 83, 84, 85, 86, 87, 88, 89, 90, 91, 92, 93, 94, 95, 96, 97, 98, 99, 100, 101, 102, 103, 104, 105, 106, 107, 108, 109, 110, 111, 112, 113, 114, 115, 116, 117, 118, 119, 120, 121, 122, 123, 124, 125, 126, 127, 128, 129, 130, 131, 132, 133, 134, 135, 136, 137, 138, 139, 140, 141, 142, 143, 144, 145, 146, 147, 148, 149, 150, 9, 10, 12, 151, 152, 153, 154, 155, 156, 157, 158, 159, 160, 161, 162, 163, 164, 165, 166, 167, 168, 169, 170, 171, 172, 173, 174, 175, 176, 177, 178, 179, 180, 181, 182, 183, 184, 185, 186, 187, 188, 189, 190, 191, 192, 193, 194, 195, 196, 197, 198, 199, 200, 201, 202, 203, 204, 205, 206, 207, 208, 209, 210, 211, 212, 213, 214, 215, 216, 217, 218, 219, 220, 221, 222, 223, 224, 225, 226, 227, 228, 229, 230, 231, 232, 233, 234, 235, 236, 237, 238, 15, 4, 16, 239, 240, 241, 242, 243, 244, 245, 246, 247, 248, 249, 250, 251, 252, 253, 254, 255, 256, 257, 258, 259, 260, 261, 262, 263, 264, 265, 266, 267, 268, 269, 270, 271, 272, 273, 274, 275, 276, 277, 278, 279, 280, 281, 282, 283, 284, 285, 286, 287, 288, 289, 290, 291, 292, 293, 294, 295, 296, 297, 298, 299, 300, 301, 302, 303, 304, 305, 306, 307, 308, 309, 310, 311, 312, 313, 314, 315, 316, 317, 318, 319, 320, 321, 322, 323, 324, 325, 326, 327, 328, 329, 330, 331, 332, 333, 334, 335, 336, 337, 338, 339, 340, 341, 342, 343, 344, 345, 346, 347, 348, 349, 350, 351, 352, 353, 354, 355, 356, 357, 8, 358, 359, 360, 361, 362, 363, 367, 368, 369, 370, 371, 372, 373, 374, 375, 364, 365, 366, 376, 377, 378, 379, 380, 381, 382, 383] (by decide +kernel) (by decide +kernel)
set_option maxRecDepth 20000 in
theorem gX16_faultsWithout_X16_faultsWithoutNow : GoodIn wsX16_faultsWithout (wsV RX16 251 RX16 yX16_faultsWithoutNow wsX16_faultsWithoutNow) := goodIn_app (goodIn_of _ (by decide +kernel)) ggX16_faultsWithout_X16_faultsWithoutNow
theorem dX16_faultsWithout_0 : decode cX16_faultsWithout 0 = .ok (.aload_n 0, 1) := by decide +kernel
theorem dX16_faultsWithout_1 : decode cX16_faultsWithout 1 = .ok (.aload_n 0, 1) := by decide +kernel
theorem dX16_faultsWithout_2 : decode cX16_faultsWithout 2 = .ok (.iload_n 1, 1) := by decide +kernel
theorem dX16_faultsWithout_3 : decode cX16_faultsWithout 3 = .ok (.invokevirtual 74, 3) := by decide +kernel
theorem dX16_faultsWithout_6 : decode cX16_faultsWithout 6 = .ok (.iconst 1, 1) := by decide +kernel
theorem dX16_faultsWithout_7 : decode cX16_faultsWithout 7 = .ok (.invokevirtual 33, 3) := by decide +kernel
theorem dX16_faultsWithout_10 : decode cX16_faultsWithout 10 = .ok (.ifCond .eq 7, 3) := by decide +kernel
theorem dX16_faultsWithout_13 : decode cX16_faultsWithout 13 = .ok (.iconst 0, 1) := by decide +kernel
theorem dX16_faultsWithout_14 : decode cX16_faultsWithout 14 = .ok (.goto 8, 3) := by decide +kernel
theorem dX16_faultsWithout_17 : decode cX16_faultsWithout 17 = .ok (.aload_n 0, 1) := by decide +kernel
theorem dX16_faultsWithout_18 : decode cX16_faultsWithout 18 = .ok (.iload_n 1, 1) := by decide +kernel
theorem dX16_faultsWithout_19 : decode cX16_faultsWithout 19 = .ok (.invokevirtual 251, 3) := by decide +kernel
theorem dX16_faultsWithout_22 : decode cX16_faultsWithout 22 = .ok (.ireturn, 1) := by decide +kernel
set_option maxRecDepth 20000 in
theorem ggX16_couldDrop_X16_isNoPoint : GoodIn wsX16_couldDrop wsX16_isNoPoint := goodIn_r _ [14, 1, 2, 15, 16, 17, 18, 19, 20, 21, 22, 13, 23, 378, 379, 380, 381, 382, 383, 396, 397, 398] (by decide +kernel) (by decide +kernel)
set_option maxRecDepth 20000 in
theorem gX16_couldDrop_X16_isNoPoint : GoodIn wsX16_couldDrop (wsV RX16 120 RX16 yX16_isNoPoint wsX16_isNoPoint) := goodIn_app (goodIn_of _ (by decide +kernel)) ggX16_couldDrop_X16_isNoPoint
set_option maxRecDepth 20000 in
theorem ggX16_couldDrop_X14_isOwned : GoodIn wsX16_couldDrop wsX14_isOwned := goodIn_r _ [28, 29, 30, 31, 27, 32, 33, 34, 35, 16, 17, 18, 19, 20, 22, 13, 23, 36, 37, 38, 39, 40, 41, 42, 43, 44, 45, 46, 47, 48, 49, 50, 51, 52, 53, 54, 55, 56, 57, 58, 382, 383, 396, 397, 398, 399] (by decide +kernel) (by decide +kernel)
set_option maxRecDepth 20000 in
theorem gX16_couldDrop_X14_isOwned : GoodIn wsX16_couldDrop (wsV RX16 166 RX14 yX14_isOwned wsX14_isOwned) := goodIn_app (goodIn_of _ (by decide +kernel)) ggX16_couldDrop_X14_isOwned
set_option maxRecDepth 20000 in
theorem ggX16_couldDrop_X16_start : GoodIn wsX16_couldDrop wsX16_start := goodIn_r _ [62, 63, 64, 65, 66, 13, 67, 378, 379, 380, 381] (by decide +kernel) (by decide +kernel)
set_option maxRecDepth 20000 in
theorem gX16_couldDrop_X16_start : GoodIn wsX16_couldDrop (wsV RX16 33 RX16 yX16_start wsX16_start) := goodIn_app (goodIn_of _ (by decide +kernel)) ggX16_couldDrop_X16_start
set_option maxRecDepth 20000 in
theorem ggX16_couldDrop_X14_copy : GoodIn wsX16_couldDrop wsX14_copy := goodIn_r _ [71, 72, 73, 27, 33, 74, 75, 76, 77, 78, 79, 80, 81, 82, 18, 83, 84, 85, 86, 52, 87, 88, 89, 90, 91, 92, 93, 94, 95, 96, 97, 98, 99, 100, 101, 102, 20, 103, 104, 105, 106, 107, 108, 109, 110, 111, 112, 113, 114, 115, 116, 117, 118, 119, 120, 121, 122, 123, 124, 125, 126, 127, 128, 129, 130, 131, 132, 133, 134, 135, 136, 137, 138, 139, 140, 141, 142, 143, 144, 145, 382, 383, 396, 397, 398] (by decide +kernel) (by decide +kernel)
set_option maxRecDepth 20000 in
theorem gX16_couldDrop_X14_copy : GoodIn wsX16_couldDrop (wsV RX16 207 RX14 yX14_copy wsX14_copy) := goodIn_app (goodIn_of _ (by decide +kernel)) ggX16_couldDrop_X14_copy
set_option maxRecDepth 20000 in
theorem ggX16_couldDrop_X12_init : GoodIn wsX16_couldDrop wsX12_init := goodIn_r _ [148, 149, 79, 80, 150, 151, 152, 384, 385, 386] (by decide +kernel) (by decide +kernel)
set_option maxRecDepth 20000 in
theorem gX16_couldDrop_X12_init : GoodIn wsX16_couldDrop (wsX12_init) := ggX16_couldDrop_X12_init
set_option maxRecDepth 20000 in
theorem ggX16_couldDrop_Jx4a65c_add_7a177 : GoodIn wsX16_couldDrop wsJx4a65c_add_7a177 := goodIn_r _ [156, 101, 102, 20, 52, 103, 104, 105, 106, 157, 158, 159, 18, 160, 161, 162, 163, 164, 129, 130, 131, 132, 86, 133, 134, 126, 135, 136, 137, 138, 139, 140, 141, 142, 143, 144, 145, 111, 112, 113, 114, 115, 116, 117, 118, 119, 120, 121, 122, 123, 124, 125, 127, 128, 396, 397, 398] (by decide +kernel) (by decide +kernel)
set_option maxRecDepth 20000 in
theorem gX16_couldDrop_Jx4a65c_add_7a177 : GoodIn wsX16_couldDrop (wsV RX16 254 RJx4a65c yJx4a65c_add_7a177 wsJx4a65c_add_7a177) := goodIn_app (goodIn_of _ (by decide +kernel)) ggX16_couldDrop_Jx4a65c_add_7a177
set_option maxRecDepth 20000 in
theorem ggX16_couldDrop_X11_init : GoodIn wsX16_couldDrop wsX11_init := goodIn_r _ [167, 168, 79, 80, 169, 170, 171, 172, 173, 174, 175, 176, 177, 178, 179, 180, 181, 182, 183, 184, 185, 16, 17, 18, 19, 20, 186, 187, 188, 8, 189, 190, 82, 191, 192, 193, 194, 84, 85, 86, 52, 87, 88, 89, 90, 91, 92, 93, 94, 95, 96, 195, 37, 38, 39, 40, 41, 42, 43, 44, 45, 46, 47, 48, 49, 50, 51, 196, 197, 198, 199, 200, 54, 55, 56, 57, 58, 201, 202, 203, 204, 205, 206, 207, 208, 209, 210, 211, 212, 213, 214, 215, 216, 217, 218, 219, 101, 102, 220, 221, 222, 223, 161, 162, 163, 164, 129, 130, 131, 132, 133, 134, 126, 135, 136, 137, 138, 139, 140, 141, 142, 143, 144, 145, 111, 112, 113, 114, 115, 116, 117, 118, 119, 120, 121, 122, 123, 124, 125, 127, 128, 104, 105, 106, 224, 225, 226, 227, 228, 229, 230, 231, 103, 232, 233, 234, 235, 236, 237, 238, 239, 240, 241, 242, 243, 244, 245, 246, 247, 248, 249, 250, 251, 252, 253, 254, 255, 256, 257, 27, 258, 29, 30, 31, 32, 33, 34, 35, 22, 13, 23, 36, 53, 259, 260, 261, 5, 262, 150, 263, 264, 265, 266, 267, 268, 269, 270, 74, 271, 272, 273, 274, 275, 276, 277, 278, 279, 280, 281, 282, 283, 284, 285, 286, 287, 288, 289, 290, 291, 292, 293, 294, 295, 296, 297, 298, 299, 300, 301, 302, 303, 304, 305, 306, 307, 308, 387, 388, 389, 390, 391, 392, 393, 394, 395, 382, 383, 396, 397, 398, 384, 385, 386, 399] (by decide +kernel) (by decide +kernel)
set_option maxRecDepth 20000 in
theorem gX16_couldDrop_X11_init : GoodIn wsX16_couldDrop (wsX11_init) := ggX16_couldDrop_X11_init
set_option maxRecDepth 20000 in
theorem ggX16_couldDrop_X11_isWhole : GoodIn wsX16_couldDrop wsX11_isWhole := goodIn_r _ [312, 169, 387, 388, 389, 390, 391, 392, 393, 394, 395] (by decide +kernel) (by decide +kernel)
set_option maxRecDepth 20000 in
theorem gX16_couldDrop_X11_isWhole : GoodIn wsX16_couldDrop (wsV RX16 101 RX11 yX11_isWhole wsX11_isWhole) := goodIn_app (goodIn_of _ (by decide +kernel)) ggX16_couldDrop_X11_isWhole
set_option maxRecDepth 20000 in
theorem ggX16_couldDrop_X11_faults : GoodIn wsX16_couldDrop wsX11_faults := goodIn_r _ [316, 190, 82, 18, 182, 169, 172, 177, 194, 84, 85, 86, 52, 87, 88, 89, 90, 91, 92, 93, 94, 95, 96, 79, 80, 317, 310, 311, 8, 312, 216, 217, 218, 219, 101, 102, 20, 220, 221, 222, 223, 161, 162, 163, 164, 129, 130, 131, 132, 133, 134, 126, 135, 136, 137, 138, 139, 140, 141, 142, 143, 144, 145, 111, 112, 113, 114, 115, 116, 117, 118, 119, 120, 121, 122, 123, 124, 125, 127, 128, 104, 105, 106, 318, 319, 320, 321, 170, 171, 191, 180, 179, 195, 37, 38, 39, 40, 41, 42, 43, 44, 45, 46, 47, 48, 49, 50, 51, 322, 294, 295, 27, 296, 297, 298, 299, 255, 256, 257, 258, 29, 30, 31, 32, 33, 34, 35, 16, 17, 19, 22, 13, 23, 36, 53, 54, 55, 56, 57, 58, 323, 324, 325, 326, 327, 328, 286, 287, 288, 329, 330, 331, 332, 249, 192, 175, 183, 333, 334, 335, 336, 74, 271, 337, 338, 339, 340, 341, 342, 343, 344, 345, 346, 347, 348, 349, 350, 351, 352, 353, 354, 355, 356, 357, 358, 359, 360, 361, 362, 363, 364, 365, 272, 264, 265, 5, 266, 150, 366, 367, 368, 369, 370, 371, 372, 185, 373, 374, 305, 306, 307, 308, 174, 184, 300, 301, 302, 303, 304, 260, 261, 262, 396, 397, 398, 387, 388, 389, 390, 391, 392, 393, 394, 395, 382, 383, 384, 385, 386, 399, 400, 401, 402, 403] (by decide +kernel) (by decide +kernel)
set_option maxRecDepth 20000 in
theorem gX16_couldDrop_X11_faults : GoodIn wsX16_couldDrop (wsV RX16 156 RX11 yX11_faults wsX11_faults) := goodIn_app (goodIn_of _ (by decide +kernel)) ggX16_couldDrop_X11_faults
set_option maxRecDepth 20000 in
theorem ggX16_couldDrop_Jx4a65c_iterator_32c93 : GoodIn wsX16_couldDrop wsJx4a65c_iterator_32c93 := goodIn_r _ [340, 341, 342, 343, 344, 345, 346, 347, 348, 79, 80, 349, 350, 102, 351, 400, 401, 402, 403, 396, 397, 398] (by decide +kernel) (by decide +kernel)
set_option maxRecDepth 20000 in
theorem gX16_couldDrop_Jx4a65c_iterator_32c93 : GoodIn wsX16_couldDrop (wsV RX16 183 RJx4a65c yJx4a65c_iterator_32c93 wsJx4a65c_iterator_32c93) := goodIn_app (goodIn_of _ (by decide +kernel)) ggX16_couldDrop_Jx4a65c_iterator_32c93
set_option maxRecDepth 20000 in
theorem ggX16_couldDrop_Jx35411_hasNext_aae02 : GoodIn wsX16_couldDrop wsJx35411_hasNext_aae02 := goodIn_r _ [355, 356, 347, 400, 401, 402, 403, 396, 397, 398] (by decide +kernel) (by decide +kernel)
set_option maxRecDepth 20000 in
theorem gX16_couldDrop_Jx35411_hasNext_aae02_f187Jx35411 : GoodIn wsX16_couldDrop (va_wsF RX16 187 RJx35411 ⟨"java/util/Iterator", "hasNext", "()Z"⟩ yJx35411_hasNext_aae02 wsJx35411_hasNext_aae02) := goodIn_app (goodIn_of _ (by decide +kernel)) ggX16_couldDrop_Jx35411_hasNext_aae02
set_option maxRecDepth 20000 in
theorem ggX16_couldDrop_Jx35411_next_0502b : GoodIn wsX16_couldDrop wsJx35411_next_0502b := goodIn_r _ [360, 356, 347, 361, 349, 362, 363, 364, 343, 365, 350, 102, 351, 400, 401, 402, 403, 396, 397, 398] (by decide +kernel) (by decide +kernel)
set_option maxRecDepth 20000 in
theorem gX16_couldDrop_Jx35411_next_0502b_f192Jx35411 : GoodIn wsX16_couldDrop (va_wsF RX16 192 RJx35411 ⟨"java/util/Iterator", "next", "()Ljava/lang/Object;"⟩ yJx35411_next_0502b wsJx35411_next_0502b) := goodIn_app (goodIn_of _ (by decide +kernel)) ggX16_couldDrop_Jx35411_next_0502b
theorem dX16_couldDrop_0 : decode cX16_couldDrop 0 = .ok (.aload_n 0, 1) := by decide +kernel
theorem dX16_couldDrop_1 : decode cX16_couldDrop 1 = .ok (.aload_n 0, 1) := by decide +kernel
theorem dX16_couldDrop_2 : decode cX16_couldDrop 2 = .ok (.iload_n 1, 1) := by decide +kernel
theorem dX16_couldDrop_3 : decode cX16_couldDrop 3 = .ok (.invokevirtual 120, 3) := by decide +kernel
theorem dX16_couldDrop_6 : decode cX16_couldDrop 6 = .ok (.ifCond .ne 14, 3) := by decide +kernel
theorem dX16_couldDrop_9 : decode cX16_couldDrop 9 = .ok (.aload_n 0, 1) := by decide +kernel
theorem dX16_couldDrop_10 : decode cX16_couldDrop 10 = .ok (.getfield 10, 3) := by decide +kernel
theorem dX16_couldDrop_13 : decode cX16_couldDrop 13 = .ok (.iload_n 2, 1) := by decide +kernel
theorem dX16_couldDrop_14 : decode cX16_couldDrop 14 = .ok (.invokevirtual 166, 3) := by decide +kernel
theorem dX16_couldDrop_17 : decode cX16_couldDrop 17 = .ok (.ifCond .ne 7, 3) := by decide +kernel
theorem dX16_couldDrop_20 : decode cX16_couldDrop 20 = .ok (.iconst 1, 1) := by decide +kernel
theorem dX16_couldDrop_21 : decode cX16_couldDrop 21 = .ok (.goto 4, 3) := by decide +kernel
theorem dX16_couldDrop_24 : decode cX16_couldDrop 24 = .ok (.iconst 0, 1) := by decide +kernel
theorem dX16_couldDrop_25 : decode cX16_couldDrop 25 = .ok (.iconst 1, 1) := by decide +kernel
theorem dX16_couldDrop_26 : decode cX16_couldDrop 26 = .ok (.invokevirtual 33, 3) := by decide +kernel
theorem dX16_couldDrop_29 : decode cX16_couldDrop 29 = .ok (.ifCond .eq 5, 3) := by decide +kernel
theorem dX16_couldDrop_32 : decode cX16_couldDrop 32 = .ok (.iconst 0, 1) := by decide +kernel
theorem dX16_couldDrop_33 : decode cX16_couldDrop 33 = .ok (.ireturn, 1) := by decide +kernel
theorem dX16_couldDrop_34 : decode cX16_couldDrop 34 = .ok (.aload_n 0, 1) := by decide +kernel
theorem dX16_couldDrop_35 : decode cX16_couldDrop 35 = .ok (.getfield 10, 3) := by decide +kernel
theorem dX16_couldDrop_38 : decode cX16_couldDrop 38 = .ok (.invokevirtual 207, 3) := by decide +kernel
theorem dX16_couldDrop_41 : decode cX16_couldDrop 41 = .ok (.astore_n 3, 1) := by decide +kernel
theorem dX16_couldDrop_42 : decode cX16_couldDrop 42 = .ok (.aload_n 3, 1) := by decide +kernel
theorem dX16_couldDrop_43 : decode cX16_couldDrop 43 = .ok (.getfield 64, 3) := by decide +kernel
theorem dX16_couldDrop_46 : decode cX16_couldDrop 46 = .ok (.iload_n 1, 1) := by decide +kernel
theorem dX16_couldDrop_47 : decode cX16_couldDrop 47 = .ok (.new 59, 3) := by decide +kernel
theorem dX16_couldDrop_50 : decode cX16_couldDrop 50 = .ok (.dup, 1) := by decide +kernel
theorem dX16_couldDrop_51 : decode cX16_couldDrop 51 = .ok (.bipush 7, 2) := by decide +kernel
theorem dX16_couldDrop_53 : decode cX16_couldDrop 53 = .ok (.iload_n 2, 1) := by decide +kernel
theorem dX16_couldDrop_54 : decode cX16_couldDrop 54 = .ok (.iconst 0, 1) := by decide +kernel
theorem dX16_couldDrop_55 : decode cX16_couldDrop 55 = .ok (.invokespecial 61, 3) := by decide +kernel
theorem dX16_couldDrop_58 : decode cX16_couldDrop 58 = .ok (.invokevirtual 254, 3) := by decide +kernel
theorem dX16_couldDrop_61 : decode cX16_couldDrop 61 = .ok (.new 24, 3) := by decide +kernel
theorem dX16_couldDrop_64 : decode cX16_couldDrop 64 = .ok (.dup, 1) := by decide +kernel
theorem dX16_couldDrop_65 : decode cX16_couldDrop 65 = .ok (.aload_n 3, 1) := by decide +kernel
theorem dX16_couldDrop_66 : decode cX16_couldDrop 66 = .ok (.invokespecial 26, 3) := by decide +kernel
theorem dX16_couldDrop_69 : decode cX16_couldDrop 69 = .ok (.astore 4, 2) := by decide +kernel
theorem dX16_couldDrop_71 : decode cX16_couldDrop 71 = .ok (.aload 4, 2) := by decide +kernel
theorem dX16_couldDrop_73 : decode cX16_couldDrop 73 = .ok (.invokevirtual 101, 3) := by decide +kernel
theorem dX16_couldDrop_76 : decode cX16_couldDrop 76 = .ok (.ifCond .eq 51, 3) := by decide +kernel
theorem dX16_couldDrop_79 : decode cX16_couldDrop 79 = .ok (.aload 4, 2) := by decide +kernel
theorem dX16_couldDrop_81 : decode cX16_couldDrop 81 = .ok (.invokevirtual 156, 3) := by decide +kernel
theorem dX16_couldDrop_84 : decode cX16_couldDrop 84 = .ok (.invokevirtual 183, 3) := by decide +kernel
theorem dX16_couldDrop_87 : decode cX16_couldDrop 87 = .ok (.astore 5, 2) := by decide +kernel
theorem dX16_couldDrop_89 : decode cX16_couldDrop 89 = .ok (.aload 5, 2) := by decide +kernel
theorem dX16_couldDrop_91 : decode cX16_couldDrop 91 = .ok (.invokeinterface 187 1, 5) := by decide +kernel
theorem dX16_couldDrop_96 : decode cX16_couldDrop 96 = .ok (.ifCond .eq 31, 3) := by decide +kernel
theorem dX16_couldDrop_99 : decode cX16_couldDrop 99 = .ok (.aload 5, 2) := by decide +kernel
theorem dX16_couldDrop_101 : decode cX16_couldDrop 101 = .ok (.invokeinterface 192 1, 5) := by decide +kernel
theorem dX16_couldDrop_106 : decode cX16_couldDrop 106 = .ok (.checkcast 160, 3) := by decide +kernel
theorem dX16_couldDrop_109 : decode cX16_couldDrop 109 = .ok (.astore 6, 2) := by decide +kernel
theorem dX16_couldDrop_111 : decode cX16_couldDrop 111 = .ok (.aload 6, 2) := by decide +kernel
theorem dX16_couldDrop_113 : decode cX16_couldDrop 113 = .ok (.iconst 1, 1) := by decide +kernel
theorem dX16_couldDrop_114 : decode cX16_couldDrop 114 = .ok (.iaload, 1) := by decide +kernel
theorem dX16_couldDrop_115 : decode cX16_couldDrop 115 = .ok (.iload_n 1, 1) := by decide +kernel
theorem dX16_couldDrop_116 : decode cX16_couldDrop 116 = .ok (.if_icmp .ne 8, 3) := by decide +kernel
theorem dX16_couldDrop_119 : decode cX16_couldDrop 119 = .ok (.aload 6, 2) := by decide +kernel
theorem dX16_couldDrop_121 : decode cX16_couldDrop 121 = .ok (.iconst 0, 1) := by decide +kernel
theorem dX16_couldDrop_122 : decode cX16_couldDrop 122 = .ok (.iaload, 1) := by decide +kernel
theorem dX16_couldDrop_123 : decode cX16_couldDrop 123 = .ok (.ireturn, 1) := by decide +kernel
theorem dX16_couldDrop_124 : decode cX16_couldDrop 124 = .ok (.goto (-35), 3) := by decide +kernel
theorem dX16_couldDrop_127 : decode cX16_couldDrop 127 = .ok (.iconst 0, 1) := by decide +kernel
theorem dX16_couldDrop_128 : decode cX16_couldDrop 128 = .ok (.ireturn, 1) := by decide +kernel
set_option maxRecDepth 20000 in
theorem ggX16_leakedByNow_X14_copy : GoodIn wsX16_leakedByNow wsX14_copy := goodIn_r _ [16, 17, 18, 15, 19, 20, 21, 22, 23, 24, 25, 26, 27, 28, 29, 30, 31, 32, 33, 34, 35, 36, 37, 38, 39, 40, 41, 42, 43, 44, 45, 46, 47, 48, 49, 50, 51, 52, 53, 54, 55, 56, 57, 58, 59, 60, 61, 62, 63, 64, 65, 66, 67, 68, 69, 70, 71, 72, 73, 74, 75, 76, 77, 78, 79, 80, 81, 82, 83, 84, 85, 86, 87, 88, 89, 90, 91, 92, 93, 94, 493, 494, 525, 526, 527] (by decide +kernel) (by decide +kernel)
set_option maxRecDepth 20000 in
theorem gX16_leakedByNow_X14_copy : GoodIn wsX16_leakedByNow (wsV RX16 207 RX14 yX14_copy wsX14_copy) := goodIn_app (goodIn_of _ (by decide +kernel)) ggX16_leakedByNow_X14_copy
set_option maxRecDepth 20000 in
theorem ggX16_leakedByNow_X12_init : GoodIn wsX16_leakedByNow wsX12_init := goodIn_r _ [97, 98, 25, 26, 99, 100, 101, 495, 496, 497] (by decide +kernel) (by decide +kernel)
set_option maxRecDepth 20000 in
theorem gX16_leakedByNow_X12_init : GoodIn wsX16_leakedByNow (wsX12_init) := ggX16_leakedByNow_X12_init
set_option maxRecDepth 20000 in
theorem ggX16_leakedByNow_Jx4a65c_set_bcc79 : GoodIn wsX16_leakedByNow wsJx4a65c_set_bcc79 := goodIn_r _ [105, 51, 34, 106, 107, 108, 109, 110, 111, 112, 113, 114, 115, 116, 29, 117, 525, 526, 527] (by decide +kernel) (by decide +kernel)
set_option maxRecDepth 20000 in
theorem gX16_leakedByNow_Jx4a65c_set_bcc79 : GoodIn wsX16_leakedByNow (wsV RX16 82 RJx4a65c yJx4a65c_set_bcc79 wsJx4a65c_set_bcc79) := goodIn_app (goodIn_of _ (by decide +kernel)) ggX16_leakedByNow_Jx4a65c_set_bcc79
set_option maxRecDepth 20000 in
theorem ggX16_leakedByNow_X11_init : GoodIn wsX16_leakedByNow wsX11_init := goodIn_r _ [120, 121, 25, 26, 122, 123, 124, 125, 126, 127, 128, 129, 130, 131, 132, 133, 134, 135, 136, 137, 138, 139, 140, 29, 141, 51, 142, 143, 144, 8, 145, 146, 28, 147, 148, 149, 150, 31, 32, 33, 34, 35, 36, 37, 38, 39, 40, 41, 42, 43, 44, 151, 152, 153, 154, 106, 107, 108, 109, 110, 111, 112, 113, 114, 115, 116, 117, 155, 156, 157, 158, 159, 160, 161, 162, 163, 164, 165, 166, 167, 168, 169, 170, 171, 172, 173, 174, 175, 176, 177, 178, 179, 180, 181, 182, 183, 49, 50, 184, 185, 186, 187, 188, 189, 190, 191, 78, 79, 80, 81, 82, 83, 75, 84, 85, 86, 87, 88, 89, 90, 91, 92, 93, 94, 60, 61, 62, 63, 64, 65, 66, 67, 68, 69, 70, 71, 72, 73, 74, 76, 77, 53, 54, 55, 192, 193, 194, 195, 196, 197, 198, 199, 52, 200, 201, 202, 203, 204, 205, 206, 207, 208, 209, 210, 211, 212, 213, 214, 215, 216, 217, 218, 219, 220, 221, 222, 223, 224, 225, 15, 226, 227, 228, 229, 230, 19, 231, 232, 233, 234, 235, 236, 237, 238, 239, 240, 5, 241, 99, 242, 243, 244, 245, 246, 247, 248, 249, 20, 250, 251, 252, 253, 254, 255, 256, 257, 258, 259, 260, 261, 262, 263, 264, 265, 266, 267, 268, 269, 270, 271, 272, 273, 274, 275, 276, 277, 278, 279, 280, 281, 282, 283, 284, 285, 286, 287, 498, 499, 500, 501, 502, 503, 504, 505, 506, 493, 494, 525, 526, 527, 495, 496, 497, 528] (by decide +kernel) (by decide +kernel)
set_option maxRecDepth 20000 in
theorem gX16_leakedByNow_X11_init : GoodIn wsX16_leakedByNow (wsX11_init) := ggX16_leakedByNow_X11_init
set_option maxRecDepth 20000 in
theorem ggX16_leakedByNow_X11_faults : GoodIn wsX16_leakedByNow wsX11_faults := goodIn_r _ [291, 146, 28, 29, 135, 122, 125, 130, 150, 31, 32, 33, 34, 35, 36, 37, 38, 39, 40, 41, 42, 43, 44, 25, 26, 292, 293, 294, 8, 295, 180, 181, 182, 183, 49, 50, 51, 184, 185, 186, 187, 188, 189, 190, 191, 78, 79, 80, 81, 82, 83, 75, 84, 85, 86, 87, 88, 89, 90, 91, 92, 93, 94, 60, 61, 62, 63, 64, 65, 66, 67, 68, 69, 70, 71, 72, 73, 74, 76, 77, 53, 54, 55, 296, 297, 298, 299, 123, 124, 147, 133, 132, 151, 152, 153, 154, 106, 107, 108, 109, 110, 111, 112, 113, 114, 115, 116, 117, 300, 273, 274, 15, 275, 276, 277, 278, 223, 224, 225, 226, 227, 228, 229, 230, 19, 231, 232, 139, 140, 141, 233, 234, 235, 236, 237, 160, 161, 162, 163, 164, 301, 302, 303, 304, 305, 306, 265, 266, 267, 307, 308, 309, 310, 217, 148, 128, 136, 311, 312, 313, 314, 20, 250, 315, 316, 317, 318, 319, 320, 321, 322, 323, 324, 325, 326, 327, 328, 329, 330, 331, 332, 333, 334, 335, 336, 337, 338, 339, 340, 341, 342, 343, 251, 243, 244, 5, 245, 99, 344, 345, 346, 347, 348, 349, 350, 138, 351, 352, 284, 285, 286, 287, 127, 137, 279, 280, 281, 282, 283, 239, 240, 241, 525, 526, 527, 498, 499, 500, 501, 502, 503, 504, 505, 506, 493, 494, 495, 496, 497, 528, 529, 530, 531, 532] (by decide +kernel) (by decide +kernel)
set_option maxRecDepth 20000 in
theorem gX16_leakedByNow_X11_faults : GoodIn wsX16_leakedByNow (wsV RX16 156 RX11 yX11_faults wsX11_faults) := goodIn_app (goodIn_of _ (by decide +kernel)) ggX16_leakedByNow_X11_faults
set_option maxRecDepth 20000 in
theorem ggX16_leakedByNow_Jx4a65c_isEmpty_aae02 : GoodIn wsX16_leakedByNow wsJx4a65c_isEmpty_aae02 := goodIn_r _ [158, 51, 525, 526, 527] (by decide +kernel) (by decide +kernel)
set_option maxRecDepth 20000 in
theorem gX16_leakedByNow_Jx4a65c_isEmpty_aae02 : GoodIn wsX16_leakedByNow (wsV RX16 89 RJx4a65c yJx4a65c_isEmpty_aae02 wsJx4a65c_isEmpty_aae02) := goodIn_app (goodIn_of _ (by decide +kernel)) ggX16_leakedByNow_Jx4a65c_isEmpty_aae02
set_option maxRecDepth 20000 in
theorem ggX16_leakedByNow_X15_init : GoodIn wsX16_leakedByNow wsX15_init := goodIn_r _ [356, 357, 25, 26, 358, 28, 29, 359, 360, 361, 362, 363, 364, 365, 135, 366, 367, 368, 369, 370, 371, 372, 373, 31, 32, 33, 34, 35, 36, 37, 38, 39, 40, 41, 42, 43, 44, 374, 139, 140, 141, 51, 375, 376, 377, 11, 378, 379, 380, 381, 382, 383, 384, 152, 153, 154, 106, 107, 108, 109, 110, 111, 112, 113, 114, 115, 116, 117, 385, 386, 387, 388, 389, 390, 391, 392, 393, 394, 395, 396, 397, 398, 399, 400, 401, 402, 403, 404, 228, 229, 15, 230, 19, 231, 232, 233, 234, 235, 236, 237, 160, 161, 162, 163, 164, 405, 406, 407, 408, 409, 410, 411, 412, 413, 414, 415, 416, 417, 418, 419, 420, 421, 422, 423, 181, 182, 183, 49, 50, 184, 185, 186, 187, 188, 189, 190, 191, 78, 79, 80, 81, 82, 83, 75, 84, 85, 86, 87, 88, 89, 90, 91, 92, 93, 94, 60, 61, 62, 63, 64, 65, 66, 67, 68, 69, 70, 71, 72, 73, 74, 76, 77, 53, 54, 55, 424, 224, 225, 226, 227, 425, 426, 427, 428, 429, 430, 431, 432, 433, 434, 435, 436, 437, 438, 439, 440, 441, 442, 443, 444, 445, 446, 447, 448, 449, 450, 451, 452, 453, 454, 455, 456, 457, 458, 459, 460, 265, 266, 267, 461, 462, 463, 464, 465, 466, 467, 468, 469, 470, 471, 472, 473, 474, 475, 476, 477, 478, 479, 480, 481, 482, 483, 484, 525, 526, 527, 507, 508, 509, 510, 511, 512, 513, 514, 515, 516, 517, 518, 519, 520, 521, 522, 523, 524, 493, 494, 495, 496, 497, 498, 499, 500, 501, 502, 503, 504, 505, 506, 533, 534, 535, 536, 537, 528] (by decide +kernel) (by decide +kernel)
set_option maxRecDepth 20000 in
theorem gX16_leakedByNow_X15_init : GoodIn wsX16_leakedByNow (wsX15_init) := ggX16_leakedByNow_X15_init
set_option maxRecDepth 20000 in
theorem ggX16_leakedByNow_X15_leaked : GoodIn wsX16_leakedByNow wsX15_leaked := goodIn_r _ [488, 403, 434, 400, 416, 507, 508, 509, 510, 511, 512, 513, 514, 515, 516, 517, 518, 519, 520, 521, 522, 523, 524] (by decide +kernel) (by decide +kernel)
set_option maxRecDepth 20000 in
theorem gX16_leakedByNow_X15_leaked : GoodIn wsX16_leakedByNow (wsV RX16 257 RX15 yX15_leaked wsX15_leaked) := goodIn_app (goodIn_of _ (by decide +kernel)) ggX16_leakedByNow_X15_leaked
theorem dX16_leakedByNow_0 : decode cX16_leakedByNow 0 = .ok (.aload_n 0, 1) := by decide +kernel
theorem dX16_leakedByNow_1 : decode cX16_leakedByNow 1 = .ok (.getfield 10, 3) := by decide +kernel
theorem dX16_leakedByNow_4 : decode cX16_leakedByNow 4 = .ok (.invokevirtual 207, 3) := by decide +kernel
theorem dX16_leakedByNow_7 : decode cX16_leakedByNow 7 = .ok (.astore_n 2, 1) := by decide +kernel
theorem dX16_leakedByNow_8 : decode cX16_leakedByNow 8 = .ok (.aload_n 2, 1) := by decide +kernel
theorem dX16_leakedByNow_9 : decode cX16_leakedByNow 9 = .ok (.getfield 64, 3) := by decide +kernel
theorem dX16_leakedByNow_12 : decode cX16_leakedByNow 12 = .ok (.iload_n 1, 1) := by decide +kernel
theorem dX16_leakedByNow_13 : decode cX16_leakedByNow 13 = .ok (.new 59, 3) := by decide +kernel
theorem dX16_leakedByNow_16 : decode cX16_leakedByNow 16 = .ok (.dup, 1) := by decide +kernel
theorem dX16_leakedByNow_17 : decode cX16_leakedByNow 17 = .ok (.bipush 15, 2) := by decide +kernel
theorem dX16_leakedByNow_19 : decode cX16_leakedByNow 19 = .ok (.iconst 0, 1) := by decide +kernel
theorem dX16_leakedByNow_20 : decode cX16_leakedByNow 20 = .ok (.iconst 0, 1) := by decide +kernel
theorem dX16_leakedByNow_21 : decode cX16_leakedByNow 21 = .ok (.invokespecial 61, 3) := by decide +kernel
theorem dX16_leakedByNow_24 : decode cX16_leakedByNow 24 = .ok (.invokevirtual 82, 3) := by decide +kernel
theorem dX16_leakedByNow_27 : decode cX16_leakedByNow 27 = .ok (.pop, 1) := by decide +kernel
theorem dX16_leakedByNow_28 : decode cX16_leakedByNow 28 = .ok (.new 24, 3) := by decide +kernel
theorem dX16_leakedByNow_31 : decode cX16_leakedByNow 31 = .ok (.dup, 1) := by decide +kernel
theorem dX16_leakedByNow_32 : decode cX16_leakedByNow 32 = .ok (.aload_n 2, 1) := by decide +kernel
theorem dX16_leakedByNow_33 : decode cX16_leakedByNow 33 = .ok (.invokespecial 26, 3) := by decide +kernel
theorem dX16_leakedByNow_36 : decode cX16_leakedByNow 36 = .ok (.astore_n 3, 1) := by decide +kernel
theorem dX16_leakedByNow_37 : decode cX16_leakedByNow 37 = .ok (.aload_n 3, 1) := by decide +kernel
theorem dX16_leakedByNow_38 : decode cX16_leakedByNow 38 = .ok (.invokevirtual 156, 3) := by decide +kernel
theorem dX16_leakedByNow_41 : decode cX16_leakedByNow 41 = .ok (.invokevirtual 89, 3) := by decide +kernel
theorem dX16_leakedByNow_44 : decode cX16_leakedByNow 44 = .ok (.ifCond .eq 18, 3) := by decide +kernel
theorem dX16_leakedByNow_47 : decode cX16_leakedByNow 47 = .ok (.new 205, 3) := by decide +kernel
theorem dX16_leakedByNow_50 : decode cX16_leakedByNow 50 = .ok (.dup, 1) := by decide +kernel
theorem dX16_leakedByNow_51 : decode cX16_leakedByNow 51 = .ok (.aload_n 2, 1) := by decide +kernel
theorem dX16_leakedByNow_52 : decode cX16_leakedByNow 52 = .ok (.aload_n 3, 1) := by decide +kernel
theorem dX16_leakedByNow_53 : decode cX16_leakedByNow 53 = .ok (.invokespecial 211, 3) := by decide +kernel
theorem dX16_leakedByNow_56 : decode cX16_leakedByNow 56 = .ok (.invokevirtual 257, 3) := by decide +kernel
theorem dX16_leakedByNow_59 : decode cX16_leakedByNow 59 = .ok (.goto 4, 3) := by decide +kernel
theorem dX16_leakedByNow_62 : decode cX16_leakedByNow 62 = .ok (.iconst (-1), 1) := by decide +kernel
theorem dX16_leakedByNow_63 : decode cX16_leakedByNow 63 = .ok (.ireturn, 1) := by decide +kernel
set_option maxRecDepth 20000 in
theorem ggX16_leakedBy_X16_isNoLine : GoodIn wsX16_leakedBy wsX16_isNoLine := goodIn_r _ [5, 6, 7, 8, 9, 10, 11, 12, 13, 14, 15, 4, 16, 508, 509, 510, 511, 512, 513, 514, 515, 516] (by decide +kernel) (by decide +kernel)
set_option maxRecDepth 20000 in
theorem gX16_leakedBy_X16_isNoLine : GoodIn wsX16_leakedBy (wsV RX16 74 RX16 yX16_isNoLine wsX16_isNoLine) := goodIn_app (goodIn_of _ (by decide +kernel)) ggX16_leakedBy_X16_isNoLine
set_option maxRecDepth 20000 in
theorem ggX16_leakedBy_X16_start : GoodIn wsX16_leakedBy wsX16_start := goodIn_r _ [20, 21, 22, 23, 24, 4, 25, 508, 509, 510, 511] (by decide +kernel) (by decide +kernel)
set_option maxRecDepth 20000 in
theorem gX16_leakedBy_X16_start : GoodIn wsX16_leakedBy (wsV RX16 33 RX16 yX16_start wsX16_start) := goodIn_app (goodIn_of _ (by decide +kernel)) ggX16_leakedBy_X16_start
set_option maxRecDepth 20000 in
theorem ggX16_leakedBy_X16_leakedByNow : GoodIn wsX16_leakedBy wsX16_leakedByNow := goodIn_r _ [29, 6, 7, 30, 31, 32, 33, 34, 35, 36, 37, 38, 39, 40, 41, 42, 43, 44, 45, 46, 47, 48, 49, 50, 51, 52, 53, 54, 55, 11, 56, 57, 58, 59, 60, 61, 62, 63, 64, 65, 66, 67, 68, 69, 70, 71, 72, 73, 74, 75, 76, 13, 77, 78, 79, 80, 81, 82, 83, 84, 85, 86, 87, 88, 89, 90, 91, 92, 93, 94, 95, 96, 97, 98, 99, 100, 101, 102, 103, 104, 105, 106, 107, 108, 109, 110, 111, 112, 113, 114, 115, 116, 117, 118, 119, 120, 121, 122, 123, 124, 125, 126, 127, 128, 129, 130, 131, 132, 133, 134, 135, 136, 137, 138, 139, 140, 141, 142, 143, 144, 145, 146, 147, 148, 149, 150, 151, 152, 153, 154, 155, 156, 157, 158, 159, 160, 161, 162, 163, 9, 10, 12, 164, 165, 166, 167, 168, 169, 170, 171, 172, 173, 174, 175, 176, 177, 178, 179, 180, 181, 182, 183, 184, 185, 186, 187, 188, 189, 190, 191, 192, 193, 194, 195, 196, 197, 198, 199, 200, 201, 202, 203, 204, 205, 206, 207, 208, 209, 210, 211, 212, 213, 214, 215, 216, 217, 218, 219, 220, 221, 222, 223, 224, 225, 226, 227, 228, 229, 230, 231, 232, 233, 234, 235, 236, 237, 238, 239, 240, 241, 242, 243, 244, 245, 246, 247, 248, 249, 250, 251, 252, 253, 254, 15, 4, 16, 255, 256, 257, 258, 259, 260, 261, 262, 263, 264, 265, 266, 267, 268, 269, 270, 271, 272, 273, 274, 275, 276, 277, 278, 279, 280, 281, 282, 283, 284, 285, 286, 287, 288, 289, 290, 291, 292, 293, 294, 295, 296, 297, 298, 299, 300, 301, 302, 303, 304, 305, 306, 307, 308, 309, 310, 311, 312, 313, 314, 315, 316, 317, 318, 319, 320, 321, 322, 323, 324, 325, 326, 327, 328, 329, 330, 331, 332, 333, 334, 335, 336, 337, 338, 339, 340, 341, 342, 343, 344, 345, 346, 347, 348, 349, 350, 351, 352, 353, 354, 355, 356, 357, 358, 359, 360, 361, 362, 363, 364, 365, 366, 367, 368, 369, 370, 371, 372, 373, 374, 375, 376, 377, 378, 379, 380, 381, 382, 383, 384, 385, 386, 387, 388, 389, 390, 391, 392, 393, 394, 395, 396, 397, 398, 399, 400, 401, 402, 403, 404, 405, 406, 407, 408, 409, 410, 411, 412, 413, 414, 415, 416, 417, 418, 419, 420, 421, 422, 423, 424, 425, 426, 427, 428, 429, 430, 431, 432, 433, 434, 435, 436, 437, 438, 439, 440, 441, 442, 443, 444, 445, 446, 447, 448, 449, 450, 451, 452, 453, 454, 455, 456, 457, 458, 459, 460, 461, 462, 463, 464, 465, 466, 467, 468, 469, 470, 471, 472, 473, 474, 475, 476, 477, 478, 479, 480, 481, 482, 483, 484, 485, 486, 487, 488, 489, 490, 491, 492, 493, 494, 495, 496, 497, 498, 499, 500, 501, 502, 503, 504, 505, 506, 507, 508, 509, 510, 511, 512, 513, 517, 518, 519, 520, 521, 522, 523, 524, 525, 526, 527, 528, 529, 530, 531, 532, 533, 534, 535, 536, 537, 538, 539, 540, 541, 542, 543, 544, 545, 546, 514, 515, 516, 547, 548, 549, 550, 551, 552, 553, 554, 555, 556] (by decide +kernel) (by decide +kernel)
set_option maxRecDepth 20000 in
theorem gX16_leakedBy_X16_leakedByNow : GoodIn wsX16_leakedBy (wsV RX16 260 RX16 yX16_leakedByNow wsX16_leakedByNow) := goodIn_app (goodIn_of _ (by decide +kernel)) ggX16_leakedBy_X16_leakedByNow
theorem dX16_leakedBy_0 : decode cX16_leakedBy 0 = .ok (.aload_n 0, 1) := by decide +kernel
theorem dX16_leakedBy_1 : decode cX16_leakedBy 1 = .ok (.aload_n 0, 1) := by decide +kernel
theorem dX16_leakedBy_2 : decode cX16_leakedBy 2 = .ok (.iload_n 1, 1) := by decide +kernel
theorem dX16_leakedBy_3 : decode cX16_leakedBy 3 = .ok (.invokevirtual 74, 3) := by decide +kernel
theorem dX16_leakedBy_6 : decode cX16_leakedBy 6 = .ok (.iconst 1, 1) := by decide +kernel
theorem dX16_leakedBy_7 : decode cX16_leakedBy 7 = .ok (.invokevirtual 33, 3) := by decide +kernel
theorem dX16_leakedBy_10 : decode cX16_leakedBy 10 = .ok (.ifCond .eq 7, 3) := by decide +kernel
theorem dX16_leakedBy_13 : decode cX16_leakedBy 13 = .ok (.iconst 0, 1) := by decide +kernel
theorem dX16_leakedBy_14 : decode cX16_leakedBy 14 = .ok (.goto 8, 3) := by decide +kernel
theorem dX16_leakedBy_17 : decode cX16_leakedBy 17 = .ok (.aload_n 0, 1) := by decide +kernel
theorem dX16_leakedBy_18 : decode cX16_leakedBy 18 = .ok (.iload_n 1, 1) := by decide +kernel
theorem dX16_leakedBy_19 : decode cX16_leakedBy 19 = .ok (.invokevirtual 260, 3) := by decide +kernel
theorem dX16_leakedBy_22 : decode cX16_leakedBy 22 = .ok (.ireturn, 1) := by decide +kernel
set_option maxRecDepth 20000 in
theorem ggX16_outcomeWith_X16_isNoLine : GoodIn wsX16_outcomeWith wsX16_isNoLine := goodIn_r _ [19, 1, 2, 20, 21, 22, 23, 24, 25, 26, 27, 18, 28, 508, 509, 510, 511, 512, 513, 544, 545, 546] (by decide +kernel) (by decide +kernel)
set_option maxRecDepth 20000 in
theorem gX16_outcomeWith_X16_isNoLine : GoodIn wsX16_outcomeWith (wsV RX16 74 RX16 yX16_isNoLine wsX16_isNoLine) := goodIn_app (goodIn_of _ (by decide +kernel)) ggX16_outcomeWith_X16_isNoLine
set_option maxRecDepth 20000 in
theorem ggX16_outcomeWith_Jx4a65c_get_915e3 : GoodIn wsX16_outcomeWith wsJx4a65c_get_915e3 := goodIn_r _ [32, 25, 33, 34, 35, 36, 37, 38, 39, 40, 41, 42, 43, 23, 44, 45, 544, 545, 546] (by decide +kernel) (by decide +kernel)
set_option maxRecDepth 20000 in
theorem gX16_outcomeWith_Jx4a65c_get_915e3 : GoodIn wsX16_outcomeWith (wsV RX16 78 RJx4a65c yJx4a65c_get_915e3 wsJx4a65c_get_915e3) := goodIn_app (goodIn_of _ (by decide +kernel)) ggX16_outcomeWith_Jx4a65c_get_915e3
set_option maxRecDepth 20000 in
theorem ggX16_outcomeWith_X16_start : GoodIn wsX16_outcomeWith wsX16_start := goodIn_r _ [49, 50, 51, 52, 53, 18, 54, 508, 509, 510, 511] (by decide +kernel) (by decide +kernel)
set_option maxRecDepth 20000 in
theorem gX16_outcomeWith_X16_start : GoodIn wsX16_outcomeWith (wsV RX16 33 RX16 yX16_start wsX16_start) := goodIn_app (goodIn_of _ (by decide +kernel)) ggX16_outcomeWith_X16_start
set_option maxRecDepth 20000 in
theorem ggX16_outcomeWith_X16_isIn : GoodIn wsX16_outcomeWith wsX16_isIn := goodIn_r _ [28] (by decide +kernel) (by decide +kernel)
set_option maxRecDepth 20000 in
theorem gX16_outcomeWith_X16_isIn : GoodIn wsX16_outcomeWith (va_wsS RX16 29 yX16_isIn wsX16_isIn) := goodIn_app (goodIn_of _ (by decide +kernel)) ggX16_outcomeWith_X16_isIn
set_option maxRecDepth 20000 in
theorem ggX16_outcomeWith_X16_refuse : GoodIn wsX16_outcomeWith wsX16_refuse := goodIn_r _ [54, 50, 508, 509, 510, 511] (by decide +kernel) (by decide +kernel)
set_option maxRecDepth 20000 in
theorem gX16_outcomeWith_X16_refuse : GoodIn wsX16_outcomeWith (wsV RX16 20 RX16 yX16_refuse wsX16_refuse) := goodIn_app (goodIn_of _ (by decide +kernel)) ggX16_outcomeWith_X16_refuse
set_option maxRecDepth 20000 in
theorem ggX16_outcomeWith_X14_copy : GoodIn wsX16_outcomeWith wsX14_copy := goodIn_r _ [59, 60, 61, 58, 62, 63, 64, 65, 66, 67, 68, 69, 70, 71, 23, 72, 73, 74, 75, 45, 76, 77, 78, 79, 80, 81, 82, 83, 84, 85, 86, 87, 88, 89, 90, 91, 25, 92, 93, 94, 95, 96, 97, 98, 99, 100, 101, 102, 103, 104, 105, 106, 107, 108, 109, 110, 111, 112, 113, 114, 115, 116, 117, 118, 119, 120, 121, 122, 123, 124, 125, 126, 127, 128, 129, 130, 131, 132, 133, 134, 512, 513, 544, 545, 546] (by decide +kernel) (by decide +kernel)
set_option maxRecDepth 20000 in
theorem gX16_outcomeWith_X14_copy : GoodIn wsX16_outcomeWith (wsV RX16 207 RX14 yX14_copy wsX14_copy) := goodIn_app (goodIn_of _ (by decide +kernel)) ggX16_outcomeWith_X14_copy
set_option maxRecDepth 20000 in
theorem ggX16_outcomeWith_X12_init : GoodIn wsX16_outcomeWith wsX12_init := goodIn_r _ [137, 138, 68, 69, 139, 140, 141, 514, 515, 516] (by decide +kernel) (by decide +kernel)
set_option maxRecDepth 20000 in
theorem gX16_outcomeWith_X12_init : GoodIn wsX16_outcomeWith (wsX12_init) := ggX16_outcomeWith_X12_init
set_option maxRecDepth 20000 in
theorem ggX16_outcomeWith_Jx4a65c_set_bcc79 : GoodIn wsX16_outcomeWith wsJx4a65c_set_bcc79 := goodIn_r _ [145, 25, 45, 33, 34, 35, 36, 37, 38, 39, 40, 41, 42, 43, 23, 44, 544, 545, 546] (by decide +kernel) (by decide +kernel)
set_option maxRecDepth 20000 in
theorem gX16_outcomeWith_Jx4a65c_set_bcc79 : GoodIn wsX16_outcomeWith (wsV RX16 82 RJx4a65c yJx4a65c_set_bcc79 wsJx4a65c_set_bcc79) := goodIn_app (goodIn_of _ (by decide +kernel)) ggX16_outcomeWith_Jx4a65c_set_bcc79
set_option maxRecDepth 20000 in
theorem ggX16_outcomeWith_X11_init : GoodIn wsX16_outcomeWith wsX11_init := goodIn_r _ [148, 149, 68, 69, 150, 151, 152, 153, 154, 155, 156, 157, 158, 159, 160, 161, 162, 163, 164, 165, 166, 21, 22, 23, 24, 25, 167, 168, 169, 11, 170, 171, 71, 172, 173, 174, 175, 73, 74, 75, 45, 76, 77, 78, 79, 80, 81, 82, 83, 84, 85, 176, 30, 31, 32, 33, 34, 35, 36, 37, 38, 39, 40, 41, 42, 43, 44, 177, 178, 179, 180, 181, 182, 183, 184, 185, 186, 187, 188, 189, 190, 191, 192, 193, 194, 195, 196, 197, 198, 199, 200, 201, 202, 203, 204, 205, 90, 91, 206, 207, 208, 209, 210, 211, 212, 213, 118, 119, 120, 121, 122, 123, 115, 124, 125, 126, 127, 128, 129, 130, 131, 132, 133, 134, 100, 101, 102, 103, 104, 105, 106, 107, 108, 109, 110, 111, 112, 113, 114, 116, 117, 93, 94, 95, 214, 215, 216, 217, 218, 219, 220, 221, 92, 222, 223, 224, 225, 226, 227, 228, 229, 230, 231, 232, 233, 234, 235, 236, 237, 238, 239, 240, 241, 242, 243, 244, 245, 246, 247, 58, 248, 249, 250, 251, 252, 62, 253, 254, 27, 18, 28, 255, 256, 257, 258, 259, 7, 260, 139, 261, 262, 263, 264, 265, 266, 267, 268, 63, 269, 270, 271, 272, 273, 274, 275, 276, 277, 278, 279, 280, 281, 282, 283, 284, 285, 286, 287, 288, 289, 290, 291, 292, 293, 294, 295, 296, 297, 298, 299, 300, 301, 302, 303, 304, 305, 306, 517, 518, 519, 520, 521, 522, 523, 524, 525, 512, 513, 544, 545, 546, 514, 515, 516, 547] (by decide +kernel) (by decide +kernel)
set_option maxRecDepth 20000 in
theorem gX16_outcomeWith_X11_init : GoodIn wsX16_outcomeWith (wsX11_init) := ggX16_outcomeWith_X11_init
set_option maxRecDepth 20000 in
theorem ggX16_outcomeWith_X11_faults : GoodIn wsX16_outcomeWith wsX11_faults := goodIn_r _ [310, 171, 71, 23, 163, 150, 153, 158, 175, 73, 74, 75, 45, 76, 77, 78, 79, 80, 81, 82, 83, 84, 85, 68, 69, 311, 312, 313, 11, 314, 202, 203, 204, 205, 90, 91, 25, 206, 207, 208, 209, 210, 211, 212, 213, 118, 119, 120, 121, 122, 123, 115, 124, 125, 126, 127, 128, 129, 130, 131, 132, 133, 134, 100, 101, 102, 103, 104, 105, 106, 107, 108, 109, 110, 111, 112, 113, 114, 116, 117, 93, 94, 95, 315, 316, 317, 318, 151, 152, 172, 161, 160, 176, 30, 31, 32, 33, 34, 35, 36, 37, 38, 39, 40, 41, 42, 43, 44, 319, 292, 293, 58, 294, 295, 296, 297, 245, 246, 247, 248, 249, 250, 251, 252, 62, 253, 254, 21, 22, 24, 27, 18, 28, 255, 256, 182, 183, 184, 185, 186, 320, 321, 322, 323, 324, 325, 284, 285, 286, 326, 327, 328, 329, 239, 173, 156, 164, 330, 331, 332, 333, 63, 269, 334, 335, 336, 337, 338, 339, 340, 341, 342, 343, 344, 345, 346, 347, 348, 349, 350, 351, 352, 353, 354, 355, 356, 357, 358, 359, 360, 361, 362, 270, 262, 263, 7, 264, 139, 363, 364, 365, 366, 367, 368, 369, 166, 370, 371, 303, 304, 305, 306, 155, 165, 298, 299, 300, 301, 302, 258, 259, 260, 544, 545, 546, 517, 518, 519, 520, 521, 522, 523, 524, 525, 512, 513, 514, 515, 516, 547, 548, 549, 550, 551] (by decide +kernel) (by decide +kernel)
set_option maxRecDepth 20000 in
theorem gX16_outcomeWith_X11_faults : GoodIn wsX16_outcomeWith (wsV RX16 156 RX11 yX11_faults wsX11_faults) := goodIn_app (goodIn_of _ (by decide +kernel)) ggX16_outcomeWith_X11_faults
set_option maxRecDepth 20000 in
theorem ggX16_outcomeWith_Jx4a65c_isEmpty_aae02 : GoodIn wsX16_outcomeWith wsJx4a65c_isEmpty_aae02 := goodIn_r _ [180, 25, 544, 545, 546] (by decide +kernel) (by decide +kernel)
set_option maxRecDepth 20000 in
theorem gX16_outcomeWith_Jx4a65c_isEmpty_aae02 : GoodIn wsX16_outcomeWith (wsV RX16 89 RJx4a65c yJx4a65c_isEmpty_aae02 wsJx4a65c_isEmpty_aae02) := goodIn_app (goodIn_of _ (by decide +kernel)) ggX16_outcomeWith_Jx4a65c_isEmpty_aae02
set_option maxRecDepth 20000 in
theorem ggX16_outcomeWith_X15_init : GoodIn wsX16_outcomeWith wsX15_init := goodIn_r _ [375, 376, 68, 69, 377, 71, 23, 378, 379, 380, 381, 382, 383, 384, 163, 385, 386, 387, 388, 389, 390, 391, 392, 73, 74, 75, 45, 76, 77, 78, 79, 80, 81, 82, 83, 84, 85, 393, 21, 22, 24, 25, 394, 395, 396, 14, 397, 398, 399, 400, 401, 402, 403, 30, 31, 32, 33, 34, 35, 36, 37, 38, 39, 40, 41, 42, 43, 44, 404, 405, 406, 407, 408, 409, 410, 411, 412, 413, 414, 415, 416, 417, 418, 419, 420, 421, 422, 423, 250, 251, 58, 252, 62, 253, 254, 27, 18, 28, 255, 256, 182, 183, 184, 185, 186, 424, 425, 426, 427, 428, 429, 430, 431, 432, 433, 434, 435, 436, 437, 438, 439, 440, 441, 442, 203, 204, 205, 90, 91, 206, 207, 208, 209, 210, 211, 212, 213, 118, 119, 120, 121, 122, 123, 115, 124, 125, 126, 127, 128, 129, 130, 131, 132, 133, 134, 100, 101, 102, 103, 104, 105, 106, 107, 108, 109, 110, 111, 112, 113, 114, 116, 117, 93, 94, 95, 443, 246, 247, 248, 249, 444, 445, 446, 447, 448, 449, 450, 451, 452, 453, 454, 455, 456, 457, 458, 459, 460, 461, 462, 463, 464, 465, 466, 467, 468, 469, 470, 471, 472, 473, 474, 475, 476, 477, 478, 479, 284, 285, 286, 480, 481, 482, 483, 484, 485, 486, 487, 488, 489, 490, 491, 492, 493, 494, 495, 496, 497, 498, 499, 500, 501, 502, 503, 544, 545, 546, 526, 527, 528, 529, 530, 531, 532, 533, 534, 535, 536, 537, 538, 539, 540, 541, 542, 543, 512, 513, 514, 515, 516, 517, 518, 519, 520, 521, 522, 523, 524, 525, 552, 553, 554, 555, 556, 547] (by decide +kernel) (by decide +kernel)
set_option maxRecDepth 20000 in
theorem gX16_outcomeWith_X15_init : GoodIn wsX16_outcomeWith (wsX15_init) := ggX16_outcomeWith_X15_init
set_option maxRecDepth 20000 in
theorem ggX16_outcomeWith_X15_outcome : GoodIn wsX16_outcomeWith wsX15_outcome := goodIn_r _ [507, 400, 402, 379, 526, 527, 528, 529, 530, 531, 532, 533, 534, 535, 536, 537, 538, 539, 540, 541, 542, 543] (by decide +kernel) (by decide +kernel)
set_option maxRecDepth 20000 in
theorem gX16_outcomeWith_X15_outcome : GoodIn wsX16_outcomeWith (wsV RX16 221 RX15 yX15_outcome wsX15_outcome) := goodIn_app (goodIn_of _ (by decide +kernel)) ggX16_outcomeWith_X15_outcome
theorem dX16_outcomeWith_0 : decode cX16_outcomeWith 0 = .ok (.aload_n 0, 1) := by decide +kernel
theorem dX16_outcomeWith_1 : decode cX16_outcomeWith 1 = .ok (.aload_n 0, 1) := by decide +kernel
theorem dX16_outcomeWith_2 : decode cX16_outcomeWith 2 = .ok (.iload_n 1, 1) := by decide +kernel
theorem dX16_outcomeWith_3 : decode cX16_outcomeWith 3 = .ok (.invokevirtual 74, 3) := by decide +kernel
theorem dX16_outcomeWith_6 : decode cX16_outcomeWith 6 = .ok (.ifCond .ne 45, 3) := by decide +kernel
theorem dX16_outcomeWith_9 : decode cX16_outcomeWith 9 = .ok (.aload_n 0, 1) := by decide +kernel
theorem dX16_outcomeWith_10 : decode cX16_outcomeWith 10 = .ok (.getfield 10, 3) := by decide +kernel
theorem dX16_outcomeWith_13 : decode cX16_outcomeWith 13 = .ok (.getfield 64, 3) := by decide +kernel
theorem dX16_outcomeWith_16 : decode cX16_outcomeWith 16 = .ok (.iload_n 1, 1) := by decide +kernel
theorem dX16_outcomeWith_17 : decode cX16_outcomeWith 17 = .ok (.invokevirtual 78, 3) := by decide +kernel
theorem dX16_outcomeWith_20 : decode cX16_outcomeWith 20 = .ok (.checkcast 59, 3) := by decide +kernel
theorem dX16_outcomeWith_23 : decode cX16_outcomeWith 23 = .ok (.getfield 86, 3) := by decide +kernel
theorem dX16_outcomeWith_26 : decode cX16_outcomeWith 26 = .ok (.ifCond .eq 29, 3) := by decide +kernel
theorem dX16_outcomeWith_29 : decode cX16_outcomeWith 29 = .ok (.aload_n 0, 1) := by decide +kernel
theorem dX16_outcomeWith_30 : decode cX16_outcomeWith 30 = .ok (.getfield 10, 3) := by decide +kernel
theorem dX16_outcomeWith_33 : decode cX16_outcomeWith 33 = .ok (.getfield 64, 3) := by decide +kernel
theorem dX16_outcomeWith_36 : decode cX16_outcomeWith 36 = .ok (.iload_n 1, 1) := by decide +kernel
theorem dX16_outcomeWith_37 : decode cX16_outcomeWith 37 = .ok (.invokevirtual 78, 3) := by decide +kernel
theorem dX16_outcomeWith_40 : decode cX16_outcomeWith 40 = .ok (.checkcast 59, 3) := by decide +kernel
theorem dX16_outcomeWith_43 : decode cX16_outcomeWith 43 = .ok (.getfield 86, 3) := by decide +kernel
theorem dX16_outcomeWith_46 : decode cX16_outcomeWith 46 = .ok (.bipush 6, 2) := by decide +kernel
theorem dX16_outcomeWith_48 : decode cX16_outcomeWith 48 = .ok (.if_icmp .eq 7, 3) := by decide +kernel
theorem dX16_outcomeWith_51 : decode cX16_outcomeWith 51 = .ok (.iconst 1, 1) := by decide +kernel
theorem dX16_outcomeWith_52 : decode cX16_outcomeWith 52 = .ok (.goto 4, 3) := by decide +kernel
theorem dX16_outcomeWith_55 : decode cX16_outcomeWith 55 = .ok (.iconst 0, 1) := by decide +kernel
theorem dX16_outcomeWith_56 : decode cX16_outcomeWith 56 = .ok (.iconst 1, 1) := by decide +kernel
theorem dX16_outcomeWith_57 : decode cX16_outcomeWith 57 = .ok (.invokevirtual 33, 3) := by decide +kernel
theorem dX16_outcomeWith_60 : decode cX16_outcomeWith 60 = .ok (.ifCond .ne 27, 3) := by decide +kernel
theorem dX16_outcomeWith_63 : decode cX16_outcomeWith 63 = .ok (.aload_n 0, 1) := by decide +kernel
theorem dX16_outcomeWith_64 : decode cX16_outcomeWith 64 = .ok (.iload_n 2, 1) := by decide +kernel
theorem dX16_outcomeWith_65 : decode cX16_outcomeWith 65 = .ok (.bipush (-99), 2) := by decide +kernel
theorem dX16_outcomeWith_67 : decode cX16_outcomeWith 67 = .ok (.bipush 99, 2) := by decide +kernel
theorem dX16_outcomeWith_69 : decode cX16_outcomeWith 69 = .ok (.invokestatic 29, 3) := by decide +kernel
theorem dX16_outcomeWith_72 : decode cX16_outcomeWith 72 = .ok (.ifCond .ne 7, 3) := by decide +kernel
theorem dX16_outcomeWith_75 : decode cX16_outcomeWith 75 = .ok (.iconst 1, 1) := by decide +kernel
theorem dX16_outcomeWith_76 : decode cX16_outcomeWith 76 = .ok (.goto 4, 3) := by decide +kernel
theorem dX16_outcomeWith_79 : decode cX16_outcomeWith 79 = .ok (.iconst 0, 1) := by decide +kernel
theorem dX16_outcomeWith_80 : decode cX16_outcomeWith 80 = .ok (.iconst 2, 1) := by decide +kernel
theorem dX16_outcomeWith_81 : decode cX16_outcomeWith 81 = .ok (.invokevirtual 20, 3) := by decide +kernel
theorem dX16_outcomeWith_84 : decode cX16_outcomeWith 84 = .ok (.ifCond .eq 5, 3) := by decide +kernel
theorem dX16_outcomeWith_87 : decode cX16_outcomeWith 87 = .ok (.iconst 0, 1) := by decide +kernel
theorem dX16_outcomeWith_88 : decode cX16_outcomeWith 88 = .ok (.ireturn, 1) := by decide +kernel
theorem dX16_outcomeWith_89 : decode cX16_outcomeWith 89 = .ok (.aload_n 0, 1) := by decide +kernel
theorem dX16_outcomeWith_90 : decode cX16_outcomeWith 90 = .ok (.getfield 10, 3) := by decide +kernel
theorem dX16_outcomeWith_93 : decode cX16_outcomeWith 93 = .ok (.invokevirtual 207, 3) := by decide +kernel
theorem dX16_outcomeWith_96 : decode cX16_outcomeWith 96 = .ok (.astore_n 3, 1) := by decide +kernel
theorem dX16_outcomeWith_97 : decode cX16_outcomeWith 97 = .ok (.aload_n 3, 1) := by decide +kernel
theorem dX16_outcomeWith_98 : decode cX16_outcomeWith 98 = .ok (.getfield 64, 3) := by decide +kernel
theorem dX16_outcomeWith_101 : decode cX16_outcomeWith 101 = .ok (.iload_n 1, 1) := by decide +kernel
theorem dX16_outcomeWith_102 : decode cX16_outcomeWith 102 = .ok (.new 59, 3) := by decide +kernel
theorem dX16_outcomeWith_105 : decode cX16_outcomeWith 105 = .ok (.dup, 1) := by decide +kernel
theorem dX16_outcomeWith_106 : decode cX16_outcomeWith 106 = .ok (.aload_n 0, 1) := by decide +kernel
theorem dX16_outcomeWith_107 : decode cX16_outcomeWith 107 = .ok (.getfield 10, 3) := by decide +kernel
theorem dX16_outcomeWith_110 : decode cX16_outcomeWith 110 = .ok (.getfield 64, 3) := by decide +kernel
theorem dX16_outcomeWith_113 : decode cX16_outcomeWith 113 = .ok (.iload_n 1, 1) := by decide +kernel
theorem dX16_outcomeWith_114 : decode cX16_outcomeWith 114 = .ok (.invokevirtual 78, 3) := by decide +kernel
theorem dX16_outcomeWith_117 : decode cX16_outcomeWith 117 = .ok (.checkcast 59, 3) := by decide +kernel
theorem dX16_outcomeWith_120 : decode cX16_outcomeWith 120 = .ok (.getfield 86, 3) := by decide +kernel
theorem dX16_outcomeWith_123 : decode cX16_outcomeWith 123 = .ok (.aload_n 0, 1) := by decide +kernel
theorem dX16_outcomeWith_124 : decode cX16_outcomeWith 124 = .ok (.getfield 10, 3) := by decide +kernel
theorem dX16_outcomeWith_127 : decode cX16_outcomeWith 127 = .ok (.getfield 64, 3) := by decide +kernel
theorem dX16_outcomeWith_130 : decode cX16_outcomeWith 130 = .ok (.iload_n 1, 1) := by decide +kernel
theorem dX16_outcomeWith_131 : decode cX16_outcomeWith 131 = .ok (.invokevirtual 78, 3) := by decide +kernel
theorem dX16_outcomeWith_134 : decode cX16_outcomeWith 134 = .ok (.checkcast 59, 3) := by decide +kernel
theorem dX16_outcomeWith_137 : decode cX16_outcomeWith 137 = .ok (.getfield 95, 3) := by decide +kernel
theorem dX16_outcomeWith_140 : decode cX16_outcomeWith 140 = .ok (.iload_n 2, 1) := by decide +kernel
theorem dX16_outcomeWith_141 : decode cX16_outcomeWith 141 = .ok (.invokespecial 61, 3) := by decide +kernel
theorem dX16_outcomeWith_144 : decode cX16_outcomeWith 144 = .ok (.invokevirtual 82, 3) := by decide +kernel
theorem dX16_outcomeWith_147 : decode cX16_outcomeWith 147 = .ok (.pop, 1) := by decide +kernel
theorem dX16_outcomeWith_148 : decode cX16_outcomeWith 148 = .ok (.new 24, 3) := by decide +kernel
theorem dX16_outcomeWith_151 : decode cX16_outcomeWith 151 = .ok (.dup, 1) := by decide +kernel
theorem dX16_outcomeWith_152 : decode cX16_outcomeWith 152 = .ok (.aload_n 3, 1) := by decide +kernel
theorem dX16_outcomeWith_153 : decode cX16_outcomeWith 153 = .ok (.invokespecial 26, 3) := by decide +kernel
theorem dX16_outcomeWith_156 : decode cX16_outcomeWith 156 = .ok (.astore 4, 2) := by decide +kernel
theorem dX16_outcomeWith_158 : decode cX16_outcomeWith 158 = .ok (.aload 4, 2) := by decide +kernel
theorem dX16_outcomeWith_160 : decode cX16_outcomeWith 160 = .ok (.invokevirtual 156, 3) := by decide +kernel
theorem dX16_outcomeWith_163 : decode cX16_outcomeWith 163 = .ok (.invokevirtual 89, 3) := by decide +kernel
theorem dX16_outcomeWith_166 : decode cX16_outcomeWith 166 = .ok (.ifCond .eq 19, 3) := by decide +kernel
theorem dX16_outcomeWith_169 : decode cX16_outcomeWith 169 = .ok (.new 205, 3) := by decide +kernel
theorem dX16_outcomeWith_172 : decode cX16_outcomeWith 172 = .ok (.dup, 1) := by decide +kernel
theorem dX16_outcomeWith_173 : decode cX16_outcomeWith 173 = .ok (.aload_n 3, 1) := by decide +kernel
theorem dX16_outcomeWith_174 : decode cX16_outcomeWith 174 = .ok (.aload 4, 2) := by decide +kernel
theorem dX16_outcomeWith_176 : decode cX16_outcomeWith 176 = .ok (.invokespecial 211, 3) := by decide +kernel
theorem dX16_outcomeWith_179 : decode cX16_outcomeWith 179 = .ok (.invokevirtual 221, 3) := by decide +kernel
theorem dX16_outcomeWith_182 : decode cX16_outcomeWith 182 = .ok (.goto 4, 3) := by decide +kernel
theorem dX16_outcomeWith_185 : decode cX16_outcomeWith 185 = .ok (.iconst (-1), 1) := by decide +kernel
theorem dX16_outcomeWith_186 : decode cX16_outcomeWith 186 = .ok (.ireturn, 1) := by decide +kernel
theorem dX16_add__0 : decode cX16_add_ 0 = .ok (.lload_n 0, 1) := by decide +kernel
theorem dX16_add__1 : decode cX16_add_ 1 = .ok (.ldc2_w 263, 3) := by decide +kernel
theorem dX16_add__4 : decode cX16_add_ 4 = .ok (.lmul, 1) := by decide +kernel
theorem dX16_add__5 : decode cX16_add_ 5 = .ok (.lload_n 2, 1) := by decide +kernel
theorem dX16_add__6 : decode cX16_add_ 6 = .ok (.ladd, 1) := by decide +kernel
theorem dX16_add__7 : decode cX16_add_ 7 = .ok (.lreturn, 1) := by decide +kernel
set_option maxRecDepth 20000 in
theorem ggX16_digest_X16_check : GoodIn wsX16_digest wsX16_check := goodIn_r _ [15, 16, 17, 18, 3, 19, 20, 21, 22, 23, 24, 25, 26, 27, 28, 29, 30, 31, 32, 33, 34, 35, 36, 37, 38, 39, 40, 41, 42, 43, 44, 45, 46, 47, 48, 49, 50, 51, 52, 53, 54, 55, 56, 57, 58, 59, 60, 61, 62, 63, 64, 65, 66, 67, 68, 69, 70, 71, 72, 73, 74, 75, 76, 77, 78, 79, 80, 81, 82, 83, 84, 85, 86, 87, 88, 89, 90, 91, 92, 93, 94, 95, 96, 97, 98, 99, 100, 101, 102, 103, 104, 105, 106, 107, 108, 109, 110, 111, 112, 113, 114, 115, 116, 117, 118, 119, 120, 121, 122, 123, 124, 125, 126, 127, 128, 129, 130, 131, 132, 133, 134, 135, 136, 137, 138, 139, 140, 141, 142, 143, 144, 145, 146, 147, 148, 149, 150, 151, 152, 153, 154, 155, 156, 157, 158, 159, 160, 161, 162, 163, 164, 165, 166, 167, 168, 169, 170, 171, 172, 173, 174, 175, 176, 177, 178, 179, 180, 181, 182, 183, 184, 185, 186, 187, 188, 189, 190, 191, 192, 193, 194, 195, 196, 197, 198, 199, 200, 201, 202, 203, 204, 205, 206, 207, 208, 14, 209, 210, 211, 212, 213, 214, 215, 216, 217, 218, 219, 220, 221, 222, 223, 224, 225, 226, 227, 228, 229, 230, 231, 232, 233, 234, 235, 236, 237, 238, 239, 240, 241, 242, 243, 244, 245, 246, 247, 248, 249, 250, 251, 252, 253, 254, 255, 256, 257, 258, 259, 260, 261, 262, 263, 264, 614, 615, 616, 617, 618, 619, 620, 621, 622, 608, 609, 610, 611, 612, 613, 641, 642, 643, 644, 645, 646, 647] (by decide +kernel) (by decide +kernel)
set_option maxRecDepth 20000 in
theorem gX16_digest_X16_check : GoodIn wsX16_digest (wsV RX16 112 RX16 yX16_check wsX16_check) := goodIn_app (goodIn_of _ (by decide +kernel)) ggX16_digest_X16_check
set_option maxRecDepth 20000 in
theorem ggX16_digest_X16_count : GoodIn wsX16_digest wsX16_count := goodIn_r _ [268, 3, 4, 5, 269, 131, 132, 133, 270, 42, 43, 44, 45, 46, 271, 272, 273, 18, 274, 51, 52, 38, 25, 28, 33, 56, 57, 58, 59, 60, 61, 62, 63, 64, 65, 66, 67, 68, 69, 70, 23, 24, 275, 276, 277, 278, 112, 113, 114, 115, 116, 117, 118, 119, 120, 121, 122, 123, 124, 125, 126, 127, 128, 129, 130, 134, 135, 136, 137, 138, 139, 140, 141, 142, 143, 144, 145, 146, 147, 148, 149, 150, 151, 152, 153, 154, 155, 156, 157, 158, 159, 160, 161, 162, 163, 279, 280, 281, 282, 26, 27, 53, 36, 35, 71, 72, 73, 74, 75, 76, 77, 78, 79, 80, 81, 82, 83, 84, 85, 86, 283, 250, 251, 199, 252, 253, 254, 255, 196, 197, 198, 200, 201, 202, 203, 204, 205, 206, 207, 208, 14, 209, 210, 211, 92, 93, 94, 95, 96, 284, 285, 286, 287, 288, 289, 242, 243, 244, 290, 291, 292, 293, 190, 54, 31, 39, 294, 295, 296, 297, 226, 227, 298, 299, 300, 301, 302, 303, 304, 305, 306, 307, 308, 309, 310, 311, 312, 313, 314, 315, 316, 317, 318, 319, 320, 321, 322, 323, 324, 325, 326, 228, 219, 220, 215, 221, 217, 327, 328, 329, 330, 331, 332, 333, 41, 334, 335, 261, 262, 263, 264, 30, 40, 256, 257, 258, 259, 260, 213, 214, 216, 336, 337, 338, 339, 340, 341, 342, 343, 344, 345, 346, 347, 348, 349, 350, 351, 352, 353, 354, 191, 355, 356, 357, 358, 359, 360, 361, 362, 363, 364, 365, 366, 367, 368, 369, 370, 371, 372, 373, 374, 375, 7, 608, 609, 610, 611, 612, 613, 641, 642, 643, 614, 615, 616, 617, 618, 619, 620, 621, 622, 644, 645, 646, 647, 648, 649, 650, 651] (by decide +kernel) (by decide +kernel)
set_option maxRecDepth 20000 in
theorem gX16_digest_X16_count : GoodIn wsX16_digest (wsV RX16 248 RX16 yX16_count wsX16_count) := goodIn_app (goodIn_of _ (by decide +kernel)) ggX16_digest_X16_count
set_option maxRecDepth 20000 in
theorem ggX16_digest_X16_add_ : GoodIn wsX16_digest wsX16_add_ := goodIn_r _ [378, 379] (by decide +kernel) (by decide +kernel)
set_option maxRecDepth 20000 in
theorem gX16_digest_X16_add_ : GoodIn wsX16_digest (va_wsS RX16 267 yX16_add_ wsX16_add_) := goodIn_app (goodIn_of _ (by decide +kernel)) ggX16_digest_X16_add_
set_option maxRecDepth 20000 in
theorem ggX16_digest_Jx4a65c_size_8abf5 : GoodIn wsX16_digest wsJx4a65c_size_8abf5 := goodIn_r _ [45, 46, 641, 642, 643] (by decide +kernel) (by decide +kernel)
set_option maxRecDepth 20000 in
theorem gX16_digest_Jx4a65c_size_8abf5 : GoodIn wsX16_digest (wsV RX16 40 RJx4a65c yJx4a65c_size_8abf5 wsJx4a65c_size_8abf5) := goodIn_app (goodIn_of _ (by decide +kernel)) ggX16_digest_Jx4a65c_size_8abf5
set_option maxRecDepth 20000 in
theorem ggX16_digest_X16_ofVariableNow : GoodIn wsX16_digest wsX16_ofVariableNow := goodIn_r _ [383, 3, 4, 384, 5, 365, 371, 72, 73, 44, 74, 46, 75, 76, 77, 78, 79, 80, 81, 82, 83, 84, 85, 86, 60, 385, 92, 93, 94, 95, 96, 337, 338, 339, 14, 340, 341, 276, 277, 18, 278, 25, 342, 343, 344, 199, 345, 201, 202, 203, 204, 205, 206, 207, 42, 43, 45, 208, 209, 210, 211, 346, 197, 198, 200, 38, 347, 348, 349, 350, 28, 33, 35, 36, 26, 27, 53, 71, 351, 352, 353, 354, 54, 191, 331, 332, 333, 386, 299, 300, 301, 302, 303, 304, 305, 306, 307, 308, 309, 23, 24, 310, 311, 117, 312, 387, 314, 315, 316, 317, 388, 319, 320, 321, 322, 323, 324, 325, 326, 389, 246, 247, 248, 249, 250, 251, 252, 253, 254, 255, 390, 257, 258, 259, 260, 213, 214, 215, 216, 217, 608, 609, 610, 611, 612, 613, 641, 642, 643, 647, 614, 615, 616, 617, 618, 619, 620, 621, 622, 644, 645, 646, 648, 649, 650, 651] (by decide +kernel) (by decide +kernel)
set_option maxRecDepth 20000 in
theorem gX16_digest_X16_ofVariableNow : GoodIn wsX16_digest (wsV RX16 202 RX16 yX16_ofVariableNow wsX16_ofVariableNow) := goodIn_app (goodIn_of _ (by decide +kernel)) ggX16_digest_X16_ofVariableNow
set_option maxRecDepth 20000 in
theorem ggX16_digest_X16_ofLineNow : GoodIn wsX16_digest wsX16_ofLineNow := goodIn_r _ [364, 3, 5, 365, 366, 367, 368, 369, 370, 371, 72, 73, 44, 74, 46, 75, 76, 77, 78, 79, 80, 81, 82, 83, 84, 85, 86, 60, 341, 276, 277, 18, 278, 25, 608, 609, 610, 611, 612, 613, 644, 645, 646, 614, 615, 616, 617, 618, 619, 620, 621, 622, 641, 642, 643] (by decide +kernel) (by decide +kernel)
set_option maxRecDepth 20000 in
theorem gX16_digest_X16_ofLineNow : GoodIn wsX16_digest (wsV RX16 116 RX16 yX16_ofLineNow wsX16_ofLineNow) := goodIn_app (goodIn_of _ (by decide +kernel)) ggX16_digest_X16_ofLineNow
set_option maxRecDepth 20000 in
theorem ggX16_digest_X11_state : GoodIn wsX16_digest wsX11_state := goodIn_r _ [394, 33, 26, 36, 35, 196, 197, 198, 199, 200, 38, 201, 202, 203, 204, 205, 206, 207, 42, 43, 44, 45, 46, 208, 14, 209, 210, 72, 73, 74, 75, 76, 77, 78, 79, 80, 81, 82, 83, 84, 85, 86, 60, 211, 92, 93, 94, 95, 96, 614, 615, 616, 617, 618, 619, 620, 621, 622, 612, 613, 641, 642, 643, 647] (by decide +kernel) (by decide +kernel)
set_option maxRecDepth 20000 in
theorem gX16_digest_X11_state : GoodIn wsX16_digest (wsV RX16 127 RX11 yX11_state wsX11_state) := goodIn_app (goodIn_of _ (by decide +kernel)) ggX16_digest_X11_state
set_option maxRecDepth 20000 in
theorem ggX16_digest_X11_inTheWay : GoodIn wsX16_digest wsX11_inTheWay := goodIn_r _ [398, 26, 27, 53, 190, 31, 39, 40, 294, 295, 296, 199, 297, 226, 227, 298, 299, 300, 44, 301, 302, 303, 304, 305, 306, 307, 308, 309, 23, 24, 310, 311, 117, 312, 313, 314, 315, 316, 317, 318, 319, 320, 321, 322, 323, 324, 325, 326, 228, 219, 220, 215, 221, 217, 327, 328, 329, 330, 207, 42, 43, 45, 46, 210, 72, 73, 74, 75, 76, 77, 78, 79, 80, 81, 82, 83, 84, 85, 86, 60, 71, 331, 332, 333, 41, 334, 14, 335, 614, 615, 616, 617, 618, 619, 620, 621, 622, 612, 613, 644, 645, 646, 648, 649, 650, 651, 641, 642, 643] (by decide +kernel) (by decide +kernel)
set_option maxRecDepth 20000 in
theorem gX16_digest_X11_inTheWay : GoodIn wsX16_digest (wsV RX16 144 RX11 yX11_inTheWay wsX11_inTheWay) := goodIn_app (goodIn_of _ (by decide +kernel)) ggX16_digest_X11_inTheWay
set_option maxRecDepth 20000 in
theorem ggX16_digest_X14_isBorrow : GoodIn wsX16_digest wsX14_isBorrow := goodIn_r _ [244, 201, 202, 203, 199, 204, 205, 206, 207, 42, 43, 44, 45, 46, 208, 14, 209, 210, 72, 73, 74, 75, 76, 77, 78, 79, 80, 81, 82, 83, 84, 85, 86, 60, 211, 92, 93, 94, 95, 96, 612, 613, 641, 642, 643, 647] (by decide +kernel) (by decide +kernel)
set_option maxRecDepth 20000 in
theorem gX16_digest_X14_isBorrow : GoodIn wsX16_digest (wsV RX16 131 RX14 yX14_isBorrow wsX14_isBorrow) := goodIn_app (goodIn_of _ (by decide +kernel)) ggX16_digest_X14_isBorrow
set_option maxRecDepth 20000 in
theorem ggX16_digest_X16_faultsWithoutNow : GoodIn wsX16_digest wsX16_faultsWithoutNow := goodIn_r _ [403, 3, 5, 16, 17, 18, 404, 405, 406, 199, 407, 408, 409, 205, 226, 410, 411, 412, 413, 23, 24, 414, 52, 44, 415, 57, 58, 59, 60, 61, 62, 63, 64, 65, 66, 67, 68, 69, 70, 416, 417, 418, 419, 116, 117, 46, 172, 161, 162, 163, 420, 421, 422, 423, 144, 145, 146, 147, 148, 149, 150, 151, 152, 153, 154, 155, 156, 157, 158, 132, 159, 160, 126, 127, 128, 129, 130, 131, 133, 134, 135, 136, 137, 138, 139, 140, 141, 142, 143, 424, 165, 166, 167, 75, 76, 77, 78, 79, 80, 81, 82, 168, 169, 170, 171, 19, 20, 21, 22, 25, 26, 27, 28, 29, 30, 31, 32, 33, 34, 35, 36, 37, 38, 39, 40, 41, 42, 43, 45, 47, 48, 49, 50, 51, 53, 54, 55, 56, 71, 72, 73, 74, 83, 84, 85, 86, 87, 88, 89, 90, 91, 92, 93, 94, 95, 96, 97, 98, 99, 100, 101, 102, 103, 104, 105, 106, 107, 108, 109, 110, 111, 112, 113, 114, 115, 118, 119, 120, 121, 122, 123, 124, 125, 164, 173, 174, 175, 176, 177, 178, 179, 180, 181, 182, 183, 184, 185, 186, 187, 188, 189, 190, 191, 192, 193, 194, 195, 196, 197, 198, 200, 201, 202, 203, 204, 206, 207, 208, 14, 209, 210, 211, 212, 213, 214, 215, 216, 217, 218, 219, 220, 221, 222, 223, 224, 225, 227, 228, 229, 230, 231, 232, 233, 234, 235, 236, 237, 238, 239, 240, 241, 242, 243, 244, 245, 246, 247, 248, 249, 250, 251, 252, 253, 254, 255, 256, 257, 258, 259, 260, 261, 262, 263, 264, 271, 272, 273, 274, 275, 276, 277, 278, 279, 280, 281, 282, 283, 284, 285, 286, 287, 288, 289, 290, 291, 292, 293, 294, 295, 296, 297, 298, 299, 300, 301, 302, 303, 304, 305, 306, 307, 308, 309, 310, 311, 312, 313, 314, 315, 316, 317, 318, 319, 320, 321, 322, 323, 324, 325, 326, 327, 328, 329, 330, 331, 332, 333, 334, 335, 270, 608, 609, 610, 611, 612, 613, 614, 615, 616, 617, 618, 619, 620, 621, 622, 641, 642, 643, 644, 645, 646, 647, 648, 649, 650, 651] (by decide +kernel) (by decide +kernel)
set_option maxRecDepth 20000 in
theorem gX16_digest_X16_faultsWithoutNow : GoodIn wsX16_digest (wsV RX16 251 RX16 yX16_faultsWithoutNow wsX16_faultsWithoutNow) := goodIn_app (goodIn_of _ (by decide +kernel)) ggX16_digest_X16_faultsWithoutNow
set_option maxRecDepth 20000 in
theorem ggX16_digest_X14_loans : GoodIn wsX16_digest wsX14_loans := goodIn_r _ [297, 226, 227, 298, 299, 300, 44, 301, 302, 303, 304, 305, 306, 307, 308, 309, 23, 24, 310, 311, 117, 312, 313, 314, 315, 316, 317, 318, 319, 320, 321, 322, 323, 324, 325, 326, 228, 219, 220, 215, 221, 217, 612, 613, 648, 649, 650, 651, 641, 642, 643, 644, 645, 646] (by decide +kernel) (by decide +kernel)
set_option maxRecDepth 20000 in
theorem gX16_digest_X14_loans : GoodIn wsX16_digest (wsV RX16 71 RX14 yX14_loans wsX14_loans) := goodIn_app (goodIn_of _ (by decide +kernel)) ggX16_digest_X14_loans
set_option maxRecDepth 20000 in
theorem ggX16_digest_X16_ofLoanNow : GoodIn wsX16_digest wsX16_ofLoanNow := goodIn_r _ [428, 3, 5, 365, 368, 366, 429, 328, 329, 199, 330, 226, 227, 207, 42, 43, 44, 45, 46, 210, 72, 73, 74, 75, 76, 77, 78, 79, 80, 81, 82, 83, 84, 85, 86, 60, 228, 219, 220, 215, 221, 217, 371, 430, 431, 432, 18, 433, 28, 26, 31, 27, 53, 39, 41, 241, 242, 243, 244, 201, 202, 203, 204, 205, 206, 208, 14, 209, 211, 92, 93, 94, 95, 96, 71, 245, 246, 247, 248, 249, 250, 251, 252, 253, 38, 254, 255, 334, 335, 608, 609, 610, 611, 612, 613, 644, 645, 646, 641, 642, 643, 614, 615, 616, 617, 618, 619, 620, 621, 622, 647] (by decide +kernel) (by decide +kernel)
set_option maxRecDepth 20000 in
theorem gX16_digest_X16_ofLoanNow : GoodIn wsX16_digest (wsV RX16 153 RX16 yX16_ofLoanNow wsX16_ofLoanNow) := goodIn_app (goodIn_of _ (by decide +kernel)) ggX16_digest_X16_ofLoanNow
set_option maxRecDepth 20000 in
theorem ggX16_digest_X11_faults : GoodIn wsX16_digest wsX11_faults := goodIn_r _ [274, 51, 52, 44, 38, 25, 28, 33, 56, 57, 58, 59, 60, 61, 62, 63, 64, 65, 66, 67, 68, 69, 70, 23, 24, 275, 276, 277, 18, 278, 112, 113, 114, 115, 116, 117, 46, 118, 119, 120, 121, 122, 123, 124, 125, 126, 127, 128, 129, 130, 131, 132, 133, 134, 135, 136, 137, 138, 139, 140, 141, 142, 143, 144, 145, 146, 147, 148, 149, 150, 151, 152, 153, 154, 155, 156, 157, 158, 159, 160, 161, 162, 163, 279, 280, 281, 282, 26, 27, 53, 36, 35, 71, 72, 73, 74, 75, 76, 77, 78, 79, 80, 81, 82, 83, 84, 85, 86, 283, 250, 251, 199, 252, 253, 254, 255, 196, 197, 198, 200, 201, 202, 203, 204, 205, 206, 207, 42, 43, 45, 208, 14, 209, 210, 211, 92, 93, 94, 95, 96, 284, 285, 286, 287, 288, 289, 242, 243, 244, 290, 291, 292, 293, 190, 54, 31, 39, 294, 295, 296, 297, 226, 227, 298, 299, 300, 301, 302, 303, 304, 305, 306, 307, 308, 309, 310, 311, 312, 313, 314, 315, 316, 317, 318, 319, 320, 321, 322, 323, 324, 325, 326, 228, 219, 220, 215, 221, 217, 327, 328, 329, 330, 331, 332, 333, 41, 334, 335, 261, 262, 263, 264, 30, 40, 256, 257, 258, 259, 260, 213, 214, 216, 641, 642, 643, 614, 615, 616, 617, 618, 619, 620, 621, 622, 612, 613, 644, 645, 646, 647, 648, 649, 650, 651] (by decide +kernel) (by decide +kernel)
set_option maxRecDepth 20000 in
theorem gX16_digest_X11_faults : GoodIn wsX16_digest (wsV RX16 156 RX11 yX11_faults wsX11_faults) := goodIn_app (goodIn_of _ (by decide +kernel)) ggX16_digest_X11_faults
set_option maxRecDepth 20000 in
theorem ggX16_digest_Jx4a65c_iterator_32c93 : GoodIn wsX16_digest wsJx4a65c_iterator_32c93 := goodIn_r _ [301, 302, 303, 304, 305, 306, 307, 308, 309, 23, 24, 310, 311, 117, 312, 648, 649, 650, 651, 641, 642, 643] (by decide +kernel) (by decide +kernel)
set_option maxRecDepth 20000 in
theorem gX16_digest_Jx4a65c_iterator_32c93 : GoodIn wsX16_digest (wsV RX16 183 RJx4a65c yJx4a65c_iterator_32c93 wsJx4a65c_iterator_32c93) := goodIn_app (goodIn_of _ (by decide +kernel)) ggX16_digest_Jx4a65c_iterator_32c93
set_option maxRecDepth 20000 in
theorem ggX16_digest_Jx35411_hasNext_aae02 : GoodIn wsX16_digest wsJx35411_hasNext_aae02 := goodIn_r _ [316, 317, 308, 648, 649, 650, 651, 641, 642, 643] (by decide +kernel) (by decide +kernel)
set_option maxRecDepth 20000 in
theorem gX16_digest_Jx35411_hasNext_aae02_f187Jx35411 : GoodIn wsX16_digest (va_wsF RX16 187 RJx35411 ⟨"java/util/Iterator", "hasNext", "()Z"⟩ yJx35411_hasNext_aae02 wsJx35411_hasNext_aae02) := goodIn_app (goodIn_of _ (by decide +kernel)) ggX16_digest_Jx35411_hasNext_aae02
set_option maxRecDepth 20000 in
theorem ggX16_digest_Jx35411_next_0502b : GoodIn wsX16_digest wsJx35411_next_0502b := goodIn_r _ [321, 317, 308, 322, 310, 323, 324, 325, 304, 326, 311, 117, 312, 648, 649, 650, 651, 641, 642, 643] (by decide +kernel) (by decide +kernel)
set_option maxRecDepth 20000 in
theorem gX16_digest_Jx35411_next_0502b_f192Jx35411 : GoodIn wsX16_digest (va_wsF RX16 192 RJx35411 ⟨"java/util/Iterator", "next", "()Ljava/lang/Object;"⟩ yJx35411_next_0502b wsJx35411_next_0502b) := goodIn_app (goodIn_of _ (by decide +kernel)) ggX16_digest_Jx35411_next_0502b
set_option maxRecDepth 20000 in
theorem ggX16_digest_X16_told : GoodIn wsX16_digest wsX16_told := goodIn_r _ [436, 430, 431, 432, 18, 433, 28, 26, 31, 27, 53, 39, 41, 42, 43, 44, 45, 46, 241, 242, 243, 199, 244, 201, 202, 203, 204, 205, 206, 207, 208, 14, 209, 210, 72, 73, 74, 75, 76, 77, 78, 79, 80, 81, 82, 83, 84, 85, 86, 60, 211, 92, 93, 94, 95, 96, 71, 245, 246, 247, 248, 249, 250, 251, 252, 253, 38, 254, 255, 334, 335, 614, 615, 616, 617, 618, 619, 620, 621, 622, 612, 613, 641, 642, 643, 647, 644, 645, 646] (by decide +kernel) (by decide +kernel)
set_option maxRecDepth 20000 in
theorem gX16_digest_X16_told : GoodIn wsX16_digest (va_wsS RX16 162 yX16_told wsX16_told) := goodIn_app (goodIn_of _ (by decide +kernel)) ggX16_digest_X16_told
set_option maxRecDepth 20000 in
theorem ggX16_digest_X16_ofRunNow : GoodIn wsX16_digest wsX16_ofRunNow := goodIn_r _ [440, 441, 9, 442, 443, 444, 445, 446, 38, 447, 448, 449, 450, 451, 452, 453, 454, 455, 456, 457, 458, 459, 460, 42, 43, 44, 45, 46, 461, 462, 463, 464, 608, 609, 610, 611, 623, 624, 625, 626, 627, 628, 629, 630, 631, 632, 633, 634, 635, 636, 637, 638, 639, 640, 641, 642, 643] (by decide +kernel) (by decide +kernel)
set_option maxRecDepth 20000 in
theorem gX16_digest_X16_ofRunNow : GoodIn wsX16_digest (wsV RX16 226 RX16 yX16_ofRunNow wsX16_ofRunNow) := goodIn_app (goodIn_of _ (by decide +kernel)) ggX16_digest_X16_ofRunNow
set_option maxRecDepth 20000 in
theorem ggX16_digest_X16_kept : GoodIn wsX16_digest wsX16_kept := goodIn_r _ [468, 9, 10, 469, 158, 132, 159, 270, 42, 43, 44, 45, 46, 608, 609, 610, 611, 623, 624, 625, 626, 627, 628, 629, 630, 631, 632, 633, 634, 635, 636, 637, 638, 639, 640, 641, 642, 643] (by decide +kernel) (by decide +kernel)
set_option maxRecDepth 20000 in
theorem gX16_digest_X16_kept : GoodIn wsX16_digest (wsV RX16 236 RX16 yX16_kept wsX16_kept) := goodIn_app (goodIn_of _ (by decide +kernel)) ggX16_digest_X16_kept
set_option maxRecDepth 20000 in
theorem ggX16_digest_Jx4a65c_get_915e3 : GoodIn wsX16_digest wsJx4a65c_get_915e3 := goodIn_r _ [74, 46, 75, 76, 77, 78, 79, 80, 81, 82, 83, 84, 85, 44, 86, 60, 641, 642, 643] (by decide +kernel) (by decide +kernel)
set_option maxRecDepth 20000 in
theorem gX16_digest_Jx4a65c_get_915e3 : GoodIn wsX16_digest (wsV RX16 78 RJx4a65c yJx4a65c_get_915e3 wsJx4a65c_get_915e3) := goodIn_app (goodIn_of _ (by decide +kernel)) ggX16_digest_Jx4a65c_get_915e3
set_option maxRecDepth 20000 in
theorem ggX16_digest_Jx4a65c_isEmpty_aae02 : GoodIn wsX16_digest wsJx4a65c_isEmpty_aae02 := goodIn_r _ [90, 46, 641, 642, 643] (by decide +kernel) (by decide +kernel)
set_option maxRecDepth 20000 in
theorem gX16_digest_Jx4a65c_isEmpty_aae02 : GoodIn wsX16_digest (wsV RX16 89 RJx4a65c yJx4a65c_isEmpty_aae02 wsJx4a65c_isEmpty_aae02) := goodIn_app (goodIn_of _ (by decide +kernel)) ggX16_digest_Jx4a65c_isEmpty_aae02
set_option maxRecDepth 20000 in
theorem ggX16_digest_X16_leakedByNow : GoodIn wsX16_digest wsX16_leakedByNow := goodIn_r _ [474, 3, 5, 475, 476, 215, 16, 17, 18, 477, 478, 445, 404, 405, 406, 199, 407, 408, 409, 205, 226, 410, 411, 412, 413, 23, 24, 414, 52, 44, 415, 57, 58, 59, 60, 61, 62, 63, 64, 65, 66, 67, 68, 69, 70, 416, 417, 418, 419, 116, 117, 46, 172, 161, 162, 163, 420, 421, 422, 423, 144, 145, 146, 147, 148, 149, 150, 151, 152, 153, 154, 155, 156, 157, 158, 132, 159, 160, 126, 127, 128, 129, 130, 131, 133, 134, 135, 136, 137, 138, 139, 140, 141, 142, 143, 479, 480, 481, 482, 217, 483, 484, 485, 486, 487, 488, 75, 76, 77, 78, 79, 80, 81, 82, 83, 84, 85, 86, 19, 20, 21, 22, 25, 26, 27, 28, 29, 30, 31, 32, 33, 34, 35, 36, 37, 38, 39, 40, 41, 42, 43, 45, 47, 48, 49, 50, 51, 53, 54, 55, 56, 71, 72, 73, 74, 87, 88, 89, 90, 91, 92, 93, 94, 95, 96, 97, 98, 99, 100, 101, 102, 103, 104, 105, 106, 107, 108, 109, 110, 111, 112, 113, 114, 115, 118, 119, 120, 121, 122, 123, 124, 125, 164, 165, 166, 167, 168, 169, 170, 171, 173, 174, 175, 176, 177, 178, 179, 180, 181, 182, 183, 184, 185, 186, 187, 188, 189, 190, 191, 192, 193, 194, 195, 196, 197, 198, 200, 201, 202, 203, 204, 206, 207, 208, 14, 209, 210, 211, 212, 213, 214, 216, 218, 219, 220, 221, 222, 223, 224, 225, 227, 228, 229, 230, 231, 232, 233, 234, 235, 236, 237, 238, 239, 240, 241, 242, 243, 244, 245, 246, 247, 248, 249, 250, 251, 252, 253, 254, 255, 256, 257, 258, 259, 260, 261, 262, 263, 264, 271, 272, 273, 274, 275, 276, 277, 278, 279, 280, 281, 282, 283, 284, 285, 286, 287, 288, 289, 290, 291, 292, 293, 294, 295, 296, 297, 298, 299, 300, 301, 302, 303, 304, 305, 306, 307, 308, 309, 310, 311, 312, 313, 314, 315, 316, 317, 318, 319, 320, 321, 322, 323, 324, 325, 326, 327, 328, 329, 330, 331, 332, 333, 334, 335, 470, 489, 490, 491, 492, 493, 448, 453, 494, 495, 496, 497, 498, 499, 500, 501, 502, 503, 504, 505, 506, 460, 507, 508, 509, 510, 511, 447, 458, 512, 459, 513, 514, 515, 516, 517, 518, 519, 520, 521, 522, 523, 524, 525, 526, 527, 528, 450, 529, 530, 449, 531, 532, 533, 534, 535, 536, 537, 538, 539, 540, 541, 542, 452, 543, 544, 545, 546, 547, 548, 549, 550, 551, 552, 553, 554, 555, 556, 557, 558, 559, 451, 560, 561, 562, 563, 564, 565, 566, 567, 568, 569, 570, 571, 572, 573, 574, 575, 576, 577, 578, 579, 580, 581, 582, 583, 584, 585, 586, 587, 588, 589, 590, 591, 592, 593, 594, 595, 596, 597, 598, 599, 600, 601, 602, 603, 604, 605, 606, 343, 344, 345, 607, 462, 463, 464, 608, 609, 610, 611, 612, 613, 644, 645, 646, 614, 615, 616, 617, 618, 619, 620, 621, 622, 623, 624, 625, 626, 627, 628, 629, 630, 631, 632, 633, 634, 635, 636, 637, 638, 639, 640, 641, 642, 643, 647, 648, 649, 650, 651, 652, 653, 654, 655, 656] (by decide +kernel) (by decide +kernel)
set_option maxRecDepth 20000 in
theorem gX16_digest_X16_leakedByNow : GoodIn wsX16_digest (wsV RX16 260 RX16 yX16_leakedByNow wsX16_leakedByNow) := goodIn_app (goodIn_of _ (by decide +kernel)) ggX16_digest_X16_leakedByNow
theorem dX16_digest_0 : decode cX16_digest 0 = .ok (.aload_n 0, 1) := by decide +kernel
theorem dX16_digest_1 : decode cX16_digest 1 = .ok (.iconst 0, 1) := by decide +kernel
theorem dX16_digest_2 : decode cX16_digest 2 = .ok (.putfield 16, 3) := by decide +kernel
theorem dX16_digest_5 : decode cX16_digest 5 = .ok (.aload_n 0, 1) := by decide +kernel
theorem dX16_digest_6 : decode cX16_digest 6 = .ok (.invokevirtual 112, 3) := by decide +kernel
theorem dX16_digest_9 : decode cX16_digest 9 = .ok (.astore_n 1, 1) := by decide +kernel
theorem dX16_digest_10 : decode cX16_digest 10 = .ok (.ldc2_w 265, 3) := by decide +kernel
theorem dX16_digest_13 : decode cX16_digest 13 = .ok (.lstore_n 2, 1) := by decide +kernel
theorem dX16_digest_14 : decode cX16_digest 14 = .ok (.iconst 0, 1) := by decide +kernel
theorem dX16_digest_15 : decode cX16_digest 15 = .ok (.istore 4, 2) := by decide +kernel
theorem dX16_digest_17 : decode cX16_digest 17 = .ok (.iload 4, 2) := by decide +kernel
theorem dX16_digest_19 : decode cX16_digest 19 = .ok (.bipush 7, 2) := by decide +kernel
theorem dX16_digest_21 : decode cX16_digest 21 = .ok (.if_icmp .ge 22, 3) := by decide +kernel
theorem dX16_digest_24 : decode cX16_digest 24 = .ok (.lload_n 2, 1) := by decide +kernel
theorem dX16_digest_25 : decode cX16_digest 25 = .ok (.aload_n 0, 1) := by decide +kernel
theorem dX16_digest_26 : decode cX16_digest 26 = .ok (.aload_n 1, 1) := by decide +kernel
theorem dX16_digest_27 : decode cX16_digest 27 = .ok (.iload 4, 2) := by decide +kernel
theorem dX16_digest_29 : decode cX16_digest 29 = .ok (.invokevirtual 248, 3) := by decide +kernel
theorem dX16_digest_32 : decode cX16_digest 32 = .ok (.i2l, 1) := by decide +kernel
theorem dX16_digest_33 : decode cX16_digest 33 = .ok (.invokestatic 267, 3) := by decide +kernel
theorem dX16_digest_36 : decode cX16_digest 36 = .ok (.lstore_n 2, 1) := by decide +kernel
theorem dX16_digest_37 : decode cX16_digest 37 = .ok (.iinc 4 1, 3) := by decide +kernel
theorem dX16_digest_40 : decode cX16_digest 40 = .ok (.goto (-23), 3) := by decide +kernel
theorem dX16_digest_43 : decode cX16_digest 43 = .ok (.iconst 0, 1) := by decide +kernel
theorem dX16_digest_44 : decode cX16_digest 44 = .ok (.istore 4, 2) := by decide +kernel
theorem dX16_digest_46 : decode cX16_digest 46 = .ok (.iload 4, 2) := by decide +kernel
theorem dX16_digest_48 : decode cX16_digest 48 = .ok (.aload_n 0, 1) := by decide +kernel
theorem dX16_digest_49 : decode cX16_digest 49 = .ok (.getfield 10, 3) := by decide +kernel
theorem dX16_digest_52 : decode cX16_digest 52 = .ok (.getfield 36, 3) := by decide +kernel
theorem dX16_digest_55 : decode cX16_digest 55 = .ok (.invokevirtual 40, 3) := by decide +kernel
theorem dX16_digest_58 : decode cX16_digest 58 = .ok (.if_icmp .ge 39, 3) := by decide +kernel
theorem dX16_digest_61 : decode cX16_digest 61 = .ok (.iconst 0, 1) := by decide +kernel
theorem dX16_digest_62 : decode cX16_digest 62 = .ok (.istore 5, 2) := by decide +kernel
theorem dX16_digest_64 : decode cX16_digest 64 = .ok (.iload 5, 2) := by decide +kernel
theorem dX16_digest_66 : decode cX16_digest 66 = .ok (.iconst 4, 1) := by decide +kernel
theorem dX16_digest_67 : decode cX16_digest 67 = .ok (.if_icmp .ge 24, 3) := by decide +kernel
theorem dX16_digest_70 : decode cX16_digest 70 = .ok (.lload_n 2, 1) := by decide +kernel
theorem dX16_digest_71 : decode cX16_digest 71 = .ok (.aload_n 0, 1) := by decide +kernel
theorem dX16_digest_72 : decode cX16_digest 72 = .ok (.aload_n 1, 1) := by decide +kernel
theorem dX16_digest_73 : decode cX16_digest 73 = .ok (.iload 4, 2) := by decide +kernel
theorem dX16_digest_75 : decode cX16_digest 75 = .ok (.iload 5, 2) := by decide +kernel
theorem dX16_digest_77 : decode cX16_digest 77 = .ok (.invokevirtual 202, 3) := by decide +kernel
theorem dX16_digest_80 : decode cX16_digest 80 = .ok (.i2l, 1) := by decide +kernel
theorem dX16_digest_81 : decode cX16_digest 81 = .ok (.invokestatic 267, 3) := by decide +kernel
theorem dX16_digest_84 : decode cX16_digest 84 = .ok (.lstore_n 2, 1) := by decide +kernel
theorem dX16_digest_85 : decode cX16_digest 85 = .ok (.iinc 5 1, 3) := by decide +kernel
theorem dX16_digest_88 : decode cX16_digest 88 = .ok (.goto (-24), 3) := by decide +kernel
theorem dX16_digest_91 : decode cX16_digest 91 = .ok (.iinc 4 1, 3) := by decide +kernel
theorem dX16_digest_94 : decode cX16_digest 94 = .ok (.goto (-48), 3) := by decide +kernel
theorem dX16_digest_97 : decode cX16_digest 97 = .ok (.iconst 0, 1) := by decide +kernel
theorem dX16_digest_98 : decode cX16_digest 98 = .ok (.istore 4, 2) := by decide +kernel
theorem dX16_digest_100 : decode cX16_digest 100 = .ok (.iload 4, 2) := by decide +kernel
theorem dX16_digest_102 : decode cX16_digest 102 = .ok (.aload_n 0, 1) := by decide +kernel
theorem dX16_digest_103 : decode cX16_digest 103 = .ok (.getfield 10, 3) := by decide +kernel
theorem dX16_digest_106 : decode cX16_digest 106 = .ok (.getfield 64, 3) := by decide +kernel
theorem dX16_digest_109 : decode cX16_digest 109 = .ok (.invokevirtual 40, 3) := by decide +kernel
theorem dX16_digest_112 : decode cX16_digest 112 = .ok (.if_icmp .ge 157, 3) := by decide +kernel
theorem dX16_digest_115 : decode cX16_digest 115 = .ok (.iconst 3, 1) := by decide +kernel
theorem dX16_digest_116 : decode cX16_digest 116 = .ok (.istore 5, 2) := by decide +kernel
theorem dX16_digest_118 : decode cX16_digest 118 = .ok (.iload 5, 2) := by decide +kernel
theorem dX16_digest_120 : decode cX16_digest 120 = .ok (.bipush 6, 2) := by decide +kernel
theorem dX16_digest_122 : decode cX16_digest 122 = .ok (.if_icmp .ge 24, 3) := by decide +kernel
theorem dX16_digest_125 : decode cX16_digest 125 = .ok (.lload_n 2, 1) := by decide +kernel
theorem dX16_digest_126 : decode cX16_digest 126 = .ok (.aload_n 0, 1) := by decide +kernel
theorem dX16_digest_127 : decode cX16_digest 127 = .ok (.aload_n 1, 1) := by decide +kernel
theorem dX16_digest_128 : decode cX16_digest 128 = .ok (.iload 4, 2) := by decide +kernel
theorem dX16_digest_130 : decode cX16_digest 130 = .ok (.iload 5, 2) := by decide +kernel
theorem dX16_digest_132 : decode cX16_digest 132 = .ok (.invokevirtual 116, 3) := by decide +kernel
theorem dX16_digest_135 : decode cX16_digest 135 = .ok (.i2l, 1) := by decide +kernel
theorem dX16_digest_136 : decode cX16_digest 136 = .ok (.invokestatic 267, 3) := by decide +kernel
theorem dX16_digest_139 : decode cX16_digest 139 = .ok (.lstore_n 2, 1) := by decide +kernel
theorem dX16_digest_140 : decode cX16_digest 140 = .ok (.iinc 5 1, 3) := by decide +kernel
theorem dX16_digest_143 : decode cX16_digest 143 = .ok (.goto (-25), 3) := by decide +kernel
theorem dX16_digest_146 : decode cX16_digest 146 = .ok (.iconst 0, 1) := by decide +kernel
theorem dX16_digest_147 : decode cX16_digest 147 = .ok (.istore 5, 2) := by decide +kernel
theorem dX16_digest_149 : decode cX16_digest 149 = .ok (.iload 5, 2) := by decide +kernel
theorem dX16_digest_151 : decode cX16_digest 151 = .ok (.aload_n 0, 1) := by decide +kernel
theorem dX16_digest_152 : decode cX16_digest 152 = .ok (.getfield 10, 3) := by decide +kernel
theorem dX16_digest_155 : decode cX16_digest 155 = .ok (.getfield 36, 3) := by decide +kernel
theorem dX16_digest_158 : decode cX16_digest 158 = .ok (.invokevirtual 40, 3) := by decide +kernel
theorem dX16_digest_161 : decode cX16_digest 161 = .ok (.if_icmp .ge 90, 3) := by decide +kernel
theorem dX16_digest_164 : decode cX16_digest 164 = .ok (.lload_n 2, 1) := by decide +kernel
theorem dX16_digest_165 : decode cX16_digest 165 = .ok (.aload_n 1, 1) := by decide +kernel
theorem dX16_digest_166 : decode cX16_digest 166 = .ok (.iload 4, 2) := by decide +kernel
theorem dX16_digest_168 : decode cX16_digest 168 = .ok (.iconst 3, 1) := by decide +kernel
theorem dX16_digest_169 : decode cX16_digest 169 = .ok (.iload 5, 2) := by decide +kernel
theorem dX16_digest_171 : decode cX16_digest 171 = .ok (.imul, 1) := by decide +kernel
theorem dX16_digest_172 : decode cX16_digest 172 = .ok (.invokevirtual 127, 3) := by decide +kernel
theorem dX16_digest_175 : decode cX16_digest 175 = .ok (.i2l, 1) := by decide +kernel
theorem dX16_digest_176 : decode cX16_digest 176 = .ok (.invokestatic 267, 3) := by decide +kernel
theorem dX16_digest_179 : decode cX16_digest 179 = .ok (.aload_n 1, 1) := by decide +kernel
theorem dX16_digest_180 : decode cX16_digest 180 = .ok (.iload 4, 2) := by decide +kernel
theorem dX16_digest_182 : decode cX16_digest 182 = .ok (.iconst 3, 1) := by decide +kernel
theorem dX16_digest_183 : decode cX16_digest 183 = .ok (.iload 5, 2) := by decide +kernel
theorem dX16_digest_185 : decode cX16_digest 185 = .ok (.imul, 1) := by decide +kernel
theorem dX16_digest_186 : decode cX16_digest 186 = .ok (.invokevirtual 144, 3) := by decide +kernel
theorem dX16_digest_189 : decode cX16_digest 189 = .ok (.i2l, 1) := by decide +kernel
theorem dX16_digest_190 : decode cX16_digest 190 = .ok (.invokestatic 267, 3) := by decide +kernel
theorem dX16_digest_193 : decode cX16_digest 193 = .ok (.lstore_n 2, 1) := by decide +kernel
theorem dX16_digest_194 : decode cX16_digest 194 = .ok (.aload_n 0, 1) := by decide +kernel
theorem dX16_digest_195 : decode cX16_digest 195 = .ok (.getfield 10, 3) := by decide +kernel
theorem dX16_digest_198 : decode cX16_digest 198 = .ok (.iconst 3, 1) := by decide +kernel
theorem dX16_digest_199 : decode cX16_digest 199 = .ok (.iload 5, 2) := by decide +kernel
theorem dX16_digest_201 : decode cX16_digest 201 = .ok (.imul, 1) := by decide +kernel
theorem dX16_digest_202 : decode cX16_digest 202 = .ok (.invokevirtual 131, 3) := by decide +kernel
theorem dX16_digest_205 : decode cX16_digest 205 = .ok (.ifCond .eq 40, 3) := by decide +kernel
theorem dX16_digest_208 : decode cX16_digest 208 = .ok (.lload_n 2, 1) := by decide +kernel
theorem dX16_digest_209 : decode cX16_digest 209 = .ok (.aload_n 1, 1) := by decide +kernel
theorem dX16_digest_210 : decode cX16_digest 210 = .ok (.getfield 137, 3) := by decide +kernel
theorem dX16_digest_213 : decode cX16_digest 213 = .ok (.iload 4, 2) := by decide +kernel
theorem dX16_digest_215 : decode cX16_digest 215 = .ok (.aaload, 1) := by decide +kernel
theorem dX16_digest_216 : decode cX16_digest 216 = .ok (.iload 5, 2) := by decide +kernel
theorem dX16_digest_218 : decode cX16_digest 218 = .ok (.iaload, 1) := by decide +kernel
theorem dX16_digest_219 : decode cX16_digest 219 = .ok (.i2l, 1) := by decide +kernel
theorem dX16_digest_220 : decode cX16_digest 220 = .ok (.invokestatic 267, 3) := by decide +kernel
theorem dX16_digest_223 : decode cX16_digest 223 = .ok (.aload_n 1, 1) := by decide +kernel
theorem dX16_digest_224 : decode cX16_digest 224 = .ok (.getfield 140, 3) := by decide +kernel
theorem dX16_digest_227 : decode cX16_digest 227 = .ok (.iload 4, 2) := by decide +kernel
theorem dX16_digest_229 : decode cX16_digest 229 = .ok (.aaload, 1) := by decide +kernel
theorem dX16_digest_230 : decode cX16_digest 230 = .ok (.iload 5, 2) := by decide +kernel
theorem dX16_digest_232 : decode cX16_digest 232 = .ok (.baload, 1) := by decide +kernel
theorem dX16_digest_233 : decode cX16_digest 233 = .ok (.ifCond .eq 7, 3) := by decide +kernel
theorem dX16_digest_236 : decode cX16_digest 236 = .ok (.lconst 1, 1) := by decide +kernel
theorem dX16_digest_237 : decode cX16_digest 237 = .ok (.goto 4, 3) := by decide +kernel
theorem dX16_digest_240 : decode cX16_digest 240 = .ok (.lconst 0, 1) := by decide +kernel
theorem dX16_digest_241 : decode cX16_digest 241 = .ok (.invokestatic 267, 3) := by decide +kernel
theorem dX16_digest_244 : decode cX16_digest 244 = .ok (.lstore_n 2, 1) := by decide +kernel
theorem dX16_digest_245 : decode cX16_digest 245 = .ok (.iinc 5 1, 3) := by decide +kernel
theorem dX16_digest_248 : decode cX16_digest 248 = .ok (.goto (-99), 3) := by decide +kernel
theorem dX16_digest_251 : decode cX16_digest 251 = .ok (.lload_n 2, 1) := by decide +kernel
theorem dX16_digest_252 : decode cX16_digest 252 = .ok (.aload_n 0, 1) := by decide +kernel
theorem dX16_digest_253 : decode cX16_digest 253 = .ok (.iload 4, 2) := by decide +kernel
theorem dX16_digest_255 : decode cX16_digest 255 = .ok (.invokevirtual 251, 3) := by decide +kernel
theorem dX16_digest_258 : decode cX16_digest 258 = .ok (.i2l, 1) := by decide +kernel
theorem dX16_digest_259 : decode cX16_digest 259 = .ok (.invokestatic 267, 3) := by decide +kernel
theorem dX16_digest_262 : decode cX16_digest 262 = .ok (.lstore_n 2, 1) := by decide +kernel
theorem dX16_digest_263 : decode cX16_digest 263 = .ok (.iinc 4 1, 3) := by decide +kernel
theorem dX16_digest_266 : decode cX16_digest 266 = .ok (.goto (-166), 3) := by decide +kernel
theorem dX16_digest_269 : decode cX16_digest 269 = .ok (.iconst 0, 1) := by decide +kernel
theorem dX16_digest_270 : decode cX16_digest 270 = .ok (.istore 4, 2) := by decide +kernel
theorem dX16_digest_272 : decode cX16_digest 272 = .ok (.iload 4, 2) := by decide +kernel
theorem dX16_digest_274 : decode cX16_digest 274 = .ok (.aload_n 0, 1) := by decide +kernel
theorem dX16_digest_275 : decode cX16_digest 275 = .ok (.getfield 10, 3) := by decide +kernel
theorem dX16_digest_278 : decode cX16_digest 278 = .ok (.invokevirtual 71, 3) := by decide +kernel
theorem dX16_digest_281 : decode cX16_digest 281 = .ok (.if_icmp .ge 39, 3) := by decide +kernel
theorem dX16_digest_284 : decode cX16_digest 284 = .ok (.iconst 0, 1) := by decide +kernel
theorem dX16_digest_285 : decode cX16_digest 285 = .ok (.istore 5, 2) := by decide +kernel
theorem dX16_digest_287 : decode cX16_digest 287 = .ok (.iload 5, 2) := by decide +kernel
theorem dX16_digest_289 : decode cX16_digest 289 = .ok (.iconst 4, 1) := by decide +kernel
theorem dX16_digest_290 : decode cX16_digest 290 = .ok (.if_icmp .ge 24, 3) := by decide +kernel
theorem dX16_digest_293 : decode cX16_digest 293 = .ok (.lload_n 2, 1) := by decide +kernel
theorem dX16_digest_294 : decode cX16_digest 294 = .ok (.aload_n 0, 1) := by decide +kernel
theorem dX16_digest_295 : decode cX16_digest 295 = .ok (.aload_n 1, 1) := by decide +kernel
theorem dX16_digest_296 : decode cX16_digest 296 = .ok (.iload 4, 2) := by decide +kernel
theorem dX16_digest_298 : decode cX16_digest 298 = .ok (.iload 5, 2) := by decide +kernel
theorem dX16_digest_300 : decode cX16_digest 300 = .ok (.invokevirtual 153, 3) := by decide +kernel
theorem dX16_digest_303 : decode cX16_digest 303 = .ok (.i2l, 1) := by decide +kernel
theorem dX16_digest_304 : decode cX16_digest 304 = .ok (.invokestatic 267, 3) := by decide +kernel
theorem dX16_digest_307 : decode cX16_digest 307 = .ok (.lstore_n 2, 1) := by decide +kernel
theorem dX16_digest_308 : decode cX16_digest 308 = .ok (.iinc 5 1, 3) := by decide +kernel
theorem dX16_digest_311 : decode cX16_digest 311 = .ok (.goto (-24), 3) := by decide +kernel
theorem dX16_digest_314 : decode cX16_digest 314 = .ok (.iinc 4 1, 3) := by decide +kernel
theorem dX16_digest_317 : decode cX16_digest 317 = .ok (.goto (-45), 3) := by decide +kernel
theorem dX16_digest_320 : decode cX16_digest 320 = .ok (.aload_n 1, 1) := by decide +kernel
theorem dX16_digest_321 : decode cX16_digest 321 = .ok (.invokevirtual 156, 3) := by decide +kernel
theorem dX16_digest_324 : decode cX16_digest 324 = .ok (.invokevirtual 183, 3) := by decide +kernel
theorem dX16_digest_327 : decode cX16_digest 327 = .ok (.astore 4, 2) := by decide +kernel
theorem dX16_digest_329 : decode cX16_digest 329 = .ok (.aload 4, 2) := by decide +kernel
theorem dX16_digest_331 : decode cX16_digest 331 = .ok (.invokeinterface 187 1, 5) := by decide +kernel
theorem dX16_digest_336 : decode cX16_digest 336 = .ok (.ifCond .eq 47, 3) := by decide +kernel
theorem dX16_digest_339 : decode cX16_digest 339 = .ok (.aload 4, 2) := by decide +kernel
theorem dX16_digest_341 : decode cX16_digest 341 = .ok (.invokeinterface 192 1, 5) := by decide +kernel
theorem dX16_digest_346 : decode cX16_digest 346 = .ok (.checkcast 160, 3) := by decide +kernel
theorem dX16_digest_349 : decode cX16_digest 349 = .ok (.astore 5, 2) := by decide +kernel
theorem dX16_digest_351 : decode cX16_digest 351 = .ok (.iconst 0, 1) := by decide +kernel
theorem dX16_digest_352 : decode cX16_digest 352 = .ok (.istore 6, 2) := by decide +kernel
theorem dX16_digest_354 : decode cX16_digest 354 = .ok (.iload 6, 2) := by decide +kernel
theorem dX16_digest_356 : decode cX16_digest 356 = .ok (.iconst 5, 1) := by decide +kernel
theorem dX16_digest_357 : decode cX16_digest 357 = .ok (.if_icmp .ge 23, 3) := by decide +kernel
theorem dX16_digest_360 : decode cX16_digest 360 = .ok (.lload_n 2, 1) := by decide +kernel
theorem dX16_digest_361 : decode cX16_digest 361 = .ok (.aload_n 1, 1) := by decide +kernel
theorem dX16_digest_362 : decode cX16_digest 362 = .ok (.aload 5, 2) := by decide +kernel
theorem dX16_digest_364 : decode cX16_digest 364 = .ok (.iload 6, 2) := by decide +kernel
theorem dX16_digest_366 : decode cX16_digest 366 = .ok (.invokestatic 162, 3) := by decide +kernel
theorem dX16_digest_369 : decode cX16_digest 369 = .ok (.i2l, 1) := by decide +kernel
theorem dX16_digest_370 : decode cX16_digest 370 = .ok (.invokestatic 267, 3) := by decide +kernel
theorem dX16_digest_373 : decode cX16_digest 373 = .ok (.lstore_n 2, 1) := by decide +kernel
theorem dX16_digest_374 : decode cX16_digest 374 = .ok (.iinc 6 1, 3) := by decide +kernel
theorem dX16_digest_377 : decode cX16_digest 377 = .ok (.goto (-23), 3) := by decide +kernel
theorem dX16_digest_380 : decode cX16_digest 380 = .ok (.goto (-51), 3) := by decide +kernel
theorem dX16_digest_383 : decode cX16_digest 383 = .ok (.iconst 0, 1) := by decide +kernel
theorem dX16_digest_384 : decode cX16_digest 384 = .ok (.istore 4, 2) := by decide +kernel
theorem dX16_digest_386 : decode cX16_digest 386 = .ok (.iload 4, 2) := by decide +kernel
theorem dX16_digest_388 : decode cX16_digest 388 = .ok (.bipush 10, 2) := by decide +kernel
theorem dX16_digest_390 : decode cX16_digest 390 = .ok (.if_icmp .ge 21, 3) := by decide +kernel
theorem dX16_digest_393 : decode cX16_digest 393 = .ok (.lload_n 2, 1) := by decide +kernel
theorem dX16_digest_394 : decode cX16_digest 394 = .ok (.aload_n 0, 1) := by decide +kernel
theorem dX16_digest_395 : decode cX16_digest 395 = .ok (.iload 4, 2) := by decide +kernel
theorem dX16_digest_397 : decode cX16_digest 397 = .ok (.invokevirtual 226, 3) := by decide +kernel
theorem dX16_digest_400 : decode cX16_digest 400 = .ok (.i2l, 1) := by decide +kernel
theorem dX16_digest_401 : decode cX16_digest 401 = .ok (.invokestatic 267, 3) := by decide +kernel
theorem dX16_digest_404 : decode cX16_digest 404 = .ok (.lstore_n 2, 1) := by decide +kernel
theorem dX16_digest_405 : decode cX16_digest 405 = .ok (.iinc 4 1, 3) := by decide +kernel
theorem dX16_digest_408 : decode cX16_digest 408 = .ok (.goto (-22), 3) := by decide +kernel
theorem dX16_digest_411 : decode cX16_digest 411 = .ok (.iconst 0, 1) := by decide +kernel
theorem dX16_digest_412 : decode cX16_digest 412 = .ok (.istore 4, 2) := by decide +kernel
theorem dX16_digest_414 : decode cX16_digest 414 = .ok (.iload 4, 2) := by decide +kernel
theorem dX16_digest_416 : decode cX16_digest 416 = .ok (.aload_n 0, 1) := by decide +kernel
theorem dX16_digest_417 : decode cX16_digest 417 = .ok (.invokevirtual 236, 3) := by decide +kernel
theorem dX16_digest_420 : decode cX16_digest 420 = .ok (.if_icmp .ge 62, 3) := by decide +kernel
theorem dX16_digest_423 : decode cX16_digest 423 = .ok (.aload_n 0, 1) := by decide +kernel
theorem dX16_digest_424 : decode cX16_digest 424 = .ok (.getfield 214, 3) := by decide +kernel
theorem dX16_digest_427 : decode cX16_digest 427 = .ok (.getfield 229, 3) := by decide +kernel
theorem dX16_digest_430 : decode cX16_digest 430 = .ok (.iload 4, 2) := by decide +kernel
theorem dX16_digest_432 : decode cX16_digest 432 = .ok (.invokevirtual 78, 3) := by decide +kernel
theorem dX16_digest_435 : decode cX16_digest 435 = .ok (.checkcast 160, 3) := by decide +kernel
theorem dX16_digest_438 : decode cX16_digest 438 = .ok (.astore 5, 2) := by decide +kernel
theorem dX16_digest_440 : decode cX16_digest 440 = .ok (.aload 5, 2) := by decide +kernel
theorem dX16_digest_442 : decode cX16_digest 442 = .ok (.arraylength, 1) := by decide +kernel
theorem dX16_digest_443 : decode cX16_digest 443 = .ok (.istore 6, 2) := by decide +kernel
theorem dX16_digest_445 : decode cX16_digest 445 = .ok (.iconst 0, 1) := by decide +kernel
theorem dX16_digest_446 : decode cX16_digest 446 = .ok (.istore 7, 2) := by decide +kernel
theorem dX16_digest_448 : decode cX16_digest 448 = .ok (.iload 7, 2) := by decide +kernel
theorem dX16_digest_450 : decode cX16_digest 450 = .ok (.iload 6, 2) := by decide +kernel
theorem dX16_digest_452 : decode cX16_digest 452 = .ok (.if_icmp .ge 24, 3) := by decide +kernel
theorem dX16_digest_455 : decode cX16_digest 455 = .ok (.aload 5, 2) := by decide +kernel
theorem dX16_digest_457 : decode cX16_digest 457 = .ok (.iload 7, 2) := by decide +kernel
theorem dX16_digest_459 : decode cX16_digest 459 = .ok (.iaload, 1) := by decide +kernel
theorem dX16_digest_460 : decode cX16_digest 460 = .ok (.istore 8, 2) := by decide +kernel
theorem dX16_digest_462 : decode cX16_digest 462 = .ok (.lload_n 2, 1) := by decide +kernel
theorem dX16_digest_463 : decode cX16_digest 463 = .ok (.iload 8, 2) := by decide +kernel
theorem dX16_digest_465 : decode cX16_digest 465 = .ok (.i2l, 1) := by decide +kernel
theorem dX16_digest_466 : decode cX16_digest 466 = .ok (.invokestatic 267, 3) := by decide +kernel
theorem dX16_digest_469 : decode cX16_digest 469 = .ok (.lstore_n 2, 1) := by decide +kernel
theorem dX16_digest_470 : decode cX16_digest 470 = .ok (.iinc 7 1, 3) := by decide +kernel
theorem dX16_digest_473 : decode cX16_digest 473 = .ok (.goto (-25), 3) := by decide +kernel
theorem dX16_digest_476 : decode cX16_digest 476 = .ok (.iinc 4 1, 3) := by decide +kernel
theorem dX16_digest_479 : decode cX16_digest 479 = .ok (.goto (-65), 3) := by decide +kernel
theorem dX16_digest_482 : decode cX16_digest 482 = .ok (.aload_n 0, 1) := by decide +kernel
theorem dX16_digest_483 : decode cX16_digest 483 = .ok (.getfield 10, 3) := by decide +kernel
theorem dX16_digest_486 : decode cX16_digest 486 = .ok (.getfield 64, 3) := by decide +kernel
theorem dX16_digest_489 : decode cX16_digest 489 = .ok (.invokevirtual 89, 3) := by decide +kernel
theorem dX16_digest_492 : decode cX16_digest 492 = .ok (.ifCond .eq 7, 3) := by decide +kernel
theorem dX16_digest_495 : decode cX16_digest 495 = .ok (.lload_n 2, 1) := by decide +kernel
theorem dX16_digest_496 : decode cX16_digest 496 = .ok (.goto 24, 3) := by decide +kernel
theorem dX16_digest_499 : decode cX16_digest 499 = .ok (.lload_n 2, 1) := by decide +kernel
theorem dX16_digest_500 : decode cX16_digest 500 = .ok (.aload_n 0, 1) := by decide +kernel
theorem dX16_digest_501 : decode cX16_digest 501 = .ok (.aload_n 0, 1) := by decide +kernel
theorem dX16_digest_502 : decode cX16_digest 502 = .ok (.getfield 10, 3) := by decide +kernel
theorem dX16_digest_505 : decode cX16_digest 505 = .ok (.getfield 64, 3) := by decide +kernel
theorem dX16_digest_508 : decode cX16_digest 508 = .ok (.invokevirtual 40, 3) := by decide +kernel
theorem dX16_digest_511 : decode cX16_digest 511 = .ok (.iconst 1, 1) := by decide +kernel
theorem dX16_digest_512 : decode cX16_digest 512 = .ok (.isub, 1) := by decide +kernel
theorem dX16_digest_513 : decode cX16_digest 513 = .ok (.invokevirtual 260, 3) := by decide +kernel
theorem dX16_digest_516 : decode cX16_digest 516 = .ok (.i2l, 1) := by decide +kernel
theorem dX16_digest_517 : decode cX16_digest 517 = .ok (.invokestatic 267, 3) := by decide +kernel
theorem dX16_digest_520 : decode cX16_digest 520 = .ok (.lreturn, 1) := by decide +kernel
set_option maxRecDepth 20000 in
theorem ggJ5_init_d00df_J2_newBytesFor_77867 : GoodIn wsJ5_init_d00df wsJ2_newBytesFor_77867 := goodIn_r _ [11, 5, 12, 13, 10, 14, 15] (by decide +kernel) (by decide +kernel)
set_option maxRecDepth 20000 in
theorem gJ5_init_d00df_J2_newBytesFor_77867 : GoodIn wsJ5_init_d00df (va_wsS RJ5 26 yJ2_newBytesFor_77867 wsJ2_newBytesFor_77867) := goodIn_app (goodIn_of _ (by decide +kernel)) ggJ5_init_d00df_J2_newBytesFor_77867
theorem dJ5_init_d00df_0 : decode cJ5_init_d00df 0 = .ok (.aload_n 0, 1) := by decide +kernel
theorem dJ5_init_d00df_1 : decode cJ5_init_d00df 1 = .ok (.invokespecial 3, 3) := by decide +kernel
theorem dJ5_init_d00df_4 : decode cJ5_init_d00df 4 = .ok (.getstatic 18, 3) := by decide +kernel
theorem dJ5_init_d00df_7 : decode cJ5_init_d00df 7 = .ok (.ifCond .eq 18, 3) := by decide +kernel
theorem dJ5_init_d00df_10 : decode cJ5_init_d00df 10 = .ok (.aload_n 0, 1) := by decide +kernel
theorem dJ5_init_d00df_11 : decode cJ5_init_d00df 11 = .ok (.iload_n 1, 1) := by decide +kernel
theorem dJ5_init_d00df_12 : decode cJ5_init_d00df 12 = .ok (.newarray .byte, 2) := by decide +kernel
theorem dJ5_init_d00df_14 : decode cJ5_init_d00df 14 = .ok (.putfield 15, 3) := by decide +kernel
theorem dJ5_init_d00df_17 : decode cJ5_init_d00df 17 = .ok (.aload_n 0, 1) := by decide +kernel
theorem dJ5_init_d00df_18 : decode cJ5_init_d00df 18 = .ok (.iconst 0, 1) := by decide +kernel
theorem dJ5_init_d00df_19 : decode cJ5_init_d00df 19 = .ok (.putfield 22, 3) := by decide +kernel
theorem dJ5_init_d00df_22 : decode cJ5_init_d00df 22 = .ok (.goto 16, 3) := by decide +kernel
theorem dJ5_init_d00df_25 : decode cJ5_init_d00df 25 = .ok (.aload_n 0, 1) := by decide +kernel
theorem dJ5_init_d00df_26 : decode cJ5_init_d00df 26 = .ok (.iload_n 1, 1) := by decide +kernel
theorem dJ5_init_d00df_27 : decode cJ5_init_d00df 27 = .ok (.invokestatic 26, 3) := by decide +kernel
theorem dJ5_init_d00df_30 : decode cJ5_init_d00df 30 = .ok (.putfield 15, 3) := by decide +kernel
theorem dJ5_init_d00df_33 : decode cJ5_init_d00df 33 = .ok (.aload_n 0, 1) := by decide +kernel
theorem dJ5_init_d00df_34 : decode cJ5_init_d00df 34 = .ok (.iconst 1, 1) := by decide +kernel
theorem dJ5_init_d00df_35 : decode cJ5_init_d00df 35 = .ok (.putfield 22, 3) := by decide +kernel
theorem dJ5_init_d00df_38 : decode cJ5_init_d00df 38 = .ok (.return_, 1) := by decide +kernel
theorem dJ5_length_8abf5_0 : decode cJ5_length_8abf5 0 = .ok (.aload_n 0, 1) := by decide +kernel
theorem dJ5_length_8abf5_1 : decode cJ5_length_8abf5 1 = .ok (.getfield 79, 3) := by decide +kernel
theorem dJ5_length_8abf5_4 : decode cJ5_length_8abf5 4 = .ok (.ireturn, 1) := by decide +kernel
set_option maxRecDepth 20000 in
theorem ggJ5_ensureCapacityInternal_d00df_J5_newCapacity_0f7a4 : GoodIn wsJ5_ensureCapacityInternal_d00df wsJ5_newCapacity_0f7a4 := goodIn_r _ [8, 1, 2, 9, 10, 11, 12, 13, 14, 15, 16, 17, 18, 19, 20, 21, 40, 41, 42, 43] (by decide +kernel) (by decide +kernel)
set_option maxRecDepth 20000 in
theorem gJ5_ensureCapacityInternal_d00df_J5_newCapacity_0f7a4_u104J4 : GoodIn wsJ5_ensureCapacityInternal_d00df (va_wsU RJ5 104 RJ4 "java/lang/AbstractStringBuilder" ⟨"java/lang/AbstractStringBuilder", "newCapacity", "(I)I"⟩ yJ5_newCapacity_0f7a4 wsJ5_newCapacity_0f7a4) := goodIn_app (goodIn_of _ (by decide +kernel)) ggJ5_ensureCapacityInternal_d00df_J5_newCapacity_0f7a4
set_option maxRecDepth 20000 in
theorem ggJ5_ensureCapacityInternal_d00df_J7_copyOf_9075b : GoodIn wsJ5_ensureCapacityInternal_d00df wsJ7_copyOf_9075b := goodIn_r _ [25, 26, 27, 28, 29, 30, 31, 32, 33, 34, 16, 35, 36, 37, 38, 39] (by decide +kernel) (by decide +kernel)
set_option maxRecDepth 20000 in
theorem gJ5_ensureCapacityInternal_d00df_J7_copyOf_9075b : GoodIn wsJ5_ensureCapacityInternal_d00df (va_wsS RJ5 108 yJ7_copyOf_9075b wsJ7_copyOf_9075b) := goodIn_app (goodIn_of _ (by decide +kernel)) ggJ5_ensureCapacityInternal_d00df_J7_copyOf_9075b
theorem dJ5_ensureCapacityInternal_d00df_0 : decode cJ5_ensureCapacityInternal_d00df 0 = .ok (.aload_n 0, 1) := by decide +kernel
theorem dJ5_ensureCapacityInternal_d00df_1 : decode cJ5_ensureCapacityInternal_d00df 1 = .ok (.getfield 15, 3) := by decide +kernel
theorem dJ5_ensureCapacityInternal_d00df_4 : decode cJ5_ensureCapacityInternal_d00df 4 = .ok (.arraylength, 1) := by decide +kernel
theorem dJ5_ensureCapacityInternal_d00df_5 : decode cJ5_ensureCapacityInternal_d00df 5 = .ok (.aload_n 0, 1) := by decide +kernel
theorem dJ5_ensureCapacityInternal_d00df_6 : decode cJ5_ensureCapacityInternal_d00df 6 = .ok (.getfield 22, 3) := by decide +kernel
theorem dJ5_ensureCapacityInternal_d00df_9 : decode cJ5_ensureCapacityInternal_d00df 9 = .ok (.ishr, 1) := by decide +kernel
theorem dJ5_ensureCapacityInternal_d00df_10 : decode cJ5_ensureCapacityInternal_d00df 10 = .ok (.istore_n 2, 1) := by decide +kernel
theorem dJ5_ensureCapacityInternal_d00df_11 : decode cJ5_ensureCapacityInternal_d00df 11 = .ok (.iload_n 1, 1) := by decide +kernel
theorem dJ5_ensureCapacityInternal_d00df_12 : decode cJ5_ensureCapacityInternal_d00df 12 = .ok (.iload_n 2, 1) := by decide +kernel
theorem dJ5_ensureCapacityInternal_d00df_13 : decode cJ5_ensureCapacityInternal_d00df 13 = .ok (.isub, 1) := by decide +kernel
theorem dJ5_ensureCapacityInternal_d00df_14 : decode cJ5_ensureCapacityInternal_d00df 14 = .ok (.ifCond .le 24, 3) := by decide +kernel
theorem dJ5_ensureCapacityInternal_d00df_17 : decode cJ5_ensureCapacityInternal_d00df 17 = .ok (.aload_n 0, 1) := by decide +kernel
theorem dJ5_ensureCapacityInternal_d00df_18 : decode cJ5_ensureCapacityInternal_d00df 18 = .ok (.aload_n 0, 1) := by decide +kernel
theorem dJ5_ensureCapacityInternal_d00df_19 : decode cJ5_ensureCapacityInternal_d00df 19 = .ok (.getfield 15, 3) := by decide +kernel
theorem dJ5_ensureCapacityInternal_d00df_22 : decode cJ5_ensureCapacityInternal_d00df 22 = .ok (.aload_n 0, 1) := by decide +kernel
theorem dJ5_ensureCapacityInternal_d00df_23 : decode cJ5_ensureCapacityInternal_d00df 23 = .ok (.iload_n 1, 1) := by decide +kernel
theorem dJ5_ensureCapacityInternal_d00df_24 : decode cJ5_ensureCapacityInternal_d00df 24 = .ok (.invokevirtual 104, 3) := by decide +kernel
theorem dJ5_ensureCapacityInternal_d00df_27 : decode cJ5_ensureCapacityInternal_d00df 27 = .ok (.aload_n 0, 1) := by decide +kernel
theorem dJ5_ensureCapacityInternal_d00df_28 : decode cJ5_ensureCapacityInternal_d00df 28 = .ok (.getfield 22, 3) := by decide +kernel
theorem dJ5_ensureCapacityInternal_d00df_31 : decode cJ5_ensureCapacityInternal_d00df 31 = .ok (.ishl, 1) := by decide +kernel
theorem dJ5_ensureCapacityInternal_d00df_32 : decode cJ5_ensureCapacityInternal_d00df 32 = .ok (.invokestatic 108, 3) := by decide +kernel
theorem dJ5_ensureCapacityInternal_d00df_35 : decode cJ5_ensureCapacityInternal_d00df 35 = .ok (.putfield 15, 3) := by decide +kernel
theorem dJ5_ensureCapacityInternal_d00df_38 : decode cJ5_ensureCapacityInternal_d00df 38 = .ok (.return_, 1) := by decide +kernel
set_option maxRecDepth 20000 in
theorem ggJ5_newCapacity_0f7a4_J8_newLength_cabcc : GoodIn wsJ5_newCapacity_0f7a4 wsJ8_newLength_cabcc := goodIn_r _ [7, 8, 9, 10, 11, 12, 13, 14, 6, 15] (by decide +kernel) (by decide +kernel)
set_option maxRecDepth 20000 in
theorem gJ5_newCapacity_0f7a4_J8_newLength_cabcc : GoodIn wsJ5_newCapacity_0f7a4 (va_wsS RJ5 114 yJ8_newLength_cabcc wsJ8_newLength_cabcc) := goodIn_app (goodIn_of _ (by decide +kernel)) ggJ5_newCapacity_0f7a4_J8_newLength_cabcc
theorem dJ5_newCapacity_0f7a4_0 : decode cJ5_newCapacity_0f7a4 0 = .ok (.aload_n 0, 1) := by decide +kernel
theorem dJ5_newCapacity_0f7a4_1 : decode cJ5_newCapacity_0f7a4 1 = .ok (.getfield 15, 3) := by decide +kernel
theorem dJ5_newCapacity_0f7a4_4 : decode cJ5_newCapacity_0f7a4 4 = .ok (.arraylength, 1) := by decide +kernel
theorem dJ5_newCapacity_0f7a4_5 : decode cJ5_newCapacity_0f7a4 5 = .ok (.istore_n 2, 1) := by decide +kernel
theorem dJ5_newCapacity_0f7a4_6 : decode cJ5_newCapacity_0f7a4 6 = .ok (.iload_n 1, 1) := by decide +kernel
theorem dJ5_newCapacity_0f7a4_7 : decode cJ5_newCapacity_0f7a4 7 = .ok (.aload_n 0, 1) := by decide +kernel
theorem dJ5_newCapacity_0f7a4_8 : decode cJ5_newCapacity_0f7a4 8 = .ok (.getfield 22, 3) := by decide +kernel
theorem dJ5_newCapacity_0f7a4_11 : decode cJ5_newCapacity_0f7a4 11 = .ok (.ishl, 1) := by decide +kernel
theorem dJ5_newCapacity_0f7a4_12 : decode cJ5_newCapacity_0f7a4 12 = .ok (.istore_n 3, 1) := by decide +kernel
theorem dJ5_newCapacity_0f7a4_13 : decode cJ5_newCapacity_0f7a4 13 = .ok (.iload_n 3, 1) := by decide +kernel
theorem dJ5_newCapacity_0f7a4_14 : decode cJ5_newCapacity_0f7a4 14 = .ok (.iload_n 2, 1) := by decide +kernel
theorem dJ5_newCapacity_0f7a4_15 : decode cJ5_newCapacity_0f7a4 15 = .ok (.isub, 1) := by decide +kernel
theorem dJ5_newCapacity_0f7a4_16 : decode cJ5_newCapacity_0f7a4 16 = .ok (.istore 4, 2) := by decide +kernel
theorem dJ5_newCapacity_0f7a4_18 : decode cJ5_newCapacity_0f7a4 18 = .ok (.iload_n 2, 1) := by decide +kernel
theorem dJ5_newCapacity_0f7a4_19 : decode cJ5_newCapacity_0f7a4 19 = .ok (.iload 4, 2) := by decide +kernel
theorem dJ5_newCapacity_0f7a4_21 : decode cJ5_newCapacity_0f7a4 21 = .ok (.iload_n 2, 1) := by decide +kernel
theorem dJ5_newCapacity_0f7a4_22 : decode cJ5_newCapacity_0f7a4 22 = .ok (.iconst 2, 1) := by decide +kernel
theorem dJ5_newCapacity_0f7a4_23 : decode cJ5_newCapacity_0f7a4 23 = .ok (.aload_n 0, 1) := by decide +kernel
theorem dJ5_newCapacity_0f7a4_24 : decode cJ5_newCapacity_0f7a4 24 = .ok (.getfield 22, 3) := by decide +kernel
theorem dJ5_newCapacity_0f7a4_27 : decode cJ5_newCapacity_0f7a4 27 = .ok (.ishl, 1) := by decide +kernel
theorem dJ5_newCapacity_0f7a4_28 : decode cJ5_newCapacity_0f7a4 28 = .ok (.iadd, 1) := by decide +kernel
theorem dJ5_newCapacity_0f7a4_29 : decode cJ5_newCapacity_0f7a4 29 = .ok (.invokestatic 114, 3) := by decide +kernel
theorem dJ5_newCapacity_0f7a4_32 : decode cJ5_newCapacity_0f7a4 32 = .ok (.istore 5, 2) := by decide +kernel
theorem dJ5_newCapacity_0f7a4_34 : decode cJ5_newCapacity_0f7a4 34 = .ok (.iload 5, 2) := by decide +kernel
theorem dJ5_newCapacity_0f7a4_36 : decode cJ5_newCapacity_0f7a4 36 = .ok (.ldc 39, 2) := by decide +kernel
theorem dJ5_newCapacity_0f7a4_38 : decode cJ5_newCapacity_0f7a4 38 = .ok (.if_icmp .ne 13, 3) := by decide +kernel
theorem dJ5_newCapacity_0f7a4_41 : decode cJ5_newCapacity_0f7a4 41 = .ok (.new 120, 3) := by decide +kernel
theorem dJ5_newCapacity_0f7a4_44 : decode cJ5_newCapacity_0f7a4 44 = .ok (.dup, 1) := by decide +kernel
theorem dJ5_newCapacity_0f7a4_45 : decode cJ5_newCapacity_0f7a4 45 = .ok (.ldc 122, 2) := by decide +kernel
theorem dJ5_newCapacity_0f7a4_47 : decode cJ5_newCapacity_0f7a4 47 = .ok (.invokespecial 124, 3) := by decide +kernel
theorem dJ5_newCapacity_0f7a4_50 : decode cJ5_newCapacity_0f7a4 50 = .ok (.athrow, 1) := by decide +kernel
theorem dJ5_newCapacity_0f7a4_51 : decode cJ5_newCapacity_0f7a4 51 = .ok (.iload 5, 2) := by decide +kernel
theorem dJ5_newCapacity_0f7a4_53 : decode cJ5_newCapacity_0f7a4 53 = .ok (.aload_n 0, 1) := by decide +kernel
theorem dJ5_newCapacity_0f7a4_54 : decode cJ5_newCapacity_0f7a4 54 = .ok (.getfield 22, 3) := by decide +kernel
theorem dJ5_newCapacity_0f7a4_57 : decode cJ5_newCapacity_0f7a4 57 = .ok (.ishr, 1) := by decide +kernel
theorem dJ5_newCapacity_0f7a4_58 : decode cJ5_newCapacity_0f7a4 58 = .ok (.ireturn, 1) := by decide +kernel
set_option maxRecDepth 20000 in
theorem ggJ5_inflate_da8c8_J5_isLatin1_aae02 : GoodIn wsJ5_inflate_da8c8 wsJ5_isLatin1_aae02 := goodIn_r _ [9, 10, 3, 48, 49, 50, 51] (by decide +kernel) (by decide +kernel)
set_option maxRecDepth 20000 in
theorem gJ5_inflate_da8c8_J5_isLatin1_aae02_u83J4 : GoodIn wsJ5_inflate_da8c8 (va_wsU RJ5 83 RJ4 "java/lang/AbstractStringBuilder" ⟨"java/lang/AbstractStringBuilder", "isLatin1", "()Z"⟩ yJ5_isLatin1_aae02 wsJ5_isLatin1_aae02) := goodIn_app (goodIn_of _ (by decide +kernel)) ggJ5_inflate_da8c8_J5_isLatin1_aae02
set_option maxRecDepth 20000 in
theorem ggJ5_inflate_da8c8_J2_newBytesFor_77867 : GoodIn wsJ5_inflate_da8c8 wsJ2_newBytesFor_77867 := goodIn_r _ [14, 15, 16, 17, 13, 18, 19] (by decide +kernel) (by decide +kernel)
set_option maxRecDepth 20000 in
theorem gJ5_inflate_da8c8_J2_newBytesFor_77867 : GoodIn wsJ5_inflate_da8c8 (va_wsS RJ5 26 yJ2_newBytesFor_77867 wsJ2_newBytesFor_77867) := goodIn_app (goodIn_of _ (by decide +kernel)) ggJ5_inflate_da8c8_J2_newBytesFor_77867
set_option maxRecDepth 20000 in
theorem ggJ5_inflate_da8c8_J1_inflate_0e8fd : GoodIn wsJ5_inflate_da8c8 wsJ1_inflate_0e8fd := goodIn_r _ [23, 24, 25, 13, 26, 27, 28, 29, 30, 31, 32, 33, 34, 35, 36, 37, 38, 39, 40, 41, 42, 43, 44, 45, 46, 47] (by decide +kernel) (by decide +kernel)
set_option maxRecDepth 20000 in
theorem gJ5_inflate_da8c8_J1_inflate_0e8fd : GoodIn wsJ5_inflate_da8c8 (va_wsS RJ5 125 yJ1_inflate_0e8fd wsJ1_inflate_0e8fd) := goodIn_app (goodIn_of _ (by decide +kernel)) ggJ5_inflate_da8c8_J1_inflate_0e8fd
theorem dJ5_inflate_da8c8_0 : decode cJ5_inflate_da8c8 0 = .ok (.aload_n 0, 1) := by decide +kernel
theorem dJ5_inflate_da8c8_1 : decode cJ5_inflate_da8c8 1 = .ok (.invokevirtual 83, 3) := by decide +kernel
theorem dJ5_inflate_da8c8_4 : decode cJ5_inflate_da8c8 4 = .ok (.ifCond .ne 4, 3) := by decide +kernel
theorem dJ5_inflate_da8c8_7 : decode cJ5_inflate_da8c8 7 = .ok (.return_, 1) := by decide +kernel
theorem dJ5_inflate_da8c8_8 : decode cJ5_inflate_da8c8 8 = .ok (.aload_n 0, 1) := by decide +kernel
theorem dJ5_inflate_da8c8_9 : decode cJ5_inflate_da8c8 9 = .ok (.getfield 15, 3) := by decide +kernel
theorem dJ5_inflate_da8c8_12 : decode cJ5_inflate_da8c8 12 = .ok (.arraylength, 1) := by decide +kernel
theorem dJ5_inflate_da8c8_13 : decode cJ5_inflate_da8c8 13 = .ok (.invokestatic 26, 3) := by decide +kernel
theorem dJ5_inflate_da8c8_16 : decode cJ5_inflate_da8c8 16 = .ok (.astore_n 1, 1) := by decide +kernel
theorem dJ5_inflate_da8c8_17 : decode cJ5_inflate_da8c8 17 = .ok (.aload_n 0, 1) := by decide +kernel
theorem dJ5_inflate_da8c8_18 : decode cJ5_inflate_da8c8 18 = .ok (.getfield 15, 3) := by decide +kernel
theorem dJ5_inflate_da8c8_21 : decode cJ5_inflate_da8c8 21 = .ok (.iconst 0, 1) := by decide +kernel
theorem dJ5_inflate_da8c8_22 : decode cJ5_inflate_da8c8 22 = .ok (.aload_n 1, 1) := by decide +kernel
theorem dJ5_inflate_da8c8_23 : decode cJ5_inflate_da8c8 23 = .ok (.iconst 0, 1) := by decide +kernel
theorem dJ5_inflate_da8c8_24 : decode cJ5_inflate_da8c8 24 = .ok (.aload_n 0, 1) := by decide +kernel
theorem dJ5_inflate_da8c8_25 : decode cJ5_inflate_da8c8 25 = .ok (.getfield 79, 3) := by decide +kernel
theorem dJ5_inflate_da8c8_28 : decode cJ5_inflate_da8c8 28 = .ok (.invokestatic 125, 3) := by decide +kernel
theorem dJ5_inflate_da8c8_31 : decode cJ5_inflate_da8c8 31 = .ok (.aload_n 0, 1) := by decide +kernel
theorem dJ5_inflate_da8c8_32 : decode cJ5_inflate_da8c8 32 = .ok (.aload_n 1, 1) := by decide +kernel
theorem dJ5_inflate_da8c8_33 : decode cJ5_inflate_da8c8 33 = .ok (.putfield 15, 3) := by decide +kernel
theorem dJ5_inflate_da8c8_36 : decode cJ5_inflate_da8c8 36 = .ok (.aload_n 0, 1) := by decide +kernel
theorem dJ5_inflate_da8c8_37 : decode cJ5_inflate_da8c8 37 = .ok (.iconst 1, 1) := by decide +kernel
theorem dJ5_inflate_da8c8_38 : decode cJ5_inflate_da8c8 38 = .ok (.putfield 22, 3) := by decide +kernel
theorem dJ5_inflate_da8c8_41 : decode cJ5_inflate_da8c8 41 = .ok (.return_, 1) := by decide +kernel
set_option maxRecDepth 20000 in
theorem ggJ5_append_cf1ce_J5_appendNull_278bc : GoodIn wsJ5_append_cf1ce wsJ5_appendNull_278bc := goodIn_r _ [7, 1, 8, 9, 10, 11, 12, 6, 13, 14, 15, 16, 17, 18, 19, 20, 21, 22, 23, 24, 25, 26, 27, 28, 29, 30, 31, 32, 33, 34, 35, 36, 37, 38, 39, 40, 41, 42, 43, 44, 45, 46, 47, 48, 49, 50, 51, 52, 53, 54, 55, 56, 57, 58, 59, 60, 61, 62, 63, 64, 65, 66, 67, 68, 69, 70, 71, 72, 73, 74, 75, 76, 77, 78, 79, 80, 81, 138, 139, 140, 141] (by decide +kernel) (by decide +kernel)
set_option maxRecDepth 20000 in
theorem gJ5_append_cf1ce_J5_appendNull_278bc_u204J4 : GoodIn wsJ5_append_cf1ce (va_wsU RJ5 204 RJ4 "java/lang/AbstractStringBuilder" ⟨"java/lang/AbstractStringBuilder", "appendNull", "()Ljava/lang/AbstractStringBuilder;"⟩ yJ5_appendNull_278bc wsJ5_appendNull_278bc) := goodIn_app (goodIn_of _ (by decide +kernel)) ggJ5_append_cf1ce_J5_appendNull_278bc
set_option maxRecDepth 20000 in
theorem ggJ5_append_cf1ce_J0_length_8abf5 : GoodIn wsJ5_append_cf1ce wsJ0_length_8abf5 := goodIn_r _ [85, 86, 87, 88, 89, 70, 90, 91, 92, 142, 143, 144, 145] (by decide +kernel) (by decide +kernel)
set_option maxRecDepth 20000 in
theorem gJ5_append_cf1ce_J0_length_8abf5 : GoodIn wsJ5_append_cf1ce (wsV RJ5 32 RJ0 yJ0_length_8abf5 wsJ0_length_8abf5) := goodIn_app (goodIn_of _ (by decide +kernel)) ggJ5_append_cf1ce_J0_length_8abf5
set_option maxRecDepth 20000 in
theorem ggJ5_append_cf1ce_J5_ensureCapacityInternal_d00df : GoodIn wsJ5_append_cf1ce wsJ5_ensureCapacityInternal_d00df := goodIn_r _ [13, 8, 14, 15, 16, 17, 18, 6, 19, 20, 21, 22, 23, 24, 25, 26, 27, 28, 29, 30, 31, 32, 33, 34, 35, 36, 37, 38, 39, 40, 41, 42, 43, 44, 45, 46, 47, 48, 49, 50, 138, 139, 140, 141] (by decide +kernel) (by decide +kernel)
set_option maxRecDepth 20000 in
theorem gJ5_append_cf1ce_J5_ensureCapacityInternal_d00df_u100J4 : GoodIn wsJ5_append_cf1ce (va_wsU RJ5 100 RJ4 "java/lang/AbstractStringBuilder" ⟨"java/lang/AbstractStringBuilder", "ensureCapacityInternal", "(I)V"⟩ yJ5_ensureCapacityInternal_d00df wsJ5_ensureCapacityInternal_d00df) := goodIn_app (goodIn_of _ (by decide +kernel)) ggJ5_append_cf1ce_J5_ensureCapacityInternal_d00df
set_option maxRecDepth 20000 in
theorem ggJ5_append_cf1ce_J5_putStringAt_47b60 : GoodIn wsJ5_append_cf1ce wsJ5_putStringAt_47b60 := goodIn_r _ [97, 8, 14, 98, 99, 100, 101, 6, 102, 56, 103, 88, 89, 70, 90, 91, 92, 104, 105, 106, 107, 108, 1, 51, 52, 53, 54, 55, 109, 110, 59, 111, 43, 112, 113, 114, 115, 116, 117, 118, 119, 120, 121, 122, 123, 124, 125, 65, 66, 67, 126, 127, 128, 72, 129, 130, 75, 131, 77, 78, 79, 61, 80, 81, 132, 133, 134, 135, 86, 136, 48, 49, 50, 87, 137, 138, 139, 140, 141, 142, 143, 144, 145] (by decide +kernel) (by decide +kernel)
set_option maxRecDepth 20000 in
theorem gJ5_append_cf1ce_J5_putStringAt_47b60_u208J4 : GoodIn wsJ5_append_cf1ce (va_wsU RJ5 208 RJ4 "java/lang/AbstractStringBuilder" ⟨"java/lang/AbstractStringBuilder", "putStringAt", "(ILjava/lang/String;)V"⟩ yJ5_putStringAt_47b60 wsJ5_putStringAt_47b60) := goodIn_app (goodIn_of _ (by decide +kernel)) ggJ5_append_cf1ce_J5_putStringAt_47b60
theorem dJ5_append_cf1ce_0 : decode cJ5_append_cf1ce 0 = .ok (.aload_n 1, 1) := by decide +kernel
theorem dJ5_append_cf1ce_1 : decode cJ5_append_cf1ce 1 = .ok (.ifnonnull 8, 3) := by decide +kernel
theorem dJ5_append_cf1ce_4 : decode cJ5_append_cf1ce 4 = .ok (.aload_n 0, 1) := by decide +kernel
theorem dJ5_append_cf1ce_5 : decode cJ5_append_cf1ce 5 = .ok (.invokevirtual 204, 3) := by decide +kernel
theorem dJ5_append_cf1ce_8 : decode cJ5_append_cf1ce 8 = .ok (.areturn, 1) := by decide +kernel
theorem dJ5_append_cf1ce_9 : decode cJ5_append_cf1ce 9 = .ok (.aload_n 1, 1) := by decide +kernel
theorem dJ5_append_cf1ce_10 : decode cJ5_append_cf1ce 10 = .ok (.invokevirtual 32, 3) := by decide +kernel
theorem dJ5_append_cf1ce_13 : decode cJ5_append_cf1ce 13 = .ok (.istore_n 2, 1) := by decide +kernel
theorem dJ5_append_cf1ce_14 : decode cJ5_append_cf1ce 14 = .ok (.aload_n 0, 1) := by decide +kernel
theorem dJ5_append_cf1ce_15 : decode cJ5_append_cf1ce 15 = .ok (.aload_n 0, 1) := by decide +kernel
theorem dJ5_append_cf1ce_16 : decode cJ5_append_cf1ce 16 = .ok (.getfield 79, 3) := by decide +kernel
theorem dJ5_append_cf1ce_19 : decode cJ5_append_cf1ce 19 = .ok (.iload_n 2, 1) := by decide +kernel
theorem dJ5_append_cf1ce_20 : decode cJ5_append_cf1ce 20 = .ok (.iadd, 1) := by decide +kernel
theorem dJ5_append_cf1ce_21 : decode cJ5_append_cf1ce 21 = .ok (.invokevirtual 100, 3) := by decide +kernel
theorem dJ5_append_cf1ce_24 : decode cJ5_append_cf1ce 24 = .ok (.aload_n 0, 1) := by decide +kernel
theorem dJ5_append_cf1ce_25 : decode cJ5_append_cf1ce 25 = .ok (.aload_n 0, 1) := by decide +kernel
theorem dJ5_append_cf1ce_26 : decode cJ5_append_cf1ce 26 = .ok (.getfield 79, 3) := by decide +kernel
theorem dJ5_append_cf1ce_29 : decode cJ5_append_cf1ce 29 = .ok (.aload_n 1, 1) := by decide +kernel
theorem dJ5_append_cf1ce_30 : decode cJ5_append_cf1ce 30 = .ok (.invokevirtual 208, 3) := by decide +kernel
theorem dJ5_append_cf1ce_33 : decode cJ5_append_cf1ce 33 = .ok (.aload_n 0, 1) := by decide +kernel
theorem dJ5_append_cf1ce_34 : decode cJ5_append_cf1ce 34 = .ok (.dup, 1) := by decide +kernel
theorem dJ5_append_cf1ce_35 : decode cJ5_append_cf1ce 35 = .ok (.getfield 79, 3) := by decide +kernel
theorem dJ5_append_cf1ce_38 : decode cJ5_append_cf1ce 38 = .ok (.iload_n 2, 1) := by decide +kernel
theorem dJ5_append_cf1ce_39 : decode cJ5_append_cf1ce 39 = .ok (.iadd, 1) := by decide +kernel
theorem dJ5_append_cf1ce_40 : decode cJ5_append_cf1ce 40 = .ok (.putfield 79, 3) := by decide +kernel
theorem dJ5_append_cf1ce_43 : decode cJ5_append_cf1ce 43 = .ok (.aload_n 0, 1) := by decide +kernel
theorem dJ5_append_cf1ce_44 : decode cJ5_append_cf1ce 44 = .ok (.areturn, 1) := by decide +kernel
set_option maxRecDepth 20000 in
theorem ggJ5_appendNull_278bc_J5_ensureCapacityInternal_d00df : GoodIn wsJ5_appendNull_278bc wsJ5_ensureCapacityInternal_d00df := goodIn_r _ [8, 2, 9, 10, 11, 12, 13, 7, 14, 15, 16, 17, 18, 19, 20, 21, 22, 23, 24, 25, 26, 27, 28, 29, 30, 31, 32, 33, 34, 35, 36, 37, 38, 39, 40, 41, 42, 43, 44, 45, 77, 78, 79, 80] (by decide +kernel) (by decide +kernel)
set_option maxRecDepth 20000 in
theorem gJ5_appendNull_278bc_J5_ensureCapacityInternal_d00df_u100J4 : GoodIn wsJ5_appendNull_278bc (va_wsU RJ5 100 RJ4 "java/lang/AbstractStringBuilder" ⟨"java/lang/AbstractStringBuilder", "ensureCapacityInternal", "(I)V"⟩ yJ5_ensureCapacityInternal_d00df wsJ5_ensureCapacityInternal_d00df) := goodIn_app (goodIn_of _ (by decide +kernel)) ggJ5_appendNull_278bc_J5_ensureCapacityInternal_d00df
set_option maxRecDepth 20000 in
theorem ggJ5_appendNull_278bc_J5_isLatin1_aae02 : GoodIn wsJ5_appendNull_278bc wsJ5_isLatin1_aae02 := goodIn_r _ [50, 51, 9, 77, 78, 79, 80] (by decide +kernel) (by decide +kernel)
set_option maxRecDepth 20000 in
theorem gJ5_appendNull_278bc_J5_isLatin1_aae02_u83J4 : GoodIn wsJ5_appendNull_278bc (va_wsU RJ5 83 RJ4 "java/lang/AbstractStringBuilder" ⟨"java/lang/AbstractStringBuilder", "isLatin1", "()Z"⟩ yJ5_isLatin1_aae02 wsJ5_isLatin1_aae02) := goodIn_app (goodIn_of _ (by decide +kernel)) ggJ5_appendNull_278bc_J5_isLatin1_aae02
set_option maxRecDepth 20000 in
theorem ggJ5_appendNull_278bc_J2_putCharsAt_cd4e5 : GoodIn wsJ5_appendNull_278bc wsJ2_putCharsAt_cd4e5 := goodIn_r _ [55, 56, 57, 58, 54, 59, 60, 61, 62, 63, 64, 65, 66, 67, 68, 69, 70, 71, 72, 73, 74, 75, 76] (by decide +kernel) (by decide +kernel)
set_option maxRecDepth 20000 in
theorem gJ5_appendNull_278bc_J2_putCharsAt_cd4e5 : GoodIn wsJ5_appendNull_278bc (va_wsS RJ5 226 yJ2_putCharsAt_cd4e5 wsJ2_putCharsAt_cd4e5) := goodIn_app (goodIn_of _ (by decide +kernel)) ggJ5_appendNull_278bc_J2_putCharsAt_cd4e5
theorem dJ5_appendNull_278bc_0 : decode cJ5_appendNull_278bc 0 = .ok (.aload_n 0, 1) := by decide +kernel
theorem dJ5_appendNull_278bc_1 : decode cJ5_appendNull_278bc 1 = .ok (.aload_n 0, 1) := by decide +kernel
theorem dJ5_appendNull_278bc_2 : decode cJ5_appendNull_278bc 2 = .ok (.getfield 79, 3) := by decide +kernel
theorem dJ5_appendNull_278bc_5 : decode cJ5_appendNull_278bc 5 = .ok (.iconst 4, 1) := by decide +kernel
theorem dJ5_appendNull_278bc_6 : decode cJ5_appendNull_278bc 6 = .ok (.iadd, 1) := by decide +kernel
theorem dJ5_appendNull_278bc_7 : decode cJ5_appendNull_278bc 7 = .ok (.invokevirtual 100, 3) := by decide +kernel
theorem dJ5_appendNull_278bc_10 : decode cJ5_appendNull_278bc 10 = .ok (.aload_n 0, 1) := by decide +kernel
theorem dJ5_appendNull_278bc_11 : decode cJ5_appendNull_278bc 11 = .ok (.getfield 79, 3) := by decide +kernel
theorem dJ5_appendNull_278bc_14 : decode cJ5_appendNull_278bc 14 = .ok (.istore_n 1, 1) := by decide +kernel
theorem dJ5_appendNull_278bc_15 : decode cJ5_appendNull_278bc 15 = .ok (.aload_n 0, 1) := by decide +kernel
theorem dJ5_appendNull_278bc_16 : decode cJ5_appendNull_278bc 16 = .ok (.getfield 15, 3) := by decide +kernel
theorem dJ5_appendNull_278bc_19 : decode cJ5_appendNull_278bc 19 = .ok (.astore_n 2, 1) := by decide +kernel
theorem dJ5_appendNull_278bc_20 : decode cJ5_appendNull_278bc 20 = .ok (.aload_n 0, 1) := by decide +kernel
theorem dJ5_appendNull_278bc_21 : decode cJ5_appendNull_278bc 21 = .ok (.invokevirtual 83, 3) := by decide +kernel
theorem dJ5_appendNull_278bc_24 : decode cJ5_appendNull_278bc 24 = .ok (.ifCond .eq 38, 3) := by decide +kernel
theorem dJ5_appendNull_278bc_27 : decode cJ5_appendNull_278bc 27 = .ok (.aload_n 2, 1) := by decide +kernel
theorem dJ5_appendNull_278bc_28 : decode cJ5_appendNull_278bc 28 = .ok (.iload_n 1, 1) := by decide +kernel
theorem dJ5_appendNull_278bc_29 : decode cJ5_appendNull_278bc 29 = .ok (.iinc 1 1, 3) := by decide +kernel
theorem dJ5_appendNull_278bc_32 : decode cJ5_appendNull_278bc 32 = .ok (.bipush 110, 2) := by decide +kernel
theorem dJ5_appendNull_278bc_34 : decode cJ5_appendNull_278bc 34 = .ok (.bastore, 1) := by decide +kernel
theorem dJ5_appendNull_278bc_35 : decode cJ5_appendNull_278bc 35 = .ok (.aload_n 2, 1) := by decide +kernel
theorem dJ5_appendNull_278bc_36 : decode cJ5_appendNull_278bc 36 = .ok (.iload_n 1, 1) := by decide +kernel
theorem dJ5_appendNull_278bc_37 : decode cJ5_appendNull_278bc 37 = .ok (.iinc 1 1, 3) := by decide +kernel
theorem dJ5_appendNull_278bc_40 : decode cJ5_appendNull_278bc 40 = .ok (.bipush 117, 2) := by decide +kernel
theorem dJ5_appendNull_278bc_42 : decode cJ5_appendNull_278bc 42 = .ok (.bastore, 1) := by decide +kernel
theorem dJ5_appendNull_278bc_43 : decode cJ5_appendNull_278bc 43 = .ok (.aload_n 2, 1) := by decide +kernel
theorem dJ5_appendNull_278bc_44 : decode cJ5_appendNull_278bc 44 = .ok (.iload_n 1, 1) := by decide +kernel
theorem dJ5_appendNull_278bc_45 : decode cJ5_appendNull_278bc 45 = .ok (.iinc 1 1, 3) := by decide +kernel
theorem dJ5_appendNull_278bc_48 : decode cJ5_appendNull_278bc 48 = .ok (.bipush 108, 2) := by decide +kernel
theorem dJ5_appendNull_278bc_50 : decode cJ5_appendNull_278bc 50 = .ok (.bastore, 1) := by decide +kernel
theorem dJ5_appendNull_278bc_51 : decode cJ5_appendNull_278bc 51 = .ok (.aload_n 2, 1) := by decide +kernel
theorem dJ5_appendNull_278bc_52 : decode cJ5_appendNull_278bc 52 = .ok (.iload_n 1, 1) := by decide +kernel
theorem dJ5_appendNull_278bc_53 : decode cJ5_appendNull_278bc 53 = .ok (.iinc 1 1, 3) := by decide +kernel
theorem dJ5_appendNull_278bc_56 : decode cJ5_appendNull_278bc 56 = .ok (.bipush 108, 2) := by decide +kernel
theorem dJ5_appendNull_278bc_58 : decode cJ5_appendNull_278bc 58 = .ok (.bastore, 1) := by decide +kernel
theorem dJ5_appendNull_278bc_59 : decode cJ5_appendNull_278bc 59 = .ok (.goto 17, 3) := by decide +kernel
theorem dJ5_appendNull_278bc_62 : decode cJ5_appendNull_278bc 62 = .ok (.aload_n 2, 1) := by decide +kernel
theorem dJ5_appendNull_278bc_63 : decode cJ5_appendNull_278bc 63 = .ok (.iload_n 1, 1) := by decide +kernel
theorem dJ5_appendNull_278bc_64 : decode cJ5_appendNull_278bc 64 = .ok (.bipush 110, 2) := by decide +kernel
theorem dJ5_appendNull_278bc_66 : decode cJ5_appendNull_278bc 66 = .ok (.bipush 117, 2) := by decide +kernel
theorem dJ5_appendNull_278bc_68 : decode cJ5_appendNull_278bc 68 = .ok (.bipush 108, 2) := by decide +kernel
theorem dJ5_appendNull_278bc_70 : decode cJ5_appendNull_278bc 70 = .ok (.bipush 108, 2) := by decide +kernel
theorem dJ5_appendNull_278bc_72 : decode cJ5_appendNull_278bc 72 = .ok (.invokestatic 226, 3) := by decide +kernel
theorem dJ5_appendNull_278bc_75 : decode cJ5_appendNull_278bc 75 = .ok (.istore_n 1, 1) := by decide +kernel
theorem dJ5_appendNull_278bc_76 : decode cJ5_appendNull_278bc 76 = .ok (.aload_n 0, 1) := by decide +kernel
theorem dJ5_appendNull_278bc_77 : decode cJ5_appendNull_278bc 77 = .ok (.iload_n 1, 1) := by decide +kernel
theorem dJ5_appendNull_278bc_78 : decode cJ5_appendNull_278bc 78 = .ok (.putfield 79, 3) := by decide +kernel
theorem dJ5_appendNull_278bc_81 : decode cJ5_appendNull_278bc 81 = .ok (.aload_n 0, 1) := by decide +kernel
theorem dJ5_appendNull_278bc_82 : decode cJ5_appendNull_278bc 82 = .ok (.areturn, 1) := by decide +kernel
set_option maxRecDepth 20000 in
theorem ggJ5_append_c97b9_J6_stringSize_0f7a4 : GoodIn wsJ5_append_c97b9 wsJ6_stringSize_0f7a4 := goodIn_r _ [6] (by decide +kernel) (by decide +kernel)
set_option maxRecDepth 20000 in
theorem gJ5_append_c97b9_J6_stringSize_0f7a4 : GoodIn wsJ5_append_c97b9 (va_wsS RJ5 245 yJ6_stringSize_0f7a4 wsJ6_stringSize_0f7a4) := goodIn_app (goodIn_of _ (by decide +kernel)) ggJ5_append_c97b9_J6_stringSize_0f7a4
set_option maxRecDepth 20000 in
theorem ggJ5_append_c97b9_J5_ensureCapacityInternal_d00df : GoodIn wsJ5_append_c97b9 wsJ5_ensureCapacityInternal_d00df := goodIn_r _ [12, 2, 13, 14, 15, 16, 17, 11, 18, 19, 20, 21, 22, 23, 24, 25, 26, 27, 28, 29, 30, 31, 32, 33, 34, 35, 36, 37, 38, 39, 40, 41, 42, 43, 44, 45, 46, 47, 48, 49, 91, 92, 93, 94] (by decide +kernel) (by decide +kernel)
set_option maxRecDepth 20000 in
theorem gJ5_append_c97b9_J5_ensureCapacityInternal_d00df_u100J4 : GoodIn wsJ5_append_c97b9 (va_wsU RJ5 100 RJ4 "java/lang/AbstractStringBuilder" ⟨"java/lang/AbstractStringBuilder", "ensureCapacityInternal", "(I)V"⟩ yJ5_ensureCapacityInternal_d00df wsJ5_ensureCapacityInternal_d00df) := goodIn_app (goodIn_of _ (by decide +kernel)) ggJ5_append_c97b9_J5_ensureCapacityInternal_d00df
set_option maxRecDepth 20000 in
theorem ggJ5_append_c97b9_J5_isLatin1_aae02 : GoodIn wsJ5_append_c97b9 wsJ5_isLatin1_aae02 := goodIn_r _ [54, 55, 13, 91, 92, 93, 94] (by decide +kernel) (by decide +kernel)
set_option maxRecDepth 20000 in
theorem gJ5_append_c97b9_J5_isLatin1_aae02_u83J4 : GoodIn wsJ5_append_c97b9 (va_wsU RJ5 83 RJ4 "java/lang/AbstractStringBuilder" ⟨"java/lang/AbstractStringBuilder", "isLatin1", "()Z"⟩ yJ5_isLatin1_aae02 wsJ5_isLatin1_aae02) := goodIn_app (goodIn_of _ (by decide +kernel)) ggJ5_append_c97b9_J5_isLatin1_aae02
set_option maxRecDepth 20000 in
theorem ggJ5_append_c97b9_J6_getChars_ba4f3 : GoodIn wsJ5_append_c97b9 wsJ6_getChars_ba4f3 := goodIn_r _ [58, 59, 60] (by decide +kernel) (by decide +kernel)
set_option maxRecDepth 20000 in
theorem gJ5_append_c97b9_J6_getChars_ba4f3 : GoodIn wsJ5_append_c97b9 (va_wsS RJ5 248 yJ6_getChars_ba4f3 wsJ6_getChars_ba4f3) := goodIn_app (goodIn_of _ (by decide +kernel)) ggJ5_append_c97b9_J6_getChars_ba4f3
set_option maxRecDepth 20000 in
theorem ggJ5_append_c97b9_J2_getChars_46870 : GoodIn wsJ5_append_c97b9 wsJ2_getChars_46870 := goodIn_r _ [64, 65, 66, 67, 63, 68, 69, 70, 71, 72, 73, 74, 75, 76, 77, 78, 79, 80, 81, 82, 83, 84, 85, 86, 87, 88, 89, 90] (by decide +kernel) (by decide +kernel)
set_option maxRecDepth 20000 in
theorem gJ5_append_c97b9_J2_getChars_46870 : GoodIn wsJ5_append_c97b9 (va_wsS RJ5 251 yJ2_getChars_46870 wsJ2_getChars_46870) := goodIn_app (goodIn_of _ (by decide +kernel)) ggJ5_append_c97b9_J2_getChars_46870
theorem dJ5_append_c97b9_0 : decode cJ5_append_c97b9 0 = .ok (.aload_n 0, 1) := by decide +kernel
theorem dJ5_append_c97b9_1 : decode cJ5_append_c97b9 1 = .ok (.getfield 79, 3) := by decide +kernel
theorem dJ5_append_c97b9_4 : decode cJ5_append_c97b9 4 = .ok (.istore_n 2, 1) := by decide +kernel
theorem dJ5_append_c97b9_5 : decode cJ5_append_c97b9 5 = .ok (.iload_n 2, 1) := by decide +kernel
theorem dJ5_append_c97b9_6 : decode cJ5_append_c97b9 6 = .ok (.iload_n 1, 1) := by decide +kernel
theorem dJ5_append_c97b9_7 : decode cJ5_append_c97b9 7 = .ok (.invokestatic 245, 3) := by decide +kernel
theorem dJ5_append_c97b9_10 : decode cJ5_append_c97b9 10 = .ok (.iadd, 1) := by decide +kernel
theorem dJ5_append_c97b9_11 : decode cJ5_append_c97b9 11 = .ok (.istore_n 3, 1) := by decide +kernel
theorem dJ5_append_c97b9_12 : decode cJ5_append_c97b9 12 = .ok (.aload_n 0, 1) := by decide +kernel
theorem dJ5_append_c97b9_13 : decode cJ5_append_c97b9 13 = .ok (.iload_n 3, 1) := by decide +kernel
theorem dJ5_append_c97b9_14 : decode cJ5_append_c97b9 14 = .ok (.invokevirtual 100, 3) := by decide +kernel
theorem dJ5_append_c97b9_17 : decode cJ5_append_c97b9 17 = .ok (.aload_n 0, 1) := by decide +kernel
theorem dJ5_append_c97b9_18 : decode cJ5_append_c97b9 18 = .ok (.invokevirtual 83, 3) := by decide +kernel
theorem dJ5_append_c97b9_21 : decode cJ5_append_c97b9 21 = .ok (.ifCond .eq 16, 3) := by decide +kernel
theorem dJ5_append_c97b9_24 : decode cJ5_append_c97b9 24 = .ok (.iload_n 1, 1) := by decide +kernel
theorem dJ5_append_c97b9_25 : decode cJ5_append_c97b9 25 = .ok (.iload_n 3, 1) := by decide +kernel
theorem dJ5_append_c97b9_26 : decode cJ5_append_c97b9 26 = .ok (.aload_n 0, 1) := by decide +kernel
theorem dJ5_append_c97b9_27 : decode cJ5_append_c97b9 27 = .ok (.getfield 15, 3) := by decide +kernel
theorem dJ5_append_c97b9_30 : decode cJ5_append_c97b9 30 = .ok (.invokestatic 248, 3) := by decide +kernel
theorem dJ5_append_c97b9_33 : decode cJ5_append_c97b9 33 = .ok (.pop, 1) := by decide +kernel
theorem dJ5_append_c97b9_34 : decode cJ5_append_c97b9 34 = .ok (.goto 14, 3) := by decide +kernel
theorem dJ5_append_c97b9_37 : decode cJ5_append_c97b9 37 = .ok (.iload_n 1, 1) := by decide +kernel
theorem dJ5_append_c97b9_38 : decode cJ5_append_c97b9 38 = .ok (.iload_n 2, 1) := by decide +kernel
theorem dJ5_append_c97b9_39 : decode cJ5_append_c97b9 39 = .ok (.iload_n 3, 1) := by decide +kernel
theorem dJ5_append_c97b9_40 : decode cJ5_append_c97b9 40 = .ok (.aload_n 0, 1) := by decide +kernel
theorem dJ5_append_c97b9_41 : decode cJ5_append_c97b9 41 = .ok (.getfield 15, 3) := by decide +kernel
theorem dJ5_append_c97b9_44 : decode cJ5_append_c97b9 44 = .ok (.invokestatic 251, 3) := by decide +kernel
theorem dJ5_append_c97b9_47 : decode cJ5_append_c97b9 47 = .ok (.pop, 1) := by decide +kernel
theorem dJ5_append_c97b9_48 : decode cJ5_append_c97b9 48 = .ok (.aload_n 0, 1) := by decide +kernel
theorem dJ5_append_c97b9_49 : decode cJ5_append_c97b9 49 = .ok (.iload_n 3, 1) := by decide +kernel
theorem dJ5_append_c97b9_50 : decode cJ5_append_c97b9 50 = .ok (.putfield 79, 3) := by decide +kernel
theorem dJ5_append_c97b9_53 : decode cJ5_append_c97b9 53 = .ok (.aload_n 0, 1) := by decide +kernel
theorem dJ5_append_c97b9_54 : decode cJ5_append_c97b9 54 = .ok (.areturn, 1) := by decide +kernel
theorem dJ5_getValue_6d5f1_0 : decode cJ5_getValue_6d5f1 0 = .ok (.aload_n 0, 1) := by decide +kernel
theorem dJ5_getValue_6d5f1_1 : decode cJ5_getValue_6d5f1 1 = .ok (.getfield 15, 3) := by decide +kernel
theorem dJ5_getValue_6d5f1_4 : decode cJ5_getValue_6d5f1 4 = .ok (.areturn, 1) := by decide +kernel
theorem dJ5_isLatin1_aae02_0 : decode cJ5_isLatin1_aae02 0 = .ok (.getstatic 18, 3) := by decide +kernel
theorem dJ5_isLatin1_aae02_3 : decode cJ5_isLatin1_aae02 3 = .ok (.ifCond .eq 14, 3) := by decide +kernel
theorem dJ5_isLatin1_aae02_6 : decode cJ5_isLatin1_aae02 6 = .ok (.aload_n 0, 1) := by decide +kernel
theorem dJ5_isLatin1_aae02_7 : decode cJ5_isLatin1_aae02 7 = .ok (.getfield 22, 3) := by decide +kernel
theorem dJ5_isLatin1_aae02_10 : decode cJ5_isLatin1_aae02 10 = .ok (.ifCond .ne 7, 3) := by decide +kernel
theorem dJ5_isLatin1_aae02_13 : decode cJ5_isLatin1_aae02 13 = .ok (.iconst 1, 1) := by decide +kernel
theorem dJ5_isLatin1_aae02_14 : decode cJ5_isLatin1_aae02 14 = .ok (.goto 4, 3) := by decide +kernel
theorem dJ5_isLatin1_aae02_17 : decode cJ5_isLatin1_aae02 17 = .ok (.iconst 0, 1) := by decide +kernel
theorem dJ5_isLatin1_aae02_18 : decode cJ5_isLatin1_aae02 18 = .ok (.ireturn, 1) := by decide +kernel
set_option maxRecDepth 20000 in
theorem ggJ5_inflateIfNeededFor_a7421_J0_coder_7d493 : GoodIn wsJ5_inflateIfNeededFor_a7421 wsJ0_coder_7d493 := goodIn_r _ [7, 8, 9, 63, 64, 65, 66] (by decide +kernel) (by decide +kernel)
set_option maxRecDepth 20000 in
theorem gJ5_inflateIfNeededFor_a7421_J0_coder_7d493 : GoodIn wsJ5_inflateIfNeededFor_a7421 (wsV RJ5 40 RJ0 yJ0_coder_7d493 wsJ0_coder_7d493) := goodIn_app (goodIn_of _ (by decide +kernel)) ggJ5_inflateIfNeededFor_a7421_J0_coder_7d493
set_option maxRecDepth 20000 in
theorem ggJ5_inflateIfNeededFor_a7421_J5_inflate_da8c8 : GoodIn wsJ5_inflateIfNeededFor_a7421 wsJ5_inflate_da8c8 := goodIn_r _ [15, 16, 17, 2, 18, 19, 20, 21, 14, 22, 1, 23, 24, 25, 26, 27, 28, 29, 30, 31, 32, 33, 34, 35, 36, 37, 38, 39, 40, 41, 42, 43, 44, 45, 46, 6, 47, 48, 49, 50, 51, 52, 53, 54, 55, 56, 57, 58, 59, 60, 61, 62] (by decide +kernel) (by decide +kernel)
set_option maxRecDepth 20000 in
theorem gJ5_inflateIfNeededFor_a7421_J5_inflate_da8c8_u195J4 : GoodIn wsJ5_inflateIfNeededFor_a7421 (va_wsU RJ5 195 RJ4 "java/lang/AbstractStringBuilder" ⟨"java/lang/AbstractStringBuilder", "inflate", "()V"⟩ yJ5_inflate_da8c8 wsJ5_inflate_da8c8) := goodIn_app (goodIn_of _ (by decide +kernel)) ggJ5_inflateIfNeededFor_a7421_J5_inflate_da8c8
theorem dJ5_inflateIfNeededFor_a7421_0 : decode cJ5_inflateIfNeededFor_a7421 0 = .ok (.getstatic 18, 3) := by decide +kernel
theorem dJ5_inflateIfNeededFor_a7421_3 : decode cJ5_inflateIfNeededFor_a7421 3 = .ok (.ifCond .eq 18, 3) := by decide +kernel
theorem dJ5_inflateIfNeededFor_a7421_6 : decode cJ5_inflateIfNeededFor_a7421 6 = .ok (.aload_n 0, 1) := by decide +kernel
theorem dJ5_inflateIfNeededFor_a7421_7 : decode cJ5_inflateIfNeededFor_a7421 7 = .ok (.getfield 22, 3) := by decide +kernel
theorem dJ5_inflateIfNeededFor_a7421_10 : decode cJ5_inflateIfNeededFor_a7421 10 = .ok (.aload_n 1, 1) := by decide +kernel
theorem dJ5_inflateIfNeededFor_a7421_11 : decode cJ5_inflateIfNeededFor_a7421 11 = .ok (.invokevirtual 40, 3) := by decide +kernel
theorem dJ5_inflateIfNeededFor_a7421_14 : decode cJ5_inflateIfNeededFor_a7421 14 = .ok (.if_icmp .eq 7, 3) := by decide +kernel
theorem dJ5_inflateIfNeededFor_a7421_17 : decode cJ5_inflateIfNeededFor_a7421 17 = .ok (.aload_n 0, 1) := by decide +kernel
theorem dJ5_inflateIfNeededFor_a7421_18 : decode cJ5_inflateIfNeededFor_a7421 18 = .ok (.invokevirtual 195, 3) := by decide +kernel
theorem dJ5_inflateIfNeededFor_a7421_21 : decode cJ5_inflateIfNeededFor_a7421 21 = .ok (.return_, 1) := by decide +kernel
set_option maxRecDepth 20000 in
theorem ggJ5_putStringAt_47b60_J5_inflateIfNeededFor_a7421 : GoodIn wsJ5_putStringAt_47b60 wsJ5_inflateIfNeededFor_a7421 := goodIn_r _ [8, 9, 2, 10, 11, 12, 13, 14, 15, 16, 17, 18, 19, 20, 7, 21, 1, 22, 23, 24, 25, 26, 27, 28, 29, 30, 31, 32, 33, 34, 35, 36, 37, 38, 39, 40, 41, 42, 43, 44, 45, 46, 47, 48, 49, 50, 51, 52, 53, 54, 55, 56, 57, 58, 59, 60, 61, 62, 63, 75, 76, 77, 78, 79, 80, 81, 82] (by decide +kernel) (by decide +kernel)
set_option maxRecDepth 20000 in
theorem gJ5_putStringAt_47b60_J5_inflateIfNeededFor_a7421_u397J4 : GoodIn wsJ5_putStringAt_47b60 (va_wsU RJ5 397 RJ4 "java/lang/AbstractStringBuilder" ⟨"java/lang/AbstractStringBuilder", "inflateIfNeededFor", "(Ljava/lang/String;)V"⟩ yJ5_inflateIfNeededFor_a7421 wsJ5_inflateIfNeededFor_a7421) := goodIn_app (goodIn_of _ (by decide +kernel)) ggJ5_putStringAt_47b60_J5_inflateIfNeededFor_a7421
set_option maxRecDepth 20000 in
theorem ggJ5_putStringAt_47b60_J0_getBytes_840e7 : GoodIn wsJ5_putStringAt_47b60 wsJ0_getBytes_840e7 := goodIn_r _ [67, 68, 69, 70, 71, 72, 73, 11, 12, 13, 14, 15, 16, 74, 38, 39, 40, 41, 42, 30, 43, 44, 45, 46, 47, 48, 49, 50, 51, 52, 53, 54, 55, 56, 57, 58, 59, 60, 61, 62, 63, 79, 80, 81, 82] (by decide +kernel) (by decide +kernel)
set_option maxRecDepth 20000 in
theorem gJ5_putStringAt_47b60_J0_getBytes_840e7 : GoodIn wsJ5_putStringAt_47b60 (wsV RJ5 399 RJ0 yJ0_getBytes_840e7 wsJ0_getBytes_840e7) := goodIn_app (goodIn_of _ (by decide +kernel)) ggJ5_putStringAt_47b60_J0_getBytes_840e7
theorem dJ5_putStringAt_47b60_0 : decode cJ5_putStringAt_47b60 0 = .ok (.aload_n 0, 1) := by decide +kernel
theorem dJ5_putStringAt_47b60_1 : decode cJ5_putStringAt_47b60 1 = .ok (.aload_n 2, 1) := by decide +kernel
theorem dJ5_putStringAt_47b60_2 : decode cJ5_putStringAt_47b60 2 = .ok (.invokevirtual 397, 3) := by decide +kernel
theorem dJ5_putStringAt_47b60_5 : decode cJ5_putStringAt_47b60 5 = .ok (.aload_n 2, 1) := by decide +kernel
theorem dJ5_putStringAt_47b60_6 : decode cJ5_putStringAt_47b60 6 = .ok (.aload_n 0, 1) := by decide +kernel
theorem dJ5_putStringAt_47b60_7 : decode cJ5_putStringAt_47b60 7 = .ok (.getfield 15, 3) := by decide +kernel
theorem dJ5_putStringAt_47b60_10 : decode cJ5_putStringAt_47b60 10 = .ok (.iload_n 1, 1) := by decide +kernel
theorem dJ5_putStringAt_47b60_11 : decode cJ5_putStringAt_47b60 11 = .ok (.aload_n 0, 1) := by decide +kernel
theorem dJ5_putStringAt_47b60_12 : decode cJ5_putStringAt_47b60 12 = .ok (.getfield 22, 3) := by decide +kernel
theorem dJ5_putStringAt_47b60_15 : decode cJ5_putStringAt_47b60 15 = .ok (.invokevirtual 399, 3) := by decide +kernel
theorem dJ5_putStringAt_47b60_18 : decode cJ5_putStringAt_47b60 18 = .ok (.return_, 1) := by decide +kernel
theorem dJ6_getChars_ba4f3_0 : decode cJ6_getChars_ba4f3 0 = .ok (.iload_n 1, 1) := by decide +kernel
theorem dJ6_getChars_ba4f3_1 : decode cJ6_getChars_ba4f3 1 = .ok (.istore 5, 2) := by decide +kernel
theorem dJ6_getChars_ba4f3_3 : decode cJ6_getChars_ba4f3 3 = .ok (.iload_n 0, 1) := by decide +kernel
theorem dJ6_getChars_ba4f3_4 : decode cJ6_getChars_ba4f3 4 = .ok (.ifCond .ge 7, 3) := by decide +kernel
theorem dJ6_getChars_ba4f3_7 : decode cJ6_getChars_ba4f3 7 = .ok (.iconst 1, 1) := by decide +kernel
theorem dJ6_getChars_ba4f3_8 : decode cJ6_getChars_ba4f3 8 = .ok (.goto 4, 3) := by decide +kernel
theorem dJ6_getChars_ba4f3_11 : decode cJ6_getChars_ba4f3 11 = .ok (.iconst 0, 1) := by decide +kernel
theorem dJ6_getChars_ba4f3_12 : decode cJ6_getChars_ba4f3 12 = .ok (.istore 6, 2) := by decide +kernel
theorem dJ6_getChars_ba4f3_14 : decode cJ6_getChars_ba4f3 14 = .ok (.iload 6, 2) := by decide +kernel
theorem dJ6_getChars_ba4f3_16 : decode cJ6_getChars_ba4f3 16 = .ok (.ifCond .ne 6, 3) := by decide +kernel
theorem dJ6_getChars_ba4f3_19 : decode cJ6_getChars_ba4f3 19 = .ok (.iload_n 0, 1) := by decide +kernel
theorem dJ6_getChars_ba4f3_20 : decode cJ6_getChars_ba4f3 20 = .ok (.ineg, 1) := by decide +kernel
theorem dJ6_getChars_ba4f3_21 : decode cJ6_getChars_ba4f3 21 = .ok (.istore_n 0, 1) := by decide +kernel
theorem dJ6_getChars_ba4f3_22 : decode cJ6_getChars_ba4f3 22 = .ok (.iload_n 0, 1) := by decide +kernel
theorem dJ6_getChars_ba4f3_23 : decode cJ6_getChars_ba4f3 23 = .ok (.bipush (-100), 2) := by decide +kernel
theorem dJ6_getChars_ba4f3_25 : decode cJ6_getChars_ba4f3 25 = .ok (.if_icmp .gt 47, 3) := by decide +kernel
theorem dJ6_getChars_ba4f3_28 : decode cJ6_getChars_ba4f3 28 = .ok (.iload_n 0, 1) := by decide +kernel
theorem dJ6_getChars_ba4f3_29 : decode cJ6_getChars_ba4f3 29 = .ok (.bipush 100, 2) := by decide +kernel
theorem dJ6_getChars_ba4f3_31 : decode cJ6_getChars_ba4f3 31 = .ok (.idiv, 1) := by decide +kernel
theorem dJ6_getChars_ba4f3_32 : decode cJ6_getChars_ba4f3 32 = .ok (.istore_n 3, 1) := by decide +kernel
theorem dJ6_getChars_ba4f3_33 : decode cJ6_getChars_ba4f3 33 = .ok (.iload_n 3, 1) := by decide +kernel
theorem dJ6_getChars_ba4f3_34 : decode cJ6_getChars_ba4f3 34 = .ok (.bipush 100, 2) := by decide +kernel
theorem dJ6_getChars_ba4f3_36 : decode cJ6_getChars_ba4f3 36 = .ok (.imul, 1) := by decide +kernel
theorem dJ6_getChars_ba4f3_37 : decode cJ6_getChars_ba4f3 37 = .ok (.iload_n 0, 1) := by decide +kernel
theorem dJ6_getChars_ba4f3_38 : decode cJ6_getChars_ba4f3 38 = .ok (.isub, 1) := by decide +kernel
theorem dJ6_getChars_ba4f3_39 : decode cJ6_getChars_ba4f3 39 = .ok (.istore 4, 2) := by decide +kernel
theorem dJ6_getChars_ba4f3_41 : decode cJ6_getChars_ba4f3 41 = .ok (.iload_n 3, 1) := by decide +kernel
theorem dJ6_getChars_ba4f3_42 : decode cJ6_getChars_ba4f3 42 = .ok (.istore_n 0, 1) := by decide +kernel
theorem dJ6_getChars_ba4f3_43 : decode cJ6_getChars_ba4f3 43 = .ok (.aload_n 2, 1) := by decide +kernel
theorem dJ6_getChars_ba4f3_44 : decode cJ6_getChars_ba4f3 44 = .ok (.iinc 5 (-1), 3) := by decide +kernel
theorem dJ6_getChars_ba4f3_47 : decode cJ6_getChars_ba4f3 47 = .ok (.iload 5, 2) := by decide +kernel
theorem dJ6_getChars_ba4f3_49 : decode cJ6_getChars_ba4f3 49 = .ok (.getstatic 83, 3) := by decide +kernel
theorem dJ6_getChars_ba4f3_52 : decode cJ6_getChars_ba4f3 52 = .ok (.iload 4, 2) := by decide +kernel
theorem dJ6_getChars_ba4f3_54 : decode cJ6_getChars_ba4f3 54 = .ok (.baload, 1) := by decide +kernel
theorem dJ6_getChars_ba4f3_55 : decode cJ6_getChars_ba4f3 55 = .ok (.bastore, 1) := by decide +kernel
theorem dJ6_getChars_ba4f3_56 : decode cJ6_getChars_ba4f3 56 = .ok (.aload_n 2, 1) := by decide +kernel
theorem dJ6_getChars_ba4f3_57 : decode cJ6_getChars_ba4f3 57 = .ok (.iinc 5 (-1), 3) := by decide +kernel
theorem dJ6_getChars_ba4f3_60 : decode cJ6_getChars_ba4f3 60 = .ok (.iload 5, 2) := by decide +kernel
theorem dJ6_getChars_ba4f3_62 : decode cJ6_getChars_ba4f3 62 = .ok (.getstatic 87, 3) := by decide +kernel
theorem dJ6_getChars_ba4f3_65 : decode cJ6_getChars_ba4f3 65 = .ok (.iload 4, 2) := by decide +kernel
theorem dJ6_getChars_ba4f3_67 : decode cJ6_getChars_ba4f3 67 = .ok (.baload, 1) := by decide +kernel
theorem dJ6_getChars_ba4f3_68 : decode cJ6_getChars_ba4f3 68 = .ok (.bastore, 1) := by decide +kernel
theorem dJ6_getChars_ba4f3_69 : decode cJ6_getChars_ba4f3 69 = .ok (.goto (-47), 3) := by decide +kernel
theorem dJ6_getChars_ba4f3_72 : decode cJ6_getChars_ba4f3 72 = .ok (.aload_n 2, 1) := by decide +kernel
theorem dJ6_getChars_ba4f3_73 : decode cJ6_getChars_ba4f3 73 = .ok (.iinc 5 (-1), 3) := by decide +kernel
theorem dJ6_getChars_ba4f3_76 : decode cJ6_getChars_ba4f3 76 = .ok (.iload 5, 2) := by decide +kernel
theorem dJ6_getChars_ba4f3_78 : decode cJ6_getChars_ba4f3 78 = .ok (.getstatic 83, 3) := by decide +kernel
theorem dJ6_getChars_ba4f3_81 : decode cJ6_getChars_ba4f3 81 = .ok (.iload_n 0, 1) := by decide +kernel
theorem dJ6_getChars_ba4f3_82 : decode cJ6_getChars_ba4f3 82 = .ok (.ineg, 1) := by decide +kernel
theorem dJ6_getChars_ba4f3_83 : decode cJ6_getChars_ba4f3 83 = .ok (.baload, 1) := by decide +kernel
theorem dJ6_getChars_ba4f3_84 : decode cJ6_getChars_ba4f3 84 = .ok (.bastore, 1) := by decide +kernel
theorem dJ6_getChars_ba4f3_85 : decode cJ6_getChars_ba4f3 85 = .ok (.iload_n 0, 1) := by decide +kernel
theorem dJ6_getChars_ba4f3_86 : decode cJ6_getChars_ba4f3 86 = .ok (.bipush (-9), 2) := by decide +kernel
theorem dJ6_getChars_ba4f3_88 : decode cJ6_getChars_ba4f3 88 = .ok (.if_icmp .ge 16, 3) := by decide +kernel
theorem dJ6_getChars_ba4f3_91 : decode cJ6_getChars_ba4f3 91 = .ok (.aload_n 2, 1) := by decide +kernel
theorem dJ6_getChars_ba4f3_92 : decode cJ6_getChars_ba4f3 92 = .ok (.iinc 5 (-1), 3) := by decide +kernel
theorem dJ6_getChars_ba4f3_95 : decode cJ6_getChars_ba4f3 95 = .ok (.iload 5, 2) := by decide +kernel
theorem dJ6_getChars_ba4f3_97 : decode cJ6_getChars_ba4f3 97 = .ok (.getstatic 87, 3) := by decide +kernel
theorem dJ6_getChars_ba4f3_100 : decode cJ6_getChars_ba4f3 100 = .ok (.iload_n 0, 1) := by decide +kernel
theorem dJ6_getChars_ba4f3_101 : decode cJ6_getChars_ba4f3 101 = .ok (.ineg, 1) := by decide +kernel
theorem dJ6_getChars_ba4f3_102 : decode cJ6_getChars_ba4f3 102 = .ok (.baload, 1) := by decide +kernel
theorem dJ6_getChars_ba4f3_103 : decode cJ6_getChars_ba4f3 103 = .ok (.bastore, 1) := by decide +kernel
theorem dJ6_getChars_ba4f3_104 : decode cJ6_getChars_ba4f3 104 = .ok (.iload 6, 2) := by decide +kernel
theorem dJ6_getChars_ba4f3_106 : decode cJ6_getChars_ba4f3 106 = .ok (.ifCond .eq 12, 3) := by decide +kernel
theorem dJ6_getChars_ba4f3_109 : decode cJ6_getChars_ba4f3 109 = .ok (.aload_n 2, 1) := by decide +kernel
theorem dJ6_getChars_ba4f3_110 : decode cJ6_getChars_ba4f3 110 = .ok (.iinc 5 (-1), 3) := by decide +kernel
theorem dJ6_getChars_ba4f3_113 : decode cJ6_getChars_ba4f3 113 = .ok (.iload 5, 2) := by decide +kernel
theorem dJ6_getChars_ba4f3_115 : decode cJ6_getChars_ba4f3 115 = .ok (.bipush 45, 2) := by decide +kernel
theorem dJ6_getChars_ba4f3_117 : decode cJ6_getChars_ba4f3 117 = .ok (.bastore, 1) := by decide +kernel
theorem dJ6_getChars_ba4f3_118 : decode cJ6_getChars_ba4f3 118 = .ok (.iload 5, 2) := by decide +kernel
theorem dJ6_getChars_ba4f3_120 : decode cJ6_getChars_ba4f3 120 = .ok (.ireturn, 1) := by decide +kernel
theorem dJ6_stringSize_0f7a4_0 : decode cJ6_stringSize_0f7a4 0 = .ok (.iconst 1, 1) := by decide +kernel
theorem dJ6_stringSize_0f7a4_1 : decode cJ6_stringSize_0f7a4 1 = .ok (.istore_n 1, 1) := by decide +kernel
theorem dJ6_stringSize_0f7a4_2 : decode cJ6_stringSize_0f7a4 2 = .ok (.iload_n 0, 1) := by decide +kernel
theorem dJ6_stringSize_0f7a4_3 : decode cJ6_stringSize_0f7a4 3 = .ok (.ifCond .lt 8, 3) := by decide +kernel
theorem dJ6_stringSize_0f7a4_6 : decode cJ6_stringSize_0f7a4 6 = .ok (.iconst 0, 1) := by decide +kernel
theorem dJ6_stringSize_0f7a4_7 : decode cJ6_stringSize_0f7a4 7 = .ok (.istore_n 1, 1) := by decide +kernel
theorem dJ6_stringSize_0f7a4_8 : decode cJ6_stringSize_0f7a4 8 = .ok (.iload_n 0, 1) := by decide +kernel
theorem dJ6_stringSize_0f7a4_9 : decode cJ6_stringSize_0f7a4 9 = .ok (.ineg, 1) := by decide +kernel
theorem dJ6_stringSize_0f7a4_10 : decode cJ6_stringSize_0f7a4 10 = .ok (.istore_n 0, 1) := by decide +kernel
theorem dJ6_stringSize_0f7a4_11 : decode cJ6_stringSize_0f7a4 11 = .ok (.bipush (-10), 2) := by decide +kernel
theorem dJ6_stringSize_0f7a4_13 : decode cJ6_stringSize_0f7a4 13 = .ok (.istore_n 2, 1) := by decide +kernel
theorem dJ6_stringSize_0f7a4_14 : decode cJ6_stringSize_0f7a4 14 = .ok (.iconst 1, 1) := by decide +kernel
theorem dJ6_stringSize_0f7a4_15 : decode cJ6_stringSize_0f7a4 15 = .ok (.istore_n 3, 1) := by decide +kernel
theorem dJ6_stringSize_0f7a4_16 : decode cJ6_stringSize_0f7a4 16 = .ok (.iload_n 3, 1) := by decide +kernel
theorem dJ6_stringSize_0f7a4_17 : decode cJ6_stringSize_0f7a4 17 = .ok (.bipush 10, 2) := by decide +kernel
theorem dJ6_stringSize_0f7a4_19 : decode cJ6_stringSize_0f7a4 19 = .ok (.if_icmp .ge 23, 3) := by decide +kernel
theorem dJ6_stringSize_0f7a4_22 : decode cJ6_stringSize_0f7a4 22 = .ok (.iload_n 0, 1) := by decide +kernel
theorem dJ6_stringSize_0f7a4_23 : decode cJ6_stringSize_0f7a4 23 = .ok (.iload_n 2, 1) := by decide +kernel
theorem dJ6_stringSize_0f7a4_24 : decode cJ6_stringSize_0f7a4 24 = .ok (.if_icmp .le 7, 3) := by decide +kernel
theorem dJ6_stringSize_0f7a4_27 : decode cJ6_stringSize_0f7a4 27 = .ok (.iload_n 3, 1) := by decide +kernel
theorem dJ6_stringSize_0f7a4_28 : decode cJ6_stringSize_0f7a4 28 = .ok (.iload_n 1, 1) := by decide +kernel
theorem dJ6_stringSize_0f7a4_29 : decode cJ6_stringSize_0f7a4 29 = .ok (.iadd, 1) := by decide +kernel
theorem dJ6_stringSize_0f7a4_30 : decode cJ6_stringSize_0f7a4 30 = .ok (.ireturn, 1) := by decide +kernel
theorem dJ6_stringSize_0f7a4_31 : decode cJ6_stringSize_0f7a4 31 = .ok (.bipush 10, 2) := by decide +kernel
theorem dJ6_stringSize_0f7a4_33 : decode cJ6_stringSize_0f7a4 33 = .ok (.iload_n 2, 1) := by decide +kernel
theorem dJ6_stringSize_0f7a4_34 : decode cJ6_stringSize_0f7a4 34 = .ok (.imul, 1) := by decide +kernel
theorem dJ6_stringSize_0f7a4_35 : decode cJ6_stringSize_0f7a4 35 = .ok (.istore_n 2, 1) := by decide +kernel
theorem dJ6_stringSize_0f7a4_36 : decode cJ6_stringSize_0f7a4 36 = .ok (.iinc 3 1, 3) := by decide +kernel
theorem dJ6_stringSize_0f7a4_39 : decode cJ6_stringSize_0f7a4 39 = .ok (.goto (-23), 3) := by decide +kernel
theorem dJ6_stringSize_0f7a4_42 : decode cJ6_stringSize_0f7a4 42 = .ok (.bipush 10, 2) := by decide +kernel
theorem dJ6_stringSize_0f7a4_44 : decode cJ6_stringSize_0f7a4 44 = .ok (.iload_n 1, 1) := by decide +kernel
theorem dJ6_stringSize_0f7a4_45 : decode cJ6_stringSize_0f7a4 45 = .ok (.iadd, 1) := by decide +kernel
theorem dJ6_stringSize_0f7a4_46 : decode cJ6_stringSize_0f7a4 46 = .ok (.ireturn, 1) := by decide +kernel
set_option maxRecDepth 20000 in
theorem ggJ6_valueOf_2dffe_J6_init_d00df : GoodIn wsJ6_valueOf_2dffe wsJ6_init_d00df := goodIn_r _ [8, 9, 10, 11, 12, 13, 14, 15, 16, 17] (by decide +kernel) (by decide +kernel)
set_option maxRecDepth 20000 in
theorem gJ6_valueOf_2dffe_J6_init_d00df : GoodIn wsJ6_valueOf_2dffe (wsJ6_init_d00df) := ggJ6_valueOf_2dffe_J6_init_d00df
theorem dJ6_valueOf_2dffe_0 : decode cJ6_valueOf_2dffe 0 = .ok (.iload_n 0, 1) := by decide +kernel
theorem dJ6_valueOf_2dffe_1 : decode cJ6_valueOf_2dffe 1 = .ok (.bipush (-128), 2) := by decide +kernel
theorem dJ6_valueOf_2dffe_3 : decode cJ6_valueOf_2dffe 3 = .ok (.if_icmp .lt 20, 3) := by decide +kernel
theorem dJ6_valueOf_2dffe_6 : decode cJ6_valueOf_2dffe 6 = .ok (.iload_n 0, 1) := by decide +kernel
theorem dJ6_valueOf_2dffe_7 : decode cJ6_valueOf_2dffe 7 = .ok (.getstatic 191, 3) := by decide +kernel
theorem dJ6_valueOf_2dffe_10 : decode cJ6_valueOf_2dffe 10 = .ok (.if_icmp .gt 13, 3) := by decide +kernel
theorem dJ6_valueOf_2dffe_13 : decode cJ6_valueOf_2dffe 13 = .ok (.getstatic 195, 3) := by decide +kernel
theorem dJ6_valueOf_2dffe_16 : decode cJ6_valueOf_2dffe 16 = .ok (.iload_n 0, 1) := by decide +kernel
theorem dJ6_valueOf_2dffe_17 : decode cJ6_valueOf_2dffe 17 = .ok (.sipush 128, 3) := by decide +kernel
theorem dJ6_valueOf_2dffe_20 : decode cJ6_valueOf_2dffe 20 = .ok (.iadd, 1) := by decide +kernel
theorem dJ6_valueOf_2dffe_21 : decode cJ6_valueOf_2dffe 21 = .ok (.aaload, 1) := by decide +kernel
theorem dJ6_valueOf_2dffe_22 : decode cJ6_valueOf_2dffe 22 = .ok (.areturn, 1) := by decide +kernel
theorem dJ6_valueOf_2dffe_23 : decode cJ6_valueOf_2dffe 23 = .ok (.new 1, 3) := by decide +kernel
theorem dJ6_valueOf_2dffe_26 : decode cJ6_valueOf_2dffe 26 = .ok (.dup, 1) := by decide +kernel
theorem dJ6_valueOf_2dffe_27 : decode cJ6_valueOf_2dffe 27 = .ok (.iload_n 0, 1) := by decide +kernel
theorem dJ6_valueOf_2dffe_28 : decode cJ6_valueOf_2dffe 28 = .ok (.invokespecial 199, 3) := by decide +kernel
theorem dJ6_valueOf_2dffe_31 : decode cJ6_valueOf_2dffe 31 = .ok (.areturn, 1) := by decide +kernel
set_option maxRecDepth 20000 in
theorem ggJ6_init_d00df_Jxd2413_init_da8c8 : GoodIn wsJ6_init_d00df wsJxd2413_init_da8c8 := goodIn_r _ [5, 6, 7, 8] (by decide +kernel) (by decide +kernel)
set_option maxRecDepth 20000 in
theorem gJ6_init_d00df_Jxd2413_init_da8c8 : GoodIn wsJ6_init_d00df (wsJxd2413_init_da8c8) := ggJ6_init_d00df_Jxd2413_init_da8c8
theorem dJ6_init_d00df_0 : decode cJ6_init_d00df 0 = .ok (.aload_n 0, 1) := by decide +kernel
theorem dJ6_init_d00df_1 : decode cJ6_init_d00df 1 = .ok (.invokespecial 202, 3) := by decide +kernel
theorem dJ6_init_d00df_4 : decode cJ6_init_d00df 4 = .ok (.aload_n 0, 1) := by decide +kernel
theorem dJ6_init_d00df_5 : decode cJ6_init_d00df 5 = .ok (.iload_n 1, 1) := by decide +kernel
theorem dJ6_init_d00df_6 : decode cJ6_init_d00df 6 = .ok (.putfield 205, 3) := by decide +kernel
theorem dJ6_init_d00df_9 : decode cJ6_init_d00df 9 = .ok (.return_, 1) := by decide +kernel
theorem dJ6_intValue_8abf5_0 : decode cJ6_intValue_8abf5 0 = .ok (.aload_n 0, 1) := by decide +kernel
theorem dJ6_intValue_8abf5_1 : decode cJ6_intValue_8abf5 1 = .ok (.getfield 205, 3) := by decide +kernel
theorem dJ6_intValue_8abf5_4 : decode cJ6_intValue_8abf5 4 = .ok (.ireturn, 1) := by decide +kernel
theorem dJ6_numberOfTrailingZeros_0f7a4_0 : decode cJ6_numberOfTrailingZeros_0f7a4 0 = .ok (.iload_n 0, 1) := by decide +kernel
theorem dJ6_numberOfTrailingZeros_0f7a4_1 : decode cJ6_numberOfTrailingZeros_0f7a4 1 = .ok (.iconst (-1), 1) := by decide +kernel
theorem dJ6_numberOfTrailingZeros_0f7a4_2 : decode cJ6_numberOfTrailingZeros_0f7a4 2 = .ok (.ixor, 1) := by decide +kernel
theorem dJ6_numberOfTrailingZeros_0f7a4_3 : decode cJ6_numberOfTrailingZeros_0f7a4 3 = .ok (.iload_n 0, 1) := by decide +kernel
theorem dJ6_numberOfTrailingZeros_0f7a4_4 : decode cJ6_numberOfTrailingZeros_0f7a4 4 = .ok (.iconst 1, 1) := by decide +kernel
theorem dJ6_numberOfTrailingZeros_0f7a4_5 : decode cJ6_numberOfTrailingZeros_0f7a4 5 = .ok (.isub, 1) := by decide +kernel
theorem dJ6_numberOfTrailingZeros_0f7a4_6 : decode cJ6_numberOfTrailingZeros_0f7a4 6 = .ok (.iand, 1) := by decide +kernel
theorem dJ6_numberOfTrailingZeros_0f7a4_7 : decode cJ6_numberOfTrailingZeros_0f7a4 7 = .ok (.istore_n 0, 1) := by decide +kernel
theorem dJ6_numberOfTrailingZeros_0f7a4_8 : decode cJ6_numberOfTrailingZeros_0f7a4 8 = .ok (.iload_n 0, 1) := by decide +kernel
theorem dJ6_numberOfTrailingZeros_0f7a4_9 : decode cJ6_numberOfTrailingZeros_0f7a4 9 = .ok (.ifCond .gt 8, 3) := by decide +kernel
theorem dJ6_numberOfTrailingZeros_0f7a4_12 : decode cJ6_numberOfTrailingZeros_0f7a4 12 = .ok (.iload_n 0, 1) := by decide +kernel
theorem dJ6_numberOfTrailingZeros_0f7a4_13 : decode cJ6_numberOfTrailingZeros_0f7a4 13 = .ok (.bipush 32, 2) := by decide +kernel
theorem dJ6_numberOfTrailingZeros_0f7a4_15 : decode cJ6_numberOfTrailingZeros_0f7a4 15 = .ok (.iand, 1) := by decide +kernel
theorem dJ6_numberOfTrailingZeros_0f7a4_16 : decode cJ6_numberOfTrailingZeros_0f7a4 16 = .ok (.ireturn, 1) := by decide +kernel
theorem dJ6_numberOfTrailingZeros_0f7a4_17 : decode cJ6_numberOfTrailingZeros_0f7a4 17 = .ok (.iconst 1, 1) := by decide +kernel
theorem dJ6_numberOfTrailingZeros_0f7a4_18 : decode cJ6_numberOfTrailingZeros_0f7a4 18 = .ok (.istore_n 1, 1) := by decide +kernel
theorem dJ6_numberOfTrailingZeros_0f7a4_19 : decode cJ6_numberOfTrailingZeros_0f7a4 19 = .ok (.iload_n 0, 1) := by decide +kernel
theorem dJ6_numberOfTrailingZeros_0f7a4_20 : decode cJ6_numberOfTrailingZeros_0f7a4 20 = .ok (.ldc_w 264, 3) := by decide +kernel
theorem dJ6_numberOfTrailingZeros_0f7a4_23 : decode cJ6_numberOfTrailingZeros_0f7a4 23 = .ok (.if_icmp .le 11, 3) := by decide +kernel
theorem dJ6_numberOfTrailingZeros_0f7a4_26 : decode cJ6_numberOfTrailingZeros_0f7a4 26 = .ok (.iinc 1 16, 3) := by decide +kernel
theorem dJ6_numberOfTrailingZeros_0f7a4_29 : decode cJ6_numberOfTrailingZeros_0f7a4 29 = .ok (.iload_n 0, 1) := by decide +kernel
theorem dJ6_numberOfTrailingZeros_0f7a4_30 : decode cJ6_numberOfTrailingZeros_0f7a4 30 = .ok (.bipush 16, 2) := by decide +kernel
theorem dJ6_numberOfTrailingZeros_0f7a4_32 : decode cJ6_numberOfTrailingZeros_0f7a4 32 = .ok (.iushr, 1) := by decide +kernel
theorem dJ6_numberOfTrailingZeros_0f7a4_33 : decode cJ6_numberOfTrailingZeros_0f7a4 33 = .ok (.istore_n 0, 1) := by decide +kernel
theorem dJ6_numberOfTrailingZeros_0f7a4_34 : decode cJ6_numberOfTrailingZeros_0f7a4 34 = .ok (.iload_n 0, 1) := by decide +kernel
theorem dJ6_numberOfTrailingZeros_0f7a4_35 : decode cJ6_numberOfTrailingZeros_0f7a4 35 = .ok (.sipush 256, 3) := by decide +kernel
theorem dJ6_numberOfTrailingZeros_0f7a4_38 : decode cJ6_numberOfTrailingZeros_0f7a4 38 = .ok (.if_icmp .le 11, 3) := by decide +kernel
theorem dJ6_numberOfTrailingZeros_0f7a4_41 : decode cJ6_numberOfTrailingZeros_0f7a4 41 = .ok (.iinc 1 8, 3) := by decide +kernel
theorem dJ6_numberOfTrailingZeros_0f7a4_44 : decode cJ6_numberOfTrailingZeros_0f7a4 44 = .ok (.iload_n 0, 1) := by decide +kernel
theorem dJ6_numberOfTrailingZeros_0f7a4_45 : decode cJ6_numberOfTrailingZeros_0f7a4 45 = .ok (.bipush 8, 2) := by decide +kernel
theorem dJ6_numberOfTrailingZeros_0f7a4_47 : decode cJ6_numberOfTrailingZeros_0f7a4 47 = .ok (.iushr, 1) := by decide +kernel
theorem dJ6_numberOfTrailingZeros_0f7a4_48 : decode cJ6_numberOfTrailingZeros_0f7a4 48 = .ok (.istore_n 0, 1) := by decide +kernel
theorem dJ6_numberOfTrailingZeros_0f7a4_49 : decode cJ6_numberOfTrailingZeros_0f7a4 49 = .ok (.iload_n 0, 1) := by decide +kernel
theorem dJ6_numberOfTrailingZeros_0f7a4_50 : decode cJ6_numberOfTrailingZeros_0f7a4 50 = .ok (.bipush 16, 2) := by decide +kernel
theorem dJ6_numberOfTrailingZeros_0f7a4_52 : decode cJ6_numberOfTrailingZeros_0f7a4 52 = .ok (.if_icmp .le 10, 3) := by decide +kernel
theorem dJ6_numberOfTrailingZeros_0f7a4_55 : decode cJ6_numberOfTrailingZeros_0f7a4 55 = .ok (.iinc 1 4, 3) := by decide +kernel
theorem dJ6_numberOfTrailingZeros_0f7a4_58 : decode cJ6_numberOfTrailingZeros_0f7a4 58 = .ok (.iload_n 0, 1) := by decide +kernel
theorem dJ6_numberOfTrailingZeros_0f7a4_59 : decode cJ6_numberOfTrailingZeros_0f7a4 59 = .ok (.iconst 4, 1) := by decide +kernel
theorem dJ6_numberOfTrailingZeros_0f7a4_60 : decode cJ6_numberOfTrailingZeros_0f7a4 60 = .ok (.iushr, 1) := by decide +kernel
theorem dJ6_numberOfTrailingZeros_0f7a4_61 : decode cJ6_numberOfTrailingZeros_0f7a4 61 = .ok (.istore_n 0, 1) := by decide +kernel
theorem dJ6_numberOfTrailingZeros_0f7a4_62 : decode cJ6_numberOfTrailingZeros_0f7a4 62 = .ok (.iload_n 0, 1) := by decide +kernel
theorem dJ6_numberOfTrailingZeros_0f7a4_63 : decode cJ6_numberOfTrailingZeros_0f7a4 63 = .ok (.iconst 4, 1) := by decide +kernel
theorem dJ6_numberOfTrailingZeros_0f7a4_64 : decode cJ6_numberOfTrailingZeros_0f7a4 64 = .ok (.if_icmp .le 10, 3) := by decide +kernel
theorem dJ6_numberOfTrailingZeros_0f7a4_67 : decode cJ6_numberOfTrailingZeros_0f7a4 67 = .ok (.iinc 1 2, 3) := by decide +kernel
theorem dJ6_numberOfTrailingZeros_0f7a4_70 : decode cJ6_numberOfTrailingZeros_0f7a4 70 = .ok (.iload_n 0, 1) := by decide +kernel
theorem dJ6_numberOfTrailingZeros_0f7a4_71 : decode cJ6_numberOfTrailingZeros_0f7a4 71 = .ok (.iconst 2, 1) := by decide +kernel
theorem dJ6_numberOfTrailingZeros_0f7a4_72 : decode cJ6_numberOfTrailingZeros_0f7a4 72 = .ok (.iushr, 1) := by decide +kernel
theorem dJ6_numberOfTrailingZeros_0f7a4_73 : decode cJ6_numberOfTrailingZeros_0f7a4 73 = .ok (.istore_n 0, 1) := by decide +kernel
theorem dJ6_numberOfTrailingZeros_0f7a4_74 : decode cJ6_numberOfTrailingZeros_0f7a4 74 = .ok (.iload_n 1, 1) := by decide +kernel
theorem dJ6_numberOfTrailingZeros_0f7a4_75 : decode cJ6_numberOfTrailingZeros_0f7a4 75 = .ok (.iload_n 0, 1) := by decide +kernel
theorem dJ6_numberOfTrailingZeros_0f7a4_76 : decode cJ6_numberOfTrailingZeros_0f7a4 76 = .ok (.iconst 1, 1) := by decide +kernel
theorem dJ6_numberOfTrailingZeros_0f7a4_77 : decode cJ6_numberOfTrailingZeros_0f7a4 77 = .ok (.iushr, 1) := by decide +kernel
theorem dJ6_numberOfTrailingZeros_0f7a4_78 : decode cJ6_numberOfTrailingZeros_0f7a4 78 = .ok (.iadd, 1) := by decide +kernel
theorem dJ6_numberOfTrailingZeros_0f7a4_79 : decode cJ6_numberOfTrailingZeros_0f7a4 79 = .ok (.ireturn, 1) := by decide +kernel
theorem dJ6_bitCount_0f7a4_0 : decode cJ6_bitCount_0f7a4 0 = .ok (.iload_n 0, 1) := by decide +kernel
theorem dJ6_bitCount_0f7a4_1 : decode cJ6_bitCount_0f7a4 1 = .ok (.iload_n 0, 1) := by decide +kernel
theorem dJ6_bitCount_0f7a4_2 : decode cJ6_bitCount_0f7a4 2 = .ok (.iconst 1, 1) := by decide +kernel
theorem dJ6_bitCount_0f7a4_3 : decode cJ6_bitCount_0f7a4 3 = .ok (.iushr, 1) := by decide +kernel
theorem dJ6_bitCount_0f7a4_4 : decode cJ6_bitCount_0f7a4 4 = .ok (.ldc_w 265, 3) := by decide +kernel
theorem dJ6_bitCount_0f7a4_7 : decode cJ6_bitCount_0f7a4 7 = .ok (.iand, 1) := by decide +kernel
theorem dJ6_bitCount_0f7a4_8 : decode cJ6_bitCount_0f7a4 8 = .ok (.isub, 1) := by decide +kernel
theorem dJ6_bitCount_0f7a4_9 : decode cJ6_bitCount_0f7a4 9 = .ok (.istore_n 0, 1) := by decide +kernel
theorem dJ6_bitCount_0f7a4_10 : decode cJ6_bitCount_0f7a4 10 = .ok (.iload_n 0, 1) := by decide +kernel
theorem dJ6_bitCount_0f7a4_11 : decode cJ6_bitCount_0f7a4 11 = .ok (.ldc_w 266, 3) := by decide +kernel
theorem dJ6_bitCount_0f7a4_14 : decode cJ6_bitCount_0f7a4 14 = .ok (.iand, 1) := by decide +kernel
theorem dJ6_bitCount_0f7a4_15 : decode cJ6_bitCount_0f7a4 15 = .ok (.iload_n 0, 1) := by decide +kernel
theorem dJ6_bitCount_0f7a4_16 : decode cJ6_bitCount_0f7a4 16 = .ok (.iconst 2, 1) := by decide +kernel
theorem dJ6_bitCount_0f7a4_17 : decode cJ6_bitCount_0f7a4 17 = .ok (.iushr, 1) := by decide +kernel
theorem dJ6_bitCount_0f7a4_18 : decode cJ6_bitCount_0f7a4 18 = .ok (.ldc_w 266, 3) := by decide +kernel
theorem dJ6_bitCount_0f7a4_21 : decode cJ6_bitCount_0f7a4 21 = .ok (.iand, 1) := by decide +kernel
theorem dJ6_bitCount_0f7a4_22 : decode cJ6_bitCount_0f7a4 22 = .ok (.iadd, 1) := by decide +kernel
theorem dJ6_bitCount_0f7a4_23 : decode cJ6_bitCount_0f7a4 23 = .ok (.istore_n 0, 1) := by decide +kernel
theorem dJ6_bitCount_0f7a4_24 : decode cJ6_bitCount_0f7a4 24 = .ok (.iload_n 0, 1) := by decide +kernel
theorem dJ6_bitCount_0f7a4_25 : decode cJ6_bitCount_0f7a4 25 = .ok (.iload_n 0, 1) := by decide +kernel
theorem dJ6_bitCount_0f7a4_26 : decode cJ6_bitCount_0f7a4 26 = .ok (.iconst 4, 1) := by decide +kernel
theorem dJ6_bitCount_0f7a4_27 : decode cJ6_bitCount_0f7a4 27 = .ok (.iushr, 1) := by decide +kernel
theorem dJ6_bitCount_0f7a4_28 : decode cJ6_bitCount_0f7a4 28 = .ok (.iadd, 1) := by decide +kernel
theorem dJ6_bitCount_0f7a4_29 : decode cJ6_bitCount_0f7a4 29 = .ok (.ldc_w 267, 3) := by decide +kernel
theorem dJ6_bitCount_0f7a4_32 : decode cJ6_bitCount_0f7a4 32 = .ok (.iand, 1) := by decide +kernel
theorem dJ6_bitCount_0f7a4_33 : decode cJ6_bitCount_0f7a4 33 = .ok (.istore_n 0, 1) := by decide +kernel
theorem dJ6_bitCount_0f7a4_34 : decode cJ6_bitCount_0f7a4 34 = .ok (.iload_n 0, 1) := by decide +kernel
theorem dJ6_bitCount_0f7a4_35 : decode cJ6_bitCount_0f7a4 35 = .ok (.iload_n 0, 1) := by decide +kernel
theorem dJ6_bitCount_0f7a4_36 : decode cJ6_bitCount_0f7a4 36 = .ok (.bipush 8, 2) := by decide +kernel
theorem dJ6_bitCount_0f7a4_38 : decode cJ6_bitCount_0f7a4 38 = .ok (.iushr, 1) := by decide +kernel
theorem dJ6_bitCount_0f7a4_39 : decode cJ6_bitCount_0f7a4 39 = .ok (.iadd, 1) := by decide +kernel
theorem dJ6_bitCount_0f7a4_40 : decode cJ6_bitCount_0f7a4 40 = .ok (.istore_n 0, 1) := by decide +kernel
theorem dJ6_bitCount_0f7a4_41 : decode cJ6_bitCount_0f7a4 41 = .ok (.iload_n 0, 1) := by decide +kernel
theorem dJ6_bitCount_0f7a4_42 : decode cJ6_bitCount_0f7a4 42 = .ok (.iload_n 0, 1) := by decide +kernel
theorem dJ6_bitCount_0f7a4_43 : decode cJ6_bitCount_0f7a4 43 = .ok (.bipush 16, 2) := by decide +kernel
theorem dJ6_bitCount_0f7a4_45 : decode cJ6_bitCount_0f7a4 45 = .ok (.iushr, 1) := by decide +kernel
theorem dJ6_bitCount_0f7a4_46 : decode cJ6_bitCount_0f7a4 46 = .ok (.iadd, 1) := by decide +kernel
theorem dJ6_bitCount_0f7a4_47 : decode cJ6_bitCount_0f7a4 47 = .ok (.istore_n 0, 1) := by decide +kernel
theorem dJ6_bitCount_0f7a4_48 : decode cJ6_bitCount_0f7a4 48 = .ok (.iload_n 0, 1) := by decide +kernel
theorem dJ6_bitCount_0f7a4_49 : decode cJ6_bitCount_0f7a4 49 = .ok (.bipush 63, 2) := by decide +kernel
theorem dJ6_bitCount_0f7a4_51 : decode cJ6_bitCount_0f7a4 51 = .ok (.iand, 1) := by decide +kernel
theorem dJ6_bitCount_0f7a4_52 : decode cJ6_bitCount_0f7a4 52 = .ok (.ireturn, 1) := by decide +kernel
theorem dJ9_max_7cf53_0 : decode cJ9_max_7cf53 0 = .ok (.iload_n 0, 1) := by decide +kernel
theorem dJ9_max_7cf53_1 : decode cJ9_max_7cf53 1 = .ok (.iload_n 1, 1) := by decide +kernel
theorem dJ9_max_7cf53_2 : decode cJ9_max_7cf53 2 = .ok (.if_icmp .lt 7, 3) := by decide +kernel
theorem dJ9_max_7cf53_5 : decode cJ9_max_7cf53 5 = .ok (.iload_n 0, 1) := by decide +kernel
theorem dJ9_max_7cf53_6 : decode cJ9_max_7cf53 6 = .ok (.goto 4, 3) := by decide +kernel
theorem dJ9_max_7cf53_9 : decode cJ9_max_7cf53 9 = .ok (.iload_n 1, 1) := by decide +kernel
theorem dJ9_max_7cf53_10 : decode cJ9_max_7cf53 10 = .ok (.ireturn, 1) := by decide +kernel
theorem dJ9_min_7cf53_0 : decode cJ9_min_7cf53 0 = .ok (.iload_n 0, 1) := by decide +kernel
theorem dJ9_min_7cf53_1 : decode cJ9_min_7cf53 1 = .ok (.iload_n 1, 1) := by decide +kernel
theorem dJ9_min_7cf53_2 : decode cJ9_min_7cf53 2 = .ok (.if_icmp .gt 7, 3) := by decide +kernel
theorem dJ9_min_7cf53_5 : decode cJ9_min_7cf53 5 = .ok (.iload_n 0, 1) := by decide +kernel
theorem dJ9_min_7cf53_6 : decode cJ9_min_7cf53 6 = .ok (.goto 4, 3) := by decide +kernel
theorem dJ9_min_7cf53_9 : decode cJ9_min_7cf53 9 = .ok (.iload_n 1, 1) := by decide +kernel
theorem dJ9_min_7cf53_10 : decode cJ9_min_7cf53 10 = .ok (.ireturn, 1) := by decide +kernel
theorem dJxd2413_init_da8c8_0 : decode cJxd2413_init_da8c8 0 = .ok (.aload_n 0, 1) := by decide +kernel
theorem dJxd2413_init_da8c8_1 : decode cJxd2413_init_da8c8 1 = .ok (.invokespecial 1, 3) := by decide +kernel
theorem dJxd2413_init_da8c8_4 : decode cJxd2413_init_da8c8 4 = .ok (.return_, 1) := by decide +kernel
set_option maxRecDepth 20000 in
theorem ggJ0_init_81219_J0_init_db425 : GoodIn wsJ0_init_81219 wsJ0_init_db425 := goodIn_r _ [4, 5, 6, 7, 8, 9, 10, 11, 12, 13, 14, 15, 16, 17, 18, 19, 20, 21, 22, 23, 24, 25, 26, 27, 28, 29, 30, 31, 32, 33, 34, 35, 36, 37, 38, 39, 40, 41, 42, 43, 44, 45, 46, 47, 48, 49, 50, 51, 52, 53, 54, 55, 56, 57, 58, 59, 60, 61, 62, 63, 64, 65, 66, 67, 68, 69, 70, 71, 72, 73, 74, 75, 76, 77, 78, 79, 3, 80, 81, 82, 83, 84, 85, 86, 87, 88, 89, 90, 91, 92, 93, 94, 95, 96, 97, 98, 99, 100, 101, 102, 103, 104, 105, 106, 107] (by decide +kernel) (by decide +kernel)
set_option maxRecDepth 20000 in
theorem gJ0_init_81219_J0_init_db425 : GoodIn wsJ0_init_81219 (wsJ0_init_db425) := ggJ0_init_81219_J0_init_db425
theorem dJ0_init_81219_0 : decode cJ0_init_81219 0 = .ok (.aload_n 0, 1) := by decide +kernel
theorem dJ0_init_81219_1 : decode cJ0_init_81219 1 = .ok (.aload_n 1, 1) := by decide +kernel
theorem dJ0_init_81219_2 : decode cJ0_init_81219 2 = .ok (.aconst_null, 1) := by decide +kernel
theorem dJ0_init_81219_3 : decode cJ0_init_81219 3 = .ok (.invokespecial 489, 3) := by decide +kernel
theorem dJ0_init_81219_6 : decode cJ0_init_81219 6 = .ok (.return_, 1) := by decide +kernel
set_option maxRecDepth 20000 in
theorem ggJ0_length_8abf5_J0_coder_7d493 : GoodIn wsJ0_length_8abf5 wsJ0_coder_7d493 := goodIn_r _ [6, 7, 8, 9, 10, 11, 12] (by decide +kernel) (by decide +kernel)
set_option maxRecDepth 20000 in
theorem gJ0_length_8abf5_J0_coder_7d493 : GoodIn wsJ0_length_8abf5 (wsV RJ0 335 RJ0 yJ0_coder_7d493 wsJ0_coder_7d493) := goodIn_app (goodIn_of _ (by decide +kernel)) ggJ0_length_8abf5_J0_coder_7d493
theorem dJ0_length_8abf5_0 : decode cJ0_length_8abf5 0 = .ok (.aload_n 0, 1) := by decide +kernel
theorem dJ0_length_8abf5_1 : decode cJ0_length_8abf5 1 = .ok (.getfield 9, 3) := by decide +kernel
theorem dJ0_length_8abf5_4 : decode cJ0_length_8abf5 4 = .ok (.arraylength, 1) := by decide +kernel
theorem dJ0_length_8abf5_5 : decode cJ0_length_8abf5 5 = .ok (.aload_n 0, 1) := by decide +kernel
theorem dJ0_length_8abf5_6 : decode cJ0_length_8abf5 6 = .ok (.invokevirtual 335, 3) := by decide +kernel
theorem dJ0_length_8abf5_9 : decode cJ0_length_8abf5 9 = .ok (.ishr, 1) := by decide +kernel
theorem dJ0_length_8abf5_10 : decode cJ0_length_8abf5 10 = .ok (.ireturn, 1) := by decide +kernel
set_option maxRecDepth 20000 in
theorem ggJ0_getBytes_840e7_J0_coder_7d493 : GoodIn wsJ0_getBytes_840e7 wsJ0_coder_7d493 := goodIn_r _ [10, 11, 12, 41, 42, 43, 44] (by decide +kernel) (by decide +kernel)
set_option maxRecDepth 20000 in
theorem gJ0_getBytes_840e7_J0_coder_7d493 : GoodIn wsJ0_getBytes_840e7 (wsV RJ0 335 RJ0 yJ0_coder_7d493 wsJ0_coder_7d493) := goodIn_app (goodIn_of _ (by decide +kernel)) ggJ0_getBytes_840e7_J0_coder_7d493
set_option maxRecDepth 20000 in
theorem ggJ0_getBytes_840e7_J1_inflate_0e8fd : GoodIn wsJ0_getBytes_840e7 wsJ1_inflate_0e8fd := goodIn_r _ [16, 17, 18, 19, 20, 21, 22, 23, 24, 25, 26, 27, 28, 9, 29, 30, 31, 32, 33, 34, 35, 36, 37, 38, 39, 40] (by decide +kernel) (by decide +kernel)
set_option maxRecDepth 20000 in
theorem gJ0_getBytes_840e7_J1_inflate_0e8fd : GoodIn wsJ0_getBytes_840e7 (va_wsS RJ0 106 yJ1_inflate_0e8fd wsJ1_inflate_0e8fd) := goodIn_app (goodIn_of _ (by decide +kernel)) ggJ0_getBytes_840e7_J1_inflate_0e8fd
theorem dJ0_getBytes_840e7_0 : decode cJ0_getBytes_840e7 0 = .ok (.aload_n 0, 1) := by decide +kernel
theorem dJ0_getBytes_840e7_1 : decode cJ0_getBytes_840e7 1 = .ok (.invokevirtual 335, 3) := by decide +kernel
theorem dJ0_getBytes_840e7_4 : decode cJ0_getBytes_840e7 4 = .ok (.iload_n 3, 1) := by decide +kernel
theorem dJ0_getBytes_840e7_5 : decode cJ0_getBytes_840e7 5 = .ok (.if_icmp .ne 23, 3) := by decide +kernel
theorem dJ0_getBytes_840e7_8 : decode cJ0_getBytes_840e7 8 = .ok (.aload_n 0, 1) := by decide +kernel
theorem dJ0_getBytes_840e7_9 : decode cJ0_getBytes_840e7 9 = .ok (.getfield 9, 3) := by decide +kernel
theorem dJ0_getBytes_840e7_12 : decode cJ0_getBytes_840e7 12 = .ok (.iconst 0, 1) := by decide +kernel
theorem dJ0_getBytes_840e7_13 : decode cJ0_getBytes_840e7 13 = .ok (.aload_n 1, 1) := by decide +kernel
theorem dJ0_getBytes_840e7_14 : decode cJ0_getBytes_840e7 14 = .ok (.iload_n 2, 1) := by decide +kernel
theorem dJ0_getBytes_840e7_15 : decode cJ0_getBytes_840e7 15 = .ok (.iload_n 3, 1) := by decide +kernel
theorem dJ0_getBytes_840e7_16 : decode cJ0_getBytes_840e7 16 = .ok (.ishl, 1) := by decide +kernel
theorem dJ0_getBytes_840e7_17 : decode cJ0_getBytes_840e7 17 = .ok (.aload_n 0, 1) := by decide +kernel
theorem dJ0_getBytes_840e7_18 : decode cJ0_getBytes_840e7 18 = .ok (.getfield 9, 3) := by decide +kernel
theorem dJ0_getBytes_840e7_21 : decode cJ0_getBytes_840e7 21 = .ok (.arraylength, 1) := by decide +kernel
theorem dJ0_getBytes_840e7_22 : decode cJ0_getBytes_840e7 22 = .ok (.invokestatic 212, 3) := by decide +kernel
theorem dJ0_getBytes_840e7_25 : decode cJ0_getBytes_840e7 25 = .ok (.goto 18, 3) := by decide +kernel
theorem dJ0_getBytes_840e7_28 : decode cJ0_getBytes_840e7 28 = .ok (.aload_n 0, 1) := by decide +kernel
theorem dJ0_getBytes_840e7_29 : decode cJ0_getBytes_840e7 29 = .ok (.getfield 9, 3) := by decide +kernel
theorem dJ0_getBytes_840e7_32 : decode cJ0_getBytes_840e7 32 = .ok (.iconst 0, 1) := by decide +kernel
theorem dJ0_getBytes_840e7_33 : decode cJ0_getBytes_840e7 33 = .ok (.aload_n 1, 1) := by decide +kernel
theorem dJ0_getBytes_840e7_34 : decode cJ0_getBytes_840e7 34 = .ok (.iload_n 2, 1) := by decide +kernel
theorem dJ0_getBytes_840e7_35 : decode cJ0_getBytes_840e7 35 = .ok (.aload_n 0, 1) := by decide +kernel
theorem dJ0_getBytes_840e7_36 : decode cJ0_getBytes_840e7 36 = .ok (.getfield 9, 3) := by decide +kernel
theorem dJ0_getBytes_840e7_39 : decode cJ0_getBytes_840e7 39 = .ok (.arraylength, 1) := by decide +kernel
theorem dJ0_getBytes_840e7_40 : decode cJ0_getBytes_840e7 40 = .ok (.invokestatic 106, 3) := by decide +kernel
theorem dJ0_getBytes_840e7_43 : decode cJ0_getBytes_840e7 43 = .ok (.return_, 1) := by decide +kernel
set_option maxRecDepth 20000 in
theorem ggJ0_init_db425_J5_getValue_6d5f1 : GoodIn wsJ0_init_db425 wsJ5_getValue_6d5f1 := goodIn_r _ [13, 14, 101, 102, 103, 104] (by decide +kernel) (by decide +kernel)
set_option maxRecDepth 20000 in
theorem gJ0_init_db425_J5_getValue_6d5f1_u552J4 : GoodIn wsJ0_init_db425 (va_wsU RJ0 552 RJ4 "java/lang/AbstractStringBuilder" ⟨"java/lang/AbstractStringBuilder", "getValue", "()[B"⟩ yJ5_getValue_6d5f1 wsJ5_getValue_6d5f1) := goodIn_app (goodIn_of _ (by decide +kernel)) ggJ0_init_db425_J5_getValue_6d5f1
set_option maxRecDepth 20000 in
theorem ggJ0_init_db425_J4_length_8abf5 : GoodIn wsJ0_init_db425 wsJ4_length_8abf5 := goodIn_r _ [21, 22, 16, 23, 24, 12, 25, 26, 101, 102, 103, 104] (by decide +kernel) (by decide +kernel)
set_option maxRecDepth 20000 in
theorem gJ0_init_db425_J4_length_8abf5_u549J4 : GoodIn wsJ0_init_db425 (va_wsO RJ0 549 RJ4 "java/lang/AbstractStringBuilder" ⟨"java/lang/AbstractStringBuilder", "length", "()I"⟩ yJ4_length_8abf5 wsJ4_length_8abf5) := goodIn_app (goodIn_of _ (by decide +kernel)) ggJ0_init_db425_J4_length_8abf5
set_option maxRecDepth 20000 in
theorem ggJ0_init_db425_J5_isLatin1_aae02 : GoodIn wsJ0_init_db425 wsJ5_isLatin1_aae02 := goodIn_r _ [31, 32, 33, 101, 102, 103, 104] (by decide +kernel) (by decide +kernel)
set_option maxRecDepth 20000 in
theorem gJ0_init_db425_J5_isLatin1_aae02_u1047J4 : GoodIn wsJ0_init_db425 (va_wsU RJ0 1047 RJ4 "java/lang/AbstractStringBuilder" ⟨"java/lang/AbstractStringBuilder", "isLatin1", "()Z"⟩ yJ5_isLatin1_aae02 wsJ5_isLatin1_aae02) := goodIn_app (goodIn_of _ (by decide +kernel)) ggJ0_init_db425_J5_isLatin1_aae02
set_option maxRecDepth 20000 in
theorem ggJ0_init_db425_J7_copyOfRange_39247 : GoodIn wsJ0_init_db425 wsJ7_copyOfRange_39247 := goodIn_r _ [37, 38, 39, 40, 41, 42, 43, 44, 45, 36, 46, 47, 48, 49, 50, 51, 52, 53, 54, 55, 56, 57, 58, 59, 60, 20, 101, 102, 103, 104] (by decide +kernel) (by decide +kernel)
set_option maxRecDepth 20000 in
theorem gJ0_init_db425_J7_copyOfRange_39247 : GoodIn wsJ0_init_db425 (va_wsS RJ0 54 yJ7_copyOfRange_39247 wsJ7_copyOfRange_39247) := goodIn_app (goodIn_of _ (by decide +kernel)) ggJ0_init_db425_J7_copyOfRange_39247
set_option maxRecDepth 20000 in
theorem ggJ0_init_db425_J2_compress_39247 : GoodIn wsJ0_init_db425 wsJ2_compress_39247 := goodIn_r _ [64, 47, 65, 66, 63, 67, 68, 69, 70, 71, 72, 73, 74, 75, 76, 77, 78, 79, 80, 81, 82, 83, 84, 85, 86, 87, 88, 89, 90, 91, 92, 93, 35, 36, 37, 38, 39, 40, 41, 42, 43, 44, 45, 46, 48, 49, 50, 51, 52, 53, 54, 55, 56, 57, 58, 59, 60, 20, 101, 102, 103, 104] (by decide +kernel) (by decide +kernel)
set_option maxRecDepth 20000 in
theorem gJ0_init_db425_J2_compress_39247 : GoodIn wsJ0_init_db425 (va_wsS RJ0 1051 yJ2_compress_39247 wsJ2_compress_39247) := goodIn_app (goodIn_of _ (by decide +kernel)) ggJ0_init_db425_J2_compress_39247
set_option maxRecDepth 20000 in
theorem ggJ0_init_db425_J2_coderFromArrayLen_85cad : GoodIn wsJ0_init_db425 wsJ2_coderFromArrayLen_85cad := goodIn_r _ [96] (by decide +kernel) (by decide +kernel)
set_option maxRecDepth 20000 in
theorem gJ0_init_db425_J2_coderFromArrayLen_85cad : GoodIn wsJ0_init_db425 (va_wsS RJ0 47 yJ2_coderFromArrayLen_85cad wsJ2_coderFromArrayLen_85cad) := goodIn_app (goodIn_of _ (by decide +kernel)) ggJ0_init_db425_J2_coderFromArrayLen_85cad
theorem dJ0_init_db425_0 : decode cJ0_init_db425 0 = .ok (.aload_n 0, 1) := by decide +kernel
theorem dJ0_init_db425_1 : decode cJ0_init_db425 1 = .ok (.invokespecial 1, 3) := by decide +kernel
theorem dJ0_init_db425_4 : decode cJ0_init_db425 4 = .ok (.aload_n 1, 1) := by decide +kernel
theorem dJ0_init_db425_5 : decode cJ0_init_db425 5 = .ok (.invokevirtual 552, 3) := by decide +kernel
theorem dJ0_init_db425_8 : decode cJ0_init_db425 8 = .ok (.astore_n 3, 1) := by decide +kernel
theorem dJ0_init_db425_9 : decode cJ0_init_db425 9 = .ok (.aload_n 1, 1) := by decide +kernel
theorem dJ0_init_db425_10 : decode cJ0_init_db425 10 = .ok (.invokevirtual 549, 3) := by decide +kernel
theorem dJ0_init_db425_13 : decode cJ0_init_db425 13 = .ok (.istore 4, 2) := by decide +kernel
theorem dJ0_init_db425_15 : decode cJ0_init_db425 15 = .ok (.aload_n 1, 1) := by decide +kernel
theorem dJ0_init_db425_16 : decode cJ0_init_db425 16 = .ok (.invokevirtual 1047, 3) := by decide +kernel
theorem dJ0_init_db425_19 : decode cJ0_init_db425 19 = .ok (.ifCond .eq 22, 3) := by decide +kernel
theorem dJ0_init_db425_22 : decode cJ0_init_db425 22 = .ok (.aload_n 0, 1) := by decide +kernel
theorem dJ0_init_db425_23 : decode cJ0_init_db425 23 = .ok (.iconst 0, 1) := by decide +kernel
theorem dJ0_init_db425_24 : decode cJ0_init_db425 24 = .ok (.putfield 15, 3) := by decide +kernel
theorem dJ0_init_db425_27 : decode cJ0_init_db425 27 = .ok (.aload_n 0, 1) := by decide +kernel
theorem dJ0_init_db425_28 : decode cJ0_init_db425 28 = .ok (.aload_n 3, 1) := by decide +kernel
theorem dJ0_init_db425_29 : decode cJ0_init_db425 29 = .ok (.iconst 0, 1) := by decide +kernel
theorem dJ0_init_db425_30 : decode cJ0_init_db425 30 = .ok (.iload 4, 2) := by decide +kernel
theorem dJ0_init_db425_32 : decode cJ0_init_db425 32 = .ok (.invokestatic 54, 3) := by decide +kernel
theorem dJ0_init_db425_35 : decode cJ0_init_db425 35 = .ok (.putfield 9, 3) := by decide +kernel
theorem dJ0_init_db425_38 : decode cJ0_init_db425 38 = .ok (.goto 59, 3) := by decide +kernel
theorem dJ0_init_db425_41 : decode cJ0_init_db425 41 = .ok (.getstatic 38, 3) := by decide +kernel
theorem dJ0_init_db425_44 : decode cJ0_init_db425 44 = .ok (.ifCond .eq 35, 3) := by decide +kernel
theorem dJ0_init_db425_47 : decode cJ0_init_db425 47 = .ok (.aload_n 1, 1) := by decide +kernel
theorem dJ0_init_db425_48 : decode cJ0_init_db425 48 = .ok (.getfield 1048, 3) := by decide +kernel
theorem dJ0_init_db425_51 : decode cJ0_init_db425 51 = .ok (.ifCond .eq 28, 3) := by decide +kernel
theorem dJ0_init_db425_54 : decode cJ0_init_db425 54 = .ok (.aload_n 0, 1) := by decide +kernel
theorem dJ0_init_db425_55 : decode cJ0_init_db425 55 = .ok (.aload_n 3, 1) := by decide +kernel
theorem dJ0_init_db425_56 : decode cJ0_init_db425 56 = .ok (.iconst 0, 1) := by decide +kernel
theorem dJ0_init_db425_57 : decode cJ0_init_db425 57 = .ok (.iload 4, 2) := by decide +kernel
theorem dJ0_init_db425_59 : decode cJ0_init_db425 59 = .ok (.invokestatic 1051, 3) := by decide +kernel
theorem dJ0_init_db425_62 : decode cJ0_init_db425 62 = .ok (.putfield 9, 3) := by decide +kernel
theorem dJ0_init_db425_65 : decode cJ0_init_db425 65 = .ok (.aload_n 0, 1) := by decide +kernel
theorem dJ0_init_db425_66 : decode cJ0_init_db425 66 = .ok (.aload_n 0, 1) := by decide +kernel
theorem dJ0_init_db425_67 : decode cJ0_init_db425 67 = .ok (.getfield 9, 3) := by decide +kernel
theorem dJ0_init_db425_70 : decode cJ0_init_db425 70 = .ok (.iload 4, 2) := by decide +kernel
theorem dJ0_init_db425_72 : decode cJ0_init_db425 72 = .ok (.invokestatic 47, 3) := by decide +kernel
theorem dJ0_init_db425_75 : decode cJ0_init_db425 75 = .ok (.putfield 15, 3) := by decide +kernel
theorem dJ0_init_db425_78 : decode cJ0_init_db425 78 = .ok (.return_, 1) := by decide +kernel
theorem dJ0_init_db425_79 : decode cJ0_init_db425 79 = .ok (.aload_n 0, 1) := by decide +kernel
theorem dJ0_init_db425_80 : decode cJ0_init_db425 80 = .ok (.iconst 1, 1) := by decide +kernel
theorem dJ0_init_db425_81 : decode cJ0_init_db425 81 = .ok (.putfield 15, 3) := by decide +kernel
theorem dJ0_init_db425_84 : decode cJ0_init_db425 84 = .ok (.aload_n 0, 1) := by decide +kernel
theorem dJ0_init_db425_85 : decode cJ0_init_db425 85 = .ok (.aload_n 3, 1) := by decide +kernel
theorem dJ0_init_db425_86 : decode cJ0_init_db425 86 = .ok (.iconst 0, 1) := by decide +kernel
theorem dJ0_init_db425_87 : decode cJ0_init_db425 87 = .ok (.iload 4, 2) := by decide +kernel
theorem dJ0_init_db425_89 : decode cJ0_init_db425 89 = .ok (.iconst 1, 1) := by decide +kernel
theorem dJ0_init_db425_90 : decode cJ0_init_db425 90 = .ok (.ishl, 1) := by decide +kernel
theorem dJ0_init_db425_91 : decode cJ0_init_db425 91 = .ok (.invokestatic 54, 3) := by decide +kernel
theorem dJ0_init_db425_94 : decode cJ0_init_db425 94 = .ok (.putfield 9, 3) := by decide +kernel
theorem dJ0_init_db425_97 : decode cJ0_init_db425 97 = .ok (.return_, 1) := by decide +kernel
theorem dJ0_coder_7d493_0 : decode cJ0_coder_7d493 0 = .ok (.getstatic 38, 3) := by decide +kernel
theorem dJ0_coder_7d493_3 : decode cJ0_coder_7d493 3 = .ok (.ifCond .eq 10, 3) := by decide +kernel
theorem dJ0_coder_7d493_6 : decode cJ0_coder_7d493 6 = .ok (.aload_n 0, 1) := by decide +kernel
theorem dJ0_coder_7d493_7 : decode cJ0_coder_7d493 7 = .ok (.getfield 15, 3) := by decide +kernel
theorem dJ0_coder_7d493_10 : decode cJ0_coder_7d493 10 = .ok (.goto 4, 3) := by decide +kernel
theorem dJ0_coder_7d493_13 : decode cJ0_coder_7d493 13 = .ok (.iconst 1, 1) := by decide +kernel
theorem dJ0_coder_7d493_14 : decode cJ0_coder_7d493 14 = .ok (.ireturn, 1) := by decide +kernel
set_option maxRecDepth 20000 in
theorem ggJ0_checkBoundsOffCount_cabcc_J3_checkFromIndexSize_8c36e : GoodIn wsJ0_checkBoundsOffCount_cabcc wsJ3_checkFromIndexSize_8c36e := goodIn_r _ [5] (by decide +kernel) (by decide +kernel)
set_option maxRecDepth 20000 in
theorem gJ0_checkBoundsOffCount_cabcc_J3_checkFromIndexSize_8c36e : GoodIn wsJ0_checkBoundsOffCount_cabcc (va_wsS RJ0 1065 yJ3_checkFromIndexSize_8c36e wsJ3_checkFromIndexSize_8c36e) := goodIn_app (goodIn_of _ (by decide +kernel)) ggJ0_checkBoundsOffCount_cabcc_J3_checkFromIndexSize_8c36e
theorem dJ0_checkBoundsOffCount_cabcc_0 : decode cJ0_checkBoundsOffCount_cabcc 0 = .ok (.iload_n 0, 1) := by decide +kernel
theorem dJ0_checkBoundsOffCount_cabcc_1 : decode cJ0_checkBoundsOffCount_cabcc 1 = .ok (.iload_n 1, 1) := by decide +kernel
theorem dJ0_checkBoundsOffCount_cabcc_2 : decode cJ0_checkBoundsOffCount_cabcc 2 = .ok (.iload_n 2, 1) := by decide +kernel
theorem dJ0_checkBoundsOffCount_cabcc_3 : decode cJ0_checkBoundsOffCount_cabcc 3 = .ok (.getstatic 1053, 3) := by decide +kernel
theorem dJ0_checkBoundsOffCount_cabcc_6 : decode cJ0_checkBoundsOffCount_cabcc 6 = .ok (.invokestatic 1065, 3) := by decide +kernel
theorem dJ0_checkBoundsOffCount_cabcc_9 : decode cJ0_checkBoundsOffCount_cabcc 9 = .ok (.ireturn, 1) := by decide +kernel
set_option maxRecDepth 20000 in
theorem ggJ0_checkBoundsBeginEnd_23922_J3_checkFromToIndex_8c36e : GoodIn wsJ0_checkBoundsBeginEnd_23922 wsJ3_checkFromToIndex_8c36e := goodIn_r _ [5] (by decide +kernel) (by decide +kernel)
set_option maxRecDepth 20000 in
theorem gJ0_checkBoundsBeginEnd_23922_J3_checkFromToIndex_8c36e : GoodIn wsJ0_checkBoundsBeginEnd_23922 (va_wsS RJ0 1062 yJ3_checkFromToIndex_8c36e wsJ3_checkFromToIndex_8c36e) := goodIn_app (goodIn_of _ (by decide +kernel)) ggJ0_checkBoundsBeginEnd_23922_J3_checkFromToIndex_8c36e
theorem dJ0_checkBoundsBeginEnd_23922_0 : decode cJ0_checkBoundsBeginEnd_23922 0 = .ok (.iload_n 0, 1) := by decide +kernel
theorem dJ0_checkBoundsBeginEnd_23922_1 : decode cJ0_checkBoundsBeginEnd_23922 1 = .ok (.iload_n 1, 1) := by decide +kernel
theorem dJ0_checkBoundsBeginEnd_23922_2 : decode cJ0_checkBoundsBeginEnd_23922 2 = .ok (.iload_n 2, 1) := by decide +kernel
theorem dJ0_checkBoundsBeginEnd_23922_3 : decode cJ0_checkBoundsBeginEnd_23922 3 = .ok (.getstatic 1053, 3) := by decide +kernel
theorem dJ0_checkBoundsBeginEnd_23922_6 : decode cJ0_checkBoundsBeginEnd_23922 6 = .ok (.invokestatic 1062, 3) := by decide +kernel
theorem dJ0_checkBoundsBeginEnd_23922_9 : decode cJ0_checkBoundsBeginEnd_23922 9 = .ok (.pop, 1) := by decide +kernel
theorem dJ0_checkBoundsBeginEnd_23922_10 : decode cJ0_checkBoundsBeginEnd_23922 10 = .ok (.return_, 1) := by decide +kernel
set_option maxRecDepth 20000 in
theorem ggJ4_init_da8c8_J5_init_d00df : GoodIn wsJ4_init_da8c8 wsJ5_init_d00df := goodIn_r _ [4, 5, 6, 7, 8, 9, 10, 11, 12, 13, 14, 15, 16, 17, 18, 19, 20, 21, 22, 23] (by decide +kernel) (by decide +kernel)
set_option maxRecDepth 20000 in
theorem gJ4_init_da8c8_J5_init_d00df : GoodIn wsJ4_init_da8c8 (wsJ5_init_d00df) := ggJ4_init_da8c8_J5_init_d00df
theorem dJ4_init_da8c8_0 : decode cJ4_init_da8c8 0 = .ok (.aload_n 0, 1) := by decide +kernel
theorem dJ4_init_da8c8_1 : decode cJ4_init_da8c8 1 = .ok (.bipush 16, 2) := by decide +kernel
theorem dJ4_init_da8c8_3 : decode cJ4_init_da8c8 3 = .ok (.invokespecial 1, 3) := by decide +kernel
theorem dJ4_init_da8c8_6 : decode cJ4_init_da8c8 6 = .ok (.return_, 1) := by decide +kernel
set_option maxRecDepth 20000 in
theorem ggJ4_append_15ec4_J5_append_cf1ce : GoodIn wsJ4_append_15ec4 wsJ5_append_cf1ce := goodIn_r _ [6, 7, 8, 9, 10, 11, 5, 12, 13, 14, 15, 16, 17, 18, 19, 20, 21, 22, 23, 24, 25, 26, 27, 28, 29, 30, 31, 32, 33, 34, 35, 36, 37, 38, 39, 40, 41, 42, 43, 44, 45, 46, 47, 48, 49, 50, 51, 52, 53, 54, 55, 56, 57, 58, 59, 60, 61, 62, 63, 64, 65, 66, 67, 68, 69, 70, 71, 72, 73, 74, 75, 76, 77, 78, 79, 80, 81, 82, 83, 84, 85, 86, 87, 88, 89, 90, 91, 92, 93, 94, 95, 96, 97, 98, 99, 100, 101, 102, 103, 104, 105, 106, 107, 108, 109, 110, 111, 112, 113, 114, 115, 116, 117, 118, 119, 120, 121, 122, 123, 124, 125, 126, 127, 128, 129, 130, 131, 132, 133, 134, 135, 136, 137, 138, 139, 140, 141, 142, 143, 144, 145, 146, 147, 148, 149, 150] (by decide +kernel) (by decide +kernel)
set_option maxRecDepth 20000 in
theorem gJ4_append_15ec4_J5_append_cf1ce_s29 : GoodIn wsJ4_append_15ec4 (va_wsSU RJ4 29 yJ5_append_cf1ce wsJ5_append_cf1ce) := goodIn_app (goodIn_of _ (by decide +kernel)) ggJ4_append_15ec4_J5_append_cf1ce
theorem dJ4_append_15ec4_0 : decode cJ4_append_15ec4 0 = .ok (.aload_n 0, 1) := by decide +kernel
theorem dJ4_append_15ec4_1 : decode cJ4_append_15ec4 1 = .ok (.aload_n 1, 1) := by decide +kernel
theorem dJ4_append_15ec4_2 : decode cJ4_append_15ec4 2 = .ok (.invokespecial 29, 3) := by decide +kernel
theorem dJ4_append_15ec4_5 : decode cJ4_append_15ec4 5 = .ok (.pop, 1) := by decide +kernel
theorem dJ4_append_15ec4_6 : decode cJ4_append_15ec4 6 = .ok (.aload_n 0, 1) := by decide +kernel
theorem dJ4_append_15ec4_7 : decode cJ4_append_15ec4 7 = .ok (.areturn, 1) := by decide +kernel
set_option maxRecDepth 20000 in
theorem ggJ4_append_bf812_J5_append_c97b9 : GoodIn wsJ4_append_bf812 wsJ5_append_c97b9 := goodIn_r _ [6, 7, 8, 9, 10, 11, 12, 13, 14, 15, 16, 5, 17, 18, 19, 20, 21, 22, 23, 24, 25, 26, 27, 28, 29, 30, 31, 32, 33, 34, 35, 36, 37, 38, 39, 40, 41, 42, 43, 44, 45, 46, 47, 48, 49, 50, 51, 52, 53, 54, 55, 56, 57, 58, 59, 60, 61, 62, 63, 64, 65, 66, 67, 68, 69, 70, 71, 72, 73, 74, 75, 76, 77, 78, 79, 80, 81, 82, 83, 84, 85, 86, 87, 88, 89, 90, 91, 92, 93, 94, 95, 96, 97, 98, 99] (by decide +kernel) (by decide +kernel)
set_option maxRecDepth 20000 in
theorem gJ4_append_bf812_J5_append_c97b9_s53 : GoodIn wsJ4_append_bf812 (va_wsSU RJ4 53 yJ5_append_c97b9 wsJ5_append_c97b9) := goodIn_app (goodIn_of _ (by decide +kernel)) ggJ4_append_bf812_J5_append_c97b9
theorem dJ4_append_bf812_0 : decode cJ4_append_bf812 0 = .ok (.aload_n 0, 1) := by decide +kernel
theorem dJ4_append_bf812_1 : decode cJ4_append_bf812 1 = .ok (.iload_n 1, 1) := by decide +kernel
theorem dJ4_append_bf812_2 : decode cJ4_append_bf812 2 = .ok (.invokespecial 53, 3) := by decide +kernel
theorem dJ4_append_bf812_5 : decode cJ4_append_bf812 5 = .ok (.pop, 1) := by decide +kernel
theorem dJ4_append_bf812_6 : decode cJ4_append_bf812 6 = .ok (.aload_n 0, 1) := by decide +kernel
theorem dJ4_append_bf812_7 : decode cJ4_append_bf812 7 = .ok (.areturn, 1) := by decide +kernel
set_option maxRecDepth 20000 in
theorem ggJ4_toString_0e30d_J0_init_81219 : GoodIn wsJ4_toString_0e30d wsJ0_init_81219 := goodIn_r _ [6, 7, 8, 3, 9, 10, 11, 12, 13, 14, 15, 16, 17, 18, 19, 20, 21, 22, 23, 24, 25, 26, 27, 28, 29, 30, 31, 32, 33, 34, 35, 36, 37, 38, 39, 40, 41, 42, 43, 44, 45, 46, 47, 48, 49, 50, 51, 52, 53, 54, 55, 56, 57, 58, 59, 60, 61, 62, 63, 64, 65, 66, 67, 68, 69, 70, 71, 72, 73, 74, 75, 76, 77, 78, 79, 80, 81, 82, 83, 84, 85, 86, 87, 88, 89, 90, 91, 92, 93, 94, 95, 96, 97, 98, 99, 100, 101, 102, 103, 104, 105, 106, 107, 108, 109, 110, 111, 112] (by decide +kernel) (by decide +kernel)
set_option maxRecDepth 20000 in
theorem gJ4_toString_0e30d_J0_init_81219 : GoodIn wsJ4_toString_0e30d (wsJ0_init_81219) := ggJ4_toString_0e30d_J0_init_81219
theorem dJ4_toString_0e30d_0 : decode cJ4_toString_0e30d 0 = .ok (.new 18, 3) := by decide +kernel
theorem dJ4_toString_0e30d_3 : decode cJ4_toString_0e30d 3 = .ok (.dup, 1) := by decide +kernel
theorem dJ4_toString_0e30d_4 : decode cJ4_toString_0e30d 4 = .ok (.aload_n 0, 1) := by decide +kernel
theorem dJ4_toString_0e30d_5 : decode cJ4_toString_0e30d 5 = .ok (.invokespecial 137, 3) := by decide +kernel
theorem dJ4_toString_0e30d_8 : decode cJ4_toString_0e30d 8 = .ok (.areturn, 1) := by decide +kernel
set_option maxRecDepth 20000 in
theorem ggJ4_length_8abf5_J5_length_8abf5 : GoodIn wsJ4_length_8abf5 wsJ5_length_8abf5 := goodIn_r _ [6, 7, 8, 9, 10, 11] (by decide +kernel) (by decide +kernel)
set_option maxRecDepth 20000 in
theorem gJ4_length_8abf5_J5_length_8abf5_s343 : GoodIn wsJ4_length_8abf5 (va_wsSU RJ4 343 yJ5_length_8abf5 wsJ5_length_8abf5) := goodIn_app (goodIn_of _ (by decide +kernel)) ggJ4_length_8abf5_J5_length_8abf5
theorem dJ4_length_8abf5_0 : decode cJ4_length_8abf5 0 = .ok (.aload_n 0, 1) := by decide +kernel
theorem dJ4_length_8abf5_1 : decode cJ4_length_8abf5 1 = .ok (.invokespecial 343, 3) := by decide +kernel
theorem dJ4_length_8abf5_4 : decode cJ4_length_8abf5 4 = .ok (.ireturn, 1) := by decide +kernel
set_option maxRecDepth 20000 in
theorem ggJ1_inflate_0e8fd_J2_inflate_0e8fd : GoodIn wsJ1_inflate_0e8fd wsJ2_inflate_0e8fd := goodIn_r _ [4, 5, 6, 3, 7, 8, 9, 10, 11, 12, 13, 14, 15, 16, 17, 18, 19, 20, 21, 22, 23, 24, 25] (by decide +kernel) (by decide +kernel)
set_option maxRecDepth 20000 in
theorem gJ1_inflate_0e8fd_J2_inflate_0e8fd : GoodIn wsJ1_inflate_0e8fd (va_wsS RJ1 240 yJ2_inflate_0e8fd wsJ2_inflate_0e8fd) := goodIn_app (goodIn_of _ (by decide +kernel)) ggJ1_inflate_0e8fd_J2_inflate_0e8fd
theorem dJ1_inflate_0e8fd_0 : decode cJ1_inflate_0e8fd 0 = .ok (.aload_n 0, 1) := by decide +kernel
theorem dJ1_inflate_0e8fd_1 : decode cJ1_inflate_0e8fd 1 = .ok (.iload_n 1, 1) := by decide +kernel
theorem dJ1_inflate_0e8fd_2 : decode cJ1_inflate_0e8fd 2 = .ok (.aload_n 2, 1) := by decide +kernel
theorem dJ1_inflate_0e8fd_3 : decode cJ1_inflate_0e8fd 3 = .ok (.iload_n 3, 1) := by decide +kernel
theorem dJ1_inflate_0e8fd_4 : decode cJ1_inflate_0e8fd 4 = .ok (.iload 4, 2) := by decide +kernel
theorem dJ1_inflate_0e8fd_6 : decode cJ1_inflate_0e8fd 6 = .ok (.invokestatic 240, 3) := by decide +kernel
theorem dJ1_inflate_0e8fd_9 : decode cJ1_inflate_0e8fd 9 = .ok (.return_, 1) := by decide +kernel
set_option maxRecDepth 20000 in
theorem ggJ2_newBytesFor_77867_J2_newBytesLength_0f7a4 : GoodIn wsJ2_newBytesFor_77867 wsJ2_newBytesLength_0f7a4 := goodIn_r _ [5, 6] (by decide +kernel) (by decide +kernel)
set_option maxRecDepth 20000 in
theorem gJ2_newBytesFor_77867_J2_newBytesLength_0f7a4 : GoodIn wsJ2_newBytesFor_77867 (va_wsS RJ2 11 yJ2_newBytesLength_0f7a4 wsJ2_newBytesLength_0f7a4) := goodIn_app (goodIn_of _ (by decide +kernel)) ggJ2_newBytesFor_77867_J2_newBytesLength_0f7a4
theorem dJ2_newBytesFor_77867_0 : decode cJ2_newBytesFor_77867 0 = .ok (.iload_n 0, 1) := by decide +kernel
theorem dJ2_newBytesFor_77867_1 : decode cJ2_newBytesFor_77867 1 = .ok (.invokestatic 11, 3) := by decide +kernel
theorem dJ2_newBytesFor_77867_4 : decode cJ2_newBytesFor_77867 4 = .ok (.newarray .byte, 2) := by decide +kernel
theorem dJ2_newBytesFor_77867_6 : decode cJ2_newBytesFor_77867 6 = .ok (.areturn, 1) := by decide +kernel
theorem dJ2_newBytesLength_0f7a4_0 : decode cJ2_newBytesLength_0f7a4 0 = .ok (.iload_n 0, 1) := by decide +kernel
theorem dJ2_newBytesLength_0f7a4_1 : decode cJ2_newBytesLength_0f7a4 1 = .ok (.ifCond .ge 11, 3) := by decide +kernel
theorem dJ2_newBytesLength_0f7a4_4 : decode cJ2_newBytesLength_0f7a4 4 = .ok (.new 17, 3) := by decide +kernel
theorem dJ2_newBytesLength_0f7a4_7 : decode cJ2_newBytesLength_0f7a4 7 = .ok (.dup, 1) := by decide +kernel
theorem dJ2_newBytesLength_0f7a4_8 : decode cJ2_newBytesLength_0f7a4 8 = .ok (.invokespecial 19, 3) := by decide +kernel
theorem dJ2_newBytesLength_0f7a4_11 : decode cJ2_newBytesLength_0f7a4 11 = .ok (.athrow, 1) := by decide +kernel
theorem dJ2_newBytesLength_0f7a4_12 : decode cJ2_newBytesLength_0f7a4 12 = .ok (.iload_n 0, 1) := by decide +kernel
theorem dJ2_newBytesLength_0f7a4_13 : decode cJ2_newBytesLength_0f7a4 13 = .ok (.ldc 20, 2) := by decide +kernel
theorem dJ2_newBytesLength_0f7a4_15 : decode cJ2_newBytesLength_0f7a4 15 = .ok (.if_icmp .lt 40, 3) := by decide +kernel
theorem dJ2_newBytesLength_0f7a4_18 : decode cJ2_newBytesLength_0f7a4 18 = .ok (.new 21, 3) := by decide +kernel
theorem dJ2_newBytesLength_0f7a4_21 : decode cJ2_newBytesLength_0f7a4 21 = .ok (.dup, 1) := by decide +kernel
theorem dJ2_newBytesLength_0f7a4_22 : decode cJ2_newBytesLength_0f7a4 22 = .ok (.new 23, 3) := by decide +kernel
theorem dJ2_newBytesLength_0f7a4_25 : decode cJ2_newBytesLength_0f7a4 25 = .ok (.dup, 1) := by decide +kernel
theorem dJ2_newBytesLength_0f7a4_26 : decode cJ2_newBytesLength_0f7a4 26 = .ok (.invokespecial 25, 3) := by decide +kernel
theorem dJ2_newBytesLength_0f7a4_29 : decode cJ2_newBytesLength_0f7a4 29 = .ok (.ldc 26, 2) := by decide +kernel
theorem dJ2_newBytesLength_0f7a4_31 : decode cJ2_newBytesLength_0f7a4 31 = .ok (.invokevirtual 28, 3) := by decide +kernel
theorem dJ2_newBytesLength_0f7a4_34 : decode cJ2_newBytesLength_0f7a4 34 = .ok (.iload_n 0, 1) := by decide +kernel
theorem dJ2_newBytesLength_0f7a4_35 : decode cJ2_newBytesLength_0f7a4 35 = .ok (.invokevirtual 32, 3) := by decide +kernel
theorem dJ2_newBytesLength_0f7a4_38 : decode cJ2_newBytesLength_0f7a4 38 = .ok (.ldc 35, 2) := by decide +kernel
theorem dJ2_newBytesLength_0f7a4_40 : decode cJ2_newBytesLength_0f7a4 40 = .ok (.invokevirtual 28, 3) := by decide +kernel
theorem dJ2_newBytesLength_0f7a4_43 : decode cJ2_newBytesLength_0f7a4 43 = .ok (.ldc 20, 2) := by decide +kernel
theorem dJ2_newBytesLength_0f7a4_45 : decode cJ2_newBytesLength_0f7a4 45 = .ok (.invokevirtual 32, 3) := by decide +kernel
theorem dJ2_newBytesLength_0f7a4_48 : decode cJ2_newBytesLength_0f7a4 48 = .ok (.invokevirtual 37, 3) := by decide +kernel
theorem dJ2_newBytesLength_0f7a4_51 : decode cJ2_newBytesLength_0f7a4 51 = .ok (.invokespecial 41, 3) := by decide +kernel
theorem dJ2_newBytesLength_0f7a4_54 : decode cJ2_newBytesLength_0f7a4 54 = .ok (.athrow, 1) := by decide +kernel
theorem dJ2_newBytesLength_0f7a4_55 : decode cJ2_newBytesLength_0f7a4 55 = .ok (.iload_n 0, 1) := by decide +kernel
theorem dJ2_newBytesLength_0f7a4_56 : decode cJ2_newBytesLength_0f7a4 56 = .ok (.iconst 1, 1) := by decide +kernel
theorem dJ2_newBytesLength_0f7a4_57 : decode cJ2_newBytesLength_0f7a4 57 = .ok (.ishl, 1) := by decide +kernel
theorem dJ2_newBytesLength_0f7a4_58 : decode cJ2_newBytesLength_0f7a4 58 = .ok (.ireturn, 1) := by decide +kernel
set_option maxRecDepth 20000 in
theorem ggJ2_putChar_b72d1_J2_length_9d52b : GoodIn wsJ2_putChar_b72d1 wsJ2_length_9d52b := goodIn_r _ [7] (by decide +kernel) (by decide +kernel)
set_option maxRecDepth 20000 in
theorem gJ2_putChar_b72d1_J2_length_9d52b : GoodIn wsJ2_putChar_b72d1 (va_wsS RJ2 48 yJ2_length_9d52b wsJ2_length_9d52b) := goodIn_app (goodIn_of _ (by decide +kernel)) ggJ2_putChar_b72d1_J2_length_9d52b
theorem dJ2_putChar_b72d1_0 : decode cJ2_putChar_b72d1 0 = .ok (.getstatic 44, 3) := by decide +kernel
theorem dJ2_putChar_b72d1_3 : decode cJ2_putChar_b72d1 3 = .ok (.ifCond .ne 25, 3) := by decide +kernel
theorem dJ2_putChar_b72d1_6 : decode cJ2_putChar_b72d1 6 = .ok (.iload_n 1, 1) := by decide +kernel
theorem dJ2_putChar_b72d1_7 : decode cJ2_putChar_b72d1 7 = .ok (.ifCond .lt 11, 3) := by decide +kernel
theorem dJ2_putChar_b72d1_10 : decode cJ2_putChar_b72d1 10 = .ok (.iload_n 1, 1) := by decide +kernel
theorem dJ2_putChar_b72d1_11 : decode cJ2_putChar_b72d1 11 = .ok (.aload_n 0, 1) := by decide +kernel
theorem dJ2_putChar_b72d1_12 : decode cJ2_putChar_b72d1 12 = .ok (.invokestatic 48, 3) := by decide +kernel
theorem dJ2_putChar_b72d1_15 : decode cJ2_putChar_b72d1 15 = .ok (.if_icmp .lt 13, 3) := by decide +kernel
theorem dJ2_putChar_b72d1_18 : decode cJ2_putChar_b72d1 18 = .ok (.new 52, 3) := by decide +kernel
theorem dJ2_putChar_b72d1_21 : decode cJ2_putChar_b72d1 21 = .ok (.dup, 1) := by decide +kernel
theorem dJ2_putChar_b72d1_22 : decode cJ2_putChar_b72d1 22 = .ok (.ldc 54, 2) := by decide +kernel
theorem dJ2_putChar_b72d1_24 : decode cJ2_putChar_b72d1 24 = .ok (.invokespecial 56, 3) := by decide +kernel
theorem dJ2_putChar_b72d1_27 : decode cJ2_putChar_b72d1 27 = .ok (.athrow, 1) := by decide +kernel
theorem dJ2_putChar_b72d1_28 : decode cJ2_putChar_b72d1 28 = .ok (.iload_n 1, 1) := by decide +kernel
theorem dJ2_putChar_b72d1_29 : decode cJ2_putChar_b72d1 29 = .ok (.iconst 1, 1) := by decide +kernel
theorem dJ2_putChar_b72d1_30 : decode cJ2_putChar_b72d1 30 = .ok (.ishl, 1) := by decide +kernel
theorem dJ2_putChar_b72d1_31 : decode cJ2_putChar_b72d1 31 = .ok (.istore_n 1, 1) := by decide +kernel
theorem dJ2_putChar_b72d1_32 : decode cJ2_putChar_b72d1 32 = .ok (.aload_n 0, 1) := by decide +kernel
theorem dJ2_putChar_b72d1_33 : decode cJ2_putChar_b72d1 33 = .ok (.iload_n 1, 1) := by decide +kernel
theorem dJ2_putChar_b72d1_34 : decode cJ2_putChar_b72d1 34 = .ok (.iinc 1 1, 3) := by decide +kernel
theorem dJ2_putChar_b72d1_37 : decode cJ2_putChar_b72d1 37 = .ok (.iload_n 2, 1) := by decide +kernel
theorem dJ2_putChar_b72d1_38 : decode cJ2_putChar_b72d1 38 = .ok (.getstatic 59, 3) := by decide +kernel
theorem dJ2_putChar_b72d1_41 : decode cJ2_putChar_b72d1 41 = .ok (.ishr, 1) := by decide +kernel
theorem dJ2_putChar_b72d1_42 : decode cJ2_putChar_b72d1 42 = .ok (.i2b, 1) := by decide +kernel
theorem dJ2_putChar_b72d1_43 : decode cJ2_putChar_b72d1 43 = .ok (.bastore, 1) := by decide +kernel
theorem dJ2_putChar_b72d1_44 : decode cJ2_putChar_b72d1 44 = .ok (.aload_n 0, 1) := by decide +kernel
theorem dJ2_putChar_b72d1_45 : decode cJ2_putChar_b72d1 45 = .ok (.iload_n 1, 1) := by decide +kernel
theorem dJ2_putChar_b72d1_46 : decode cJ2_putChar_b72d1 46 = .ok (.iload_n 2, 1) := by decide +kernel
theorem dJ2_putChar_b72d1_47 : decode cJ2_putChar_b72d1 47 = .ok (.getstatic 63, 3) := by decide +kernel
theorem dJ2_putChar_b72d1_50 : decode cJ2_putChar_b72d1 50 = .ok (.ishr, 1) := by decide +kernel
theorem dJ2_putChar_b72d1_51 : decode cJ2_putChar_b72d1 51 = .ok (.i2b, 1) := by decide +kernel
theorem dJ2_putChar_b72d1_52 : decode cJ2_putChar_b72d1 52 = .ok (.bastore, 1) := by decide +kernel
theorem dJ2_putChar_b72d1_53 : decode cJ2_putChar_b72d1 53 = .ok (.return_, 1) := by decide +kernel
set_option maxRecDepth 20000 in
theorem ggJ2_getChar_3b067_J2_length_9d52b : GoodIn wsJ2_getChar_3b067 wsJ2_length_9d52b := goodIn_r _ [7] (by decide +kernel) (by decide +kernel)
set_option maxRecDepth 20000 in
theorem gJ2_getChar_3b067_J2_length_9d52b : GoodIn wsJ2_getChar_3b067 (va_wsS RJ2 48 yJ2_length_9d52b wsJ2_length_9d52b) := goodIn_app (goodIn_of _ (by decide +kernel)) ggJ2_getChar_3b067_J2_length_9d52b
theorem dJ2_getChar_3b067_0 : decode cJ2_getChar_3b067 0 = .ok (.getstatic 44, 3) := by decide +kernel
theorem dJ2_getChar_3b067_3 : decode cJ2_getChar_3b067 3 = .ok (.ifCond .ne 25, 3) := by decide +kernel
theorem dJ2_getChar_3b067_6 : decode cJ2_getChar_3b067 6 = .ok (.iload_n 1, 1) := by decide +kernel
theorem dJ2_getChar_3b067_7 : decode cJ2_getChar_3b067 7 = .ok (.ifCond .lt 11, 3) := by decide +kernel
theorem dJ2_getChar_3b067_10 : decode cJ2_getChar_3b067 10 = .ok (.iload_n 1, 1) := by decide +kernel
theorem dJ2_getChar_3b067_11 : decode cJ2_getChar_3b067 11 = .ok (.aload_n 0, 1) := by decide +kernel
theorem dJ2_getChar_3b067_12 : decode cJ2_getChar_3b067 12 = .ok (.invokestatic 48, 3) := by decide +kernel
theorem dJ2_getChar_3b067_15 : decode cJ2_getChar_3b067 15 = .ok (.if_icmp .lt 13, 3) := by decide +kernel
theorem dJ2_getChar_3b067_18 : decode cJ2_getChar_3b067 18 = .ok (.new 52, 3) := by decide +kernel
theorem dJ2_getChar_3b067_21 : decode cJ2_getChar_3b067 21 = .ok (.dup, 1) := by decide +kernel
theorem dJ2_getChar_3b067_22 : decode cJ2_getChar_3b067 22 = .ok (.ldc 54, 2) := by decide +kernel
theorem dJ2_getChar_3b067_24 : decode cJ2_getChar_3b067 24 = .ok (.invokespecial 56, 3) := by decide +kernel
theorem dJ2_getChar_3b067_27 : decode cJ2_getChar_3b067 27 = .ok (.athrow, 1) := by decide +kernel
theorem dJ2_getChar_3b067_28 : decode cJ2_getChar_3b067 28 = .ok (.iload_n 1, 1) := by decide +kernel
theorem dJ2_getChar_3b067_29 : decode cJ2_getChar_3b067 29 = .ok (.iconst 1, 1) := by decide +kernel
theorem dJ2_getChar_3b067_30 : decode cJ2_getChar_3b067 30 = .ok (.ishl, 1) := by decide +kernel
theorem dJ2_getChar_3b067_31 : decode cJ2_getChar_3b067 31 = .ok (.istore_n 1, 1) := by decide +kernel
theorem dJ2_getChar_3b067_32 : decode cJ2_getChar_3b067 32 = .ok (.aload_n 0, 1) := by decide +kernel
theorem dJ2_getChar_3b067_33 : decode cJ2_getChar_3b067 33 = .ok (.iload_n 1, 1) := by decide +kernel
theorem dJ2_getChar_3b067_34 : decode cJ2_getChar_3b067 34 = .ok (.iinc 1 1, 3) := by decide +kernel
theorem dJ2_getChar_3b067_37 : decode cJ2_getChar_3b067 37 = .ok (.baload, 1) := by decide +kernel
theorem dJ2_getChar_3b067_38 : decode cJ2_getChar_3b067 38 = .ok (.sipush 255, 3) := by decide +kernel
theorem dJ2_getChar_3b067_41 : decode cJ2_getChar_3b067 41 = .ok (.iand, 1) := by decide +kernel
theorem dJ2_getChar_3b067_42 : decode cJ2_getChar_3b067 42 = .ok (.getstatic 59, 3) := by decide +kernel
theorem dJ2_getChar_3b067_45 : decode cJ2_getChar_3b067 45 = .ok (.ishl, 1) := by decide +kernel
theorem dJ2_getChar_3b067_46 : decode cJ2_getChar_3b067 46 = .ok (.aload_n 0, 1) := by decide +kernel
theorem dJ2_getChar_3b067_47 : decode cJ2_getChar_3b067 47 = .ok (.iload_n 1, 1) := by decide +kernel
theorem dJ2_getChar_3b067_48 : decode cJ2_getChar_3b067 48 = .ok (.baload, 1) := by decide +kernel
theorem dJ2_getChar_3b067_49 : decode cJ2_getChar_3b067 49 = .ok (.sipush 255, 3) := by decide +kernel
theorem dJ2_getChar_3b067_52 : decode cJ2_getChar_3b067 52 = .ok (.iand, 1) := by decide +kernel
theorem dJ2_getChar_3b067_53 : decode cJ2_getChar_3b067 53 = .ok (.getstatic 63, 3) := by decide +kernel
theorem dJ2_getChar_3b067_56 : decode cJ2_getChar_3b067 56 = .ok (.ishl, 1) := by decide +kernel
theorem dJ2_getChar_3b067_57 : decode cJ2_getChar_3b067 57 = .ok (.ior, 1) := by decide +kernel
theorem dJ2_getChar_3b067_58 : decode cJ2_getChar_3b067 58 = .ok (.i2c, 1) := by decide +kernel
theorem dJ2_getChar_3b067_59 : decode cJ2_getChar_3b067 59 = .ok (.ireturn, 1) := by decide +kernel
theorem dJ2_length_9d52b_0 : decode cJ2_length_9d52b 0 = .ok (.aload_n 0, 1) := by decide +kernel
theorem dJ2_length_9d52b_1 : decode cJ2_length_9d52b 1 = .ok (.arraylength, 1) := by decide +kernel
theorem dJ2_length_9d52b_2 : decode cJ2_length_9d52b 2 = .ok (.iconst 1, 1) := by decide +kernel
theorem dJ2_length_9d52b_3 : decode cJ2_length_9d52b 3 = .ok (.ishr, 1) := by decide +kernel
theorem dJ2_length_9d52b_4 : decode cJ2_length_9d52b 4 = .ok (.ireturn, 1) := by decide +kernel
theorem dJ2_coderFromArrayLen_85cad_0 : decode cJ2_coderFromArrayLen_85cad 0 = .ok (.iload_n 1, 1) := by decide +kernel
theorem dJ2_coderFromArrayLen_85cad_1 : decode cJ2_coderFromArrayLen_85cad 1 = .ok (.aload_n 0, 1) := by decide +kernel
theorem dJ2_coderFromArrayLen_85cad_2 : decode cJ2_coderFromArrayLen_85cad 2 = .ok (.arraylength, 1) := by decide +kernel
theorem dJ2_coderFromArrayLen_85cad_3 : decode cJ2_coderFromArrayLen_85cad 3 = .ok (.isub, 1) := by decide +kernel
theorem dJ2_coderFromArrayLen_85cad_4 : decode cJ2_coderFromArrayLen_85cad 4 = .ok (.bipush 31, 2) := by decide +kernel
theorem dJ2_coderFromArrayLen_85cad_6 : decode cJ2_coderFromArrayLen_85cad 6 = .ok (.iushr, 1) := by decide +kernel
theorem dJ2_coderFromArrayLen_85cad_7 : decode cJ2_coderFromArrayLen_85cad 7 = .ok (.i2b, 1) := by decide +kernel
theorem dJ2_coderFromArrayLen_85cad_8 : decode cJ2_coderFromArrayLen_85cad 8 = .ok (.ireturn, 1) := by decide +kernel
set_option maxRecDepth 20000 in
theorem ggJ2_compress_39247_J2_compress_5af95 : GoodIn wsJ2_compress_39247 wsJ2_compress_5af95 := goodIn_r _ [5, 6, 7, 4, 8, 9, 10, 11, 12, 13, 14, 15, 16, 17, 18, 19, 20, 21, 22, 23, 24, 25, 26] (by decide +kernel) (by decide +kernel)
set_option maxRecDepth 20000 in
theorem gJ2_compress_39247_J2_compress_5af95 : GoodIn wsJ2_compress_39247 (va_wsS RJ2 123 yJ2_compress_5af95 wsJ2_compress_5af95) := goodIn_app (goodIn_of _ (by decide +kernel)) ggJ2_compress_39247_J2_compress_5af95
set_option maxRecDepth 20000 in
theorem ggJ2_compress_39247_J2_newBytesLength_0f7a4 : GoodIn wsJ2_compress_39247 wsJ2_newBytesLength_0f7a4 := goodIn_r _ [29, 30] (by decide +kernel) (by decide +kernel)
set_option maxRecDepth 20000 in
theorem gJ2_compress_39247_J2_newBytesLength_0f7a4 : GoodIn wsJ2_compress_39247 (va_wsS RJ2 11 yJ2_newBytesLength_0f7a4 wsJ2_newBytesLength_0f7a4) := goodIn_app (goodIn_of _ (by decide +kernel)) ggJ2_compress_39247_J2_newBytesLength_0f7a4
set_option maxRecDepth 20000 in
theorem ggJ2_compress_39247_J7_copyOfRange_39247 : GoodIn wsJ2_compress_39247 wsJ7_copyOfRange_39247 := goodIn_r _ [34, 35, 36, 37, 38, 39, 40, 41, 42, 33, 43, 1, 44, 45, 46, 47, 48, 49, 50, 51, 52, 53, 54, 55, 56, 57, 58, 59, 60, 61] (by decide +kernel) (by decide +kernel)
set_option maxRecDepth 20000 in
theorem gJ2_compress_39247_J7_copyOfRange_39247 : GoodIn wsJ2_compress_39247 (va_wsS RJ2 126 yJ7_copyOfRange_39247 wsJ7_copyOfRange_39247) := goodIn_app (goodIn_of _ (by decide +kernel)) ggJ2_compress_39247_J7_copyOfRange_39247
set_option maxRecDepth 20000 in
theorem ggJ2_compress_39247_J2_getChar_3b067 : GoodIn wsJ2_compress_39247 wsJ2_getChar_3b067 := goodIn_r _ [23, 24, 25, 26, 9, 10, 4, 11] (by decide +kernel) (by decide +kernel)
set_option maxRecDepth 20000 in
theorem gJ2_compress_39247_J2_getChar_3b067 : GoodIn wsJ2_compress_39247 (va_wsS RJ2 71 yJ2_getChar_3b067 wsJ2_getChar_3b067) := goodIn_app (goodIn_of _ (by decide +kernel)) ggJ2_compress_39247_J2_getChar_3b067
theorem dJ2_compress_39247_0 : decode cJ2_compress_39247 0 = .ok (.iload_n 2, 1) := by decide +kernel
theorem dJ2_compress_39247_1 : decode cJ2_compress_39247 1 = .ok (.newarray .byte, 2) := by decide +kernel
theorem dJ2_compress_39247_3 : decode cJ2_compress_39247 3 = .ok (.astore_n 3, 1) := by decide +kernel
theorem dJ2_compress_39247_4 : decode cJ2_compress_39247 4 = .ok (.aload_n 0, 1) := by decide +kernel
theorem dJ2_compress_39247_5 : decode cJ2_compress_39247 5 = .ok (.iload_n 1, 1) := by decide +kernel
theorem dJ2_compress_39247_6 : decode cJ2_compress_39247 6 = .ok (.aload_n 3, 1) := by decide +kernel
theorem dJ2_compress_39247_7 : decode cJ2_compress_39247 7 = .ok (.iconst 0, 1) := by decide +kernel
theorem dJ2_compress_39247_8 : decode cJ2_compress_39247 8 = .ok (.iload_n 2, 1) := by decide +kernel
theorem dJ2_compress_39247_9 : decode cJ2_compress_39247 9 = .ok (.invokestatic 123, 3) := by decide +kernel
