theorem dX9_outcomeWith_53 : decode cX9_outcomeWith 53 = .ok (.getfield 12, 3) := by decide +kernel
theorem dX9_outcomeWith_56 : decode cX9_outcomeWith 56 = .ok (.invokevirtual 291, 3) := by decide +kernel
theorem dX9_outcomeWith_59 : decode cX9_outcomeWith 59 = .ok (.aload_n 0, 1) := by decide +kernel
theorem dX9_outcomeWith_60 : decode cX9_outcomeWith 60 = .ok (.getfield 38, 3) := by decide +kernel
theorem dX9_outcomeWith_63 : decode cX9_outcomeWith 63 = .ok (.iload_n 1, 1) := by decide +kernel
theorem dX9_outcomeWith_64 : decode cX9_outcomeWith 64 = .ok (.iload_n 3, 1) := by decide +kernel
theorem dX9_outcomeWith_65 : decode cX9_outcomeWith 65 = .ok (.aload_n 0, 1) := by decide +kernel
theorem dX9_outcomeWith_66 : decode cX9_outcomeWith 66 = .ok (.getfield 12, 3) := by decide +kernel
theorem dX9_outcomeWith_69 : decode cX9_outcomeWith 69 = .ok (.iload_n 1, 1) := by decide +kernel
theorem dX9_outcomeWith_70 : decode cX9_outcomeWith 70 = .ok (.invokevirtual 120, 3) := by decide +kernel
theorem dX9_outcomeWith_73 : decode cX9_outcomeWith 73 = .ok (.iload_n 2, 1) := by decide +kernel
theorem dX9_outcomeWith_74 : decode cX9_outcomeWith 74 = .ok (.invokevirtual 109, 3) := by decide +kernel
theorem dX9_outcomeWith_77 : decode cX9_outcomeWith 77 = .ok (.aload_n 0, 1) := by decide +kernel
theorem dX9_outcomeWith_78 : decode cX9_outcomeWith 78 = .ok (.getfield 41, 3) := by decide +kernel
theorem dX9_outcomeWith_81 : decode cX9_outcomeWith 81 = .ok (.invokevirtual 51, 3) := by decide +kernel
theorem dX9_outcomeWith_84 : decode cX9_outcomeWith 84 = .ok (.aload_n 0, 1) := by decide +kernel
theorem dX9_outcomeWith_85 : decode cX9_outcomeWith 85 = .ok (.getfield 41, 3) := by decide +kernel
theorem dX9_outcomeWith_88 : decode cX9_outcomeWith 88 = .ok (.getfield 187, 3) := by decide +kernel
theorem dX9_outcomeWith_91 : decode cX9_outcomeWith 91 = .ok (.getfield 221, 3) := by decide +kernel
theorem dX9_outcomeWith_94 : decode cX9_outcomeWith 94 = .ok (.ifCond .le 5, 3) := by decide +kernel
theorem dX9_outcomeWith_97 : decode cX9_outcomeWith 97 = .ok (.iconst (-1), 1) := by decide +kernel
theorem dX9_outcomeWith_98 : decode cX9_outcomeWith 98 = .ok (.ireturn, 1) := by decide +kernel
theorem dX9_outcomeWith_99 : decode cX9_outcomeWith 99 = .ok (.aload_n 0, 1) := by decide +kernel
theorem dX9_outcomeWith_100 : decode cX9_outcomeWith 100 = .ok (.getfield 44, 3) := by decide +kernel
theorem dX9_outcomeWith_103 : decode cX9_outcomeWith 103 = .ok (.invokevirtual 226, 3) := by decide +kernel
theorem dX9_outcomeWith_106 : decode cX9_outcomeWith 106 = .ok (.aload_n 0, 1) := by decide +kernel
theorem dX9_outcomeWith_107 : decode cX9_outcomeWith 107 = .ok (.getfield 44, 3) := by decide +kernel
theorem dX9_outcomeWith_110 : decode cX9_outcomeWith 110 = .ok (.getfield 229, 3) := by decide +kernel
theorem dX9_outcomeWith_113 : decode cX9_outcomeWith 113 = .ok (.ireturn, 1) := by decide +kernel
set_option maxRecDepth 20000 in
theorem ggX9_digest_X9_many : GoodIn wsX9_digest wsX9_many := goodIn_ca (goodIn_r _ [10, 11, 12, 3, 4, 5, 13, 14, 15, 16, 17, 18, 19, 20, 21, 22, 23, 24, 25, 26, 27, 28, 29, 30, 31, 32, 33, 34, 35, 36, 37, 38, 39, 40, 41, 42, 43, 44, 45, 46, 47, 48, 49, 50, 51, 52, 53, 54, 55, 56, 57, 58, 59, 60, 690, 691, 692, 693, 694, 695, 696, 697, 698, 699, 700, 701, 702, 703, 704, 705, 706, 707, 708, 709, 710, 711, 712, 713, 714, 715, 716, 717, 718, 719, 720, 721, 722, 723, 724, 725, 726, 727, 728, 729, 730, 731, 732, 733, 734, 735] (by decide +kernel) (by decide +kernel)) (goodIn_sub (fun _ h => List.mem_cons_of_mem _ (List.mem_append_left _ (List.mem_append_right _ h))) (by decide +kernel))
set_option maxRecDepth 20000 in
theorem gX9_digest_X9_many : GoodIn wsX9_digest (wsV RX9 317 RX9 yX9_many wsX9_many) := goodIn_app (goodIn_of _ (by decide +kernel)) ggX9_digest_X9_many
set_option maxRecDepth 20000 in
theorem ggX9_digest_X9_ofVariable : GoodIn wsX9_digest wsX9_ofVariable := goodIn_ca (goodIn_ca (goodIn_r _ [64, 65, 66, 11, 12, 3, 13, 67, 68, 69, 70, 48, 71, 72, 73, 74, 75, 76, 77, 78, 79, 80, 29, 81, 82, 31, 83, 84, 85, 86, 87, 88, 89, 90, 91, 92, 93, 94, 95, 96, 97, 98, 99, 100, 101, 102, 103, 104, 105, 690, 691, 692, 693, 694, 695, 696, 703, 704, 705, 706, 707, 708, 709, 710, 711, 712, 713, 714, 715, 697, 698, 699, 700, 701, 702, 736, 737, 738, 739, 740, 741, 742, 743, 744, 745] (by decide +kernel) (by decide +kernel)) (goodIn_sub (fun _ h => List.mem_cons_of_mem _ (List.mem_append_right _ h)) (by decide +kernel))) (goodIn_sub (fun _ h => List.mem_cons_of_mem _ (List.mem_append_left _ (List.mem_append_right _ h))) (by decide +kernel))
set_option maxRecDepth 20000 in
theorem gX9_digest_X9_ofVariable : GoodIn wsX9_digest (wsV RX9 320 RX9 yX9_ofVariable wsX9_ofVariable) := goodIn_app (goodIn_of _ (by decide +kernel)) ggX9_digest_X9_ofVariable
set_option maxRecDepth 20000 in
theorem ggX9_digest_X9_withLine : GoodIn wsX9_digest wsX9_withLine := goodIn_ca (goodIn_ca (goodIn_r _ [109, 2, 3, 4, 110, 111, 112, 9, 113, 65, 66, 11, 12, 13, 114, 115, 46, 47, 48, 49, 50, 116, 117, 118, 119, 120, 121, 122, 123, 124, 125, 126, 127, 128, 129, 130, 131, 132, 133, 134, 42, 135, 136, 137, 138, 40, 41, 43, 44, 139, 140, 141, 142, 143, 144, 145, 34, 35, 29, 36, 37, 31, 38, 39, 45, 146, 147, 148, 149, 150, 151, 152, 153, 73, 74, 75, 76, 72, 77, 154, 155, 156, 157, 158, 159, 160, 83, 84, 85, 86, 87, 161, 162, 163, 164, 165, 166, 167, 168, 55, 169, 170, 171, 172, 173, 174, 175, 176, 177, 178, 179, 180, 181, 182, 183, 184, 185, 186, 187, 188, 189, 190, 191, 192, 193, 194, 195, 196, 197, 198, 199, 200, 201, 202, 203, 204, 205, 206, 207, 69, 70, 71, 208, 209, 210, 211, 212, 213, 214, 215, 216, 217, 218, 219, 220, 221, 222, 223, 224, 14, 15, 225, 226, 227, 228, 229, 230, 231, 232, 233, 234, 235, 236, 237, 238, 239, 240, 241, 242, 243, 32, 244, 245, 246, 247, 248, 249, 82, 250, 251, 252, 253, 254, 255, 256, 92, 257, 94, 95, 96, 97, 105, 258, 259, 260, 261, 262, 263, 264, 265, 266, 267, 268, 269, 270, 271, 272, 273, 274, 275, 276, 277, 278, 279, 280, 281, 282, 283, 284, 285, 286, 287, 288, 289, 290, 291, 292, 293, 294, 295, 296, 297, 298, 299, 300, 301, 302, 303, 304, 305, 306, 307, 308, 309, 310, 311, 312, 313, 314, 315, 316, 317, 318, 319, 320, 321, 322, 323, 324, 325, 326, 327, 328, 329, 330, 331, 332, 333, 334, 335, 336, 337, 338, 339, 340, 341, 342, 343, 344, 345, 346, 347, 348, 349, 350, 351, 352, 353, 354, 355, 356, 357, 358, 359, 360, 361, 362, 363, 364, 365, 366, 367, 368, 369, 370, 371, 372, 373, 374, 375, 376, 377, 378, 379, 380, 381, 21, 382, 383, 384, 385, 386, 387, 388, 389, 390, 391, 392, 393, 394, 395, 396, 397, 398, 399, 400, 401, 402, 403, 404, 405, 406, 407, 690, 691, 692, 693, 694, 695, 696, 697, 698, 699, 700, 701, 702, 703, 704, 705, 706, 707, 708, 709, 710, 711, 712, 713, 714, 715, 727, 728, 729, 730, 731, 732, 733, 734, 735, 721, 722, 723, 724, 725, 726, 716, 717, 718, 719, 720, 736, 737, 738, 739, 740, 741, 742, 743, 744, 745] (by decide +kernel) (by decide +kernel)) (goodIn_sub (fun _ h => List.mem_cons_of_mem _ (List.mem_append_right _ h)) (by decide +kernel))) (goodIn_sub (fun _ h => List.mem_cons_of_mem _ (List.mem_append_left _ (List.mem_append_right _ h))) (by decide +kernel))
set_option maxRecDepth 20000 in
theorem gX9_digest_X9_withLine : GoodIn wsX9_digest (wsV RX9 323 RX9 yX9_withLine wsX9_withLine) := goodIn_app (goodIn_of _ (by decide +kernel)) ggX9_digest_X9_withLine
set_option maxRecDepth 20000 in
theorem ggX9_digest_X9_withLoansAndFaults : GoodIn wsX9_digest wsX9_withLoansAndFaults := goodIn_ca (goodIn_ca (goodIn_r _ [411, 13, 16, 17, 2, 14, 15, 412, 413, 414, 9, 415, 65, 66, 11, 12, 416, 192, 193, 188, 194, 195, 417, 418, 419, 420, 292, 191, 421, 186, 187, 189, 190, 422, 199, 200, 201, 202, 423, 424, 425, 29, 426, 173, 31, 32, 241, 368, 427, 175, 176, 177, 178, 179, 180, 181, 182, 183, 184, 428, 429, 430, 431, 432, 433, 434, 326, 435, 329, 436, 437, 438, 439, 328, 330, 331, 332, 440, 690, 691, 692, 693, 694, 695, 696, 703, 704, 705, 706, 707, 708, 709, 710, 711, 712, 713, 714, 715, 721, 722, 723, 724, 725, 726, 716, 717, 718, 719, 720, 697, 698, 699, 700, 701, 702, 736, 737, 738, 739, 740, 741, 742, 743, 744, 745] (by decide +kernel) (by decide +kernel)) (goodIn_sub (fun _ h => List.mem_cons_of_mem _ (List.mem_append_right _ h)) (by decide +kernel))) (goodIn_sub (fun _ h => List.mem_cons_of_mem _ (List.mem_append_left _ (List.mem_append_right _ h))) (by decide +kernel))
set_option maxRecDepth 20000 in
theorem gX9_digest_X9_withLoansAndFaults : GoodIn wsX9_digest (wsV RX9 327 RX9 yX9_withLoansAndFaults wsX9_withLoansAndFaults) := goodIn_app (goodIn_of _ (by decide +kernel)) ggX9_digest_X9_withLoansAndFaults
set_option maxRecDepth 20000 in
theorem ggX9_digest_X9_withLatestRun : GoodIn wsX9_digest wsX9_withLatestRun := goodIn_ca (goodIn_ca (goodIn_r _ [444, 2, 445, 446, 447, 448, 449, 9, 450, 11, 12, 451, 452, 453, 454, 455, 456, 457, 458, 459, 460, 461, 462, 463, 464, 465, 466, 467, 468, 469, 470, 471, 472, 473, 474, 475, 476, 477, 478, 58, 479, 480, 481, 482, 483, 65, 66, 484, 485, 486, 487, 488, 489, 490, 491, 492, 493, 494, 495, 496, 690, 691, 692, 693, 694, 695, 696, 746, 747, 748, 749, 750, 751, 752, 753, 754, 755, 756, 757, 758, 759, 760, 761, 762, 763, 764, 765, 766, 767, 768, 769, 770, 771, 772] (by decide +kernel) (by decide +kernel)) (goodIn_sub (fun _ h => List.mem_cons_of_mem _ (List.mem_append_left _ (List.mem_append_right _ h))) (by decide +kernel))) (goodIn_sub (fun _ h => List.mem_cons_of_mem _ (List.mem_append_right _ h)) (by decide +kernel))
set_option maxRecDepth 20000 in
theorem gX9_digest_X9_withLatestRun : GoodIn wsX9_digest (wsV RX9 331 RX9 yX9_withLatestRun wsX9_withLatestRun) := goodIn_app (goodIn_of _ (by decide +kernel)) ggX9_digest_X9_withLatestRun
set_option maxRecDepth 20000 in
theorem ggX9_digest_X9_leakedBy : GoodIn wsX9_digest wsX9_leakedBy := goodIn_ca (goodIn_r _ [500, 65, 66, 3, 223, 224, 14, 15, 501, 115, 46, 47, 48, 49, 50, 225, 226, 227, 228, 77, 229, 230, 231, 232, 120, 126, 131, 72, 502, 503, 504, 505, 121, 237, 238, 239, 29, 240, 241, 173, 37, 242, 243, 31, 32, 38, 244, 245, 246, 247, 248, 158, 159, 55, 184, 249, 82, 250, 251, 252, 253, 254, 255, 256, 92, 257, 94, 95, 96, 97, 105, 258, 259, 260, 261, 262, 263, 264, 265, 266, 267, 268, 117, 118, 119, 269, 128, 129, 130, 270, 123, 124, 125, 271, 272, 273, 274, 275, 84, 85, 86, 87, 74, 75, 76, 276, 277, 278, 279, 280, 281, 282, 283, 284, 208, 9, 209, 285, 286, 287, 188, 288, 195, 289, 290, 291, 292, 190, 202, 293, 294, 295, 296, 297, 298, 299, 300, 301, 42, 302, 303, 304, 305, 306, 44, 136, 307, 308, 309, 310, 311, 312, 313, 314, 315, 316, 317, 318, 319, 320, 321, 322, 137, 144, 39, 40, 41, 43, 323, 324, 325, 326, 327, 328, 329, 330, 331, 332, 333, 334, 335, 336, 337, 338, 339, 340, 341, 342, 343, 344, 345, 346, 347, 348, 179, 349, 350, 351, 352, 353, 354, 355, 356, 357, 180, 181, 182, 183, 358, 133, 134, 135, 138, 139, 359, 360, 361, 362, 160, 151, 152, 153, 363, 141, 142, 143, 364, 365, 366, 367, 368, 369, 370, 371, 372, 373, 166, 167, 168, 45, 374, 375, 376, 377, 378, 379, 380, 381, 21, 382, 383, 384, 385, 386, 387, 388, 389, 390, 391, 392, 170, 171, 172, 174, 175, 176, 177, 178, 185, 186, 187, 189, 191, 192, 193, 194, 196, 197, 198, 199, 200, 201, 393, 394, 395, 396, 397, 398, 399, 400, 401, 402, 403, 404, 405, 406, 407, 506, 507, 508, 464, 509, 510, 511, 512, 513, 514, 515, 516, 517, 518, 519, 520, 521, 522, 467, 523, 524, 525, 526, 466, 469, 527, 528, 529, 530, 531, 532, 533, 534, 535, 536, 537, 538, 539, 540, 541, 542, 543, 544, 545, 546, 547, 548, 549, 550, 551, 552, 553, 554, 555, 556, 557, 558, 559, 560, 561, 562, 563, 564, 565, 566, 567, 568, 569, 570, 571, 572, 573, 574, 575, 576, 577, 578, 579, 580, 581, 582, 583, 584, 585, 586, 587, 588, 589, 590, 591, 592, 593, 594, 595, 596, 597, 598, 599, 600, 601, 602, 603, 604, 605, 606, 607, 608, 609, 610, 611, 612, 613, 614, 615, 616, 617, 618, 619, 620, 474, 621, 493, 476, 494, 495, 622, 623, 624, 625, 626, 627, 628, 629, 630, 631, 632, 633, 634, 635, 636, 637, 638, 639, 640, 641, 642, 643, 644, 645, 646, 647, 648, 649, 650, 651, 652, 653, 654, 655, 656, 657, 658, 659, 660, 661, 662, 663, 664, 665, 666, 667, 668, 669, 670, 671, 672, 673, 674, 675, 676, 677, 678, 679, 680, 681, 682, 683, 684, 685, 686, 687, 688, 689, 461, 462, 463, 465, 468, 470, 690, 691, 692, 693, 694, 695, 696, 703, 704, 705, 706, 707, 708, 709, 710, 711, 712, 713, 714, 715, 716, 717, 718, 719, 720, 697, 698, 699, 700, 701, 702, 727, 728, 729, 730, 731, 732, 733, 734, 735, 736, 737, 738, 739, 740, 741, 742, 743, 744, 745, 721, 722, 723, 724, 725, 726, 746, 747, 748, 749, 750, 751, 752, 753, 754, 755, 756, 757, 758, 759, 760, 761, 762, 763, 764, 765, 766, 767, 768, 769, 770, 771, 772] (by decide +kernel) (by decide +kernel)) (goodIn_sub (fun _ h => List.mem_cons_of_mem _ (List.mem_append_right _ h)) (by decide +kernel))
set_option maxRecDepth 20000 in
theorem gX9_digest_X9_leakedBy : GoodIn wsX9_digest (wsV RX9 334 RX9 yX9_leakedBy wsX9_leakedBy) := goodIn_app (goodIn_of _ (by decide +kernel)) ggX9_digest_X9_leakedBy
theorem dX9_digest_0 : decode cX9_digest 0 = .ok (.ldc2_w 313, 3) := by decide +kernel
theorem dX9_digest_3 : decode cX9_digest 3 = .ok (.lstore_n 1, 1) := by decide +kernel
theorem dX9_digest_4 : decode cX9_digest 4 = .ok (.iconst 0, 1) := by decide +kernel
theorem dX9_digest_5 : decode cX9_digest 5 = .ok (.istore_n 3, 1) := by decide +kernel
theorem dX9_digest_6 : decode cX9_digest 6 = .ok (.iload_n 3, 1) := by decide +kernel
theorem dX9_digest_7 : decode cX9_digest 7 = .ok (.bipush 6, 2) := by decide +kernel
theorem dX9_digest_9 : decode cX9_digest 9 = .ok (.if_icmp .gt 22, 3) := by decide +kernel
theorem dX9_digest_12 : decode cX9_digest 12 = .ok (.lload_n 1, 1) := by decide +kernel
theorem dX9_digest_13 : decode cX9_digest 13 = .ok (.ldc2_w 315, 3) := by decide +kernel
theorem dX9_digest_16 : decode cX9_digest 16 = .ok (.lmul, 1) := by decide +kernel
theorem dX9_digest_17 : decode cX9_digest 17 = .ok (.aload_n 0, 1) := by decide +kernel
theorem dX9_digest_18 : decode cX9_digest 18 = .ok (.iload_n 3, 1) := by decide +kernel
theorem dX9_digest_19 : decode cX9_digest 19 = .ok (.invokevirtual 317, 3) := by decide +kernel
theorem dX9_digest_22 : decode cX9_digest 22 = .ok (.i2l, 1) := by decide +kernel
theorem dX9_digest_23 : decode cX9_digest 23 = .ok (.ladd, 1) := by decide +kernel
theorem dX9_digest_24 : decode cX9_digest 24 = .ok (.lstore_n 1, 1) := by decide +kernel
theorem dX9_digest_25 : decode cX9_digest 25 = .ok (.iinc 3 1, 3) := by decide +kernel
theorem dX9_digest_28 : decode cX9_digest 28 = .ok (.goto (-22), 3) := by decide +kernel
theorem dX9_digest_31 : decode cX9_digest 31 = .ok (.iconst 0, 1) := by decide +kernel
theorem dX9_digest_32 : decode cX9_digest 32 = .ok (.istore_n 3, 1) := by decide +kernel
theorem dX9_digest_33 : decode cX9_digest 33 = .ok (.iload_n 3, 1) := by decide +kernel
theorem dX9_digest_34 : decode cX9_digest 34 = .ok (.aload_n 0, 1) := by decide +kernel
theorem dX9_digest_35 : decode cX9_digest 35 = .ok (.getfield 12, 3) := by decide +kernel
theorem dX9_digest_38 : decode cX9_digest 38 = .ok (.getfield 61, 3) := by decide +kernel
theorem dX9_digest_41 : decode cX9_digest 41 = .ok (.if_icmp .ge 39, 3) := by decide +kernel
theorem dX9_digest_44 : decode cX9_digest 44 = .ok (.iconst 0, 1) := by decide +kernel
theorem dX9_digest_45 : decode cX9_digest 45 = .ok (.istore 4, 2) := by decide +kernel
theorem dX9_digest_47 : decode cX9_digest 47 = .ok (.iload 4, 2) := by decide +kernel
theorem dX9_digest_49 : decode cX9_digest 49 = .ok (.iconst 3, 1) := by decide +kernel
theorem dX9_digest_50 : decode cX9_digest 50 = .ok (.if_icmp .gt 24, 3) := by decide +kernel
theorem dX9_digest_53 : decode cX9_digest 53 = .ok (.lload_n 1, 1) := by decide +kernel
theorem dX9_digest_54 : decode cX9_digest 54 = .ok (.ldc2_w 315, 3) := by decide +kernel
theorem dX9_digest_57 : decode cX9_digest 57 = .ok (.lmul, 1) := by decide +kernel
theorem dX9_digest_58 : decode cX9_digest 58 = .ok (.aload_n 0, 1) := by decide +kernel
theorem dX9_digest_59 : decode cX9_digest 59 = .ok (.iload_n 3, 1) := by decide +kernel
theorem dX9_digest_60 : decode cX9_digest 60 = .ok (.iload 4, 2) := by decide +kernel
theorem dX9_digest_62 : decode cX9_digest 62 = .ok (.invokevirtual 320, 3) := by decide +kernel
theorem dX9_digest_65 : decode cX9_digest 65 = .ok (.i2l, 1) := by decide +kernel
theorem dX9_digest_66 : decode cX9_digest 66 = .ok (.ladd, 1) := by decide +kernel
theorem dX9_digest_67 : decode cX9_digest 67 = .ok (.lstore_n 1, 1) := by decide +kernel
theorem dX9_digest_68 : decode cX9_digest 68 = .ok (.iinc 4 1, 3) := by decide +kernel
theorem dX9_digest_71 : decode cX9_digest 71 = .ok (.goto (-24), 3) := by decide +kernel
theorem dX9_digest_74 : decode cX9_digest 74 = .ok (.iinc 3 1, 3) := by decide +kernel
theorem dX9_digest_77 : decode cX9_digest 77 = .ok (.goto (-44), 3) := by decide +kernel
theorem dX9_digest_80 : decode cX9_digest 80 = .ok (.iconst 0, 1) := by decide +kernel
theorem dX9_digest_81 : decode cX9_digest 81 = .ok (.istore_n 3, 1) := by decide +kernel
theorem dX9_digest_82 : decode cX9_digest 82 = .ok (.iload_n 3, 1) := by decide +kernel
theorem dX9_digest_83 : decode cX9_digest 83 = .ok (.aload_n 0, 1) := by decide +kernel
theorem dX9_digest_84 : decode cX9_digest 84 = .ok (.getfield 12, 3) := by decide +kernel
theorem dX9_digest_87 : decode cX9_digest 87 = .ok (.getfield 79, 3) := by decide +kernel
theorem dX9_digest_90 : decode cX9_digest 90 = .ok (.if_icmp .ge 16, 3) := by decide +kernel
theorem dX9_digest_93 : decode cX9_digest 93 = .ok (.aload_n 0, 1) := by decide +kernel
theorem dX9_digest_94 : decode cX9_digest 94 = .ok (.lload_n 1, 1) := by decide +kernel
theorem dX9_digest_95 : decode cX9_digest 95 = .ok (.iload_n 3, 1) := by decide +kernel
theorem dX9_digest_96 : decode cX9_digest 96 = .ok (.invokevirtual 323, 3) := by decide +kernel
theorem dX9_digest_99 : decode cX9_digest 99 = .ok (.lstore_n 1, 1) := by decide +kernel
theorem dX9_digest_100 : decode cX9_digest 100 = .ok (.iinc 3 1, 3) := by decide +kernel
theorem dX9_digest_103 : decode cX9_digest 103 = .ok (.goto (-21), 3) := by decide +kernel
theorem dX9_digest_106 : decode cX9_digest 106 = .ok (.aload_n 0, 1) := by decide +kernel
theorem dX9_digest_107 : decode cX9_digest 107 = .ok (.lload_n 1, 1) := by decide +kernel
theorem dX9_digest_108 : decode cX9_digest 108 = .ok (.invokevirtual 327, 3) := by decide +kernel
theorem dX9_digest_111 : decode cX9_digest 111 = .ok (.lstore_n 1, 1) := by decide +kernel
theorem dX9_digest_112 : decode cX9_digest 112 = .ok (.aload_n 0, 1) := by decide +kernel
theorem dX9_digest_113 : decode cX9_digest 113 = .ok (.lload_n 1, 1) := by decide +kernel
theorem dX9_digest_114 : decode cX9_digest 114 = .ok (.invokevirtual 331, 3) := by decide +kernel
theorem dX9_digest_117 : decode cX9_digest 117 = .ok (.lstore_n 1, 1) := by decide +kernel
theorem dX9_digest_118 : decode cX9_digest 118 = .ok (.aload_n 0, 1) := by decide +kernel
theorem dX9_digest_119 : decode cX9_digest 119 = .ok (.getfield 12, 3) := by decide +kernel
theorem dX9_digest_122 : decode cX9_digest 122 = .ok (.getfield 79, 3) := by decide +kernel
theorem dX9_digest_125 : decode cX9_digest 125 = .ok (.ifCond .le 24, 3) := by decide +kernel
theorem dX9_digest_128 : decode cX9_digest 128 = .ok (.lload_n 1, 1) := by decide +kernel
theorem dX9_digest_129 : decode cX9_digest 129 = .ok (.ldc2_w 315, 3) := by decide +kernel
theorem dX9_digest_132 : decode cX9_digest 132 = .ok (.lmul, 1) := by decide +kernel
theorem dX9_digest_133 : decode cX9_digest 133 = .ok (.aload_n 0, 1) := by decide +kernel
theorem dX9_digest_134 : decode cX9_digest 134 = .ok (.aload_n 0, 1) := by decide +kernel
theorem dX9_digest_135 : decode cX9_digest 135 = .ok (.getfield 12, 3) := by decide +kernel
theorem dX9_digest_138 : decode cX9_digest 138 = .ok (.getfield 79, 3) := by decide +kernel
theorem dX9_digest_141 : decode cX9_digest 141 = .ok (.iconst 1, 1) := by decide +kernel
theorem dX9_digest_142 : decode cX9_digest 142 = .ok (.isub, 1) := by decide +kernel
theorem dX9_digest_143 : decode cX9_digest 143 = .ok (.invokevirtual 334, 3) := by decide +kernel
theorem dX9_digest_146 : decode cX9_digest 146 = .ok (.i2l, 1) := by decide +kernel
theorem dX9_digest_147 : decode cX9_digest 147 = .ok (.ladd, 1) := by decide +kernel
theorem dX9_digest_148 : decode cX9_digest 148 = .ok (.lstore_n 1, 1) := by decide +kernel
theorem dX9_digest_149 : decode cX9_digest 149 = .ok (.lload_n 1, 1) := by decide +kernel
theorem dX9_digest_150 : decode cX9_digest 150 = .ok (.lreturn, 1) := by decide +kernel
set_option maxRecDepth 20000 in
theorem ggX9_withLine_X9_ofLine : GoodIn wsX9_withLine wsX9_ofLine := goodIn_ca (goodIn_ca (goodIn_r _ [8, 9, 10, 11, 12, 2, 13, 14, 15, 16, 17, 18, 19, 20, 21, 22, 23, 24, 25, 26, 27, 28, 29, 30, 31, 32, 33, 34, 35, 36, 37, 38, 39, 40, 41, 42, 43, 44, 45, 46, 47, 48, 49, 50, 51, 52, 53, 54, 55, 56, 57, 58, 59, 60, 61, 62, 63, 64, 353, 354, 355, 356, 357, 358, 359, 366, 367, 368, 369, 370, 371, 372, 373, 374, 375, 376, 377, 378, 360, 361, 362, 363, 364, 365, 379, 380, 381, 382, 383, 384, 385, 386, 387] (by decide +kernel) (by decide +kernel)) (goodIn_sub (fun _ h => List.mem_cons_of_mem _ (List.mem_append_left _ (List.mem_append_right _ h))) (by decide +kernel))) (goodIn_sub (fun _ h => List.mem_cons_of_mem _ (List.mem_append_right _ h)) (by decide +kernel))
set_option maxRecDepth 20000 in
theorem gX9_withLine_X9_ofLine : GoodIn wsX9_withLine (wsV RX9 337 RX9 yX9_ofLine wsX9_ofLine) := goodIn_app (goodIn_of _ (by decide +kernel)) ggX9_withLine_X9_ofLine
set_option maxRecDepth 20000 in
theorem ggX9_withLine_X9_state : GoodIn wsX9_withLine wsX9_state := goodIn_ca (goodIn_r _ [68, 9, 10, 2, 13, 69, 70, 71, 18, 72, 20, 73, 74, 75, 76, 77, 78, 79, 80, 81, 58, 82, 61, 62, 83, 84, 85, 86, 87, 88, 89, 90, 353, 354, 355, 356, 357, 358, 359, 360, 361, 362, 363, 364, 365, 366, 367, 368, 369, 370, 371, 372, 373, 374, 375, 376, 377, 378] (by decide +kernel) (by decide +kernel)) (goodIn_sub (fun _ h => List.mem_cons_of_mem _ (List.mem_append_left _ (List.mem_append_right _ h))) (by decide +kernel))
set_option maxRecDepth 20000 in
theorem gX9_withLine_X9_state : GoodIn wsX9_withLine (wsV RX9 340 RX9 yX9_state wsX9_state) := goodIn_app (goodIn_of _ (by decide +kernel)) ggX9_withLine_X9_state
set_option maxRecDepth 20000 in
theorem ggX9_withLine_X9_inTheWay : GoodIn wsX9_withLine wsX9_inTheWay := goodIn_ca (goodIn_r _ [94, 9, 10, 2, 13, 69, 70, 71, 18, 72, 20, 73, 74, 75, 76, 77, 78, 95, 96, 97, 58, 98, 61, 99, 64, 16, 17, 19, 100, 101, 102, 103, 104, 105, 106, 107, 108, 109, 110, 111, 112, 113, 114, 115, 116, 117, 118, 119, 120, 121, 122, 123, 124, 125, 126, 127, 7, 128, 129, 130, 131, 132, 133, 353, 354, 355, 356, 357, 358, 359, 360, 361, 362, 363, 364, 365, 366, 367, 368, 369, 370, 371, 372, 373, 374, 375, 376, 377, 378, 388, 389, 390, 391, 392, 393] (by decide +kernel) (by decide +kernel)) (goodIn_sub (fun _ h => List.mem_cons_of_mem _ (List.mem_append_left _ (List.mem_append_right _ h))) (by decide +kernel))
set_option maxRecDepth 20000 in
theorem gX9_withLine_X9_inTheWay : GoodIn wsX9_withLine (wsV RX9 343 RX9 yX9_inTheWay wsX9_inTheWay) := goodIn_app (goodIn_of _ (by decide +kernel)) ggX9_withLine_X9_inTheWay
set_option maxRecDepth 20000 in
theorem ggX9_withLine_X5_isBorrow : GoodIn wsX9_withLine wsX5_isBorrow := goodIn_r _ [137, 78, 138, 139, 140, 18, 141, 77, 142, 7, 143, 360, 361, 362, 363, 364, 365] (by decide +kernel) (by decide +kernel)
set_option maxRecDepth 20000 in
theorem gX9_withLine_X5_isBorrow : GoodIn wsX9_withLine (wsV RX9 149 RX5 yX5_isBorrow wsX5_isBorrow) := goodIn_app (goodIn_of _ (by decide +kernel)) ggX9_withLine_X5_isBorrow
set_option maxRecDepth 20000 in
theorem ggX9_withLine_X9_holds : GoodIn wsX9_withLine wsX9_holds := goodIn_ca (goodIn_r _ [147, 9, 10, 2, 13, 69, 70, 71, 18, 72, 20, 134, 135, 136, 137, 78, 138, 139, 140, 141, 77, 142, 7, 143, 148, 112, 113, 58, 114, 115, 353, 354, 355, 356, 357, 358, 359, 360, 361, 362, 363, 364, 365, 366, 367, 368, 369, 370, 371, 372, 373, 374, 375, 376, 377, 378] (by decide +kernel) (by decide +kernel)) (goodIn_sub (fun _ h => List.mem_cons_of_mem _ (List.mem_append_left _ (List.mem_append_right _ h))) (by decide +kernel))
set_option maxRecDepth 20000 in
theorem gX9_withLine_X9_holds : GoodIn wsX9_withLine (wsV RX9 346 RX9 yX9_holds wsX9_holds) := goodIn_app (goodIn_of _ (by decide +kernel)) ggX9_withLine_X9_holds
set_option maxRecDepth 20000 in
theorem ggX9_withLine_X9_isWanted : GoodIn wsX9_withLine wsX9_isWanted := goodIn_ca (goodIn_r _ [152, 9, 10, 2, 13, 69, 70, 71, 18, 72, 20, 134, 135, 136, 137, 78, 138, 139, 140, 141, 77, 142, 7, 143, 95, 96, 97, 58, 98, 61, 99, 64, 16, 17, 19, 353, 354, 355, 356, 357, 358, 359, 360, 361, 362, 363, 364, 365, 366, 367, 368, 369, 370, 371, 372, 373, 374, 375, 376, 377, 378] (by decide +kernel) (by decide +kernel)) (goodIn_sub (fun _ h => List.mem_cons_of_mem _ (List.mem_append_left _ (List.mem_append_right _ h))) (by decide +kernel))
set_option maxRecDepth 20000 in
theorem gX9_withLine_X9_isWanted : GoodIn wsX9_withLine (wsV RX9 349 RX9 yX9_isWanted wsX9_isWanted) := goodIn_app (goodIn_of _ (by decide +kernel)) ggX9_withLine_X9_isWanted
set_option maxRecDepth 20000 in
theorem ggX9_withLine_X9_faultsWithout : GoodIn wsX9_withLine wsX9_faultsWithout := goodIn_ca (goodIn_r _ [156, 9, 10, 2, 157, 158, 159, 160, 15, 16, 17, 18, 19, 20, 161, 162, 163, 164, 78, 165, 166, 167, 168, 25, 31, 36, 77, 169, 170, 171, 172, 26, 173, 174, 175, 58, 176, 177, 104, 60, 178, 179, 61, 180, 62, 181, 182, 183, 184, 185, 83, 84, 99, 115, 186, 187, 188, 189, 190, 191, 192, 193, 194, 195, 196, 197, 198, 199, 200, 201, 202, 203, 204, 205, 206, 207, 208, 209, 210, 211, 212, 22, 23, 24, 213, 33, 34, 35, 214, 28, 29, 30, 215, 216, 217, 218, 219, 87, 88, 89, 90, 74, 75, 76, 220, 221, 222, 223, 224, 225, 226, 227, 228, 142, 7, 143, 229, 230, 231, 119, 232, 126, 233, 234, 235, 236, 121, 133, 237, 238, 239, 240, 241, 242, 243, 244, 245, 40, 246, 247, 248, 249, 250, 48, 42, 251, 252, 253, 254, 255, 256, 257, 258, 259, 260, 261, 262, 263, 264, 265, 266, 43, 54, 63, 45, 46, 47, 267, 268, 269, 270, 271, 272, 273, 274, 275, 276, 277, 278, 279, 280, 281, 282, 283, 284, 285, 286, 287, 288, 289, 290, 291, 292, 110, 293, 294, 295, 296, 297, 298, 299, 300, 301, 111, 112, 113, 114, 302, 38, 39, 41, 44, 49, 303, 304, 305, 306, 85, 70, 71, 72, 307, 51, 52, 53, 308, 309, 310, 311, 312, 313, 314, 315, 316, 317, 96, 97, 98, 64, 318, 319, 320, 321, 322, 323, 324, 325, 326, 327, 328, 329, 330, 331, 332, 333, 334, 335, 336, 337, 101, 102, 103, 105, 106, 107, 108, 109, 116, 117, 118, 120, 122, 123, 124, 125, 127, 128, 129, 130, 131, 132, 338, 339, 340, 341, 342, 343, 344, 345, 346, 347, 348, 349, 350, 351, 352, 353, 354, 355, 356, 357, 358, 359, 366, 367, 368, 369, 370, 371, 372, 373, 374, 375, 376, 377, 378, 394, 395, 396, 397, 398, 360, 361, 362, 363, 364, 365, 379, 380, 381, 382, 383, 384, 385, 386, 387, 399, 400, 401, 402, 403, 404, 405, 406, 407, 408, 388, 389, 390, 391, 392, 393] (by decide +kernel) (by decide +kernel)) (goodIn_sub (fun _ h => List.mem_cons_of_mem _ (List.mem_append_left _ (List.mem_append_right _ h))) (by decide +kernel))
set_option maxRecDepth 20000 in
theorem gX9_withLine_X9_faultsWithout : GoodIn wsX9_withLine (wsV RX9 353 RX9 yX9_faultsWithout wsX9_faultsWithout) := goodIn_app (goodIn_of _ (by decide +kernel)) ggX9_withLine_X9_faultsWithout
theorem dX9_withLine_0 : decode cX9_withLine 0 = .ok (.lload_n 1, 1) := by decide +kernel
theorem dX9_withLine_1 : decode cX9_withLine 1 = .ok (.lstore 4, 2) := by decide +kernel
theorem dX9_withLine_3 : decode cX9_withLine 3 = .ok (.iconst 3, 1) := by decide +kernel
theorem dX9_withLine_4 : decode cX9_withLine 4 = .ok (.istore 6, 2) := by decide +kernel
theorem dX9_withLine_6 : decode cX9_withLine 6 = .ok (.iload 6, 2) := by decide +kernel
theorem dX9_withLine_8 : decode cX9_withLine 8 = .ok (.iconst 5, 1) := by decide +kernel
theorem dX9_withLine_9 : decode cX9_withLine 9 = .ok (.if_icmp .gt 26, 3) := by decide +kernel
theorem dX9_withLine_12 : decode cX9_withLine 12 = .ok (.lload 4, 2) := by decide +kernel
theorem dX9_withLine_14 : decode cX9_withLine 14 = .ok (.ldc2_w 315, 3) := by decide +kernel
theorem dX9_withLine_17 : decode cX9_withLine 17 = .ok (.lmul, 1) := by decide +kernel
theorem dX9_withLine_18 : decode cX9_withLine 18 = .ok (.aload_n 0, 1) := by decide +kernel
theorem dX9_withLine_19 : decode cX9_withLine 19 = .ok (.iload_n 3, 1) := by decide +kernel
theorem dX9_withLine_20 : decode cX9_withLine 20 = .ok (.iload 6, 2) := by decide +kernel
theorem dX9_withLine_22 : decode cX9_withLine 22 = .ok (.invokevirtual 337, 3) := by decide +kernel
theorem dX9_withLine_25 : decode cX9_withLine 25 = .ok (.i2l, 1) := by decide +kernel
theorem dX9_withLine_26 : decode cX9_withLine 26 = .ok (.ladd, 1) := by decide +kernel
theorem dX9_withLine_27 : decode cX9_withLine 27 = .ok (.lstore 4, 2) := by decide +kernel
theorem dX9_withLine_29 : decode cX9_withLine 29 = .ok (.iinc 6 1, 3) := by decide +kernel
theorem dX9_withLine_32 : decode cX9_withLine 32 = .ok (.goto (-26), 3) := by decide +kernel
theorem dX9_withLine_35 : decode cX9_withLine 35 = .ok (.iconst 0, 1) := by decide +kernel
theorem dX9_withLine_36 : decode cX9_withLine 36 = .ok (.istore 6, 2) := by decide +kernel
theorem dX9_withLine_38 : decode cX9_withLine 38 = .ok (.iload 6, 2) := by decide +kernel
theorem dX9_withLine_40 : decode cX9_withLine 40 = .ok (.aload_n 0, 1) := by decide +kernel
theorem dX9_withLine_41 : decode cX9_withLine 41 = .ok (.getfield 12, 3) := by decide +kernel
theorem dX9_withLine_44 : decode cX9_withLine 44 = .ok (.getfield 61, 3) := by decide +kernel
theorem dX9_withLine_47 : decode cX9_withLine 47 = .ok (.if_icmp .ge 101, 3) := by decide +kernel
theorem dX9_withLine_50 : decode cX9_withLine 50 = .ok (.lload 4, 2) := by decide +kernel
theorem dX9_withLine_52 : decode cX9_withLine 52 = .ok (.ldc2_w 315, 3) := by decide +kernel
theorem dX9_withLine_55 : decode cX9_withLine 55 = .ok (.lmul, 1) := by decide +kernel
theorem dX9_withLine_56 : decode cX9_withLine 56 = .ok (.aload_n 0, 1) := by decide +kernel
theorem dX9_withLine_57 : decode cX9_withLine 57 = .ok (.iload_n 3, 1) := by decide +kernel
theorem dX9_withLine_58 : decode cX9_withLine 58 = .ok (.iconst 3, 1) := by decide +kernel
theorem dX9_withLine_59 : decode cX9_withLine 59 = .ok (.iload 6, 2) := by decide +kernel
theorem dX9_withLine_61 : decode cX9_withLine 61 = .ok (.imul, 1) := by decide +kernel
theorem dX9_withLine_62 : decode cX9_withLine 62 = .ok (.invokevirtual 340, 3) := by decide +kernel
theorem dX9_withLine_65 : decode cX9_withLine 65 = .ok (.i2l, 1) := by decide +kernel
theorem dX9_withLine_66 : decode cX9_withLine 66 = .ok (.ladd, 1) := by decide +kernel
theorem dX9_withLine_67 : decode cX9_withLine 67 = .ok (.lstore 4, 2) := by decide +kernel
theorem dX9_withLine_69 : decode cX9_withLine 69 = .ok (.lload 4, 2) := by decide +kernel
theorem dX9_withLine_71 : decode cX9_withLine 71 = .ok (.ldc2_w 315, 3) := by decide +kernel
theorem dX9_withLine_74 : decode cX9_withLine 74 = .ok (.lmul, 1) := by decide +kernel
theorem dX9_withLine_75 : decode cX9_withLine 75 = .ok (.aload_n 0, 1) := by decide +kernel
theorem dX9_withLine_76 : decode cX9_withLine 76 = .ok (.iload_n 3, 1) := by decide +kernel
theorem dX9_withLine_77 : decode cX9_withLine 77 = .ok (.iconst 3, 1) := by decide +kernel
theorem dX9_withLine_78 : decode cX9_withLine 78 = .ok (.iload 6, 2) := by decide +kernel
theorem dX9_withLine_80 : decode cX9_withLine 80 = .ok (.imul, 1) := by decide +kernel
theorem dX9_withLine_81 : decode cX9_withLine 81 = .ok (.invokevirtual 343, 3) := by decide +kernel
theorem dX9_withLine_84 : decode cX9_withLine 84 = .ok (.i2l, 1) := by decide +kernel
theorem dX9_withLine_85 : decode cX9_withLine 85 = .ok (.ladd, 1) := by decide +kernel
theorem dX9_withLine_86 : decode cX9_withLine 86 = .ok (.lstore 4, 2) := by decide +kernel
theorem dX9_withLine_88 : decode cX9_withLine 88 = .ok (.aload_n 0, 1) := by decide +kernel
theorem dX9_withLine_89 : decode cX9_withLine 89 = .ok (.getfield 12, 3) := by decide +kernel
theorem dX9_withLine_92 : decode cX9_withLine 92 = .ok (.iload 6, 2) := by decide +kernel
theorem dX9_withLine_94 : decode cX9_withLine 94 = .ok (.invokevirtual 149, 3) := by decide +kernel
theorem dX9_withLine_97 : decode cX9_withLine 97 = .ok (.ifCond .eq 45, 3) := by decide +kernel
theorem dX9_withLine_100 : decode cX9_withLine 100 = .ok (.lload 4, 2) := by decide +kernel
theorem dX9_withLine_102 : decode cX9_withLine 102 = .ok (.ldc2_w 315, 3) := by decide +kernel
theorem dX9_withLine_105 : decode cX9_withLine 105 = .ok (.lmul, 1) := by decide +kernel
theorem dX9_withLine_106 : decode cX9_withLine 106 = .ok (.aload_n 0, 1) := by decide +kernel
theorem dX9_withLine_107 : decode cX9_withLine 107 = .ok (.iload_n 3, 1) := by decide +kernel
theorem dX9_withLine_108 : decode cX9_withLine 108 = .ok (.iload 6, 2) := by decide +kernel
theorem dX9_withLine_110 : decode cX9_withLine 110 = .ok (.invokevirtual 346, 3) := by decide +kernel
theorem dX9_withLine_113 : decode cX9_withLine 113 = .ok (.i2l, 1) := by decide +kernel
theorem dX9_withLine_114 : decode cX9_withLine 114 = .ok (.ladd, 1) := by decide +kernel
theorem dX9_withLine_115 : decode cX9_withLine 115 = .ok (.lstore 4, 2) := by decide +kernel
theorem dX9_withLine_117 : decode cX9_withLine 117 = .ok (.lload 4, 2) := by decide +kernel
theorem dX9_withLine_119 : decode cX9_withLine 119 = .ok (.ldc2_w 315, 3) := by decide +kernel
theorem dX9_withLine_122 : decode cX9_withLine 122 = .ok (.lmul, 1) := by decide +kernel
theorem dX9_withLine_123 : decode cX9_withLine 123 = .ok (.aload_n 0, 1) := by decide +kernel
theorem dX9_withLine_124 : decode cX9_withLine 124 = .ok (.iload_n 3, 1) := by decide +kernel
theorem dX9_withLine_125 : decode cX9_withLine 125 = .ok (.iload 6, 2) := by decide +kernel
theorem dX9_withLine_127 : decode cX9_withLine 127 = .ok (.invokevirtual 349, 3) := by decide +kernel
theorem dX9_withLine_130 : decode cX9_withLine 130 = .ok (.ifCond .eq 7, 3) := by decide +kernel
theorem dX9_withLine_133 : decode cX9_withLine 133 = .ok (.iconst 1, 1) := by decide +kernel
theorem dX9_withLine_134 : decode cX9_withLine 134 = .ok (.goto 4, 3) := by decide +kernel
theorem dX9_withLine_137 : decode cX9_withLine 137 = .ok (.iconst 0, 1) := by decide +kernel
theorem dX9_withLine_138 : decode cX9_withLine 138 = .ok (.i2l, 1) := by decide +kernel
theorem dX9_withLine_139 : decode cX9_withLine 139 = .ok (.ladd, 1) := by decide +kernel
theorem dX9_withLine_140 : decode cX9_withLine 140 = .ok (.lstore 4, 2) := by decide +kernel
theorem dX9_withLine_142 : decode cX9_withLine 142 = .ok (.iinc 6 1, 3) := by decide +kernel
theorem dX9_withLine_145 : decode cX9_withLine 145 = .ok (.goto (-107), 3) := by decide +kernel
theorem dX9_withLine_148 : decode cX9_withLine 148 = .ok (.lload 4, 2) := by decide +kernel
theorem dX9_withLine_150 : decode cX9_withLine 150 = .ok (.ldc2_w 315, 3) := by decide +kernel
theorem dX9_withLine_153 : decode cX9_withLine 153 = .ok (.lmul, 1) := by decide +kernel
theorem dX9_withLine_154 : decode cX9_withLine 154 = .ok (.aload_n 0, 1) := by decide +kernel
theorem dX9_withLine_155 : decode cX9_withLine 155 = .ok (.iload_n 3, 1) := by decide +kernel
theorem dX9_withLine_156 : decode cX9_withLine 156 = .ok (.invokevirtual 353, 3) := by decide +kernel
theorem dX9_withLine_159 : decode cX9_withLine 159 = .ok (.i2l, 1) := by decide +kernel
theorem dX9_withLine_160 : decode cX9_withLine 160 = .ok (.ladd, 1) := by decide +kernel
theorem dX9_withLine_161 : decode cX9_withLine 161 = .ok (.lreturn, 1) := by decide +kernel
set_option maxRecDepth 20000 in
theorem ggX9_withLoansAndFaults_X9_ofLoan : GoodIn wsX9_withLoansAndFaults wsX9_ofLoan := goodIn_ca (goodIn_ca (goodIn_r _ [11, 12, 13, 14, 15, 1, 2, 16, 17, 18, 19, 20, 21, 22, 23, 24, 25, 26, 27, 28, 29, 30, 31, 32, 33, 34, 35, 36, 37, 38, 39, 40, 41, 42, 43, 44, 45, 46, 47, 48, 49, 50, 51, 52, 53, 54, 55, 56, 57, 58, 78, 79, 80, 81, 82, 83, 84, 85, 86, 87, 88, 89, 90, 91, 92, 93, 94, 95, 96, 97, 98, 99, 100, 101, 102, 103, 109, 110, 111, 112, 113, 114, 115, 116, 117, 118, 119, 120, 121, 122, 123, 124] (by decide +kernel) (by decide +kernel)) (goodIn_sub (fun _ h => List.mem_cons_of_mem _ (List.mem_append_left _ (List.mem_append_right _ h))) (by decide +kernel))) (goodIn_sub (fun _ h => List.mem_cons_of_mem _ (List.mem_append_right _ h)) (by decide +kernel))
set_option maxRecDepth 20000 in
theorem gX9_withLoansAndFaults_X9_ofLoan : GoodIn wsX9_withLoansAndFaults (wsV RX9 356 RX9 yX9_ofLoan wsX9_ofLoan) := goodIn_app (goodIn_of _ (by decide +kernel)) ggX9_withLoansAndFaults_X9_ofLoan
set_option maxRecDepth 20000 in
theorem ggX9_withLoansAndFaults_X9_fault : GoodIn wsX9_withLoansAndFaults wsX9_fault := goodIn_ca (goodIn_ca (goodIn_r _ [62, 12, 13, 14, 15, 1, 5, 63, 64, 65, 66, 67, 68, 69, 70, 71, 72, 73, 74, 75, 76, 77, 38, 39, 40, 41, 42, 43, 44, 45, 46, 47, 48, 17, 18, 19, 20, 21, 49, 50, 51, 52, 53, 54, 55, 56, 57, 58, 78, 79, 80, 81, 82, 83, 84, 85, 86, 87, 88, 89, 90, 91, 92, 93, 94, 95, 96, 97, 104, 105, 106, 107, 108, 109, 110, 111, 112, 113, 114, 115, 116, 117, 118, 119, 120, 121, 122, 123, 124, 98, 99, 100, 101, 102, 103] (by decide +kernel) (by decide +kernel)) (goodIn_sub (fun _ h => List.mem_cons_of_mem _ (List.mem_append_left _ (List.mem_append_right _ h))) (by decide +kernel))) (goodIn_sub (fun _ h => List.mem_cons_of_mem _ (List.mem_append_right _ h)) (by decide +kernel))
set_option maxRecDepth 20000 in
theorem gX9_withLoansAndFaults_X9_fault : GoodIn wsX9_withLoansAndFaults (wsV RX9 359 RX9 yX9_fault wsX9_fault) := goodIn_app (goodIn_of _ (by decide +kernel)) ggX9_withLoansAndFaults_X9_fault
theorem dX9_withLoansAndFaults_0 : decode cX9_withLoansAndFaults 0 = .ok (.lload_n 1, 1) := by decide +kernel
theorem dX9_withLoansAndFaults_1 : decode cX9_withLoansAndFaults 1 = .ok (.lstore_n 3, 1) := by decide +kernel
theorem dX9_withLoansAndFaults_2 : decode cX9_withLoansAndFaults 2 = .ok (.iconst 0, 1) := by decide +kernel
theorem dX9_withLoansAndFaults_3 : decode cX9_withLoansAndFaults 3 = .ok (.istore 5, 2) := by decide +kernel
theorem dX9_withLoansAndFaults_5 : decode cX9_withLoansAndFaults 5 = .ok (.iload 5, 2) := by decide +kernel
theorem dX9_withLoansAndFaults_7 : decode cX9_withLoansAndFaults 7 = .ok (.aload_n 0, 1) := by decide +kernel
theorem dX9_withLoansAndFaults_8 : decode cX9_withLoansAndFaults 8 = .ok (.getfield 21, 3) := by decide +kernel
theorem dX9_withLoansAndFaults_11 : decode cX9_withLoansAndFaults 11 = .ok (.getfield 164, 3) := by decide +kernel
theorem dX9_withLoansAndFaults_14 : decode cX9_withLoansAndFaults 14 = .ok (.getfield 272, 3) := by decide +kernel
theorem dX9_withLoansAndFaults_17 : decode cX9_withLoansAndFaults 17 = .ok (.if_icmp .ge 40, 3) := by decide +kernel
theorem dX9_withLoansAndFaults_20 : decode cX9_withLoansAndFaults 20 = .ok (.iconst 0, 1) := by decide +kernel
theorem dX9_withLoansAndFaults_21 : decode cX9_withLoansAndFaults 21 = .ok (.istore 6, 2) := by decide +kernel
theorem dX9_withLoansAndFaults_23 : decode cX9_withLoansAndFaults 23 = .ok (.iload 6, 2) := by decide +kernel
theorem dX9_withLoansAndFaults_25 : decode cX9_withLoansAndFaults 25 = .ok (.iconst 3, 1) := by decide +kernel
theorem dX9_withLoansAndFaults_26 : decode cX9_withLoansAndFaults 26 = .ok (.if_icmp .gt 25, 3) := by decide +kernel
theorem dX9_withLoansAndFaults_29 : decode cX9_withLoansAndFaults 29 = .ok (.lload_n 3, 1) := by decide +kernel
theorem dX9_withLoansAndFaults_30 : decode cX9_withLoansAndFaults 30 = .ok (.ldc2_w 315, 3) := by decide +kernel
theorem dX9_withLoansAndFaults_33 : decode cX9_withLoansAndFaults 33 = .ok (.lmul, 1) := by decide +kernel
theorem dX9_withLoansAndFaults_34 : decode cX9_withLoansAndFaults 34 = .ok (.aload_n 0, 1) := by decide +kernel
theorem dX9_withLoansAndFaults_35 : decode cX9_withLoansAndFaults 35 = .ok (.iload 5, 2) := by decide +kernel
theorem dX9_withLoansAndFaults_37 : decode cX9_withLoansAndFaults 37 = .ok (.iload 6, 2) := by decide +kernel
theorem dX9_withLoansAndFaults_39 : decode cX9_withLoansAndFaults 39 = .ok (.invokevirtual 356, 3) := by decide +kernel
theorem dX9_withLoansAndFaults_42 : decode cX9_withLoansAndFaults 42 = .ok (.i2l, 1) := by decide +kernel
theorem dX9_withLoansAndFaults_43 : decode cX9_withLoansAndFaults 43 = .ok (.ladd, 1) := by decide +kernel
theorem dX9_withLoansAndFaults_44 : decode cX9_withLoansAndFaults 44 = .ok (.lstore_n 3, 1) := by decide +kernel
theorem dX9_withLoansAndFaults_45 : decode cX9_withLoansAndFaults 45 = .ok (.iinc 6 1, 3) := by decide +kernel
theorem dX9_withLoansAndFaults_48 : decode cX9_withLoansAndFaults 48 = .ok (.goto (-25), 3) := by decide +kernel
theorem dX9_withLoansAndFaults_51 : decode cX9_withLoansAndFaults 51 = .ok (.iinc 5 1, 3) := by decide +kernel
theorem dX9_withLoansAndFaults_54 : decode cX9_withLoansAndFaults 54 = .ok (.goto (-49), 3) := by decide +kernel
theorem dX9_withLoansAndFaults_57 : decode cX9_withLoansAndFaults 57 = .ok (.iconst 0, 1) := by decide +kernel
theorem dX9_withLoansAndFaults_58 : decode cX9_withLoansAndFaults 58 = .ok (.istore 5, 2) := by decide +kernel
theorem dX9_withLoansAndFaults_60 : decode cX9_withLoansAndFaults 60 = .ok (.iload 5, 2) := by decide +kernel
theorem dX9_withLoansAndFaults_62 : decode cX9_withLoansAndFaults 62 = .ok (.aload_n 0, 1) := by decide +kernel
theorem dX9_withLoansAndFaults_63 : decode cX9_withLoansAndFaults 63 = .ok (.getfield 21, 3) := by decide +kernel
theorem dX9_withLoansAndFaults_66 : decode cX9_withLoansAndFaults 66 = .ok (.getfield 187, 3) := by decide +kernel
theorem dX9_withLoansAndFaults_69 : decode cX9_withLoansAndFaults 69 = .ok (.getfield 221, 3) := by decide +kernel
theorem dX9_withLoansAndFaults_72 : decode cX9_withLoansAndFaults 72 = .ok (.if_icmp .ge 40, 3) := by decide +kernel
theorem dX9_withLoansAndFaults_75 : decode cX9_withLoansAndFaults 75 = .ok (.iconst 0, 1) := by decide +kernel
theorem dX9_withLoansAndFaults_76 : decode cX9_withLoansAndFaults 76 = .ok (.istore 6, 2) := by decide +kernel
theorem dX9_withLoansAndFaults_78 : decode cX9_withLoansAndFaults 78 = .ok (.iload 6, 2) := by decide +kernel
theorem dX9_withLoansAndFaults_80 : decode cX9_withLoansAndFaults 80 = .ok (.iconst 4, 1) := by decide +kernel
theorem dX9_withLoansAndFaults_81 : decode cX9_withLoansAndFaults 81 = .ok (.if_icmp .gt 25, 3) := by decide +kernel
theorem dX9_withLoansAndFaults_84 : decode cX9_withLoansAndFaults 84 = .ok (.lload_n 3, 1) := by decide +kernel
theorem dX9_withLoansAndFaults_85 : decode cX9_withLoansAndFaults 85 = .ok (.ldc2_w 315, 3) := by decide +kernel
theorem dX9_withLoansAndFaults_88 : decode cX9_withLoansAndFaults 88 = .ok (.lmul, 1) := by decide +kernel
theorem dX9_withLoansAndFaults_89 : decode cX9_withLoansAndFaults 89 = .ok (.aload_n 0, 1) := by decide +kernel
theorem dX9_withLoansAndFaults_90 : decode cX9_withLoansAndFaults 90 = .ok (.iload 5, 2) := by decide +kernel
theorem dX9_withLoansAndFaults_92 : decode cX9_withLoansAndFaults 92 = .ok (.iload 6, 2) := by decide +kernel
theorem dX9_withLoansAndFaults_94 : decode cX9_withLoansAndFaults 94 = .ok (.invokevirtual 359, 3) := by decide +kernel
theorem dX9_withLoansAndFaults_97 : decode cX9_withLoansAndFaults 97 = .ok (.i2l, 1) := by decide +kernel
theorem dX9_withLoansAndFaults_98 : decode cX9_withLoansAndFaults 98 = .ok (.ladd, 1) := by decide +kernel
theorem dX9_withLoansAndFaults_99 : decode cX9_withLoansAndFaults 99 = .ok (.lstore_n 3, 1) := by decide +kernel
theorem dX9_withLoansAndFaults_100 : decode cX9_withLoansAndFaults 100 = .ok (.iinc 6 1, 3) := by decide +kernel
theorem dX9_withLoansAndFaults_103 : decode cX9_withLoansAndFaults 103 = .ok (.goto (-25), 3) := by decide +kernel
theorem dX9_withLoansAndFaults_106 : decode cX9_withLoansAndFaults 106 = .ok (.iinc 5 1, 3) := by decide +kernel
theorem dX9_withLoansAndFaults_109 : decode cX9_withLoansAndFaults 109 = .ok (.goto (-49), 3) := by decide +kernel
theorem dX9_withLoansAndFaults_112 : decode cX9_withLoansAndFaults 112 = .ok (.lload_n 3, 1) := by decide +kernel
theorem dX9_withLoansAndFaults_113 : decode cX9_withLoansAndFaults 113 = .ok (.lreturn, 1) := by decide +kernel
set_option maxRecDepth 20000 in
theorem ggX9_withLatestRun_X9_ofRun : GoodIn wsX9_withLatestRun wsX9_ofRun := goodIn_ca (goodIn_r _ [8, 9, 10, 2, 11, 12, 3, 13, 14, 15, 16, 17, 18, 19, 20, 21, 22, 23, 24, 25, 26, 27, 28, 29, 30, 60, 61, 62, 63, 64, 65, 66, 67, 68, 69, 70, 71, 72, 73, 74, 75, 76, 77, 78, 79, 80, 81, 82, 83, 84, 85, 86, 87, 88, 89, 90, 91, 92, 93] (by decide +kernel) (by decide +kernel)) (goodIn_sub (fun _ h => List.mem_cons_of_mem _ (List.mem_append_left _ (List.mem_append_right _ h))) (by decide +kernel))
set_option maxRecDepth 20000 in
theorem gX9_withLatestRun_X9_ofRun : GoodIn wsX9_withLatestRun (wsV RX9 362 RX9 yX9_ofRun wsX9_ofRun) := goodIn_app (goodIn_of _ (by decide +kernel)) ggX9_withLatestRun_X9_ofRun
set_option maxRecDepth 20000 in
theorem ggX9_withLatestRun_X7_countKept : GoodIn wsX9_withLatestRun wsX7_countKept := goodIn_r _ [35, 36, 37, 38, 39, 40, 84, 85, 86, 87] (by decide +kernel) (by decide +kernel)
set_option maxRecDepth 20000 in
theorem gX9_withLatestRun_X7_countKept : GoodIn wsX9_withLatestRun (wsV RX9 365 RX7 yX7_countKept wsX7_countKept) := goodIn_app (goodIn_of _ (by decide +kernel)) ggX9_withLatestRun_X7_countKept
set_option maxRecDepth 20000 in
theorem ggX9_withLatestRun_X9_told : GoodIn wsX9_withLatestRun wsX9_told := goodIn_ca (goodIn_ca (goodIn_r _ [44, 45, 46, 9, 10, 2, 3, 47, 48, 49, 34, 50, 51, 32, 33, 35, 36, 37, 38, 39, 40, 52, 53, 54, 55, 56, 57, 58, 59, 60, 61, 62, 63, 64, 65, 66, 67, 68, 69, 70, 71, 72, 73, 74, 75, 76, 77, 78, 79, 80, 81, 82, 83, 84, 85, 86, 87] (by decide +kernel) (by decide +kernel)) (goodIn_sub (fun _ h => List.mem_cons_of_mem _ (List.mem_append_right _ h)) (by decide +kernel))) (goodIn_sub (fun _ h => List.mem_cons_of_mem _ (List.mem_append_left _ (List.mem_append_right _ h))) (by decide +kernel))
set_option maxRecDepth 20000 in
theorem gX9_withLatestRun_X9_told : GoodIn wsX9_withLatestRun (wsV RX9 368 RX9 yX9_told wsX9_told) := goodIn_app (goodIn_of _ (by decide +kernel)) ggX9_withLatestRun_X9_told
theorem dX9_withLatestRun_0 : decode cX9_withLatestRun 0 = .ok (.lload_n 1, 1) := by decide +kernel
theorem dX9_withLatestRun_1 : decode cX9_withLatestRun 1 = .ok (.lstore_n 3, 1) := by decide +kernel
theorem dX9_withLatestRun_2 : decode cX9_withLatestRun 2 = .ok (.iconst 0, 1) := by decide +kernel
theorem dX9_withLatestRun_3 : decode cX9_withLatestRun 3 = .ok (.istore 5, 2) := by decide +kernel
theorem dX9_withLatestRun_5 : decode cX9_withLatestRun 5 = .ok (.iload 5, 2) := by decide +kernel
theorem dX9_withLatestRun_7 : decode cX9_withLatestRun 7 = .ok (.bipush 9, 2) := by decide +kernel
theorem dX9_withLatestRun_9 : decode cX9_withLatestRun 9 = .ok (.if_icmp .gt 23, 3) := by decide +kernel
theorem dX9_withLatestRun_12 : decode cX9_withLatestRun 12 = .ok (.lload_n 3, 1) := by decide +kernel
theorem dX9_withLatestRun_13 : decode cX9_withLatestRun 13 = .ok (.ldc2_w 315, 3) := by decide +kernel
theorem dX9_withLatestRun_16 : decode cX9_withLatestRun 16 = .ok (.lmul, 1) := by decide +kernel
theorem dX9_withLatestRun_17 : decode cX9_withLatestRun 17 = .ok (.aload_n 0, 1) := by decide +kernel
theorem dX9_withLatestRun_18 : decode cX9_withLatestRun 18 = .ok (.iload 5, 2) := by decide +kernel
theorem dX9_withLatestRun_20 : decode cX9_withLatestRun 20 = .ok (.invokevirtual 362, 3) := by decide +kernel
theorem dX9_withLatestRun_23 : decode cX9_withLatestRun 23 = .ok (.i2l, 1) := by decide +kernel
theorem dX9_withLatestRun_24 : decode cX9_withLatestRun 24 = .ok (.ladd, 1) := by decide +kernel
theorem dX9_withLatestRun_25 : decode cX9_withLatestRun 25 = .ok (.lstore_n 3, 1) := by decide +kernel
theorem dX9_withLatestRun_26 : decode cX9_withLatestRun 26 = .ok (.iinc 5 1, 3) := by decide +kernel
theorem dX9_withLatestRun_29 : decode cX9_withLatestRun 29 = .ok (.goto (-24), 3) := by decide +kernel
theorem dX9_withLatestRun_32 : decode cX9_withLatestRun 32 = .ok (.aload_n 0, 1) := by decide +kernel
theorem dX9_withLatestRun_33 : decode cX9_withLatestRun 33 = .ok (.getfield 34, 3) := by decide +kernel
theorem dX9_withLatestRun_36 : decode cX9_withLatestRun 36 = .ok (.getfield 235, 3) := by decide +kernel
theorem dX9_withLatestRun_39 : decode cX9_withLatestRun 39 = .ok (.invokevirtual 365, 3) := by decide +kernel
theorem dX9_withLatestRun_42 : decode cX9_withLatestRun 42 = .ok (.istore 5, 2) := by decide +kernel
theorem dX9_withLatestRun_44 : decode cX9_withLatestRun 44 = .ok (.iconst 0, 1) := by decide +kernel
theorem dX9_withLatestRun_45 : decode cX9_withLatestRun 45 = .ok (.istore 6, 2) := by decide +kernel
theorem dX9_withLatestRun_47 : decode cX9_withLatestRun 47 = .ok (.iload 6, 2) := by decide +kernel
theorem dX9_withLatestRun_49 : decode cX9_withLatestRun 49 = .ok (.iload 5, 2) := by decide +kernel
theorem dX9_withLatestRun_51 : decode cX9_withLatestRun 51 = .ok (.if_icmp .ge 40, 3) := by decide +kernel
theorem dX9_withLatestRun_54 : decode cX9_withLatestRun 54 = .ok (.iconst 0, 1) := by decide +kernel
theorem dX9_withLatestRun_55 : decode cX9_withLatestRun 55 = .ok (.istore 7, 2) := by decide +kernel
theorem dX9_withLatestRun_57 : decode cX9_withLatestRun 57 = .ok (.iload 7, 2) := by decide +kernel
theorem dX9_withLatestRun_59 : decode cX9_withLatestRun 59 = .ok (.iconst 2, 1) := by decide +kernel
theorem dX9_withLatestRun_60 : decode cX9_withLatestRun 60 = .ok (.if_icmp .gt 25, 3) := by decide +kernel
theorem dX9_withLatestRun_63 : decode cX9_withLatestRun 63 = .ok (.lload_n 3, 1) := by decide +kernel
theorem dX9_withLatestRun_64 : decode cX9_withLatestRun 64 = .ok (.ldc2_w 315, 3) := by decide +kernel
theorem dX9_withLatestRun_67 : decode cX9_withLatestRun 67 = .ok (.lmul, 1) := by decide +kernel
theorem dX9_withLatestRun_68 : decode cX9_withLatestRun 68 = .ok (.aload_n 0, 1) := by decide +kernel
theorem dX9_withLatestRun_69 : decode cX9_withLatestRun 69 = .ok (.iload 6, 2) := by decide +kernel
theorem dX9_withLatestRun_71 : decode cX9_withLatestRun 71 = .ok (.iload 7, 2) := by decide +kernel
theorem dX9_withLatestRun_73 : decode cX9_withLatestRun 73 = .ok (.invokevirtual 368, 3) := by decide +kernel
theorem dX9_withLatestRun_76 : decode cX9_withLatestRun 76 = .ok (.i2l, 1) := by decide +kernel
theorem dX9_withLatestRun_77 : decode cX9_withLatestRun 77 = .ok (.ladd, 1) := by decide +kernel
theorem dX9_withLatestRun_78 : decode cX9_withLatestRun 78 = .ok (.lstore_n 3, 1) := by decide +kernel
theorem dX9_withLatestRun_79 : decode cX9_withLatestRun 79 = .ok (.iinc 7 1, 3) := by decide +kernel
theorem dX9_withLatestRun_82 : decode cX9_withLatestRun 82 = .ok (.goto (-25), 3) := by decide +kernel
theorem dX9_withLatestRun_85 : decode cX9_withLatestRun 85 = .ok (.iinc 6 1, 3) := by decide +kernel
theorem dX9_withLatestRun_88 : decode cX9_withLatestRun 88 = .ok (.goto (-41), 3) := by decide +kernel
theorem dX9_withLatestRun_91 : decode cX9_withLatestRun 91 = .ok (.lload_n 3, 1) := by decide +kernel
theorem dX9_withLatestRun_92 : decode cX9_withLatestRun 92 = .ok (.lreturn, 1) := by decide +kernel
theorem dX9_isSmall_0 : decode cX9_isSmall 0 = .ok (.iload_n 0, 1) := by decide +kernel
theorem dX9_isSmall_1 : decode cX9_isSmall 1 = .ok (.bipush (-99), 2) := by decide +kernel
theorem dX9_isSmall_3 : decode cX9_isSmall 3 = .ok (.if_icmp .lt 13, 3) := by decide +kernel
theorem dX9_isSmall_6 : decode cX9_isSmall 6 = .ok (.iload_n 0, 1) := by decide +kernel
theorem dX9_isSmall_7 : decode cX9_isSmall 7 = .ok (.bipush 99, 2) := by decide +kernel
theorem dX9_isSmall_9 : decode cX9_isSmall 9 = .ok (.if_icmp .gt 7, 3) := by decide +kernel
theorem dX9_isSmall_12 : decode cX9_isSmall 12 = .ok (.iconst 1, 1) := by decide +kernel
theorem dX9_isSmall_13 : decode cX9_isSmall 13 = .ok (.goto 4, 3) := by decide +kernel
theorem dX9_isSmall_16 : decode cX9_isSmall 16 = .ok (.iconst 0, 1) := by decide +kernel
theorem dX9_isSmall_17 : decode cX9_isSmall 17 = .ok (.ireturn, 1) := by decide +kernel
theorem dX9_isOwned_0 : decode cX9_isOwned 0 = .ok (.iload_n 0, 1) := by decide +kernel
theorem dX9_isOwned_1 : decode cX9_isOwned 1 = .ok (.iconst 1, 1) := by decide +kernel
theorem dX9_isOwned_2 : decode cX9_isOwned 2 = .ok (.if_icmp .eq 13, 3) := by decide +kernel
theorem dX9_isOwned_5 : decode cX9_isOwned 5 = .ok (.iload_n 0, 1) := by decide +kernel
theorem dX9_isOwned_6 : decode cX9_isOwned 6 = .ok (.iconst 2, 1) := by decide +kernel
theorem dX9_isOwned_7 : decode cX9_isOwned 7 = .ok (.if_icmp .eq 8, 3) := by decide +kernel
theorem dX9_isOwned_10 : decode cX9_isOwned 10 = .ok (.iload_n 0, 1) := by decide +kernel
theorem dX9_isOwned_11 : decode cX9_isOwned 11 = .ok (.iconst 5, 1) := by decide +kernel
theorem dX9_isOwned_12 : decode cX9_isOwned 12 = .ok (.if_icmp .ne 7, 3) := by decide +kernel
theorem dX9_isOwned_15 : decode cX9_isOwned 15 = .ok (.iconst 1, 1) := by decide +kernel
theorem dX9_isOwned_16 : decode cX9_isOwned 16 = .ok (.goto 4, 3) := by decide +kernel
theorem dX9_isOwned_19 : decode cX9_isOwned 19 = .ok (.iconst 0, 1) := by decide +kernel
theorem dX9_isOwned_20 : decode cX9_isOwned 20 = .ok (.ireturn, 1) := by decide +kernel
theorem dX9_isBorrowKind_0 : decode cX9_isBorrowKind 0 = .ok (.iload_n 0, 1) := by decide +kernel
theorem dX9_isBorrowKind_1 : decode cX9_isBorrowKind 1 = .ok (.iconst 3, 1) := by decide +kernel
theorem dX9_isBorrowKind_2 : decode cX9_isBorrowKind 2 = .ok (.if_icmp .eq 8, 3) := by decide +kernel
theorem dX9_isBorrowKind_5 : decode cX9_isBorrowKind 5 = .ok (.iload_n 0, 1) := by decide +kernel
theorem dX9_isBorrowKind_6 : decode cX9_isBorrowKind 6 = .ok (.iconst 4, 1) := by decide +kernel
theorem dX9_isBorrowKind_7 : decode cX9_isBorrowKind 7 = .ok (.if_icmp .ne 7, 3) := by decide +kernel
theorem dX9_isBorrowKind_10 : decode cX9_isBorrowKind 10 = .ok (.iconst 1, 1) := by decide +kernel
theorem dX9_isBorrowKind_11 : decode cX9_isBorrowKind 11 = .ok (.goto 4, 3) := by decide +kernel
theorem dX9_isBorrowKind_14 : decode cX9_isBorrowKind 14 = .ok (.iconst 0, 1) := by decide +kernel
theorem dX9_isBorrowKind_15 : decode cX9_isBorrowKind 15 = .ok (.ireturn, 1) := by decide +kernel
theorem dX9_canBeLent_0 : decode cX9_canBeLent 0 = .ok (.iload_n 0, 1) := by decide +kernel
theorem dX9_canBeLent_1 : decode cX9_canBeLent 1 = .ok (.ifCond .eq 13, 3) := by decide +kernel
theorem dX9_canBeLent_4 : decode cX9_canBeLent 4 = .ok (.iload_n 0, 1) := by decide +kernel
theorem dX9_canBeLent_5 : decode cX9_canBeLent 5 = .ok (.iconst 1, 1) := by decide +kernel
theorem dX9_canBeLent_6 : decode cX9_canBeLent 6 = .ok (.if_icmp .eq 8, 3) := by decide +kernel
theorem dX9_canBeLent_9 : decode cX9_canBeLent 9 = .ok (.iload_n 0, 1) := by decide +kernel
theorem dX9_canBeLent_10 : decode cX9_canBeLent 10 = .ok (.iconst 2, 1) := by decide +kernel
theorem dX9_canBeLent_11 : decode cX9_canBeLent 11 = .ok (.if_icmp .ne 7, 3) := by decide +kernel
theorem dX9_canBeLent_14 : decode cX9_canBeLent 14 = .ok (.iconst 1, 1) := by decide +kernel
theorem dX9_canBeLent_15 : decode cX9_canBeLent 15 = .ok (.goto 4, 3) := by decide +kernel
theorem dX9_canBeLent_18 : decode cX9_canBeLent 18 = .ok (.iconst 0, 1) := by decide +kernel
theorem dX9_canBeLent_19 : decode cX9_canBeLent 19 = .ok (.ireturn, 1) := by decide +kernel
theorem dX9_loansOf_0 : decode cX9_loansOf 0 = .ok (.iload_n 0, 1) := by decide +kernel
theorem dX9_loansOf_1 : decode cX9_loansOf 1 = .ok (.iconst 3, 1) := by decide +kernel
theorem dX9_loansOf_2 : decode cX9_loansOf 2 = .ok (.if_icmp .eq 8, 3) := by decide +kernel
theorem dX9_loansOf_5 : decode cX9_loansOf 5 = .ok (.iload_n 0, 1) := by decide +kernel
theorem dX9_loansOf_6 : decode cX9_loansOf 6 = .ok (.iconst 4, 1) := by decide +kernel
theorem dX9_loansOf_7 : decode cX9_loansOf 7 = .ok (.if_icmp .ne 7, 3) := by decide +kernel
theorem dX9_loansOf_10 : decode cX9_loansOf 10 = .ok (.iconst 1, 1) := by decide +kernel
theorem dX9_loansOf_11 : decode cX9_loansOf 11 = .ok (.goto 4, 3) := by decide +kernel
theorem dX9_loansOf_14 : decode cX9_loansOf 14 = .ok (.iconst 0, 1) := by decide +kernel
theorem dX9_loansOf_15 : decode cX9_loansOf 15 = .ok (.ireturn, 1) := by decide +kernel
theorem dX9_meets_0 : decode cX9_meets 0 = .ok (.iload_n 0, 1) := by decide +kernel
theorem dX9_meets_1 : decode cX9_meets 1 = .ok (.iload_n 1, 1) := by decide +kernel
theorem dX9_meets_2 : decode cX9_meets 2 = .ok (.if_icmp .ne 5, 3) := by decide +kernel
theorem dX9_meets_5 : decode cX9_meets 5 = .ok (.iconst 1, 1) := by decide +kernel
theorem dX9_meets_6 : decode cX9_meets 6 = .ok (.ireturn, 1) := by decide +kernel
theorem dX9_meets_7 : decode cX9_meets 7 = .ok (.iload_n 0, 1) := by decide +kernel
theorem dX9_meets_8 : decode cX9_meets 8 = .ok (.iconst 3, 1) := by decide +kernel
theorem dX9_meets_9 : decode cX9_meets 9 = .ok (.irem, 1) := by decide +kernel
theorem dX9_meets_10 : decode cX9_meets 10 = .ok (.ifCond .eq 9, 3) := by decide +kernel
theorem dX9_meets_13 : decode cX9_meets 13 = .ok (.iload_n 1, 1) := by decide +kernel
theorem dX9_meets_14 : decode cX9_meets 14 = .ok (.iconst 3, 1) := by decide +kernel
theorem dX9_meets_15 : decode cX9_meets 15 = .ok (.irem, 1) := by decide +kernel
theorem dX9_meets_16 : decode cX9_meets 16 = .ok (.ifCond .ne 7, 3) := by decide +kernel
theorem dX9_meets_19 : decode cX9_meets 19 = .ok (.iconst 1, 1) := by decide +kernel
theorem dX9_meets_20 : decode cX9_meets 20 = .ok (.goto 4, 3) := by decide +kernel
theorem dX9_meets_23 : decode cX9_meets 23 = .ok (.iconst 0, 1) := by decide +kernel
theorem dX9_meets_24 : decode cX9_meets 24 = .ok (.istore_n 2, 1) := by decide +kernel
theorem dX9_meets_25 : decode cX9_meets 25 = .ok (.iload_n 2, 1) := by decide +kernel
theorem dX9_meets_26 : decode cX9_meets 26 = .ok (.ifCond .eq 16, 3) := by decide +kernel
theorem dX9_meets_29 : decode cX9_meets 29 = .ok (.iload_n 0, 1) := by decide +kernel
theorem dX9_meets_30 : decode cX9_meets 30 = .ok (.iconst 3, 1) := by decide +kernel
theorem dX9_meets_31 : decode cX9_meets 31 = .ok (.idiv, 1) := by decide +kernel
theorem dX9_meets_32 : decode cX9_meets 32 = .ok (.iload_n 1, 1) := by decide +kernel
theorem dX9_meets_33 : decode cX9_meets 33 = .ok (.iconst 3, 1) := by decide +kernel
theorem dX9_meets_34 : decode cX9_meets 34 = .ok (.idiv, 1) := by decide +kernel
theorem dX9_meets_35 : decode cX9_meets 35 = .ok (.if_icmp .ne 7, 3) := by decide +kernel
theorem dX9_meets_38 : decode cX9_meets 38 = .ok (.iconst 1, 1) := by decide +kernel
theorem dX9_meets_39 : decode cX9_meets 39 = .ok (.goto 4, 3) := by decide +kernel
theorem dX9_meets_42 : decode cX9_meets 42 = .ok (.iconst 0, 1) := by decide +kernel
theorem dX9_meets_43 : decode cX9_meets 43 = .ok (.ireturn, 1) := by decide +kernel
theorem dX9_isIndexOf_0 : decode cX9_isIndexOf 0 = .ok (.iload_n 1, 1) := by decide +kernel
theorem dX9_isIndexOf_1 : decode cX9_isIndexOf 1 = .ok (.ifCond .lt 13, 3) := by decide +kernel
theorem dX9_isIndexOf_4 : decode cX9_isIndexOf 4 = .ok (.iload_n 1, 1) := by decide +kernel
theorem dX9_isIndexOf_5 : decode cX9_isIndexOf 5 = .ok (.aload_n 0, 1) := by decide +kernel
theorem dX9_isIndexOf_6 : decode cX9_isIndexOf 6 = .ok (.arraylength, 1) := by decide +kernel
theorem dX9_isIndexOf_7 : decode cX9_isIndexOf 7 = .ok (.if_icmp .ge 7, 3) := by decide +kernel
theorem dX9_isIndexOf_10 : decode cX9_isIndexOf 10 = .ok (.iconst 1, 1) := by decide +kernel
theorem dX9_isIndexOf_11 : decode cX9_isIndexOf 11 = .ok (.goto 4, 3) := by decide +kernel
theorem dX9_isIndexOf_14 : decode cX9_isIndexOf 14 = .ok (.iconst 0, 1) := by decide +kernel
theorem dX9_isIndexOf_15 : decode cX9_isIndexOf 15 = .ok (.ireturn, 1) := by decide +kernel
theorem dX10_init_0 : decode cX10_init 0 = .ok (.aload_n 0, 1) := by decide +kernel
theorem dX10_init_1 : decode cX10_init 1 = .ok (.invokespecial 1, 3) := by decide +kernel
theorem dX10_init_4 : decode cX10_init 4 = .ok (.aload_n 0, 1) := by decide +kernel
theorem dX10_init_5 : decode cX10_init 5 = .ok (.iload_n 1, 1) := by decide +kernel
theorem dX10_init_6 : decode cX10_init 6 = .ok (.putfield 7, 3) := by decide +kernel
theorem dX10_init_9 : decode cX10_init 9 = .ok (.return_, 1) := by decide +kernel
set_option maxRecDepth 20000 in
theorem ggX11_init_Jx4a65c_size_8abf5 : GoodIn wsX11_init wsJx4a65c_size_8abf5 := goodIn_r _ [24, 25, 257, 258, 259] (by decide +kernel) (by decide +kernel)
set_option maxRecDepth 20000 in
theorem gX11_init_Jx4a65c_size_8abf5 : GoodIn wsX11_init (wsV RX11 25 RJx4a65c yJx4a65c_size_8abf5 wsJx4a65c_size_8abf5) := goodIn_app (goodIn_of _ (by decide +kernel)) ggX11_init_Jx4a65c_size_8abf5
set_option maxRecDepth 20000 in
theorem ggX11_init_X11_join : GoodIn wsX11_init wsX11_join := goodIn_r _ [30, 31, 32, 23, 7, 17, 9, 5, 6, 33, 34, 35, 4, 36, 37, 38, 39, 40, 41, 42, 43, 44, 45, 46, 47, 48, 49, 50, 2, 3, 51, 52, 53, 54, 25, 55, 56, 57, 58, 59, 60, 61, 62, 63, 64, 65, 66, 67, 68, 69, 70, 20, 21, 22, 24, 71, 72, 73, 74, 75, 76, 77, 78, 79, 80, 81, 82, 83, 84, 85, 86, 87, 88, 89, 90, 91, 92, 93, 94, 95, 96, 97, 98, 99, 100, 101, 102, 103, 104, 105, 106, 107, 108, 109, 110, 111, 112, 113, 114, 115, 116, 117, 118, 119, 120, 121, 122, 123, 124, 125, 126, 127, 128, 129, 130, 131, 132, 133, 134, 135, 136, 137, 138, 139, 140, 141, 142, 143, 144, 145, 146, 147, 148, 149, 150, 151, 152, 153, 154, 155, 29, 156, 257, 258, 259, 246, 247, 248, 249, 250, 251, 252, 253, 254, 255, 256, 260, 261, 262, 263] (by decide +kernel) (by decide +kernel)
set_option maxRecDepth 20000 in
theorem gX11_init_X11_join : GoodIn wsX11_init (wsV RX11 62 RX11 yX11_join wsX11_join) := goodIn_app (goodIn_of _ (by decide +kernel)) ggX11_init_X11_join
set_option maxRecDepth 20000 in
theorem ggX11_init_X11_flow : GoodIn wsX11_init wsX11_flow := goodIn_r _ [160, 7, 12, 5, 6, 33, 14, 161, 162, 163, 164, 165, 166, 15, 18, 167, 168, 169, 8, 34, 170, 171, 9, 51, 52, 53, 23, 54, 25, 55, 56, 57, 58, 59, 60, 61, 62, 63, 64, 65, 66, 40, 172, 173, 174, 29, 175, 176, 177, 178, 179, 180, 17, 181, 182, 183, 184, 185, 186, 187, 21, 22, 24, 188, 189, 190, 191, 192, 72, 73, 74, 75, 76, 193, 194, 195, 196, 197, 198, 199, 200, 201, 202, 203, 204, 205, 206, 207, 208, 209, 210, 211, 212, 213, 246, 247, 248, 249, 250, 251, 252, 253, 254, 255, 256, 260, 261, 262, 257, 258, 259, 263] (by decide +kernel) (by decide +kernel)
set_option maxRecDepth 20000 in
theorem gX11_init_X11_flow : GoodIn wsX11_init (wsV RX11 65 RX11 yX11_flow wsX11_flow) := goodIn_app (goodIn_of _ (by decide +kernel)) ggX11_init_X11_flow
set_option maxRecDepth 20000 in
theorem ggX11_init_X11_want : GoodIn wsX11_init wsX11_want := goodIn_r _ [217, 7, 5, 10, 19, 20, 21, 22, 23, 24, 25, 218, 219, 220, 29, 221, 6, 33, 222, 223, 224, 179, 225, 181, 182, 183, 184, 185, 186, 187, 188, 189, 190, 191, 52, 53, 54, 55, 56, 57, 58, 59, 60, 61, 62, 63, 64, 65, 66, 40, 192, 72, 73, 74, 75, 76, 51, 226, 227, 228, 229, 230, 231, 232, 233, 234, 17, 235, 236, 237, 238, 239, 240, 241, 194, 195, 196, 197, 198, 242, 243, 244, 245, 9, 246, 247, 248, 249, 250, 251, 252, 253, 254, 255, 256, 257, 258, 259, 263, 260, 261, 262] (by decide +kernel) (by decide +kernel)
set_option maxRecDepth 20000 in
theorem gX11_init_X11_want : GoodIn wsX11_init (wsV RX11 69 RX11 yX11_want wsX11_want) := goodIn_app (goodIn_of _ (by decide +kernel)) ggX11_init_X11_want
theorem dX11_init_0 : decode cX11_init 0 = .ok (.aload_n 0, 1) := by decide +kernel
theorem dX11_init_1 : decode cX11_init 1 = .ok (.invokespecial 3, 3) := by decide +kernel
theorem dX11_init_4 : decode cX11_init 4 = .ok (.aload_n 0, 1) := by decide +kernel
theorem dX11_init_5 : decode cX11_init 5 = .ok (.iconst (-1), 1) := by decide +kernel
theorem dX11_init_6 : decode cX11_init 6 = .ok (.putfield 9, 3) := by decide +kernel
theorem dX11_init_9 : decode cX11_init 9 = .ok (.aload_n 0, 1) := by decide +kernel
theorem dX11_init_10 : decode cX11_init 10 = .ok (.aload_n 1, 1) := by decide +kernel
theorem dX11_init_11 : decode cX11_init 11 = .ok (.putfield 15, 3) := by decide +kernel
theorem dX11_init_14 : decode cX11_init 14 = .ok (.aload_n 0, 1) := by decide +kernel
theorem dX11_init_15 : decode cX11_init 15 = .ok (.aload_n 1, 1) := by decide +kernel
theorem dX11_init_16 : decode cX11_init 16 = .ok (.getfield 19, 3) := by decide +kernel
theorem dX11_init_19 : decode cX11_init 19 = .ok (.invokevirtual 25, 3) := by decide +kernel
theorem dX11_init_22 : decode cX11_init 22 = .ok (.putfield 31, 3) := by decide +kernel
theorem dX11_init_25 : decode cX11_init 25 = .ok (.aload_n 0, 1) := by decide +kernel
theorem dX11_init_26 : decode cX11_init 26 = .ok (.aload_n 0, 1) := by decide +kernel
theorem dX11_init_27 : decode cX11_init 27 = .ok (.getfield 31, 3) := by decide +kernel
theorem dX11_init_30 : decode cX11_init 30 = .ok (.iconst 1, 1) := by decide +kernel
theorem dX11_init_31 : decode cX11_init 31 = .ok (.iadd, 1) := by decide +kernel
theorem dX11_init_32 : decode cX11_init 32 = .ok (.anewarray 34, 3) := by decide +kernel
theorem dX11_init_35 : decode cX11_init 35 = .ok (.putfield 36, 3) := by decide +kernel
theorem dX11_init_38 : decode cX11_init 38 = .ok (.iconst 3, 1) := by decide +kernel
theorem dX11_init_39 : decode cX11_init 39 = .ok (.aload_n 1, 1) := by decide +kernel
theorem dX11_init_40 : decode cX11_init 40 = .ok (.getfield 40, 3) := by decide +kernel
theorem dX11_init_43 : decode cX11_init 43 = .ok (.invokevirtual 25, 3) := by decide +kernel
theorem dX11_init_46 : decode cX11_init 46 = .ok (.imul, 1) := by decide +kernel
theorem dX11_init_47 : decode cX11_init 47 = .ok (.istore_n 2, 1) := by decide +kernel
theorem dX11_init_48 : decode cX11_init 48 = .ok (.aload_n 0, 1) := by decide +kernel
theorem dX11_init_49 : decode cX11_init 49 = .ok (.aload_n 0, 1) := by decide +kernel
theorem dX11_init_50 : decode cX11_init 50 = .ok (.getfield 31, 3) := by decide +kernel
theorem dX11_init_53 : decode cX11_init 53 = .ok (.iconst 1, 1) := by decide +kernel
theorem dX11_init_54 : decode cX11_init 54 = .ok (.iadd, 1) := by decide +kernel
theorem dX11_init_55 : decode cX11_init 55 = .ok (.newarray .boolean, 2) := by decide +kernel
theorem dX11_init_57 : decode cX11_init 57 = .ok (.putfield 43, 3) := by decide +kernel
theorem dX11_init_60 : decode cX11_init 60 = .ok (.aload_n 0, 1) := by decide +kernel
theorem dX11_init_61 : decode cX11_init 61 = .ok (.aload_n 0, 1) := by decide +kernel
theorem dX11_init_62 : decode cX11_init 62 = .ok (.getfield 31, 3) := by decide +kernel
theorem dX11_init_65 : decode cX11_init 65 = .ok (.iconst 1, 1) := by decide +kernel
theorem dX11_init_66 : decode cX11_init 66 = .ok (.iadd, 1) := by decide +kernel
theorem dX11_init_67 : decode cX11_init 67 = .ok (.iload_n 2, 1) := by decide +kernel
theorem dX11_init_68 : decode cX11_init 68 = .ok (.multianewarray 47 2, 4) := by decide +kernel
theorem dX11_init_72 : decode cX11_init 72 = .ok (.putfield 49, 3) := by decide +kernel
theorem dX11_init_75 : decode cX11_init 75 = .ok (.aload_n 0, 1) := by decide +kernel
theorem dX11_init_76 : decode cX11_init 76 = .ok (.aload_n 0, 1) := by decide +kernel
theorem dX11_init_77 : decode cX11_init 77 = .ok (.getfield 31, 3) := by decide +kernel
theorem dX11_init_80 : decode cX11_init 80 = .ok (.iconst 1, 1) := by decide +kernel
theorem dX11_init_81 : decode cX11_init 81 = .ok (.iadd, 1) := by decide +kernel
theorem dX11_init_82 : decode cX11_init 82 = .ok (.iload_n 2, 1) := by decide +kernel
theorem dX11_init_83 : decode cX11_init 83 = .ok (.multianewarray 47 2, 4) := by decide +kernel
theorem dX11_init_87 : decode cX11_init 87 = .ok (.putfield 52, 3) := by decide +kernel
theorem dX11_init_90 : decode cX11_init 90 = .ok (.aload_n 0, 1) := by decide +kernel
theorem dX11_init_91 : decode cX11_init 91 = .ok (.aload_n 0, 1) := by decide +kernel
theorem dX11_init_92 : decode cX11_init 92 = .ok (.getfield 31, 3) := by decide +kernel
theorem dX11_init_95 : decode cX11_init 95 = .ok (.iconst 1, 1) := by decide +kernel
theorem dX11_init_96 : decode cX11_init 96 = .ok (.iadd, 1) := by decide +kernel
theorem dX11_init_97 : decode cX11_init 97 = .ok (.aload_n 1, 1) := by decide +kernel
theorem dX11_init_98 : decode cX11_init 98 = .ok (.getfield 40, 3) := by decide +kernel
theorem dX11_init_101 : decode cX11_init 101 = .ok (.invokevirtual 25, 3) := by decide +kernel
theorem dX11_init_104 : decode cX11_init 104 = .ok (.multianewarray 55 2, 4) := by decide +kernel
theorem dX11_init_108 : decode cX11_init 108 = .ok (.putfield 56, 3) := by decide +kernel
theorem dX11_init_111 : decode cX11_init 111 = .ok (.aload_n 0, 1) := by decide +kernel
theorem dX11_init_112 : decode cX11_init 112 = .ok (.aload_n 0, 1) := by decide +kernel
theorem dX11_init_113 : decode cX11_init 113 = .ok (.getfield 31, 3) := by decide +kernel
theorem dX11_init_116 : decode cX11_init 116 = .ok (.iconst 1, 1) := by decide +kernel
theorem dX11_init_117 : decode cX11_init 117 = .ok (.iadd, 1) := by decide +kernel
theorem dX11_init_118 : decode cX11_init 118 = .ok (.aload_n 1, 1) := by decide +kernel
theorem dX11_init_119 : decode cX11_init 119 = .ok (.getfield 40, 3) := by decide +kernel
theorem dX11_init_122 : decode cX11_init 122 = .ok (.invokevirtual 25, 3) := by decide +kernel
theorem dX11_init_125 : decode cX11_init 125 = .ok (.multianewarray 47 2, 4) := by decide +kernel
theorem dX11_init_129 : decode cX11_init 129 = .ok (.putfield 59, 3) := by decide +kernel
theorem dX11_init_132 : decode cX11_init 132 = .ok (.aload_n 0, 1) := by decide +kernel
theorem dX11_init_133 : decode cX11_init 133 = .ok (.invokevirtual 62, 3) := by decide +kernel
theorem dX11_init_136 : decode cX11_init 136 = .ok (.aload_n 0, 1) := by decide +kernel
theorem dX11_init_137 : decode cX11_init 137 = .ok (.getfield 9, 3) := by decide +kernel
theorem dX11_init_140 : decode cX11_init 140 = .ok (.iconst (-1), 1) := by decide +kernel
theorem dX11_init_141 : decode cX11_init 141 = .ok (.if_icmp .eq 4, 3) := by decide +kernel
theorem dX11_init_144 : decode cX11_init 144 = .ok (.return_, 1) := by decide +kernel
theorem dX11_init_145 : decode cX11_init 145 = .ok (.aload_n 0, 1) := by decide +kernel
theorem dX11_init_146 : decode cX11_init 146 = .ok (.getfield 43, 3) := by decide +kernel
theorem dX11_init_149 : decode cX11_init 149 = .ok (.iconst 0, 1) := by decide +kernel
theorem dX11_init_150 : decode cX11_init 150 = .ok (.iconst 1, 1) := by decide +kernel
theorem dX11_init_151 : decode cX11_init 151 = .ok (.bastore, 1) := by decide +kernel
theorem dX11_init_152 : decode cX11_init 152 = .ok (.iconst 0, 1) := by decide +kernel
theorem dX11_init_153 : decode cX11_init 153 = .ok (.istore_n 3, 1) := by decide +kernel
theorem dX11_init_154 : decode cX11_init 154 = .ok (.iload_n 3, 1) := by decide +kernel
theorem dX11_init_155 : decode cX11_init 155 = .ok (.iload_n 2, 1) := by decide +kernel
theorem dX11_init_156 : decode cX11_init 156 = .ok (.if_icmp .ge 18, 3) := by decide +kernel
theorem dX11_init_159 : decode cX11_init 159 = .ok (.aload_n 0, 1) := by decide +kernel
theorem dX11_init_160 : decode cX11_init 160 = .ok (.getfield 52, 3) := by decide +kernel
theorem dX11_init_163 : decode cX11_init 163 = .ok (.iconst 0, 1) := by decide +kernel
theorem dX11_init_164 : decode cX11_init 164 = .ok (.aaload, 1) := by decide +kernel
theorem dX11_init_165 : decode cX11_init 165 = .ok (.iload_n 3, 1) := by decide +kernel
theorem dX11_init_166 : decode cX11_init 166 = .ok (.iconst 1, 1) := by decide +kernel
theorem dX11_init_167 : decode cX11_init 167 = .ok (.bastore, 1) := by decide +kernel
theorem dX11_init_168 : decode cX11_init 168 = .ok (.iinc 3 1, 3) := by decide +kernel
theorem dX11_init_171 : decode cX11_init 171 = .ok (.goto (-17), 3) := by decide +kernel
theorem dX11_init_174 : decode cX11_init 174 = .ok (.iconst 1, 1) := by decide +kernel
theorem dX11_init_175 : decode cX11_init 175 = .ok (.istore_n 3, 1) := by decide +kernel
theorem dX11_init_176 : decode cX11_init 176 = .ok (.iload_n 3, 1) := by decide +kernel
theorem dX11_init_177 : decode cX11_init 177 = .ok (.ifCond .eq 11, 3) := by decide +kernel
theorem dX11_init_180 : decode cX11_init 180 = .ok (.aload_n 0, 1) := by decide +kernel
theorem dX11_init_181 : decode cX11_init 181 = .ok (.invokevirtual 65, 3) := by decide +kernel
theorem dX11_init_184 : decode cX11_init 184 = .ok (.istore_n 3, 1) := by decide +kernel
theorem dX11_init_185 : decode cX11_init 185 = .ok (.goto (-9), 3) := by decide +kernel
theorem dX11_init_188 : decode cX11_init 188 = .ok (.iconst 1, 1) := by decide +kernel
theorem dX11_init_189 : decode cX11_init 189 = .ok (.istore_n 3, 1) := by decide +kernel
theorem dX11_init_190 : decode cX11_init 190 = .ok (.iload_n 3, 1) := by decide +kernel
theorem dX11_init_191 : decode cX11_init 191 = .ok (.ifCond .eq 11, 3) := by decide +kernel
theorem dX11_init_194 : decode cX11_init 194 = .ok (.aload_n 0, 1) := by decide +kernel
theorem dX11_init_195 : decode cX11_init 195 = .ok (.invokevirtual 69, 3) := by decide +kernel
theorem dX11_init_198 : decode cX11_init 198 = .ok (.istore_n 3, 1) := by decide +kernel
theorem dX11_init_199 : decode cX11_init 199 = .ok (.goto (-9), 3) := by decide +kernel
theorem dX11_init_202 : decode cX11_init 202 = .ok (.return_, 1) := by decide +kernel
theorem dX11_isWhole_0 : decode cX11_isWhole 0 = .ok (.aload_n 0, 1) := by decide +kernel
theorem dX11_isWhole_1 : decode cX11_isWhole 1 = .ok (.getfield 9, 3) := by decide +kernel
theorem dX11_isWhole_4 : decode cX11_isWhole 4 = .ok (.iconst (-1), 1) := by decide +kernel
theorem dX11_isWhole_5 : decode cX11_isWhole 5 = .ok (.if_icmp .ne 7, 3) := by decide +kernel
theorem dX11_isWhole_8 : decode cX11_isWhole 8 = .ok (.iconst 1, 1) := by decide +kernel
theorem dX11_isWhole_9 : decode cX11_isWhole 9 = .ok (.goto 4, 3) := by decide +kernel
theorem dX11_isWhole_12 : decode cX11_isWhole 12 = .ok (.iconst 0, 1) := by decide +kernel
theorem dX11_isWhole_13 : decode cX11_isWhole 13 = .ok (.ireturn, 1) := by decide +kernel
set_option maxRecDepth 20000 in
theorem ggX11_join_Jx4a65c_init_da8c8 : GoodIn wsX11_join wsJx4a65c_init_da8c8 := goodIn_r _ [15, 16, 17, 18, 19, 20, 21, 22, 23, 24, 25, 26, 27, 28, 29, 142, 143, 144] (by decide +kernel) (by decide +kernel)
set_option maxRecDepth 20000 in
theorem gX11_join_Jx4a65c_init_da8c8 : GoodIn wsX11_join (wsJx4a65c_init_da8c8) := ggX11_join_Jx4a65c_init_da8c8
set_option maxRecDepth 20000 in
theorem ggX11_join_Jx4a65c_get_915e3 : GoodIn wsX11_join wsJx4a65c_get_915e3 := goodIn_r _ [33, 34, 35, 36, 37, 38, 39, 40, 41, 42, 43, 44, 45, 3, 46, 17, 142, 143, 144] (by decide +kernel) (by decide +kernel)
set_option maxRecDepth 20000 in
theorem gX11_join_Jx4a65c_get_915e3 : GoodIn wsX11_join (wsV RX11 73 RJx4a65c yJx4a65c_get_915e3 wsJx4a65c_get_915e3) := goodIn_app (goodIn_of _ (by decide +kernel)) ggX11_join_Jx4a65c_get_915e3
set_option maxRecDepth 20000 in
theorem ggX11_join_Jx4a65c_isEmpty_aae02 : GoodIn wsX11_join wsJx4a65c_isEmpty_aae02 := goodIn_r _ [50, 34, 142, 143, 144] (by decide +kernel) (by decide +kernel)
set_option maxRecDepth 20000 in
theorem gX11_join_Jx4a65c_isEmpty_aae02 : GoodIn wsX11_join (wsV RX11 82 RJx4a65c yJx4a65c_isEmpty_aae02 wsJx4a65c_isEmpty_aae02) := goodIn_app (goodIn_of _ (by decide +kernel)) ggX11_join_Jx4a65c_isEmpty_aae02
set_option maxRecDepth 20000 in
theorem ggX11_join_Jx4a65c_size_8abf5 : GoodIn wsX11_join wsJx4a65c_size_8abf5 := goodIn_r _ [54, 34, 142, 143, 144] (by decide +kernel) (by decide +kernel)
set_option maxRecDepth 20000 in
theorem gX11_join_Jx4a65c_size_8abf5 : GoodIn wsX11_join (wsV RX11 25 RJx4a65c yJx4a65c_size_8abf5 wsJx4a65c_size_8abf5) := goodIn_app (goodIn_of _ (by decide +kernel)) ggX11_join_Jx4a65c_size_8abf5
set_option maxRecDepth 20000 in
theorem ggX11_join_J6_intValue_8abf5 : GoodIn wsX11_join wsJ6_intValue_8abf5 := goodIn_r _ [59, 60, 159] (by decide +kernel) (by decide +kernel)
set_option maxRecDepth 20000 in
theorem gX11_join_J6_intValue_8abf5 : GoodIn wsX11_join (wsV RX11 87 RJ6 yJ6_intValue_8abf5 wsJ6_intValue_8abf5) := goodIn_app (goodIn_of _ (by decide +kernel)) ggX11_join_J6_intValue_8abf5
set_option maxRecDepth 20000 in
theorem ggX11_join_J6_valueOf_2dffe : GoodIn wsX11_join wsJ6_valueOf_2dffe := goodIn_r _ [63, 64, 65, 66, 67, 58, 68, 69, 70, 60, 71, 72, 73, 74, 75, 28, 29, 159] (by decide +kernel) (by decide +kernel)
set_option maxRecDepth 20000 in
theorem gX11_join_J6_valueOf_2dffe : GoodIn wsX11_join (va_wsS RX11 90 yJ6_valueOf_2dffe wsJ6_valueOf_2dffe) := goodIn_app (goodIn_of _ (by decide +kernel)) ggX11_join_J6_valueOf_2dffe
set_option maxRecDepth 20000 in
theorem ggX11_join_Jx4a65c_add_9ea2d : GoodIn wsX11_join wsJx4a65c_add_9ea2d := goodIn_r _ [79, 80, 81, 17, 34, 82, 83, 84, 3, 85, 86, 87, 88, 89, 90, 91, 92, 93, 16, 94, 95, 96, 97, 98, 99, 100, 101, 102, 103, 104, 105, 106, 107, 108, 109, 110, 111, 112, 113, 114, 115, 116, 117, 118, 119, 120, 121, 122, 123, 124, 125, 126, 127, 142, 143, 144] (by decide +kernel) (by decide +kernel)
set_option maxRecDepth 20000 in
theorem gX11_join_Jx4a65c_add_9ea2d : GoodIn wsX11_join (wsV RX11 94 RJx4a65c yJx4a65c_add_9ea2d wsJx4a65c_add_9ea2d) := goodIn_app (goodIn_of _ (by decide +kernel)) ggX11_join_Jx4a65c_add_9ea2d
set_option maxRecDepth 20000 in
theorem ggX11_join_Jx4a65c_remove_915e3 : GoodIn wsX11_join wsJx4a65c_remove_915e3 := goodIn_r _ [131, 34, 17, 35, 36, 37, 38, 39, 40, 41, 42, 132, 133, 134, 3, 135, 80, 81, 136, 125, 126, 127, 142, 143, 144] (by decide +kernel) (by decide +kernel)
set_option maxRecDepth 20000 in
theorem gX11_join_Jx4a65c_remove_915e3 : GoodIn wsX11_join (wsV RX11 98 RJx4a65c yJx4a65c_remove_915e3 wsJx4a65c_remove_915e3) := goodIn_app (goodIn_of _ (by decide +kernel)) ggX11_join_Jx4a65c_remove_915e3
set_option maxRecDepth 20000 in
theorem ggX11_join_X11_close : GoodIn wsX11_join wsX11_close := goodIn_r _ [141, 7, 8, 9, 10, 6, 5, 30, 31, 32, 3, 33, 34, 35, 36, 37, 38, 39, 40, 41, 42, 43, 44, 45, 46, 17, 145, 146, 147, 148, 149, 150, 151, 152, 153, 154, 155, 156, 157, 158, 142, 143, 144] (by decide +kernel) (by decide +kernel)
set_option maxRecDepth 20000 in
theorem gX11_join_X11_close : GoodIn wsX11_join (wsV RX11 101 RX11 yX11_close wsX11_close) := goodIn_app (goodIn_of _ (by decide +kernel)) ggX11_join_X11_close
theorem dX11_join_0 : decode cX11_join 0 = .ok (.new 26, 3) := by decide +kernel
theorem dX11_join_3 : decode cX11_join 3 = .ok (.dup, 1) := by decide +kernel
theorem dX11_join_4 : decode cX11_join 4 = .ok (.invokespecial 72, 3) := by decide +kernel
theorem dX11_join_7 : decode cX11_join 7 = .ok (.astore_n 1, 1) := by decide +kernel
theorem dX11_join_8 : decode cX11_join 8 = .ok (.aload_n 0, 1) := by decide +kernel
theorem dX11_join_9 : decode cX11_join 9 = .ok (.getfield 31, 3) := by decide +kernel
theorem dX11_join_12 : decode cX11_join 12 = .ok (.iconst 1, 1) := by decide +kernel
theorem dX11_join_13 : decode cX11_join 13 = .ok (.iadd, 1) := by decide +kernel
theorem dX11_join_14 : decode cX11_join 14 = .ok (.newarray .int, 2) := by decide +kernel
theorem dX11_join_16 : decode cX11_join 16 = .ok (.astore_n 2, 1) := by decide +kernel
theorem dX11_join_17 : decode cX11_join 17 = .ok (.iconst 0, 1) := by decide +kernel
theorem dX11_join_18 : decode cX11_join 18 = .ok (.istore_n 3, 1) := by decide +kernel
theorem dX11_join_19 : decode cX11_join 19 = .ok (.iload_n 3, 1) := by decide +kernel
theorem dX11_join_20 : decode cX11_join 20 = .ok (.aload_n 0, 1) := by decide +kernel
theorem dX11_join_21 : decode cX11_join 21 = .ok (.getfield 31, 3) := by decide +kernel
theorem dX11_join_24 : decode cX11_join 24 = .ok (.if_icmp .gt 42, 3) := by decide +kernel
theorem dX11_join_27 : decode cX11_join 27 = .ok (.aload_n 0, 1) := by decide +kernel
theorem dX11_join_28 : decode cX11_join 28 = .ok (.getfield 36, 3) := by decide +kernel
theorem dX11_join_31 : decode cX11_join 31 = .ok (.iload_n 3, 1) := by decide +kernel
theorem dX11_join_32 : decode cX11_join 32 = .ok (.iload_n 3, 1) := by decide +kernel
theorem dX11_join_33 : decode cX11_join 33 = .ok (.aload_n 0, 1) := by decide +kernel
theorem dX11_join_34 : decode cX11_join 34 = .ok (.getfield 31, 3) := by decide +kernel
theorem dX11_join_37 : decode cX11_join 37 = .ok (.if_icmp .ne 9, 3) := by decide +kernel
theorem dX11_join_40 : decode cX11_join 40 = .ok (.iconst 0, 1) := by decide +kernel
theorem dX11_join_41 : decode cX11_join 41 = .ok (.newarray .int, 2) := by decide +kernel
theorem dX11_join_43 : decode cX11_join 43 = .ok (.goto 12, 3) := by decide +kernel
theorem dX11_join_46 : decode cX11_join 46 = .ok (.iconst 1, 1) := by decide +kernel
theorem dX11_join_47 : decode cX11_join 47 = .ok (.newarray .int, 2) := by decide +kernel
theorem dX11_join_49 : decode cX11_join 49 = .ok (.dup, 1) := by decide +kernel
theorem dX11_join_50 : decode cX11_join 50 = .ok (.iconst 0, 1) := by decide +kernel
theorem dX11_join_51 : decode cX11_join 51 = .ok (.iload_n 3, 1) := by decide +kernel
theorem dX11_join_52 : decode cX11_join 52 = .ok (.iconst 1, 1) := by decide +kernel
theorem dX11_join_53 : decode cX11_join 53 = .ok (.iadd, 1) := by decide +kernel
theorem dX11_join_54 : decode cX11_join 54 = .ok (.iastore, 1) := by decide +kernel
theorem dX11_join_55 : decode cX11_join 55 = .ok (.aastore, 1) := by decide +kernel
theorem dX11_join_56 : decode cX11_join 56 = .ok (.aload_n 2, 1) := by decide +kernel
theorem dX11_join_57 : decode cX11_join 57 = .ok (.iload_n 3, 1) := by decide +kernel
theorem dX11_join_58 : decode cX11_join 58 = .ok (.iconst (-1), 1) := by decide +kernel
theorem dX11_join_59 : decode cX11_join 59 = .ok (.iastore, 1) := by decide +kernel
theorem dX11_join_60 : decode cX11_join 60 = .ok (.iinc 3 1, 3) := by decide +kernel
theorem dX11_join_63 : decode cX11_join 63 = .ok (.goto (-44), 3) := by decide +kernel
theorem dX11_join_66 : decode cX11_join 66 = .ok (.iconst 0, 1) := by decide +kernel
theorem dX11_join_67 : decode cX11_join 67 = .ok (.istore_n 3, 1) := by decide +kernel
theorem dX11_join_68 : decode cX11_join 68 = .ok (.iload_n 3, 1) := by decide +kernel
theorem dX11_join_69 : decode cX11_join 69 = .ok (.aload_n 0, 1) := by decide +kernel
theorem dX11_join_70 : decode cX11_join 70 = .ok (.getfield 31, 3) := by decide +kernel
theorem dX11_join_73 : decode cX11_join 73 = .ok (.if_icmp .ge 195, 3) := by decide +kernel
theorem dX11_join_76 : decode cX11_join 76 = .ok (.aload_n 0, 1) := by decide +kernel
theorem dX11_join_77 : decode cX11_join 77 = .ok (.getfield 15, 3) := by decide +kernel
theorem dX11_join_80 : decode cX11_join 80 = .ok (.getfield 19, 3) := by decide +kernel
theorem dX11_join_83 : decode cX11_join 83 = .ok (.iload_n 3, 1) := by decide +kernel
theorem dX11_join_84 : decode cX11_join 84 = .ok (.invokevirtual 73, 3) := by decide +kernel
theorem dX11_join_87 : decode cX11_join 87 = .ok (.checkcast 77, 3) := by decide +kernel
theorem dX11_join_90 : decode cX11_join 90 = .ok (.getfield 79, 3) := by decide +kernel
theorem dX11_join_93 : decode cX11_join 93 = .ok (.istore 4, 2) := by decide +kernel
theorem dX11_join_95 : decode cX11_join 95 = .ok (.aload_n 1, 1) := by decide +kernel
theorem dX11_join_96 : decode cX11_join 96 = .ok (.invokevirtual 82, 3) := by decide +kernel
theorem dX11_join_99 : decode cX11_join 99 = .ok (.ifCond .eq 7, 3) := by decide +kernel
theorem dX11_join_102 : decode cX11_join 102 = .ok (.iconst (-1), 1) := by decide +kernel
theorem dX11_join_103 : decode cX11_join 103 = .ok (.goto 19, 3) := by decide +kernel
theorem dX11_join_106 : decode cX11_join 106 = .ok (.aload_n 1, 1) := by decide +kernel
theorem dX11_join_107 : decode cX11_join 107 = .ok (.aload_n 1, 1) := by decide +kernel
theorem dX11_join_108 : decode cX11_join 108 = .ok (.invokevirtual 25, 3) := by decide +kernel
theorem dX11_join_111 : decode cX11_join 111 = .ok (.iconst 1, 1) := by decide +kernel
theorem dX11_join_112 : decode cX11_join 112 = .ok (.isub, 1) := by decide +kernel
theorem dX11_join_113 : decode cX11_join 113 = .ok (.invokevirtual 73, 3) := by decide +kernel
theorem dX11_join_116 : decode cX11_join 116 = .ok (.checkcast 85, 3) := by decide +kernel
theorem dX11_join_119 : decode cX11_join 119 = .ok (.invokevirtual 87, 3) := by decide +kernel
theorem dX11_join_122 : decode cX11_join 122 = .ok (.istore 5, 2) := by decide +kernel
theorem dX11_join_124 : decode cX11_join 124 = .ok (.iload 4, 2) := by decide +kernel
theorem dX11_join_126 : decode cX11_join 126 = .ok (.bipush 8, 2) := by decide +kernel
theorem dX11_join_128 : decode cX11_join 128 = .ok (.if_icmp .eq 10, 3) := by decide +kernel
theorem dX11_join_131 : decode cX11_join 131 = .ok (.iload 4, 2) := by decide +kernel
theorem dX11_join_133 : decode cX11_join 133 = .ok (.bipush 10, 2) := by decide +kernel
theorem dX11_join_135 : decode cX11_join 135 = .ok (.if_icmp .ne 12, 3) := by decide +kernel
theorem dX11_join_138 : decode cX11_join 138 = .ok (.aload_n 1, 1) := by decide +kernel
theorem dX11_join_139 : decode cX11_join 139 = .ok (.iload_n 3, 1) := by decide +kernel
theorem dX11_join_140 : decode cX11_join 140 = .ok (.invokestatic 90, 3) := by decide +kernel
theorem dX11_join_143 : decode cX11_join 143 = .ok (.invokevirtual 94, 3) := by decide +kernel
theorem dX11_join_146 : decode cX11_join 146 = .ok (.pop, 1) := by decide +kernel
theorem dX11_join_147 : decode cX11_join 147 = .ok (.iload 4, 2) := by decide +kernel
theorem dX11_join_149 : decode cX11_join 149 = .ok (.bipush 15, 2) := by decide +kernel
theorem dX11_join_151 : decode cX11_join 151 = .ok (.if_icmp .ne 12, 3) := by decide +kernel
theorem dX11_join_154 : decode cX11_join 154 = .ok (.aload_n 0, 1) := by decide +kernel
theorem dX11_join_155 : decode cX11_join 155 = .ok (.getfield 36, 3) := by decide +kernel
theorem dX11_join_158 : decode cX11_join 158 = .ok (.iload_n 3, 1) := by decide +kernel
theorem dX11_join_159 : decode cX11_join 159 = .ok (.iconst 0, 1) := by decide +kernel
theorem dX11_join_160 : decode cX11_join 160 = .ok (.newarray .int, 2) := by decide +kernel
theorem dX11_join_162 : decode cX11_join 162 = .ok (.aastore, 1) := by decide +kernel
theorem dX11_join_163 : decode cX11_join 163 = .ok (.iload 4, 2) := by decide +kernel
theorem dX11_join_165 : decode cX11_join 165 = .ok (.bipush 9, 2) := by decide +kernel
theorem dX11_join_167 : decode cX11_join 167 = .ok (.if_icmp .ne 51, 3) := by decide +kernel
theorem dX11_join_170 : decode cX11_join 170 = .ok (.iload 5, 2) := by decide +kernel
theorem dX11_join_172 : decode cX11_join 172 = .ok (.iconst (-1), 1) := by decide +kernel
theorem dX11_join_173 : decode cX11_join 173 = .ok (.if_icmp .eq 34, 3) := by decide +kernel
theorem dX11_join_176 : decode cX11_join 176 = .ok (.aload_n 0, 1) := by decide +kernel
theorem dX11_join_177 : decode cX11_join 177 = .ok (.getfield 15, 3) := by decide +kernel
theorem dX11_join_180 : decode cX11_join 180 = .ok (.getfield 19, 3) := by decide +kernel
theorem dX11_join_183 : decode cX11_join 183 = .ok (.iload 5, 2) := by decide +kernel
theorem dX11_join_185 : decode cX11_join 185 = .ok (.invokevirtual 73, 3) := by decide +kernel
theorem dX11_join_188 : decode cX11_join 188 = .ok (.checkcast 77, 3) := by decide +kernel
theorem dX11_join_191 : decode cX11_join 191 = .ok (.getfield 79, 3) := by decide +kernel
theorem dX11_join_194 : decode cX11_join 194 = .ok (.bipush 10, 2) := by decide +kernel
theorem dX11_join_196 : decode cX11_join 196 = .ok (.if_icmp .eq 11, 3) := by decide +kernel
theorem dX11_join_199 : decode cX11_join 199 = .ok (.aload_n 2, 1) := by decide +kernel
theorem dX11_join_200 : decode cX11_join 200 = .ok (.iload 5, 2) := by decide +kernel
theorem dX11_join_202 : decode cX11_join 202 = .ok (.iaload, 1) := by decide +kernel
theorem dX11_join_203 : decode cX11_join 203 = .ok (.iconst (-1), 1) := by decide +kernel
theorem dX11_join_204 : decode cX11_join 204 = .ok (.if_icmp .eq 9, 3) := by decide +kernel
theorem dX11_join_207 : decode cX11_join 207 = .ok (.aload_n 0, 1) := by decide +kernel
theorem dX11_join_208 : decode cX11_join 208 = .ok (.iload_n 3, 1) := by decide +kernel
theorem dX11_join_209 : decode cX11_join 209 = .ok (.putfield 9, 3) := by decide +kernel
theorem dX11_join_212 : decode cX11_join 212 = .ok (.return_, 1) := by decide +kernel
theorem dX11_join_213 : decode cX11_join 213 = .ok (.aload_n 2, 1) := by decide +kernel
theorem dX11_join_214 : decode cX11_join 214 = .ok (.iload 5, 2) := by decide +kernel
theorem dX11_join_216 : decode cX11_join 216 = .ok (.iload_n 3, 1) := by decide +kernel
theorem dX11_join_217 : decode cX11_join 217 = .ok (.iastore, 1) := by decide +kernel
theorem dX11_join_218 : decode cX11_join 218 = .ok (.iload 4, 2) := by decide +kernel
theorem dX11_join_220 : decode cX11_join 220 = .ok (.bipush 11, 2) := by decide +kernel
theorem dX11_join_222 : decode cX11_join 222 = .ok (.if_icmp .eq 6, 3) := by decide +kernel
theorem dX11_join_225 : decode cX11_join 225 = .ok (.goto 37, 3) := by decide +kernel
theorem dX11_join_228 : decode cX11_join 228 = .ok (.iload 5, 2) := by decide +kernel
theorem dX11_join_230 : decode cX11_join 230 = .ok (.iconst (-1), 1) := by decide +kernel
theorem dX11_join_231 : decode cX11_join 231 = .ok (.if_icmp .ne 9, 3) := by decide +kernel
theorem dX11_join_234 : decode cX11_join 234 = .ok (.aload_n 0, 1) := by decide +kernel
theorem dX11_join_235 : decode cX11_join 235 = .ok (.iload_n 3, 1) := by decide +kernel
theorem dX11_join_236 : decode cX11_join 236 = .ok (.putfield 9, 3) := by decide +kernel
theorem dX11_join_239 : decode cX11_join 239 = .ok (.return_, 1) := by decide +kernel
theorem dX11_join_240 : decode cX11_join 240 = .ok (.aload_n 1, 1) := by decide +kernel
theorem dX11_join_241 : decode cX11_join 241 = .ok (.aload_n 1, 1) := by decide +kernel
theorem dX11_join_242 : decode cX11_join 242 = .ok (.invokevirtual 25, 3) := by decide +kernel
theorem dX11_join_245 : decode cX11_join 245 = .ok (.iconst 1, 1) := by decide +kernel
theorem dX11_join_246 : decode cX11_join 246 = .ok (.isub, 1) := by decide +kernel
theorem dX11_join_247 : decode cX11_join 247 = .ok (.invokevirtual 98, 3) := by decide +kernel
theorem dX11_join_250 : decode cX11_join 250 = .ok (.pop, 1) := by decide +kernel
theorem dX11_join_251 : decode cX11_join 251 = .ok (.aload_n 0, 1) := by decide +kernel
theorem dX11_join_252 : decode cX11_join 252 = .ok (.iload 5, 2) := by decide +kernel
theorem dX11_join_254 : decode cX11_join 254 = .ok (.aload_n 2, 1) := by decide +kernel
theorem dX11_join_255 : decode cX11_join 255 = .ok (.iload 5, 2) := by decide +kernel
theorem dX11_join_257 : decode cX11_join 257 = .ok (.iaload, 1) := by decide +kernel
theorem dX11_join_258 : decode cX11_join 258 = .ok (.iload_n 3, 1) := by decide +kernel
theorem dX11_join_259 : decode cX11_join 259 = .ok (.invokevirtual 101, 3) := by decide +kernel
theorem dX11_join_262 : decode cX11_join 262 = .ok (.iinc 3 1, 3) := by decide +kernel
theorem dX11_join_265 : decode cX11_join 265 = .ok (.goto (-197), 3) := by decide +kernel
theorem dX11_join_268 : decode cX11_join 268 = .ok (.aload_n 1, 1) := by decide +kernel
theorem dX11_join_269 : decode cX11_join 269 = .ok (.invokevirtual 82, 3) := by decide +kernel
theorem dX11_join_272 : decode cX11_join 272 = .ok (.ifCond .ne 23, 3) := by decide +kernel
theorem dX11_join_275 : decode cX11_join 275 = .ok (.aload_n 0, 1) := by decide +kernel
theorem dX11_join_276 : decode cX11_join 276 = .ok (.aload_n 1, 1) := by decide +kernel
theorem dX11_join_277 : decode cX11_join 277 = .ok (.aload_n 1, 1) := by decide +kernel
theorem dX11_join_278 : decode cX11_join 278 = .ok (.invokevirtual 25, 3) := by decide +kernel
theorem dX11_join_281 : decode cX11_join 281 = .ok (.iconst 1, 1) := by decide +kernel
theorem dX11_join_282 : decode cX11_join 282 = .ok (.isub, 1) := by decide +kernel
theorem dX11_join_283 : decode cX11_join 283 = .ok (.invokevirtual 73, 3) := by decide +kernel
theorem dX11_join_286 : decode cX11_join 286 = .ok (.checkcast 85, 3) := by decide +kernel
theorem dX11_join_289 : decode cX11_join 289 = .ok (.invokevirtual 87, 3) := by decide +kernel
theorem dX11_join_292 : decode cX11_join 292 = .ok (.putfield 9, 3) := by decide +kernel
theorem dX11_join_295 : decode cX11_join 295 = .ok (.return_, 1) := by decide +kernel
set_option maxRecDepth 20000 in
theorem ggX11_close_Jx4a65c_get_915e3 : GoodIn wsX11_close wsJx4a65c_get_915e3 := goodIn_r _ [11, 12, 13, 14, 15, 16, 17, 18, 19, 20, 21, 22, 23, 10, 24, 25, 40, 41, 42] (by decide +kernel) (by decide +kernel)
set_option maxRecDepth 20000 in
theorem gX11_close_Jx4a65c_get_915e3 : GoodIn wsX11_close (wsV RX11 73 RJx4a65c yJx4a65c_get_915e3 wsJx4a65c_get_915e3) := goodIn_app (goodIn_of _ (by decide +kernel)) ggX11_close_Jx4a65c_get_915e3
theorem dX11_close_0 : decode cX11_close 0 = .ok (.aload_n 0, 1) := by decide +kernel
theorem dX11_close_1 : decode cX11_close 1 = .ok (.getfield 15, 3) := by decide +kernel
theorem dX11_close_4 : decode cX11_close 4 = .ok (.getfield 19, 3) := by decide +kernel
theorem dX11_close_7 : decode cX11_close 7 = .ok (.iload_n 1, 1) := by decide +kernel
theorem dX11_close_8 : decode cX11_close 8 = .ok (.invokevirtual 73, 3) := by decide +kernel
theorem dX11_close_11 : decode cX11_close 11 = .ok (.checkcast 77, 3) := by decide +kernel
theorem dX11_close_14 : decode cX11_close 14 = .ok (.getfield 79, 3) := by decide +kernel
theorem dX11_close_17 : decode cX11_close 17 = .ok (.bipush 10, 2) := by decide +kernel
theorem dX11_close_19 : decode cX11_close 19 = .ok (.if_icmp .ne 25, 3) := by decide +kernel
theorem dX11_close_22 : decode cX11_close 22 = .ok (.aload_n 0, 1) := by decide +kernel
theorem dX11_close_23 : decode cX11_close 23 = .ok (.getfield 36, 3) := by decide +kernel
theorem dX11_close_26 : decode cX11_close 26 = .ok (.iload_n 3, 1) := by decide +kernel
theorem dX11_close_27 : decode cX11_close 27 = .ok (.iconst 2, 1) := by decide +kernel
theorem dX11_close_28 : decode cX11_close 28 = .ok (.newarray .int, 2) := by decide +kernel
theorem dX11_close_30 : decode cX11_close 30 = .ok (.dup, 1) := by decide +kernel
theorem dX11_close_31 : decode cX11_close 31 = .ok (.iconst 0, 1) := by decide +kernel
theorem dX11_close_32 : decode cX11_close 32 = .ok (.iload_n 1, 1) := by decide +kernel
theorem dX11_close_33 : decode cX11_close 33 = .ok (.iconst 1, 1) := by decide +kernel
theorem dX11_close_34 : decode cX11_close 34 = .ok (.iadd, 1) := by decide +kernel
theorem dX11_close_35 : decode cX11_close 35 = .ok (.iastore, 1) := by decide +kernel
theorem dX11_close_36 : decode cX11_close 36 = .ok (.dup, 1) := by decide +kernel
theorem dX11_close_37 : decode cX11_close 37 = .ok (.iconst 1, 1) := by decide +kernel
theorem dX11_close_38 : decode cX11_close 38 = .ok (.iload_n 3, 1) := by decide +kernel
theorem dX11_close_39 : decode cX11_close 39 = .ok (.iconst 1, 1) := by decide +kernel
theorem dX11_close_40 : decode cX11_close 40 = .ok (.iadd, 1) := by decide +kernel
theorem dX11_close_41 : decode cX11_close 41 = .ok (.iastore, 1) := by decide +kernel
theorem dX11_close_42 : decode cX11_close 42 = .ok (.aastore, 1) := by decide +kernel
theorem dX11_close_43 : decode cX11_close 43 = .ok (.return_, 1) := by decide +kernel
theorem dX11_close_44 : decode cX11_close 44 = .ok (.aload_n 0, 1) := by decide +kernel
theorem dX11_close_45 : decode cX11_close 45 = .ok (.getfield 36, 3) := by decide +kernel
theorem dX11_close_48 : decode cX11_close 48 = .ok (.iload_n 1, 1) := by decide +kernel
theorem dX11_close_49 : decode cX11_close 49 = .ok (.iconst 2, 1) := by decide +kernel
theorem dX11_close_50 : decode cX11_close 50 = .ok (.newarray .int, 2) := by decide +kernel
theorem dX11_close_52 : decode cX11_close 52 = .ok (.dup, 1) := by decide +kernel
theorem dX11_close_53 : decode cX11_close 53 = .ok (.iconst 0, 1) := by decide +kernel
theorem dX11_close_54 : decode cX11_close 54 = .ok (.iload_n 1, 1) := by decide +kernel
theorem dX11_close_55 : decode cX11_close 55 = .ok (.iconst 1, 1) := by decide +kernel
theorem dX11_close_56 : decode cX11_close 56 = .ok (.iadd, 1) := by decide +kernel
theorem dX11_close_57 : decode cX11_close 57 = .ok (.iastore, 1) := by decide +kernel
theorem dX11_close_58 : decode cX11_close 58 = .ok (.dup, 1) := by decide +kernel
theorem dX11_close_59 : decode cX11_close 59 = .ok (.iconst 1, 1) := by decide +kernel
theorem dX11_close_60 : decode cX11_close 60 = .ok (.iload_n 2, 1) := by decide +kernel
theorem dX11_close_61 : decode cX11_close 61 = .ok (.iconst (-1), 1) := by decide +kernel
theorem dX11_close_62 : decode cX11_close 62 = .ok (.if_icmp .ne 7, 3) := by decide +kernel
theorem dX11_close_65 : decode cX11_close 65 = .ok (.iload_n 3, 1) := by decide +kernel
theorem dX11_close_66 : decode cX11_close 66 = .ok (.goto 6, 3) := by decide +kernel
theorem dX11_close_69 : decode cX11_close 69 = .ok (.iload_n 2, 1) := by decide +kernel
theorem dX11_close_70 : decode cX11_close 70 = .ok (.iconst 1, 1) := by decide +kernel
theorem dX11_close_71 : decode cX11_close 71 = .ok (.iadd, 1) := by decide +kernel
theorem dX11_close_72 : decode cX11_close 72 = .ok (.iastore, 1) := by decide +kernel
theorem dX11_close_73 : decode cX11_close 73 = .ok (.aastore, 1) := by decide +kernel
theorem dX11_close_74 : decode cX11_close 74 = .ok (.iload_n 2, 1) := by decide +kernel
theorem dX11_close_75 : decode cX11_close 75 = .ok (.iconst (-1), 1) := by decide +kernel
theorem dX11_close_76 : decode cX11_close 76 = .ok (.if_icmp .eq 16, 3) := by decide +kernel
theorem dX11_close_79 : decode cX11_close 79 = .ok (.aload_n 0, 1) := by decide +kernel
theorem dX11_close_80 : decode cX11_close 80 = .ok (.getfield 36, 3) := by decide +kernel
theorem dX11_close_83 : decode cX11_close 83 = .ok (.iload_n 2, 1) := by decide +kernel
theorem dX11_close_84 : decode cX11_close 84 = .ok (.iconst 1, 1) := by decide +kernel
theorem dX11_close_85 : decode cX11_close 85 = .ok (.newarray .int, 2) := by decide +kernel
theorem dX11_close_87 : decode cX11_close 87 = .ok (.dup, 1) := by decide +kernel
theorem dX11_close_88 : decode cX11_close 88 = .ok (.iconst 0, 1) := by decide +kernel
theorem dX11_close_89 : decode cX11_close 89 = .ok (.iload_n 3, 1) := by decide +kernel
theorem dX11_close_90 : decode cX11_close 90 = .ok (.iastore, 1) := by decide +kernel
theorem dX11_close_91 : decode cX11_close 91 = .ok (.aastore, 1) := by decide +kernel
theorem dX11_close_92 : decode cX11_close 92 = .ok (.return_, 1) := by decide +kernel
set_option maxRecDepth 20000 in
theorem ggX11_flow_Jx4a65c_get_915e3 : GoodIn wsX11_flow wsJx4a65c_get_915e3 := goodIn_r _ [27, 28, 29, 30, 31, 32, 33, 34, 35, 36, 37, 38, 39, 26, 40, 41, 108, 109, 110] (by decide +kernel) (by decide +kernel)
set_option maxRecDepth 20000 in
theorem gX11_flow_Jx4a65c_get_915e3 : GoodIn wsX11_flow (wsV RX11 73 RJx4a65c yJx4a65c_get_915e3 wsJx4a65c_get_915e3) := goodIn_app (goodIn_of _ (by decide +kernel)) ggX11_flow_Jx4a65c_get_915e3
set_option maxRecDepth 20000 in
theorem ggX11_flow_X11_put : GoodIn wsX11_flow wsX11_put := goodIn_r _ [46, 3, 47, 48, 49, 50, 51, 52, 53, 54, 55, 56, 57, 58, 59, 60, 61, 26, 62, 28, 63, 64, 65, 66, 24, 25, 27, 29, 30, 31, 32, 33, 34, 35, 36, 37, 38, 39, 40, 41, 67, 68, 69, 70, 71, 72, 94, 95, 96, 97, 98, 99, 100, 101, 102, 103, 104, 108, 109, 110, 111] (by decide +kernel) (by decide +kernel)
set_option maxRecDepth 20000 in
theorem gX11_flow_X11_put : GoodIn wsX11_flow (wsV RX11 114 RX11 yX11_put wsX11_put) := goodIn_app (goodIn_of _ (by decide +kernel)) ggX11_flow_X11_put
set_option maxRecDepth 20000 in
theorem ggX11_flow_X12_gives : GoodIn wsX11_flow wsX12_gives := goodIn_r _ [77, 78, 105, 106, 107] (by decide +kernel) (by decide +kernel)
set_option maxRecDepth 20000 in
theorem gX11_flow_X12_gives : GoodIn wsX11_flow (wsV RX11 121 RX12 yX12_gives wsX12_gives) := goodIn_app (goodIn_of _ (by decide +kernel)) ggX11_flow_X12_gives
set_option maxRecDepth 20000 in
theorem ggX11_flow_X12_isLoan : GoodIn wsX11_flow wsX12_isLoan := goodIn_r _ [82, 78, 105, 106, 107] (by decide +kernel) (by decide +kernel)
set_option maxRecDepth 20000 in
theorem gX11_flow_X12_isLoan : GoodIn wsX11_flow (wsV RX11 124 RX12 yX12_isLoan wsX12_isLoan) := goodIn_app (goodIn_of _ (by decide +kernel)) ggX11_flow_X12_isLoan
set_option maxRecDepth 20000 in
theorem ggX11_flow_X14_loanOf : GoodIn wsX11_flow wsX14_loanOf := goodIn_r _ [86, 87, 88, 66, 24, 25, 26, 27, 28, 29, 30, 31, 32, 33, 34, 35, 36, 37, 38, 39, 40, 41, 89, 80, 81, 76, 82, 78, 103, 104, 108, 109, 110, 105, 106, 107] (by decide +kernel) (by decide +kernel)
set_option maxRecDepth 20000 in
theorem gX11_flow_X14_loanOf : GoodIn wsX11_flow (wsV RX11 127 RX14 yX14_loanOf wsX14_loanOf) := goodIn_app (goodIn_of _ (by decide +kernel)) ggX11_flow_X14_loanOf
set_option maxRecDepth 20000 in
theorem ggX11_flow_X11_comeTo : GoodIn wsX11_flow wsX11_comeTo := goodIn_r _ [93, 2, 6, 13, 14, 94, 95, 96, 97, 98, 99, 100, 101, 102] (by decide +kernel) (by decide +kernel)
set_option maxRecDepth 20000 in
theorem gX11_flow_X11_comeTo : GoodIn wsX11_flow (wsV RX11 131 RX11 yX11_comeTo wsX11_comeTo) := goodIn_app (goodIn_of _ (by decide +kernel)) ggX11_flow_X11_comeTo
theorem dX11_flow_0 : decode cX11_flow 0 = .ok (.iconst 0, 1) := by decide +kernel
theorem dX11_flow_1 : decode cX11_flow 1 = .ok (.istore_n 1, 1) := by decide +kernel
theorem dX11_flow_2 : decode cX11_flow 2 = .ok (.iconst 0, 1) := by decide +kernel
theorem dX11_flow_3 : decode cX11_flow 3 = .ok (.istore_n 2, 1) := by decide +kernel
theorem dX11_flow_4 : decode cX11_flow 4 = .ok (.iload_n 2, 1) := by decide +kernel
theorem dX11_flow_5 : decode cX11_flow 5 = .ok (.aload_n 0, 1) := by decide +kernel
theorem dX11_flow_6 : decode cX11_flow 6 = .ok (.getfield 31, 3) := by decide +kernel
theorem dX11_flow_9 : decode cX11_flow 9 = .ok (.if_icmp .ge 252, 3) := by decide +kernel
theorem dX11_flow_12 : decode cX11_flow 12 = .ok (.aload_n 0, 1) := by decide +kernel
theorem dX11_flow_13 : decode cX11_flow 13 = .ok (.getfield 43, 3) := by decide +kernel
theorem dX11_flow_16 : decode cX11_flow 16 = .ok (.iload_n 2, 1) := by decide +kernel
theorem dX11_flow_17 : decode cX11_flow 17 = .ok (.baload, 1) := by decide +kernel
theorem dX11_flow_18 : decode cX11_flow 18 = .ok (.ifCond .ne 6, 3) := by decide +kernel
theorem dX11_flow_21 : decode cX11_flow 21 = .ok (.goto 234, 3) := by decide +kernel
theorem dX11_flow_24 : decode cX11_flow 24 = .ok (.aload_n 0, 1) := by decide +kernel
theorem dX11_flow_25 : decode cX11_flow 25 = .ok (.getfield 15, 3) := by decide +kernel
theorem dX11_flow_28 : decode cX11_flow 28 = .ok (.getfield 19, 3) := by decide +kernel
theorem dX11_flow_31 : decode cX11_flow 31 = .ok (.iload_n 2, 1) := by decide +kernel
theorem dX11_flow_32 : decode cX11_flow 32 = .ok (.invokevirtual 73, 3) := by decide +kernel
theorem dX11_flow_35 : decode cX11_flow 35 = .ok (.checkcast 77, 3) := by decide +kernel
theorem dX11_flow_38 : decode cX11_flow 38 = .ok (.astore_n 3, 1) := by decide +kernel
theorem dX11_flow_39 : decode cX11_flow 39 = .ok (.aload_n 0, 1) := by decide +kernel
theorem dX11_flow_40 : decode cX11_flow 40 = .ok (.getfield 49, 3) := by decide +kernel
theorem dX11_flow_43 : decode cX11_flow 43 = .ok (.iload_n 2, 1) := by decide +kernel
theorem dX11_flow_44 : decode cX11_flow 44 = .ok (.aaload, 1) := by decide +kernel
theorem dX11_flow_45 : decode cX11_flow 45 = .ok (.invokevirtual 105, 3) := by decide +kernel
theorem dX11_flow_48 : decode cX11_flow 48 = .ok (.checkcast 106, 3) := by decide +kernel
theorem dX11_flow_51 : decode cX11_flow 51 = .ok (.astore 4, 2) := by decide +kernel
theorem dX11_flow_53 : decode cX11_flow 53 = .ok (.aload_n 0, 1) := by decide +kernel
theorem dX11_flow_54 : decode cX11_flow 54 = .ok (.getfield 52, 3) := by decide +kernel
theorem dX11_flow_57 : decode cX11_flow 57 = .ok (.iload_n 2, 1) := by decide +kernel
theorem dX11_flow_58 : decode cX11_flow 58 = .ok (.aaload, 1) := by decide +kernel
theorem dX11_flow_59 : decode cX11_flow 59 = .ok (.invokevirtual 105, 3) := by decide +kernel
theorem dX11_flow_62 : decode cX11_flow 62 = .ok (.checkcast 106, 3) := by decide +kernel
theorem dX11_flow_65 : decode cX11_flow 65 = .ok (.astore 5, 2) := by decide +kernel
theorem dX11_flow_67 : decode cX11_flow 67 = .ok (.aload_n 0, 1) := by decide +kernel
theorem dX11_flow_68 : decode cX11_flow 68 = .ok (.getfield 56, 3) := by decide +kernel
theorem dX11_flow_71 : decode cX11_flow 71 = .ok (.iload_n 2, 1) := by decide +kernel
theorem dX11_flow_72 : decode cX11_flow 72 = .ok (.aaload, 1) := by decide +kernel
theorem dX11_flow_73 : decode cX11_flow 73 = .ok (.invokevirtual 110, 3) := by decide +kernel
theorem dX11_flow_76 : decode cX11_flow 76 = .ok (.checkcast 34, 3) := by decide +kernel
theorem dX11_flow_79 : decode cX11_flow 79 = .ok (.astore 6, 2) := by decide +kernel
theorem dX11_flow_81 : decode cX11_flow 81 = .ok (.aload_n 3, 1) := by decide +kernel
theorem dX11_flow_82 : decode cX11_flow 82 = .ok (.getfield 79, 3) := by decide +kernel
theorem dX11_flow_85 : decode cX11_flow 85 = .ok (.iconst 1, 1) := by decide +kernel
theorem dX11_flow_86 : decode cX11_flow 86 = .ok (.if_icmp .ne 16, 3) := by decide +kernel
theorem dX11_flow_89 : decode cX11_flow 89 = .ok (.aload_n 0, 1) := by decide +kernel
theorem dX11_flow_90 : decode cX11_flow 90 = .ok (.aload 4, 2) := by decide +kernel
theorem dX11_flow_92 : decode cX11_flow 92 = .ok (.aload 5, 2) := by decide +kernel
theorem dX11_flow_94 : decode cX11_flow 94 = .ok (.aload_n 3, 1) := by decide +kernel
theorem dX11_flow_95 : decode cX11_flow 95 = .ok (.getfield 111, 3) := by decide +kernel
theorem dX11_flow_98 : decode cX11_flow 98 = .ok (.iconst 0, 1) := by decide +kernel
theorem dX11_flow_99 : decode cX11_flow 99 = .ok (.invokevirtual 114, 3) := by decide +kernel
theorem dX11_flow_102 : decode cX11_flow 102 = .ok (.aload_n 3, 1) := by decide +kernel
theorem dX11_flow_103 : decode cX11_flow 103 = .ok (.getfield 79, 3) := by decide +kernel
theorem dX11_flow_106 : decode cX11_flow 106 = .ok (.bipush 7, 2) := by decide +kernel
theorem dX11_flow_108 : decode cX11_flow 108 = .ok (.if_icmp .ne 16, 3) := by decide +kernel
theorem dX11_flow_111 : decode cX11_flow 111 = .ok (.aload_n 0, 1) := by decide +kernel
theorem dX11_flow_112 : decode cX11_flow 112 = .ok (.aload 4, 2) := by decide +kernel
theorem dX11_flow_114 : decode cX11_flow 114 = .ok (.aload 5, 2) := by decide +kernel
theorem dX11_flow_116 : decode cX11_flow 116 = .ok (.aload_n 3, 1) := by decide +kernel
theorem dX11_flow_117 : decode cX11_flow 117 = .ok (.getfield 118, 3) := by decide +kernel
theorem dX11_flow_120 : decode cX11_flow 120 = .ok (.iconst 0, 1) := by decide +kernel
theorem dX11_flow_121 : decode cX11_flow 121 = .ok (.invokevirtual 114, 3) := by decide +kernel
theorem dX11_flow_124 : decode cX11_flow 124 = .ok (.aload_n 3, 1) := by decide +kernel
theorem dX11_flow_125 : decode cX11_flow 125 = .ok (.invokevirtual 121, 3) := by decide +kernel
theorem dX11_flow_128 : decode cX11_flow 128 = .ok (.ifCond .eq 16, 3) := by decide +kernel
theorem dX11_flow_131 : decode cX11_flow 131 = .ok (.aload_n 0, 1) := by decide +kernel
theorem dX11_flow_132 : decode cX11_flow 132 = .ok (.aload 4, 2) := by decide +kernel
theorem dX11_flow_134 : decode cX11_flow 134 = .ok (.aload 5, 2) := by decide +kernel
theorem dX11_flow_136 : decode cX11_flow 136 = .ok (.aload_n 3, 1) := by decide +kernel
theorem dX11_flow_137 : decode cX11_flow 137 = .ok (.getfield 118, 3) := by decide +kernel
theorem dX11_flow_140 : decode cX11_flow 140 = .ok (.iconst 1, 1) := by decide +kernel
theorem dX11_flow_141 : decode cX11_flow 141 = .ok (.invokevirtual 114, 3) := by decide +kernel
theorem dX11_flow_144 : decode cX11_flow 144 = .ok (.aload_n 3, 1) := by decide +kernel
theorem dX11_flow_145 : decode cX11_flow 145 = .ok (.invokevirtual 124, 3) := by decide +kernel
theorem dX11_flow_148 : decode cX11_flow 148 = .ok (.ifCond .eq 22, 3) := by decide +kernel
theorem dX11_flow_151 : decode cX11_flow 151 = .ok (.aload 6, 2) := by decide +kernel
theorem dX11_flow_153 : decode cX11_flow 153 = .ok (.aload_n 3, 1) := by decide +kernel
theorem dX11_flow_154 : decode cX11_flow 154 = .ok (.getfield 118, 3) := by decide +kernel
theorem dX11_flow_157 : decode cX11_flow 157 = .ok (.iconst 3, 1) := by decide +kernel
theorem dX11_flow_158 : decode cX11_flow 158 = .ok (.idiv, 1) := by decide +kernel
theorem dX11_flow_159 : decode cX11_flow 159 = .ok (.iconst 1, 1) := by decide +kernel
theorem dX11_flow_160 : decode cX11_flow 160 = .ok (.aload_n 0, 1) := by decide +kernel
theorem dX11_flow_161 : decode cX11_flow 161 = .ok (.getfield 15, 3) := by decide +kernel
theorem dX11_flow_164 : decode cX11_flow 164 = .ok (.iload_n 2, 1) := by decide +kernel
theorem dX11_flow_165 : decode cX11_flow 165 = .ok (.invokevirtual 127, 3) := by decide +kernel
theorem dX11_flow_168 : decode cX11_flow 168 = .ok (.ishl, 1) := by decide +kernel
theorem dX11_flow_169 : decode cX11_flow 169 = .ok (.iastore, 1) := by decide +kernel
theorem dX11_flow_170 : decode cX11_flow 170 = .ok (.aload_n 3, 1) := by decide +kernel
theorem dX11_flow_171 : decode cX11_flow 171 = .ok (.getfield 79, 3) := by decide +kernel
theorem dX11_flow_174 : decode cX11_flow 174 = .ok (.iconst 1, 1) := by decide +kernel
theorem dX11_flow_175 : decode cX11_flow 175 = .ok (.if_icmp .eq 11, 3) := by decide +kernel
theorem dX11_flow_178 : decode cX11_flow 178 = .ok (.aload_n 3, 1) := by decide +kernel
theorem dX11_flow_179 : decode cX11_flow 179 = .ok (.getfield 79, 3) := by decide +kernel
theorem dX11_flow_182 : decode cX11_flow 182 = .ok (.iconst 2, 1) := by decide +kernel
theorem dX11_flow_183 : decode cX11_flow 183 = .ok (.if_icmp .ne 21, 3) := by decide +kernel
theorem dX11_flow_186 : decode cX11_flow 186 = .ok (.aload 6, 2) := by decide +kernel
theorem dX11_flow_188 : decode cX11_flow 188 = .ok (.aload_n 3, 1) := by decide +kernel
theorem dX11_flow_189 : decode cX11_flow 189 = .ok (.getfield 118, 3) := by decide +kernel
theorem dX11_flow_192 : decode cX11_flow 192 = .ok (.iconst 3, 1) := by decide +kernel
theorem dX11_flow_193 : decode cX11_flow 193 = .ok (.idiv, 1) := by decide +kernel
theorem dX11_flow_194 : decode cX11_flow 194 = .ok (.aload 6, 2) := by decide +kernel
theorem dX11_flow_196 : decode cX11_flow 196 = .ok (.aload_n 3, 1) := by decide +kernel
theorem dX11_flow_197 : decode cX11_flow 197 = .ok (.getfield 111, 3) := by decide +kernel
theorem dX11_flow_200 : decode cX11_flow 200 = .ok (.iconst 3, 1) := by decide +kernel
theorem dX11_flow_201 : decode cX11_flow 201 = .ok (.idiv, 1) := by decide +kernel
theorem dX11_flow_202 : decode cX11_flow 202 = .ok (.iaload, 1) := by decide +kernel
theorem dX11_flow_203 : decode cX11_flow 203 = .ok (.iastore, 1) := by decide +kernel
theorem dX11_flow_204 : decode cX11_flow 204 = .ok (.aload_n 0, 1) := by decide +kernel
theorem dX11_flow_205 : decode cX11_flow 205 = .ok (.getfield 36, 3) := by decide +kernel
theorem dX11_flow_208 : decode cX11_flow 208 = .ok (.iload_n 2, 1) := by decide +kernel
theorem dX11_flow_209 : decode cX11_flow 209 = .ok (.aaload, 1) := by decide +kernel
theorem dX11_flow_210 : decode cX11_flow 210 = .ok (.astore 7, 2) := by decide +kernel
theorem dX11_flow_212 : decode cX11_flow 212 = .ok (.aload 7, 2) := by decide +kernel
theorem dX11_flow_214 : decode cX11_flow 214 = .ok (.arraylength, 1) := by decide +kernel
theorem dX11_flow_215 : decode cX11_flow 215 = .ok (.istore 8, 2) := by decide +kernel
theorem dX11_flow_217 : decode cX11_flow 217 = .ok (.iconst 0, 1) := by decide +kernel
theorem dX11_flow_218 : decode cX11_flow 218 = .ok (.istore 9, 2) := by decide +kernel
theorem dX11_flow_220 : decode cX11_flow 220 = .ok (.iload 9, 2) := by decide +kernel
theorem dX11_flow_222 : decode cX11_flow 222 = .ok (.iload 8, 2) := by decide +kernel
theorem dX11_flow_224 : decode cX11_flow 224 = .ok (.if_icmp .ge 31, 3) := by decide +kernel
theorem dX11_flow_227 : decode cX11_flow 227 = .ok (.aload 7, 2) := by decide +kernel
theorem dX11_flow_229 : decode cX11_flow 229 = .ok (.iload 9, 2) := by decide +kernel
theorem dX11_flow_231 : decode cX11_flow 231 = .ok (.iaload, 1) := by decide +kernel
theorem dX11_flow_232 : decode cX11_flow 232 = .ok (.istore 10, 2) := by decide +kernel
theorem dX11_flow_234 : decode cX11_flow 234 = .ok (.iload_n 1, 1) := by decide +kernel
theorem dX11_flow_235 : decode cX11_flow 235 = .ok (.aload_n 0, 1) := by decide +kernel
theorem dX11_flow_236 : decode cX11_flow 236 = .ok (.iload 10, 2) := by decide +kernel
theorem dX11_flow_238 : decode cX11_flow 238 = .ok (.aload 4, 2) := by decide +kernel
theorem dX11_flow_240 : decode cX11_flow 240 = .ok (.aload 5, 2) := by decide +kernel
theorem dX11_flow_242 : decode cX11_flow 242 = .ok (.aload 6, 2) := by decide +kernel
theorem dX11_flow_244 : decode cX11_flow 244 = .ok (.invokevirtual 131, 3) := by decide +kernel
theorem dX11_flow_247 : decode cX11_flow 247 = .ok (.ior, 1) := by decide +kernel
theorem dX11_flow_248 : decode cX11_flow 248 = .ok (.istore_n 1, 1) := by decide +kernel
theorem dX11_flow_249 : decode cX11_flow 249 = .ok (.iinc 9 1, 3) := by decide +kernel
theorem dX11_flow_252 : decode cX11_flow 252 = .ok (.goto (-32), 3) := by decide +kernel
theorem dX11_flow_255 : decode cX11_flow 255 = .ok (.iinc 2 1, 3) := by decide +kernel
theorem dX11_flow_258 : decode cX11_flow 258 = .ok (.goto (-254), 3) := by decide +kernel
theorem dX11_flow_261 : decode cX11_flow 261 = .ok (.iload_n 1, 1) := by decide +kernel
theorem dX11_flow_262 : decode cX11_flow 262 = .ok (.ireturn, 1) := by decide +kernel
set_option maxRecDepth 20000 in
theorem ggX11_put_X14_leaves : GoodIn wsX11_put wsX14_leaves := goodIn_r _ [6, 7, 8, 9, 10, 5, 11, 12, 13, 14, 15, 16, 17, 18, 19, 20, 21, 22, 23, 24, 25, 26, 27, 28, 29, 30, 31, 32, 33, 34, 35, 36, 37, 38, 39, 40, 41, 42, 43, 44, 45, 55, 56, 57, 58, 59, 60] (by decide +kernel) (by decide +kernel)
set_option maxRecDepth 20000 in
theorem gX11_put_X14_leaves : GoodIn wsX11_put (wsV RX11 135 RX14 yX14_leaves wsX14_leaves) := goodIn_app (goodIn_of _ (by decide +kernel)) ggX11_put_X14_leaves
theorem dX11_put_0 : decode cX11_put 0 = .ok (.aload_n 0, 1) := by decide +kernel
theorem dX11_put_1 : decode cX11_put 1 = .ok (.getfield 15, 3) := by decide +kernel
theorem dX11_put_4 : decode cX11_put 4 = .ok (.iload_n 3, 1) := by decide +kernel
theorem dX11_put_5 : decode cX11_put 5 = .ok (.invokevirtual 135, 3) := by decide +kernel
theorem dX11_put_8 : decode cX11_put 8 = .ok (.astore 5, 2) := by decide +kernel
theorem dX11_put_10 : decode cX11_put 10 = .ok (.aload 5, 2) := by decide +kernel
theorem dX11_put_12 : decode cX11_put 12 = .ok (.arraylength, 1) := by decide +kernel
theorem dX11_put_13 : decode cX11_put 13 = .ok (.istore 6, 2) := by decide +kernel
theorem dX11_put_15 : decode cX11_put 15 = .ok (.iconst 0, 1) := by decide +kernel
theorem dX11_put_16 : decode cX11_put 16 = .ok (.istore 7, 2) := by decide +kernel
theorem dX11_put_18 : decode cX11_put 18 = .ok (.iload 7, 2) := by decide +kernel
theorem dX11_put_20 : decode cX11_put 20 = .ok (.iload 6, 2) := by decide +kernel
theorem dX11_put_22 : decode cX11_put 22 = .ok (.if_icmp .ge 36, 3) := by decide +kernel
theorem dX11_put_25 : decode cX11_put 25 = .ok (.aload 5, 2) := by decide +kernel
theorem dX11_put_27 : decode cX11_put 27 = .ok (.iload 7, 2) := by decide +kernel
theorem dX11_put_29 : decode cX11_put 29 = .ok (.iaload, 1) := by decide +kernel
theorem dX11_put_30 : decode cX11_put 30 = .ok (.istore 8, 2) := by decide +kernel
theorem dX11_put_32 : decode cX11_put 32 = .ok (.aload_n 1, 1) := by decide +kernel
theorem dX11_put_33 : decode cX11_put 33 = .ok (.iload 8, 2) := by decide +kernel
theorem dX11_put_35 : decode cX11_put 35 = .ok (.iload 4, 2) := by decide +kernel
theorem dX11_put_37 : decode cX11_put 37 = .ok (.bastore, 1) := by decide +kernel
theorem dX11_put_38 : decode cX11_put 38 = .ok (.aload_n 2, 1) := by decide +kernel
theorem dX11_put_39 : decode cX11_put 39 = .ok (.iload 8, 2) := by decide +kernel
theorem dX11_put_41 : decode cX11_put 41 = .ok (.iload 4, 2) := by decide +kernel
theorem dX11_put_43 : decode cX11_put 43 = .ok (.ifCond .ne 7, 3) := by decide +kernel
theorem dX11_put_46 : decode cX11_put 46 = .ok (.iconst 1, 1) := by decide +kernel
theorem dX11_put_47 : decode cX11_put 47 = .ok (.goto 4, 3) := by decide +kernel
theorem dX11_put_50 : decode cX11_put 50 = .ok (.iconst 0, 1) := by decide +kernel
theorem dX11_put_51 : decode cX11_put 51 = .ok (.bastore, 1) := by decide +kernel
theorem dX11_put_52 : decode cX11_put 52 = .ok (.iinc 7 1, 3) := by decide +kernel
theorem dX11_put_55 : decode cX11_put 55 = .ok (.goto (-37), 3) := by decide +kernel
theorem dX11_put_58 : decode cX11_put 58 = .ok (.return_, 1) := by decide +kernel
theorem dX11_comeTo_0 : decode cX11_comeTo 0 = .ok (.aload_n 0, 1) := by decide +kernel
theorem dX11_comeTo_1 : decode cX11_comeTo 1 = .ok (.getfield 43, 3) := by decide +kernel
theorem dX11_comeTo_4 : decode cX11_comeTo 4 = .ok (.iload_n 1, 1) := by decide +kernel
theorem dX11_comeTo_5 : decode cX11_comeTo 5 = .ok (.baload, 1) := by decide +kernel
theorem dX11_comeTo_6 : decode cX11_comeTo 6 = .ok (.ifCond .ne 7, 3) := by decide +kernel
theorem dX11_comeTo_9 : decode cX11_comeTo 9 = .ok (.iconst 1, 1) := by decide +kernel
theorem dX11_comeTo_10 : decode cX11_comeTo 10 = .ok (.goto 4, 3) := by decide +kernel
theorem dX11_comeTo_13 : decode cX11_comeTo 13 = .ok (.iconst 0, 1) := by decide +kernel
theorem dX11_comeTo_14 : decode cX11_comeTo 14 = .ok (.istore 5, 2) := by decide +kernel
theorem dX11_comeTo_16 : decode cX11_comeTo 16 = .ok (.aload_n 0, 1) := by decide +kernel
theorem dX11_comeTo_17 : decode cX11_comeTo 17 = .ok (.getfield 43, 3) := by decide +kernel
theorem dX11_comeTo_20 : decode cX11_comeTo 20 = .ok (.iload_n 1, 1) := by decide +kernel
theorem dX11_comeTo_21 : decode cX11_comeTo 21 = .ok (.iconst 1, 1) := by decide +kernel
theorem dX11_comeTo_22 : decode cX11_comeTo 22 = .ok (.bastore, 1) := by decide +kernel
theorem dX11_comeTo_23 : decode cX11_comeTo 23 = .ok (.iconst 0, 1) := by decide +kernel
theorem dX11_comeTo_24 : decode cX11_comeTo 24 = .ok (.istore 6, 2) := by decide +kernel
theorem dX11_comeTo_26 : decode cX11_comeTo 26 = .ok (.iload 6, 2) := by decide +kernel
theorem dX11_comeTo_28 : decode cX11_comeTo 28 = .ok (.aload_n 2, 1) := by decide +kernel
theorem dX11_comeTo_29 : decode cX11_comeTo 29 = .ok (.arraylength, 1) := by decide +kernel
theorem dX11_comeTo_30 : decode cX11_comeTo 30 = .ok (.if_icmp .ge 89, 3) := by decide +kernel
theorem dX11_comeTo_33 : decode cX11_comeTo 33 = .ok (.iload 5, 2) := by decide +kernel
theorem dX11_comeTo_35 : decode cX11_comeTo 35 = .ok (.aload_n 2, 1) := by decide +kernel
theorem dX11_comeTo_36 : decode cX11_comeTo 36 = .ok (.iload 6, 2) := by decide +kernel
theorem dX11_comeTo_38 : decode cX11_comeTo 38 = .ok (.baload, 1) := by decide +kernel
theorem dX11_comeTo_39 : decode cX11_comeTo 39 = .ok (.ifCond .eq 15, 3) := by decide +kernel
theorem dX11_comeTo_42 : decode cX11_comeTo 42 = .ok (.aload_n 0, 1) := by decide +kernel
theorem dX11_comeTo_43 : decode cX11_comeTo 43 = .ok (.getfield 49, 3) := by decide +kernel
theorem dX11_comeTo_46 : decode cX11_comeTo 46 = .ok (.iload_n 1, 1) := by decide +kernel
theorem dX11_comeTo_47 : decode cX11_comeTo 47 = .ok (.aaload, 1) := by decide +kernel
theorem dX11_comeTo_48 : decode cX11_comeTo 48 = .ok (.iload 6, 2) := by decide +kernel
theorem dX11_comeTo_50 : decode cX11_comeTo 50 = .ok (.baload, 1) := by decide +kernel
theorem dX11_comeTo_51 : decode cX11_comeTo 51 = .ok (.ifCond .eq 22, 3) := by decide +kernel
theorem dX11_comeTo_54 : decode cX11_comeTo 54 = .ok (.aload_n 3, 1) := by decide +kernel
theorem dX11_comeTo_55 : decode cX11_comeTo 55 = .ok (.iload 6, 2) := by decide +kernel
theorem dX11_comeTo_57 : decode cX11_comeTo 57 = .ok (.baload, 1) := by decide +kernel
theorem dX11_comeTo_58 : decode cX11_comeTo 58 = .ok (.ifCond .eq 19, 3) := by decide +kernel
theorem dX11_comeTo_61 : decode cX11_comeTo 61 = .ok (.aload_n 0, 1) := by decide +kernel
theorem dX11_comeTo_62 : decode cX11_comeTo 62 = .ok (.getfield 52, 3) := by decide +kernel
theorem dX11_comeTo_65 : decode cX11_comeTo 65 = .ok (.iload_n 1, 1) := by decide +kernel
theorem dX11_comeTo_66 : decode cX11_comeTo 66 = .ok (.aaload, 1) := by decide +kernel
theorem dX11_comeTo_67 : decode cX11_comeTo 67 = .ok (.iload 6, 2) := by decide +kernel
theorem dX11_comeTo_69 : decode cX11_comeTo 69 = .ok (.baload, 1) := by decide +kernel
theorem dX11_comeTo_70 : decode cX11_comeTo 70 = .ok (.ifCond .ne 7, 3) := by decide +kernel
theorem dX11_comeTo_73 : decode cX11_comeTo 73 = .ok (.iconst 1, 1) := by decide +kernel
theorem dX11_comeTo_74 : decode cX11_comeTo 74 = .ok (.goto 4, 3) := by decide +kernel
theorem dX11_comeTo_77 : decode cX11_comeTo 77 = .ok (.iconst 0, 1) := by decide +kernel
theorem dX11_comeTo_78 : decode cX11_comeTo 78 = .ok (.ior, 1) := by decide +kernel
theorem dX11_comeTo_79 : decode cX11_comeTo 79 = .ok (.istore 5, 2) := by decide +kernel
theorem dX11_comeTo_81 : decode cX11_comeTo 81 = .ok (.aload_n 0, 1) := by decide +kernel
theorem dX11_comeTo_82 : decode cX11_comeTo 82 = .ok (.getfield 49, 3) := by decide +kernel
theorem dX11_comeTo_85 : decode cX11_comeTo 85 = .ok (.iload_n 1, 1) := by decide +kernel
theorem dX11_comeTo_86 : decode cX11_comeTo 86 = .ok (.aaload, 1) := by decide +kernel
theorem dX11_comeTo_87 : decode cX11_comeTo 87 = .ok (.iload 6, 2) := by decide +kernel
theorem dX11_comeTo_89 : decode cX11_comeTo 89 = .ok (.dup2, 1) := by decide +kernel
theorem dX11_comeTo_90 : decode cX11_comeTo 90 = .ok (.baload, 1) := by decide +kernel
theorem dX11_comeTo_91 : decode cX11_comeTo 91 = .ok (.aload_n 2, 1) := by decide +kernel
theorem dX11_comeTo_92 : decode cX11_comeTo 92 = .ok (.iload 6, 2) := by decide +kernel
theorem dX11_comeTo_94 : decode cX11_comeTo 94 = .ok (.baload, 1) := by decide +kernel
theorem dX11_comeTo_95 : decode cX11_comeTo 95 = .ok (.ior, 1) := by decide +kernel
theorem dX11_comeTo_96 : decode cX11_comeTo 96 = .ok (.bastore, 1) := by decide +kernel
theorem dX11_comeTo_97 : decode cX11_comeTo 97 = .ok (.aload_n 0, 1) := by decide +kernel
theorem dX11_comeTo_98 : decode cX11_comeTo 98 = .ok (.getfield 52, 3) := by decide +kernel
theorem dX11_comeTo_101 : decode cX11_comeTo 101 = .ok (.iload_n 1, 1) := by decide +kernel
theorem dX11_comeTo_102 : decode cX11_comeTo 102 = .ok (.aaload, 1) := by decide +kernel
theorem dX11_comeTo_103 : decode cX11_comeTo 103 = .ok (.iload 6, 2) := by decide +kernel
theorem dX11_comeTo_105 : decode cX11_comeTo 105 = .ok (.dup2, 1) := by decide +kernel
theorem dX11_comeTo_106 : decode cX11_comeTo 106 = .ok (.baload, 1) := by decide +kernel
theorem dX11_comeTo_107 : decode cX11_comeTo 107 = .ok (.aload_n 3, 1) := by decide +kernel
theorem dX11_comeTo_108 : decode cX11_comeTo 108 = .ok (.iload 6, 2) := by decide +kernel
theorem dX11_comeTo_110 : decode cX11_comeTo 110 = .ok (.baload, 1) := by decide +kernel
theorem dX11_comeTo_111 : decode cX11_comeTo 111 = .ok (.ior, 1) := by decide +kernel
theorem dX11_comeTo_112 : decode cX11_comeTo 112 = .ok (.bastore, 1) := by decide +kernel
theorem dX11_comeTo_113 : decode cX11_comeTo 113 = .ok (.iinc 6 1, 3) := by decide +kernel
theorem dX11_comeTo_116 : decode cX11_comeTo 116 = .ok (.goto (-90), 3) := by decide +kernel
theorem dX11_comeTo_119 : decode cX11_comeTo 119 = .ok (.iconst 0, 1) := by decide +kernel
theorem dX11_comeTo_120 : decode cX11_comeTo 120 = .ok (.istore 6, 2) := by decide +kernel
theorem dX11_comeTo_122 : decode cX11_comeTo 122 = .ok (.iload 6, 2) := by decide +kernel
theorem dX11_comeTo_124 : decode cX11_comeTo 124 = .ok (.aload 4, 2) := by decide +kernel
theorem dX11_comeTo_126 : decode cX11_comeTo 126 = .ok (.arraylength, 1) := by decide +kernel
theorem dX11_comeTo_127 : decode cX11_comeTo 127 = .ok (.if_icmp .ge 56, 3) := by decide +kernel
theorem dX11_comeTo_130 : decode cX11_comeTo 130 = .ok (.iload 5, 2) := by decide +kernel
theorem dX11_comeTo_132 : decode cX11_comeTo 132 = .ok (.aload 4, 2) := by decide +kernel
theorem dX11_comeTo_134 : decode cX11_comeTo 134 = .ok (.iload 6, 2) := by decide +kernel
theorem dX11_comeTo_136 : decode cX11_comeTo 136 = .ok (.iaload, 1) := by decide +kernel
theorem dX11_comeTo_137 : decode cX11_comeTo 137 = .ok (.aload_n 0, 1) := by decide +kernel
theorem dX11_comeTo_138 : decode cX11_comeTo 138 = .ok (.getfield 56, 3) := by decide +kernel
theorem dX11_comeTo_141 : decode cX11_comeTo 141 = .ok (.iload_n 1, 1) := by decide +kernel
theorem dX11_comeTo_142 : decode cX11_comeTo 142 = .ok (.aaload, 1) := by decide +kernel
theorem dX11_comeTo_143 : decode cX11_comeTo 143 = .ok (.iload 6, 2) := by decide +kernel
theorem dX11_comeTo_145 : decode cX11_comeTo 145 = .ok (.iaload, 1) := by decide +kernel
theorem dX11_comeTo_146 : decode cX11_comeTo 146 = .ok (.iconst (-1), 1) := by decide +kernel
theorem dX11_comeTo_147 : decode cX11_comeTo 147 = .ok (.ixor, 1) := by decide +kernel
theorem dX11_comeTo_148 : decode cX11_comeTo 148 = .ok (.iand, 1) := by decide +kernel
theorem dX11_comeTo_149 : decode cX11_comeTo 149 = .ok (.ifCond .eq 7, 3) := by decide +kernel
theorem dX11_comeTo_152 : decode cX11_comeTo 152 = .ok (.iconst 1, 1) := by decide +kernel
theorem dX11_comeTo_153 : decode cX11_comeTo 153 = .ok (.goto 4, 3) := by decide +kernel
theorem dX11_comeTo_156 : decode cX11_comeTo 156 = .ok (.iconst 0, 1) := by decide +kernel
theorem dX11_comeTo_157 : decode cX11_comeTo 157 = .ok (.ior, 1) := by decide +kernel
theorem dX11_comeTo_158 : decode cX11_comeTo 158 = .ok (.istore 5, 2) := by decide +kernel
theorem dX11_comeTo_160 : decode cX11_comeTo 160 = .ok (.aload_n 0, 1) := by decide +kernel
theorem dX11_comeTo_161 : decode cX11_comeTo 161 = .ok (.getfield 56, 3) := by decide +kernel
theorem dX11_comeTo_164 : decode cX11_comeTo 164 = .ok (.iload_n 1, 1) := by decide +kernel
theorem dX11_comeTo_165 : decode cX11_comeTo 165 = .ok (.aaload, 1) := by decide +kernel
theorem dX11_comeTo_166 : decode cX11_comeTo 166 = .ok (.iload 6, 2) := by decide +kernel
theorem dX11_comeTo_168 : decode cX11_comeTo 168 = .ok (.dup2, 1) := by decide +kernel
theorem dX11_comeTo_169 : decode cX11_comeTo 169 = .ok (.iaload, 1) := by decide +kernel
theorem dX11_comeTo_170 : decode cX11_comeTo 170 = .ok (.aload 4, 2) := by decide +kernel
theorem dX11_comeTo_172 : decode cX11_comeTo 172 = .ok (.iload 6, 2) := by decide +kernel
theorem dX11_comeTo_174 : decode cX11_comeTo 174 = .ok (.iaload, 1) := by decide +kernel
theorem dX11_comeTo_175 : decode cX11_comeTo 175 = .ok (.ior, 1) := by decide +kernel
theorem dX11_comeTo_176 : decode cX11_comeTo 176 = .ok (.iastore, 1) := by decide +kernel
theorem dX11_comeTo_177 : decode cX11_comeTo 177 = .ok (.iinc 6 1, 3) := by decide +kernel
theorem dX11_comeTo_180 : decode cX11_comeTo 180 = .ok (.goto (-58), 3) := by decide +kernel
theorem dX11_comeTo_183 : decode cX11_comeTo 183 = .ok (.iload 5, 2) := by decide +kernel
theorem dX11_comeTo_185 : decode cX11_comeTo 185 = .ok (.ireturn, 1) := by decide +kernel
set_option maxRecDepth 20000 in
theorem ggX11_want_Jx4a65c_size_8abf5 : GoodIn wsX11_want wsJx4a65c_size_8abf5 := goodIn_r _ [9, 10, 95, 96, 97] (by decide +kernel) (by decide +kernel)
set_option maxRecDepth 20000 in
theorem gX11_want_Jx4a65c_size_8abf5 : GoodIn wsX11_want (wsV RX11 25 RJx4a65c yJx4a65c_size_8abf5 wsJx4a65c_size_8abf5) := goodIn_app (goodIn_of _ (by decide +kernel)) ggX11_want_Jx4a65c_size_8abf5
set_option maxRecDepth 20000 in
theorem ggX11_want_X11_isWantedBy : GoodIn wsX11_want wsX11_isWantedBy := goodIn_r _ [15, 2, 16, 17, 18, 19, 20, 21, 22, 23, 24, 25, 26, 27, 28, 29, 6, 7, 8, 9, 10, 30, 31, 32, 33, 34, 35, 36, 37, 38, 39, 40, 41, 42, 43, 44, 45, 46, 47, 48, 49, 50, 51, 52, 53, 54, 55, 56, 57, 58, 59, 60, 61, 62, 63, 64, 65, 66, 67, 68, 69, 70, 71, 72, 73, 74, 75, 76, 77, 78, 79, 80, 81, 14, 82, 83, 4, 84, 85, 86, 87, 88, 89, 90, 91, 92, 93, 94, 95, 96, 97, 98, 99, 100, 101] (by decide +kernel) (by decide +kernel)
set_option maxRecDepth 20000 in
theorem gX11_want_X11_isWantedBy : GoodIn wsX11_want (wsV RX11 139 RX11 yX11_isWantedBy wsX11_isWantedBy) := goodIn_app (goodIn_of _ (by decide +kernel)) ggX11_want_X11_isWantedBy
theorem dX11_want_0 : decode cX11_want 0 = .ok (.iconst 0, 1) := by decide +kernel
theorem dX11_want_1 : decode cX11_want 1 = .ok (.istore_n 1, 1) := by decide +kernel
theorem dX11_want_2 : decode cX11_want 2 = .ok (.aload_n 0, 1) := by decide +kernel
theorem dX11_want_3 : decode cX11_want 3 = .ok (.getfield 31, 3) := by decide +kernel
theorem dX11_want_6 : decode cX11_want 6 = .ok (.iconst 1, 1) := by decide +kernel
theorem dX11_want_7 : decode cX11_want 7 = .ok (.isub, 1) := by decide +kernel
theorem dX11_want_8 : decode cX11_want 8 = .ok (.istore_n 2, 1) := by decide +kernel
theorem dX11_want_9 : decode cX11_want 9 = .ok (.iload_n 2, 1) := by decide +kernel
theorem dX11_want_10 : decode cX11_want 10 = .ok (.ifCond .lt 65, 3) := by decide +kernel
theorem dX11_want_13 : decode cX11_want 13 = .ok (.iconst 0, 1) := by decide +kernel
theorem dX11_want_14 : decode cX11_want 14 = .ok (.istore_n 3, 1) := by decide +kernel
theorem dX11_want_15 : decode cX11_want 15 = .ok (.iload_n 3, 1) := by decide +kernel
theorem dX11_want_16 : decode cX11_want 16 = .ok (.aload_n 0, 1) := by decide +kernel
theorem dX11_want_17 : decode cX11_want 17 = .ok (.getfield 15, 3) := by decide +kernel
theorem dX11_want_20 : decode cX11_want 20 = .ok (.getfield 40, 3) := by decide +kernel
theorem dX11_want_23 : decode cX11_want 23 = .ok (.invokevirtual 25, 3) := by decide +kernel
theorem dX11_want_26 : decode cX11_want 26 = .ok (.if_icmp .ge 43, 3) := by decide +kernel
theorem dX11_want_29 : decode cX11_want 29 = .ok (.aload_n 0, 1) := by decide +kernel
theorem dX11_want_30 : decode cX11_want 30 = .ok (.getfield 59, 3) := by decide +kernel
theorem dX11_want_33 : decode cX11_want 33 = .ok (.iload_n 2, 1) := by decide +kernel
theorem dX11_want_34 : decode cX11_want 34 = .ok (.aaload, 1) := by decide +kernel
theorem dX11_want_35 : decode cX11_want 35 = .ok (.iload_n 3, 1) := by decide +kernel
theorem dX11_want_36 : decode cX11_want 36 = .ok (.baload, 1) := by decide +kernel
theorem dX11_want_37 : decode cX11_want 37 = .ok (.ifCond .ne 26, 3) := by decide +kernel
theorem dX11_want_40 : decode cX11_want 40 = .ok (.aload_n 0, 1) := by decide +kernel
theorem dX11_want_41 : decode cX11_want 41 = .ok (.iload_n 2, 1) := by decide +kernel
theorem dX11_want_42 : decode cX11_want 42 = .ok (.iload_n 3, 1) := by decide +kernel
theorem dX11_want_43 : decode cX11_want 43 = .ok (.invokevirtual 139, 3) := by decide +kernel
theorem dX11_want_46 : decode cX11_want 46 = .ok (.ifCond .ne 6, 3) := by decide +kernel
theorem dX11_want_49 : decode cX11_want 49 = .ok (.goto 14, 3) := by decide +kernel
theorem dX11_want_52 : decode cX11_want 52 = .ok (.aload_n 0, 1) := by decide +kernel
theorem dX11_want_53 : decode cX11_want 53 = .ok (.getfield 59, 3) := by decide +kernel
theorem dX11_want_56 : decode cX11_want 56 = .ok (.iload_n 2, 1) := by decide +kernel
theorem dX11_want_57 : decode cX11_want 57 = .ok (.aaload, 1) := by decide +kernel
theorem dX11_want_58 : decode cX11_want 58 = .ok (.iload_n 3, 1) := by decide +kernel
theorem dX11_want_59 : decode cX11_want 59 = .ok (.iconst 1, 1) := by decide +kernel
theorem dX11_want_60 : decode cX11_want 60 = .ok (.bastore, 1) := by decide +kernel
theorem dX11_want_61 : decode cX11_want 61 = .ok (.iconst 1, 1) := by decide +kernel
theorem dX11_want_62 : decode cX11_want 62 = .ok (.istore_n 1, 1) := by decide +kernel
theorem dX11_want_63 : decode cX11_want 63 = .ok (.iinc 3 1, 3) := by decide +kernel
theorem dX11_want_66 : decode cX11_want 66 = .ok (.goto (-51), 3) := by decide +kernel
theorem dX11_want_69 : decode cX11_want 69 = .ok (.iinc 2 (-1), 3) := by decide +kernel
theorem dX11_want_72 : decode cX11_want 72 = .ok (.goto (-63), 3) := by decide +kernel
theorem dX11_want_75 : decode cX11_want 75 = .ok (.iload_n 1, 1) := by decide +kernel
theorem dX11_want_76 : decode cX11_want 76 = .ok (.ireturn, 1) := by decide +kernel
set_option maxRecDepth 20000 in
theorem ggX11_isWantedBy_X14_isBorrow : GoodIn wsX11_isWantedBy wsX14_isBorrow := goodIn_r _ [8, 9, 10, 11, 7, 12, 13, 14, 15, 16, 17, 18, 19, 20, 21, 22, 23, 24, 25, 26, 27, 28, 29, 30, 31, 32, 33, 34, 35, 36, 37, 38, 39, 40, 41, 42, 43, 44, 45, 46, 86, 87, 88, 89, 90, 91] (by decide +kernel) (by decide +kernel)
set_option maxRecDepth 20000 in
theorem gX11_isWantedBy_X14_isBorrow : GoodIn wsX11_isWantedBy (wsV RX11 143 RX14 yX14_isBorrow wsX14_isBorrow) := goodIn_app (goodIn_of _ (by decide +kernel)) ggX11_isWantedBy_X14_isBorrow
set_option maxRecDepth 20000 in
theorem ggX11_isWantedBy_Jx4a65c_get_915e3 : GoodIn wsX11_isWantedBy wsJx4a65c_get_915e3 := goodIn_r _ [27, 20, 28, 29, 30, 31, 32, 33, 34, 35, 36, 37, 38, 18, 39, 40, 88, 89, 90] (by decide +kernel) (by decide +kernel)
set_option maxRecDepth 20000 in
theorem gX11_isWantedBy_Jx4a65c_get_915e3 : GoodIn wsX11_isWantedBy (wsV RX11 73 RJx4a65c yJx4a65c_get_915e3 wsJx4a65c_get_915e3) := goodIn_app (goodIn_of _ (by decide +kernel)) ggX11_isWantedBy_Jx4a65c_get_915e3
set_option maxRecDepth 20000 in
theorem ggX11_isWantedBy_X14_uses_ : GoodIn wsX11_isWantedBy wsX14_uses_ := goodIn_r _ [51, 52, 53, 54, 7, 55, 56, 57, 58, 59, 92, 93, 94] (by decide +kernel) (by decide +kernel)
set_option maxRecDepth 20000 in
theorem gX11_isWantedBy_X14_uses_ : GoodIn wsX11_isWantedBy (wsV RX11 147 RX14 yX14_uses_ wsX14_uses_) := goodIn_app (goodIn_of _ (by decide +kernel)) ggX11_isWantedBy_X14_uses_
set_option maxRecDepth 20000 in
theorem ggX11_isWantedBy_X14_gives : GoodIn wsX11_isWantedBy wsX14_gives := goodIn_r _ [63, 59, 64, 65, 66, 67, 68, 69, 92, 93, 94] (by decide +kernel) (by decide +kernel)
set_option maxRecDepth 20000 in
theorem gX11_isWantedBy_X14_gives : GoodIn wsX11_isWantedBy (wsV RX11 151 RX14 yX14_gives wsX14_gives) := goodIn_app (goodIn_of _ (by decide +kernel)) ggX11_isWantedBy_X14_gives
set_option maxRecDepth 20000 in
theorem ggX11_isWantedBy_X11_isWantedBehind : GoodIn wsX11_isWantedBy wsX11_isWantedBehind := goodIn_r _ [74, 75, 76, 77, 78, 79, 80, 81, 82, 83, 84, 85] (by decide +kernel) (by decide +kernel)
set_option maxRecDepth 20000 in
theorem gX11_isWantedBy_X11_isWantedBehind : GoodIn wsX11_isWantedBy (wsV RX11 153 RX11 yX11_isWantedBehind wsX11_isWantedBehind) := goodIn_app (goodIn_of _ (by decide +kernel)) ggX11_isWantedBy_X11_isWantedBehind
theorem dX11_isWantedBy_0 : decode cX11_isWantedBy 0 = .ok (.aload_n 0, 1) := by decide +kernel
theorem dX11_isWantedBy_1 : decode cX11_isWantedBy 1 = .ok (.getfield 15, 3) := by decide +kernel
theorem dX11_isWantedBy_4 : decode cX11_isWantedBy 4 = .ok (.iconst 3, 1) := by decide +kernel
theorem dX11_isWantedBy_5 : decode cX11_isWantedBy 5 = .ok (.iload_n 2, 1) := by decide +kernel
theorem dX11_isWantedBy_6 : decode cX11_isWantedBy 6 = .ok (.imul, 1) := by decide +kernel
theorem dX11_isWantedBy_7 : decode cX11_isWantedBy 7 = .ok (.invokevirtual 143, 3) := by decide +kernel
theorem dX11_isWantedBy_10 : decode cX11_isWantedBy 10 = .ok (.ifCond .ne 5, 3) := by decide +kernel
theorem dX11_isWantedBy_13 : decode cX11_isWantedBy 13 = .ok (.iconst 0, 1) := by decide +kernel
theorem dX11_isWantedBy_14 : decode cX11_isWantedBy 14 = .ok (.ireturn, 1) := by decide +kernel
theorem dX11_isWantedBy_15 : decode cX11_isWantedBy 15 = .ok (.aload_n 0, 1) := by decide +kernel
theorem dX11_isWantedBy_16 : decode cX11_isWantedBy 16 = .ok (.getfield 15, 3) := by decide +kernel
theorem dX11_isWantedBy_19 : decode cX11_isWantedBy 19 = .ok (.getfield 19, 3) := by decide +kernel
theorem dX11_isWantedBy_22 : decode cX11_isWantedBy 22 = .ok (.iload_n 1, 1) := by decide +kernel
theorem dX11_isWantedBy_23 : decode cX11_isWantedBy 23 = .ok (.invokevirtual 73, 3) := by decide +kernel
theorem dX11_isWantedBy_26 : decode cX11_isWantedBy 26 = .ok (.checkcast 77, 3) := by decide +kernel
theorem dX11_isWantedBy_29 : decode cX11_isWantedBy 29 = .ok (.astore_n 3, 1) := by decide +kernel
theorem dX11_isWantedBy_30 : decode cX11_isWantedBy 30 = .ok (.aload_n 0, 1) := by decide +kernel
theorem dX11_isWantedBy_31 : decode cX11_isWantedBy 31 = .ok (.getfield 15, 3) := by decide +kernel
theorem dX11_isWantedBy_34 : decode cX11_isWantedBy 34 = .ok (.aload_n 3, 1) := by decide +kernel
theorem dX11_isWantedBy_35 : decode cX11_isWantedBy 35 = .ok (.iload_n 2, 1) := by decide +kernel
theorem dX11_isWantedBy_36 : decode cX11_isWantedBy 36 = .ok (.invokevirtual 147, 3) := by decide +kernel
theorem dX11_isWantedBy_39 : decode cX11_isWantedBy 39 = .ok (.ifCond .eq 5, 3) := by decide +kernel
theorem dX11_isWantedBy_42 : decode cX11_isWantedBy 42 = .ok (.iconst 1, 1) := by decide +kernel
theorem dX11_isWantedBy_43 : decode cX11_isWantedBy 43 = .ok (.ireturn, 1) := by decide +kernel
theorem dX11_isWantedBy_44 : decode cX11_isWantedBy 44 = .ok (.aload_n 0, 1) := by decide +kernel
theorem dX11_isWantedBy_45 : decode cX11_isWantedBy 45 = .ok (.getfield 15, 3) := by decide +kernel
theorem dX11_isWantedBy_48 : decode cX11_isWantedBy 48 = .ok (.aload_n 3, 1) := by decide +kernel
theorem dX11_isWantedBy_49 : decode cX11_isWantedBy 49 = .ok (.iload_n 2, 1) := by decide +kernel
theorem dX11_isWantedBy_50 : decode cX11_isWantedBy 50 = .ok (.invokevirtual 151, 3) := by decide +kernel
theorem dX11_isWantedBy_53 : decode cX11_isWantedBy 53 = .ok (.ifCond .ne 16, 3) := by decide +kernel
theorem dX11_isWantedBy_56 : decode cX11_isWantedBy 56 = .ok (.aload_n 0, 1) := by decide +kernel
theorem dX11_isWantedBy_57 : decode cX11_isWantedBy 57 = .ok (.iload_n 1, 1) := by decide +kernel
theorem dX11_isWantedBy_58 : decode cX11_isWantedBy 58 = .ok (.iload_n 2, 1) := by decide +kernel
theorem dX11_isWantedBy_59 : decode cX11_isWantedBy 59 = .ok (.invokevirtual 153, 3) := by decide +kernel
theorem dX11_isWantedBy_62 : decode cX11_isWantedBy 62 = .ok (.ifCond .eq 7, 3) := by decide +kernel
theorem dX11_isWantedBy_65 : decode cX11_isWantedBy 65 = .ok (.iconst 1, 1) := by decide +kernel
theorem dX11_isWantedBy_66 : decode cX11_isWantedBy 66 = .ok (.goto 4, 3) := by decide +kernel
theorem dX11_isWantedBy_69 : decode cX11_isWantedBy 69 = .ok (.iconst 0, 1) := by decide +kernel
theorem dX11_isWantedBy_70 : decode cX11_isWantedBy 70 = .ok (.ireturn, 1) := by decide +kernel
theorem dX11_isWantedBehind_0 : decode cX11_isWantedBehind 0 = .ok (.aload_n 0, 1) := by decide +kernel
theorem dX11_isWantedBehind_1 : decode cX11_isWantedBehind 1 = .ok (.getfield 36, 3) := by decide +kernel
theorem dX11_isWantedBehind_4 : decode cX11_isWantedBehind 4 = .ok (.iload_n 1, 1) := by decide +kernel
theorem dX11_isWantedBehind_5 : decode cX11_isWantedBehind 5 = .ok (.aaload, 1) := by decide +kernel
theorem dX11_isWantedBehind_6 : decode cX11_isWantedBehind 6 = .ok (.astore_n 3, 1) := by decide +kernel
theorem dX11_isWantedBehind_7 : decode cX11_isWantedBehind 7 = .ok (.aload_n 3, 1) := by decide +kernel
theorem dX11_isWantedBehind_8 : decode cX11_isWantedBehind 8 = .ok (.arraylength, 1) := by decide +kernel
theorem dX11_isWantedBehind_9 : decode cX11_isWantedBehind 9 = .ok (.istore 4, 2) := by decide +kernel
theorem dX11_isWantedBehind_11 : decode cX11_isWantedBehind 11 = .ok (.iconst 0, 1) := by decide +kernel
theorem dX11_isWantedBehind_12 : decode cX11_isWantedBehind 12 = .ok (.istore 5, 2) := by decide +kernel
theorem dX11_isWantedBehind_14 : decode cX11_isWantedBehind 14 = .ok (.iload 5, 2) := by decide +kernel
theorem dX11_isWantedBehind_16 : decode cX11_isWantedBehind 16 = .ok (.iload 4, 2) := by decide +kernel
theorem dX11_isWantedBehind_18 : decode cX11_isWantedBehind 18 = .ok (.if_icmp .ge 29, 3) := by decide +kernel
theorem dX11_isWantedBehind_21 : decode cX11_isWantedBehind 21 = .ok (.aload_n 3, 1) := by decide +kernel
theorem dX11_isWantedBehind_22 : decode cX11_isWantedBehind 22 = .ok (.iload 5, 2) := by decide +kernel
theorem dX11_isWantedBehind_24 : decode cX11_isWantedBehind 24 = .ok (.iaload, 1) := by decide +kernel
theorem dX11_isWantedBehind_25 : decode cX11_isWantedBehind 25 = .ok (.istore 6, 2) := by decide +kernel
theorem dX11_isWantedBehind_27 : decode cX11_isWantedBehind 27 = .ok (.aload_n 0, 1) := by decide +kernel
theorem dX11_isWantedBehind_28 : decode cX11_isWantedBehind 28 = .ok (.getfield 59, 3) := by decide +kernel
theorem dX11_isWantedBehind_31 : decode cX11_isWantedBehind 31 = .ok (.iload 6, 2) := by decide +kernel
theorem dX11_isWantedBehind_33 : decode cX11_isWantedBehind 33 = .ok (.aaload, 1) := by decide +kernel
theorem dX11_isWantedBehind_34 : decode cX11_isWantedBehind 34 = .ok (.iload_n 2, 1) := by decide +kernel
theorem dX11_isWantedBehind_35 : decode cX11_isWantedBehind 35 = .ok (.baload, 1) := by decide +kernel
theorem dX11_isWantedBehind_36 : decode cX11_isWantedBehind 36 = .ok (.ifCond .eq 5, 3) := by decide +kernel
theorem dX11_isWantedBehind_39 : decode cX11_isWantedBehind 39 = .ok (.iconst 1, 1) := by decide +kernel
theorem dX11_isWantedBehind_40 : decode cX11_isWantedBehind 40 = .ok (.ireturn, 1) := by decide +kernel
theorem dX11_isWantedBehind_41 : decode cX11_isWantedBehind 41 = .ok (.iinc 5 1, 3) := by decide +kernel
theorem dX11_isWantedBehind_44 : decode cX11_isWantedBehind 44 = .ok (.goto (-30), 3) := by decide +kernel
theorem dX11_isWantedBehind_47 : decode cX11_isWantedBehind 47 = .ok (.iconst 0, 1) := by decide +kernel
theorem dX11_isWantedBehind_48 : decode cX11_isWantedBehind 48 = .ok (.ireturn, 1) := by decide +kernel
set_option maxRecDepth 20000 in
theorem ggX11_faults_Jx4a65c_init_da8c8 : GoodIn wsX11_faults wsJx4a65c_init_da8c8 := goodIn_r _ [10, 11, 12, 13, 14, 15, 16, 17, 18, 19, 20, 21, 22, 23, 24, 222, 223, 224] (by decide +kernel) (by decide +kernel)
set_option maxRecDepth 20000 in
theorem gX11_faults_Jx4a65c_init_da8c8 : GoodIn wsX11_faults (wsJx4a65c_init_da8c8) := ggX11_faults_Jx4a65c_init_da8c8
set_option maxRecDepth 20000 in
theorem ggX11_faults_X11_isWhole : GoodIn wsX11_faults wsX11_isWhole := goodIn_r _ [29, 5, 225, 226, 227, 228, 229, 230, 231, 232, 233] (by decide +kernel) (by decide +kernel)
set_option maxRecDepth 20000 in
theorem gX11_faults_X11_isWhole : GoodIn wsX11_faults (wsV RX11 156 RX11 yX11_isWhole wsX11_isWhole) := goodIn_app (goodIn_of _ (by decide +kernel)) ggX11_faults_X11_isWhole
set_option maxRecDepth 20000 in
theorem ggX11_faults_Jx4a65c_add_9ea2d : GoodIn wsX11_faults wsJx4a65c_add_9ea2d := goodIn_r _ [33, 34, 35, 12, 36, 37, 38, 39, 3, 40, 41, 42, 43, 44, 45, 46, 47, 48, 11, 49, 50, 51, 52, 53, 54, 55, 56, 57, 58, 59, 60, 61, 62, 63, 64, 65, 66, 67, 68, 69, 70, 71, 72, 73, 74, 75, 76, 77, 78, 79, 80, 81, 82, 222, 223, 224] (by decide +kernel) (by decide +kernel)
set_option maxRecDepth 20000 in
theorem gX11_faults_Jx4a65c_add_9ea2d : GoodIn wsX11_faults (wsV RX11 94 RJx4a65c yJx4a65c_add_9ea2d wsJx4a65c_add_9ea2d) := goodIn_app (goodIn_of _ (by decide +kernel)) ggX11_faults_Jx4a65c_add_9ea2d
set_option maxRecDepth 20000 in
theorem ggX11_faults_X11_faultOf : GoodIn wsX11_faults wsX11_faultOf := goodIn_r _ [86, 87, 88, 89, 90, 4, 91, 92, 93, 94, 3, 95, 36, 96, 97, 98, 99, 100, 101, 102, 103, 104, 105, 106, 107, 12, 108, 109, 110, 111, 112, 113, 114, 115, 116, 117, 118, 119, 120, 121, 122, 123, 124, 125, 126, 127, 128, 129, 130, 131, 132, 133, 134, 135, 136, 137, 138, 139, 140, 141, 142, 143, 144, 145, 146, 147, 148, 149, 150, 151, 28, 152, 153, 154, 155, 156, 157, 158, 159, 160, 161, 162, 163, 164, 165, 166, 167, 168, 169, 170, 171, 172, 173, 174, 23, 24, 175, 176, 35, 177, 178, 179, 180, 181, 182, 183, 184, 185, 186, 187, 188, 189, 190, 191, 192, 193, 194, 195, 196, 197, 198, 199, 200, 201, 202, 203, 204, 205, 206, 207, 208, 209, 210, 211, 212, 213, 214, 215, 216, 217, 218, 219, 220, 221, 225, 226, 227, 228, 229, 230, 231, 232, 233, 234, 235, 222, 223, 224, 236, 237, 238, 239, 240, 241, 242, 243] (by decide +kernel) (by decide +kernel)
set_option maxRecDepth 20000 in
theorem gX11_faults_X11_faultOf : GoodIn wsX11_faults (wsV RX11 159 RX11 yX11_faultOf wsX11_faultOf) := goodIn_app (goodIn_of _ (by decide +kernel)) ggX11_faults_X11_faultOf
theorem dX11_faults_0 : decode cX11_faults 0 = .ok (.new 26, 3) := by decide +kernel
theorem dX11_faults_3 : decode cX11_faults 3 = .ok (.dup, 1) := by decide +kernel
theorem dX11_faults_4 : decode cX11_faults 4 = .ok (.invokespecial 72, 3) := by decide +kernel
theorem dX11_faults_7 : decode cX11_faults 7 = .ok (.astore_n 1, 1) := by decide +kernel
theorem dX11_faults_8 : decode cX11_faults 8 = .ok (.aload_n 0, 1) := by decide +kernel
theorem dX11_faults_9 : decode cX11_faults 9 = .ok (.invokevirtual 156, 3) := by decide +kernel
theorem dX11_faults_12 : decode cX11_faults 12 = .ok (.ifCond .ne 32, 3) := by decide +kernel
theorem dX11_faults_15 : decode cX11_faults 15 = .ok (.aload_n 1, 1) := by decide +kernel
theorem dX11_faults_16 : decode cX11_faults 16 = .ok (.iconst 4, 1) := by decide +kernel
theorem dX11_faults_17 : decode cX11_faults 17 = .ok (.newarray .int, 2) := by decide +kernel
theorem dX11_faults_19 : decode cX11_faults 19 = .ok (.dup, 1) := by decide +kernel
theorem dX11_faults_20 : decode cX11_faults 20 = .ok (.iconst 0, 1) := by decide +kernel
theorem dX11_faults_21 : decode cX11_faults 21 = .ok (.iconst 5, 1) := by decide +kernel
theorem dX11_faults_22 : decode cX11_faults 22 = .ok (.iastore, 1) := by decide +kernel
theorem dX11_faults_23 : decode cX11_faults 23 = .ok (.dup, 1) := by decide +kernel
theorem dX11_faults_24 : decode cX11_faults 24 = .ok (.iconst 1, 1) := by decide +kernel
theorem dX11_faults_25 : decode cX11_faults 25 = .ok (.aload_n 0, 1) := by decide +kernel
theorem dX11_faults_26 : decode cX11_faults 26 = .ok (.getfield 9, 3) := by decide +kernel
theorem dX11_faults_29 : decode cX11_faults 29 = .ok (.iastore, 1) := by decide +kernel
theorem dX11_faults_30 : decode cX11_faults 30 = .ok (.dup, 1) := by decide +kernel
theorem dX11_faults_31 : decode cX11_faults 31 = .ok (.iconst 2, 1) := by decide +kernel
theorem dX11_faults_32 : decode cX11_faults 32 = .ok (.iconst (-1), 1) := by decide +kernel
theorem dX11_faults_33 : decode cX11_faults 33 = .ok (.iastore, 1) := by decide +kernel
theorem dX11_faults_34 : decode cX11_faults 34 = .ok (.dup, 1) := by decide +kernel
theorem dX11_faults_35 : decode cX11_faults 35 = .ok (.iconst 3, 1) := by decide +kernel
theorem dX11_faults_36 : decode cX11_faults 36 = .ok (.iconst (-1), 1) := by decide +kernel
theorem dX11_faults_37 : decode cX11_faults 37 = .ok (.iastore, 1) := by decide +kernel
theorem dX11_faults_38 : decode cX11_faults 38 = .ok (.invokevirtual 94, 3) := by decide +kernel
theorem dX11_faults_41 : decode cX11_faults 41 = .ok (.pop, 1) := by decide +kernel
theorem dX11_faults_42 : decode cX11_faults 42 = .ok (.aload_n 1, 1) := by decide +kernel
theorem dX11_faults_43 : decode cX11_faults 43 = .ok (.areturn, 1) := by decide +kernel
theorem dX11_faults_44 : decode cX11_faults 44 = .ok (.iconst 0, 1) := by decide +kernel
theorem dX11_faults_45 : decode cX11_faults 45 = .ok (.istore_n 2, 1) := by decide +kernel
theorem dX11_faults_46 : decode cX11_faults 46 = .ok (.iload_n 2, 1) := by decide +kernel
theorem dX11_faults_47 : decode cX11_faults 47 = .ok (.aload_n 0, 1) := by decide +kernel
theorem dX11_faults_48 : decode cX11_faults 48 = .ok (.getfield 31, 3) := by decide +kernel
theorem dX11_faults_51 : decode cX11_faults 51 = .ok (.if_icmp .ge 38, 3) := by decide +kernel
theorem dX11_faults_54 : decode cX11_faults 54 = .ok (.aload_n 0, 1) := by decide +kernel
theorem dX11_faults_55 : decode cX11_faults 55 = .ok (.getfield 43, 3) := by decide +kernel
theorem dX11_faults_58 : decode cX11_faults 58 = .ok (.iload_n 2, 1) := by decide +kernel
theorem dX11_faults_59 : decode cX11_faults 59 = .ok (.baload, 1) := by decide +kernel
theorem dX11_faults_60 : decode cX11_faults 60 = .ok (.ifCond .eq 11, 3) := by decide +kernel
theorem dX11_faults_63 : decode cX11_faults 63 = .ok (.aload_n 0, 1) := by decide +kernel
theorem dX11_faults_64 : decode cX11_faults 64 = .ok (.iload_n 2, 1) := by decide +kernel
theorem dX11_faults_65 : decode cX11_faults 65 = .ok (.invokevirtual 159, 3) := by decide +kernel
theorem dX11_faults_68 : decode cX11_faults 68 = .ok (.goto 4, 3) := by decide +kernel
theorem dX11_faults_71 : decode cX11_faults 71 = .ok (.aconst_null, 1) := by decide +kernel
theorem dX11_faults_72 : decode cX11_faults 72 = .ok (.astore_n 3, 1) := by decide +kernel
theorem dX11_faults_73 : decode cX11_faults 73 = .ok (.aload_n 3, 1) := by decide +kernel
theorem dX11_faults_74 : decode cX11_faults 74 = .ok (.ifnull 9, 3) := by decide +kernel
theorem dX11_faults_77 : decode cX11_faults 77 = .ok (.aload_n 1, 1) := by decide +kernel
theorem dX11_faults_78 : decode cX11_faults 78 = .ok (.aload_n 3, 1) := by decide +kernel
theorem dX11_faults_79 : decode cX11_faults 79 = .ok (.invokevirtual 94, 3) := by decide +kernel
theorem dX11_faults_82 : decode cX11_faults 82 = .ok (.pop, 1) := by decide +kernel
theorem dX11_faults_83 : decode cX11_faults 83 = .ok (.iinc 2 1, 3) := by decide +kernel
theorem dX11_faults_86 : decode cX11_faults 86 = .ok (.goto (-40), 3) := by decide +kernel
theorem dX11_faults_89 : decode cX11_faults 89 = .ok (.aload_n 1, 1) := by decide +kernel
theorem dX11_faults_90 : decode cX11_faults 90 = .ok (.areturn, 1) := by decide +kernel
set_option maxRecDepth 20000 in
theorem ggX11_faultOf_Jx4a65c_get_915e3 : GoodIn wsX11_faultOf wsJx4a65c_get_915e3 := goodIn_r _ [11, 12, 13, 14, 15, 16, 17, 18, 19, 20, 21, 22, 23, 10, 24, 25, 155, 156, 157] (by decide +kernel) (by decide +kernel)
set_option maxRecDepth 20000 in
theorem gX11_faultOf_Jx4a65c_get_915e3 : GoodIn wsX11_faultOf (wsV RX11 73 RJx4a65c yJx4a65c_get_915e3 wsJx4a65c_get_915e3) := goodIn_app (goodIn_of _ (by decide +kernel)) ggX11_faultOf_Jx4a65c_get_915e3
set_option maxRecDepth 20000 in
theorem ggX11_faultOf_X14_uses : GoodIn wsX11_faultOf wsX14_uses := goodIn_r _ [30, 31, 5, 32, 33, 158, 159, 160] (by decide +kernel) (by decide +kernel)
set_option maxRecDepth 20000 in
theorem gX11_faultOf_X14_uses : GoodIn wsX11_faultOf (wsV RX11 162 RX14 yX14_uses wsX14_uses) := goodIn_app (goodIn_of _ (by decide +kernel)) ggX11_faultOf_X14_uses
set_option maxRecDepth 20000 in
theorem ggX11_faultOf_X14_leaves : GoodIn wsX11_faultOf wsX14_leaves := goodIn_r _ [37, 5, 38, 39, 40, 29, 41, 42, 43, 44, 45, 46, 10, 47, 12, 48, 49, 50, 51, 8, 9, 11, 13, 14, 15, 16, 17, 18, 19, 20, 21, 22, 23, 24, 25, 52, 53, 54, 55, 56, 57, 153, 154, 155, 156, 157, 161] (by decide +kernel) (by decide +kernel)
set_option maxRecDepth 20000 in
theorem gX11_faultOf_X14_leaves : GoodIn wsX11_faultOf (wsV RX11 135 RX14 yX14_leaves wsX14_leaves) := goodIn_app (goodIn_of _ (by decide +kernel)) ggX11_faultOf_X14_leaves
set_option maxRecDepth 20000 in
theorem ggX11_faultOf_X14_takes : GoodIn wsX11_faultOf wsX14_takes := goodIn_r _ [61, 31, 33, 62, 5, 32, 38, 39, 40, 29, 41, 42, 43, 44, 45, 46, 10, 47, 12, 48, 49, 50, 51, 8, 9, 11, 13, 14, 15, 16, 17, 18, 19, 20, 21, 22, 23, 24, 25, 52, 53, 54, 55, 56, 57, 63, 64, 65, 66, 158, 159, 160, 153, 154, 155, 156, 157, 161] (by decide +kernel) (by decide +kernel)
set_option maxRecDepth 20000 in
theorem gX11_faultOf_X14_takes : GoodIn wsX11_faultOf (wsV RX11 165 RX14 yX14_takes wsX14_takes) := goodIn_app (goodIn_of _ (by decide +kernel)) ggX11_faultOf_X14_takes
set_option maxRecDepth 20000 in
theorem ggX11_faultOf_X11_clash : GoodIn wsX11_faultOf wsX11_clash := goodIn_r _ [71, 1, 2, 3, 72, 73, 74, 75, 76, 77, 78, 29, 79, 80, 81, 82, 83, 84, 10, 85, 86, 87, 88, 89, 90, 91, 92, 93, 94, 95, 96, 97, 98, 99, 100, 101, 102, 103, 104, 105, 106, 107, 108, 109, 110, 111, 112, 113, 114, 115, 116, 117, 118, 119, 120, 121, 122, 123, 44, 45, 46, 47, 12, 51, 8, 9, 11, 13, 14, 15, 16, 17, 18, 19, 20, 21, 22, 23, 24, 25, 7, 124, 125, 126, 127, 128, 49, 129, 130, 131, 132, 70, 133, 134, 135, 136, 137, 138, 139, 33, 140, 141, 142, 143, 144, 145, 146, 147, 148, 149, 150, 151, 152, 153, 154, 158, 159, 160, 162, 163, 164, 165, 155, 156, 157] (by decide +kernel) (by decide +kernel)
set_option maxRecDepth 20000 in
theorem gX11_faultOf_X11_clash : GoodIn wsX11_faultOf (wsV RX11 169 RX11 yX11_clash wsX11_clash) := goodIn_app (goodIn_of _ (by decide +kernel)) ggX11_faultOf_X11_clash
theorem dX11_faultOf_0 : decode cX11_faultOf 0 = .ok (.aload_n 0, 1) := by decide +kernel
theorem dX11_faultOf_1 : decode cX11_faultOf 1 = .ok (.getfield 15, 3) := by decide +kernel
theorem dX11_faultOf_4 : decode cX11_faultOf 4 = .ok (.getfield 19, 3) := by decide +kernel
theorem dX11_faultOf_7 : decode cX11_faultOf 7 = .ok (.iload_n 1, 1) := by decide +kernel
theorem dX11_faultOf_8 : decode cX11_faultOf 8 = .ok (.invokevirtual 73, 3) := by decide +kernel
theorem dX11_faultOf_11 : decode cX11_faultOf 11 = .ok (.checkcast 77, 3) := by decide +kernel
theorem dX11_faultOf_14 : decode cX11_faultOf 14 = .ok (.astore_n 2, 1) := by decide +kernel
theorem dX11_faultOf_15 : decode cX11_faultOf 15 = .ok (.aload_n 0, 1) := by decide +kernel
theorem dX11_faultOf_16 : decode cX11_faultOf 16 = .ok (.getfield 15, 3) := by decide +kernel
theorem dX11_faultOf_19 : decode cX11_faultOf 19 = .ok (.aload_n 2, 1) := by decide +kernel
theorem dX11_faultOf_20 : decode cX11_faultOf 20 = .ok (.invokevirtual 162, 3) := by decide +kernel
theorem dX11_faultOf_23 : decode cX11_faultOf 23 = .ok (.astore_n 3, 1) := by decide +kernel
theorem dX11_faultOf_24 : decode cX11_faultOf 24 = .ok (.aload_n 3, 1) := by decide +kernel
theorem dX11_faultOf_25 : decode cX11_faultOf 25 = .ok (.arraylength, 1) := by decide +kernel
theorem dX11_faultOf_26 : decode cX11_faultOf 26 = .ok (.istore 4, 2) := by decide +kernel
theorem dX11_faultOf_28 : decode cX11_faultOf 28 = .ok (.iconst 0, 1) := by decide +kernel
theorem dX11_faultOf_29 : decode cX11_faultOf 29 = .ok (.istore 5, 2) := by decide +kernel
theorem dX11_faultOf_31 : decode cX11_faultOf 31 = .ok (.iload 5, 2) := by decide +kernel
theorem dX11_faultOf_33 : decode cX11_faultOf 33 = .ok (.iload 4, 2) := by decide +kernel
theorem dX11_faultOf_35 : decode cX11_faultOf 35 = .ok (.if_icmp .ge 103, 3) := by decide +kernel
theorem dX11_faultOf_38 : decode cX11_faultOf 38 = .ok (.aload_n 3, 1) := by decide +kernel
theorem dX11_faultOf_39 : decode cX11_faultOf 39 = .ok (.iload 5, 2) := by decide +kernel
theorem dX11_faultOf_41 : decode cX11_faultOf 41 = .ok (.iaload, 1) := by decide +kernel
theorem dX11_faultOf_42 : decode cX11_faultOf 42 = .ok (.istore 6, 2) := by decide +kernel
theorem dX11_faultOf_44 : decode cX11_faultOf 44 = .ok (.aload_n 0, 1) := by decide +kernel
theorem dX11_faultOf_45 : decode cX11_faultOf 45 = .ok (.getfield 15, 3) := by decide +kernel
theorem dX11_faultOf_48 : decode cX11_faultOf 48 = .ok (.iload 6, 2) := by decide +kernel
theorem dX11_faultOf_50 : decode cX11_faultOf 50 = .ok (.invokevirtual 135, 3) := by decide +kernel
theorem dX11_faultOf_53 : decode cX11_faultOf 53 = .ok (.astore 7, 2) := by decide +kernel
theorem dX11_faultOf_55 : decode cX11_faultOf 55 = .ok (.aload 7, 2) := by decide +kernel
theorem dX11_faultOf_57 : decode cX11_faultOf 57 = .ok (.arraylength, 1) := by decide +kernel
theorem dX11_faultOf_58 : decode cX11_faultOf 58 = .ok (.istore 8, 2) := by decide +kernel
theorem dX11_faultOf_60 : decode cX11_faultOf 60 = .ok (.iconst 0, 1) := by decide +kernel
theorem dX11_faultOf_61 : decode cX11_faultOf 61 = .ok (.istore 9, 2) := by decide +kernel
theorem dX11_faultOf_63 : decode cX11_faultOf 63 = .ok (.iload 9, 2) := by decide +kernel
theorem dX11_faultOf_65 : decode cX11_faultOf 65 = .ok (.iload 8, 2) := by decide +kernel
theorem dX11_faultOf_67 : decode cX11_faultOf 67 = .ok (.if_icmp .ge 65, 3) := by decide +kernel
theorem dX11_faultOf_70 : decode cX11_faultOf 70 = .ok (.aload 7, 2) := by decide +kernel
theorem dX11_faultOf_72 : decode cX11_faultOf 72 = .ok (.iload 9, 2) := by decide +kernel
theorem dX11_faultOf_74 : decode cX11_faultOf 74 = .ok (.iaload, 1) := by decide +kernel
theorem dX11_faultOf_75 : decode cX11_faultOf 75 = .ok (.istore 10, 2) := by decide +kernel
theorem dX11_faultOf_77 : decode cX11_faultOf 77 = .ok (.aload_n 0, 1) := by decide +kernel
theorem dX11_faultOf_78 : decode cX11_faultOf 78 = .ok (.getfield 52, 3) := by decide +kernel
theorem dX11_faultOf_81 : decode cX11_faultOf 81 = .ok (.iload_n 1, 1) := by decide +kernel
theorem dX11_faultOf_82 : decode cX11_faultOf 82 = .ok (.aaload, 1) := by decide +kernel
theorem dX11_faultOf_83 : decode cX11_faultOf 83 = .ok (.iload 10, 2) := by decide +kernel
theorem dX11_faultOf_85 : decode cX11_faultOf 85 = .ok (.baload, 1) := by decide +kernel
theorem dX11_faultOf_86 : decode cX11_faultOf 86 = .ok (.ifCond .eq 40, 3) := by decide +kernel
theorem dX11_faultOf_89 : decode cX11_faultOf 89 = .ok (.iconst 4, 1) := by decide +kernel
theorem dX11_faultOf_90 : decode cX11_faultOf 90 = .ok (.newarray .int, 2) := by decide +kernel
theorem dX11_faultOf_92 : decode cX11_faultOf 92 = .ok (.dup, 1) := by decide +kernel
theorem dX11_faultOf_93 : decode cX11_faultOf 93 = .ok (.iconst 0, 1) := by decide +kernel
theorem dX11_faultOf_94 : decode cX11_faultOf 94 = .ok (.aload_n 0, 1) := by decide +kernel
theorem dX11_faultOf_95 : decode cX11_faultOf 95 = .ok (.getfield 49, 3) := by decide +kernel
theorem dX11_faultOf_98 : decode cX11_faultOf 98 = .ok (.iload_n 1, 1) := by decide +kernel
theorem dX11_faultOf_99 : decode cX11_faultOf 99 = .ok (.aaload, 1) := by decide +kernel
theorem dX11_faultOf_100 : decode cX11_faultOf 100 = .ok (.iload 10, 2) := by decide +kernel
theorem dX11_faultOf_102 : decode cX11_faultOf 102 = .ok (.baload, 1) := by decide +kernel
theorem dX11_faultOf_103 : decode cX11_faultOf 103 = .ok (.ifCond .eq 7, 3) := by decide +kernel
theorem dX11_faultOf_106 : decode cX11_faultOf 106 = .ok (.iconst 2, 1) := by decide +kernel
theorem dX11_faultOf_107 : decode cX11_faultOf 107 = .ok (.goto 4, 3) := by decide +kernel
theorem dX11_faultOf_110 : decode cX11_faultOf 110 = .ok (.iconst 1, 1) := by decide +kernel
theorem dX11_faultOf_111 : decode cX11_faultOf 111 = .ok (.iastore, 1) := by decide +kernel
theorem dX11_faultOf_112 : decode cX11_faultOf 112 = .ok (.dup, 1) := by decide +kernel
theorem dX11_faultOf_113 : decode cX11_faultOf 113 = .ok (.iconst 1, 1) := by decide +kernel
theorem dX11_faultOf_114 : decode cX11_faultOf 114 = .ok (.iload_n 1, 1) := by decide +kernel
theorem dX11_faultOf_115 : decode cX11_faultOf 115 = .ok (.iastore, 1) := by decide +kernel
theorem dX11_faultOf_116 : decode cX11_faultOf 116 = .ok (.dup, 1) := by decide +kernel
theorem dX11_faultOf_117 : decode cX11_faultOf 117 = .ok (.iconst 2, 1) := by decide +kernel
theorem dX11_faultOf_118 : decode cX11_faultOf 118 = .ok (.iload 10, 2) := by decide +kernel
theorem dX11_faultOf_120 : decode cX11_faultOf 120 = .ok (.iastore, 1) := by decide +kernel
theorem dX11_faultOf_121 : decode cX11_faultOf 121 = .ok (.dup, 1) := by decide +kernel
theorem dX11_faultOf_122 : decode cX11_faultOf 122 = .ok (.iconst 3, 1) := by decide +kernel
theorem dX11_faultOf_123 : decode cX11_faultOf 123 = .ok (.iconst (-1), 1) := by decide +kernel
theorem dX11_faultOf_124 : decode cX11_faultOf 124 = .ok (.iastore, 1) := by decide +kernel
theorem dX11_faultOf_125 : decode cX11_faultOf 125 = .ok (.areturn, 1) := by decide +kernel
theorem dX11_faultOf_126 : decode cX11_faultOf 126 = .ok (.iinc 9 1, 3) := by decide +kernel
theorem dX11_faultOf_129 : decode cX11_faultOf 129 = .ok (.goto (-66), 3) := by decide +kernel
theorem dX11_faultOf_132 : decode cX11_faultOf 132 = .ok (.iinc 5 1, 3) := by decide +kernel
theorem dX11_faultOf_135 : decode cX11_faultOf 135 = .ok (.goto (-104), 3) := by decide +kernel
theorem dX11_faultOf_138 : decode cX11_faultOf 138 = .ok (.aload_n 0, 1) := by decide +kernel
theorem dX11_faultOf_139 : decode cX11_faultOf 139 = .ok (.getfield 15, 3) := by decide +kernel
theorem dX11_faultOf_142 : decode cX11_faultOf 142 = .ok (.aload_n 2, 1) := by decide +kernel
theorem dX11_faultOf_143 : decode cX11_faultOf 143 = .ok (.invokevirtual 165, 3) := by decide +kernel
theorem dX11_faultOf_146 : decode cX11_faultOf 146 = .ok (.astore_n 3, 1) := by decide +kernel
theorem dX11_faultOf_147 : decode cX11_faultOf 147 = .ok (.aload_n 3, 1) := by decide +kernel
theorem dX11_faultOf_148 : decode cX11_faultOf 148 = .ok (.arraylength, 1) := by decide +kernel
theorem dX11_faultOf_149 : decode cX11_faultOf 149 = .ok (.istore 4, 2) := by decide +kernel
theorem dX11_faultOf_151 : decode cX11_faultOf 151 = .ok (.iconst 0, 1) := by decide +kernel
theorem dX11_faultOf_152 : decode cX11_faultOf 152 = .ok (.istore 5, 2) := by decide +kernel
theorem dX11_faultOf_154 : decode cX11_faultOf 154 = .ok (.iload 5, 2) := by decide +kernel
theorem dX11_faultOf_156 : decode cX11_faultOf 156 = .ok (.iload 4, 2) := by decide +kernel
theorem dX11_faultOf_158 : decode cX11_faultOf 158 = .ok (.if_icmp .ge 81, 3) := by decide +kernel
theorem dX11_faultOf_161 : decode cX11_faultOf 161 = .ok (.aload_n 3, 1) := by decide +kernel
theorem dX11_faultOf_162 : decode cX11_faultOf 162 = .ok (.iload 5, 2) := by decide +kernel
theorem dX11_faultOf_164 : decode cX11_faultOf 164 = .ok (.aaload, 1) := by decide +kernel
theorem dX11_faultOf_165 : decode cX11_faultOf 165 = .ok (.astore 6, 2) := by decide +kernel
theorem dX11_faultOf_167 : decode cX11_faultOf 167 = .ok (.aload_n 0, 1) := by decide +kernel
theorem dX11_faultOf_168 : decode cX11_faultOf 168 = .ok (.iload_n 1, 1) := by decide +kernel
theorem dX11_faultOf_169 : decode cX11_faultOf 169 = .ok (.aload 6, 2) := by decide +kernel
theorem dX11_faultOf_171 : decode cX11_faultOf 171 = .ok (.iconst 0, 1) := by decide +kernel
theorem dX11_faultOf_172 : decode cX11_faultOf 172 = .ok (.iaload, 1) := by decide +kernel
theorem dX11_faultOf_173 : decode cX11_faultOf 173 = .ok (.aload 6, 2) := by decide +kernel
theorem dX11_faultOf_175 : decode cX11_faultOf 175 = .ok (.iconst 1, 1) := by decide +kernel
theorem dX11_faultOf_176 : decode cX11_faultOf 176 = .ok (.iaload, 1) := by decide +kernel
theorem dX11_faultOf_177 : decode cX11_faultOf 177 = .ok (.iconst 1, 1) := by decide +kernel
theorem dX11_faultOf_178 : decode cX11_faultOf 178 = .ok (.if_icmp .ne 7, 3) := by decide +kernel
theorem dX11_faultOf_181 : decode cX11_faultOf 181 = .ok (.iconst 1, 1) := by decide +kernel
theorem dX11_faultOf_182 : decode cX11_faultOf 182 = .ok (.goto 4, 3) := by decide +kernel
theorem dX11_faultOf_185 : decode cX11_faultOf 185 = .ok (.iconst 0, 1) := by decide +kernel
theorem dX11_faultOf_186 : decode cX11_faultOf 186 = .ok (.invokevirtual 169, 3) := by decide +kernel
theorem dX11_faultOf_189 : decode cX11_faultOf 189 = .ok (.istore 7, 2) := by decide +kernel
theorem dX11_faultOf_191 : decode cX11_faultOf 191 = .ok (.iload 7, 2) := by decide +kernel
theorem dX11_faultOf_193 : decode cX11_faultOf 193 = .ok (.iconst (-1), 1) := by decide +kernel
theorem dX11_faultOf_194 : decode cX11_faultOf 194 = .ok (.if_icmp .eq 39, 3) := by decide +kernel
theorem dX11_faultOf_197 : decode cX11_faultOf 197 = .ok (.iconst 4, 1) := by decide +kernel
theorem dX11_faultOf_198 : decode cX11_faultOf 198 = .ok (.newarray .int, 2) := by decide +kernel
theorem dX11_faultOf_200 : decode cX11_faultOf 200 = .ok (.dup, 1) := by decide +kernel
theorem dX11_faultOf_201 : decode cX11_faultOf 201 = .ok (.iconst 0, 1) := by decide +kernel
theorem dX11_faultOf_202 : decode cX11_faultOf 202 = .ok (.aload 6, 2) := by decide +kernel
theorem dX11_faultOf_204 : decode cX11_faultOf 204 = .ok (.iconst 1, 1) := by decide +kernel
theorem dX11_faultOf_205 : decode cX11_faultOf 205 = .ok (.iaload, 1) := by decide +kernel
theorem dX11_faultOf_206 : decode cX11_faultOf 206 = .ok (.iconst 1, 1) := by decide +kernel
theorem dX11_faultOf_207 : decode cX11_faultOf 207 = .ok (.if_icmp .ne 7, 3) := by decide +kernel
theorem dX11_faultOf_210 : decode cX11_faultOf 210 = .ok (.iconst 3, 1) := by decide +kernel
theorem dX11_faultOf_211 : decode cX11_faultOf 211 = .ok (.goto 4, 3) := by decide +kernel
theorem dX11_faultOf_214 : decode cX11_faultOf 214 = .ok (.iconst 4, 1) := by decide +kernel
theorem dX11_faultOf_215 : decode cX11_faultOf 215 = .ok (.iastore, 1) := by decide +kernel
theorem dX11_faultOf_216 : decode cX11_faultOf 216 = .ok (.dup, 1) := by decide +kernel
theorem dX11_faultOf_217 : decode cX11_faultOf 217 = .ok (.iconst 1, 1) := by decide +kernel
theorem dX11_faultOf_218 : decode cX11_faultOf 218 = .ok (.iload_n 1, 1) := by decide +kernel
theorem dX11_faultOf_219 : decode cX11_faultOf 219 = .ok (.iastore, 1) := by decide +kernel
theorem dX11_faultOf_220 : decode cX11_faultOf 220 = .ok (.dup, 1) := by decide +kernel
theorem dX11_faultOf_221 : decode cX11_faultOf 221 = .ok (.iconst 2, 1) := by decide +kernel
theorem dX11_faultOf_222 : decode cX11_faultOf 222 = .ok (.aload 6, 2) := by decide +kernel
theorem dX11_faultOf_224 : decode cX11_faultOf 224 = .ok (.iconst 0, 1) := by decide +kernel
theorem dX11_faultOf_225 : decode cX11_faultOf 225 = .ok (.iaload, 1) := by decide +kernel
theorem dX11_faultOf_226 : decode cX11_faultOf 226 = .ok (.iastore, 1) := by decide +kernel
theorem dX11_faultOf_227 : decode cX11_faultOf 227 = .ok (.dup, 1) := by decide +kernel
theorem dX11_faultOf_228 : decode cX11_faultOf 228 = .ok (.iconst 3, 1) := by decide +kernel
theorem dX11_faultOf_229 : decode cX11_faultOf 229 = .ok (.iload 7, 2) := by decide +kernel
theorem dX11_faultOf_231 : decode cX11_faultOf 231 = .ok (.iastore, 1) := by decide +kernel
theorem dX11_faultOf_232 : decode cX11_faultOf 232 = .ok (.areturn, 1) := by decide +kernel
theorem dX11_faultOf_233 : decode cX11_faultOf 233 = .ok (.iinc 5 1, 3) := by decide +kernel
theorem dX11_faultOf_236 : decode cX11_faultOf 236 = .ok (.goto (-82), 3) := by decide +kernel
theorem dX11_faultOf_239 : decode cX11_faultOf 239 = .ok (.aconst_null, 1) := by decide +kernel
theorem dX11_faultOf_240 : decode cX11_faultOf 240 = .ok (.areturn, 1) := by decide +kernel
set_option maxRecDepth 20000 in
theorem ggX11_clash_X14_loans : GoodIn wsX11_clash wsX14_loans := goodIn_r _ [12, 13, 14, 15, 16, 17, 18, 19, 20, 21, 22, 23, 24, 25, 26, 27, 28, 29, 30, 31, 32, 33, 34, 35, 36, 37, 38, 39, 40, 41, 42, 43, 44, 45, 46, 47, 48, 49, 50, 51, 52, 53, 113, 114, 118, 119, 120, 121, 122, 123, 124, 115, 116, 117] (by decide +kernel) (by decide +kernel)
set_option maxRecDepth 20000 in
theorem gX11_clash_X14_loans : GoodIn wsX11_clash (wsV RX11 173 RX14 yX14_loans wsX14_loans) := goodIn_app (goodIn_of _ (by decide +kernel)) ggX11_clash_X14_loans
set_option maxRecDepth 20000 in
theorem ggX11_clash_X14_lineOf : GoodIn wsX11_clash wsX14_lineOf := goodIn_r _ [57, 13, 14, 58, 59, 60, 18, 61, 62, 63, 64, 65, 66, 67, 68, 69, 70, 71, 72, 73, 74, 75, 76, 77, 78, 79, 48, 49, 50, 51, 52, 53, 113, 114, 122, 123, 124, 115, 116, 117] (by decide +kernel) (by decide +kernel)
set_option maxRecDepth 20000 in
theorem gX11_clash_X14_lineOf : GoodIn wsX11_clash (wsV RX11 176 RX14 yX14_lineOf wsX14_lineOf) := goodIn_app (goodIn_of _ (by decide +kernel)) ggX11_clash_X14_lineOf
set_option maxRecDepth 20000 in
theorem ggX11_clash_Jx4a65c_get_915e3 : GoodIn wsX11_clash wsJx4a65c_get_915e3 := goodIn_r _ [66, 62, 67, 68, 69, 70, 71, 72, 73, 74, 75, 76, 77, 18, 78, 79, 122, 123, 124] (by decide +kernel) (by decide +kernel)
set_option maxRecDepth 20000 in
theorem gX11_clash_Jx4a65c_get_915e3 : GoodIn wsX11_clash (wsV RX11 73 RJx4a65c yJx4a65c_get_915e3 wsJx4a65c_get_915e3) := goodIn_app (goodIn_of _ (by decide +kernel)) ggX11_clash_Jx4a65c_get_915e3
set_option maxRecDepth 20000 in
theorem ggX11_clash_X14_meet : GoodIn wsX11_clash wsX14_meet := goodIn_r _ [83] (by decide +kernel) (by decide +kernel)
set_option maxRecDepth 20000 in
theorem gX11_clash_X14_meet : GoodIn wsX11_clash (va_wsS RX11 179 yX14_meet wsX14_meet) := goodIn_app (goodIn_of _ (by decide +kernel)) ggX11_clash_X14_meet
set_option maxRecDepth 20000 in
theorem ggX11_clash_Jx4a65c_size_8abf5 : GoodIn wsX11_clash wsJx4a65c_size_8abf5 := goodIn_r _ [61, 62, 122, 123, 124] (by decide +kernel) (by decide +kernel)
set_option maxRecDepth 20000 in
theorem gX11_clash_Jx4a65c_size_8abf5 : GoodIn wsX11_clash (wsV RX11 25 RJx4a65c yJx4a65c_size_8abf5 wsJx4a65c_size_8abf5) := goodIn_app (goodIn_of _ (by decide +kernel)) ggX11_clash_Jx4a65c_size_8abf5
set_option maxRecDepth 20000 in
theorem ggX11_clash_X16_has : GoodIn wsX11_clash wsX16_has := goodIn_r _ [87] (by decide +kernel) (by decide +kernel)
set_option maxRecDepth 20000 in
theorem gX11_clash_X16_has_n182 : GoodIn wsX11_clash (wsX16_has) := ggX11_clash_X16_has
set_option maxRecDepth 20000 in
theorem ggX11_clash_X11_isWantedBehind : GoodIn wsX11_clash wsX11_isWantedBehind := goodIn_r _ [92, 93, 94, 104, 105, 106, 107, 108, 109, 110, 111, 112] (by decide +kernel) (by decide +kernel)
set_option maxRecDepth 20000 in
theorem gX11_clash_X11_isWantedBehind : GoodIn wsX11_clash (wsV RX11 153 RX11 yX11_isWantedBehind wsX11_isWantedBehind) := goodIn_app (goodIn_of _ (by decide +kernel)) ggX11_clash_X11_isWantedBehind
set_option maxRecDepth 20000 in
theorem ggX11_clash_X14_gives : GoodIn wsX11_clash wsX14_gives := goodIn_r _ [98, 99, 100, 101, 102, 51, 103, 53, 115, 116, 117] (by decide +kernel) (by decide +kernel)
set_option maxRecDepth 20000 in
theorem gX11_clash_X14_gives : GoodIn wsX11_clash (wsV RX11 151 RX14 yX14_gives wsX14_gives) := goodIn_app (goodIn_of _ (by decide +kernel)) ggX11_clash_X14_gives
theorem dX11_clash_0 : decode cX11_clash 0 = .ok (.iconst 0, 1) := by decide +kernel
theorem dX11_clash_1 : decode cX11_clash 1 = .ok (.istore 4, 2) := by decide +kernel
theorem dX11_clash_3 : decode cX11_clash 3 = .ok (.iload 4, 2) := by decide +kernel
theorem dX11_clash_5 : decode cX11_clash 5 = .ok (.aload_n 0, 1) := by decide +kernel
theorem dX11_clash_6 : decode cX11_clash 6 = .ok (.getfield 15, 3) := by decide +kernel
theorem dX11_clash_9 : decode cX11_clash 9 = .ok (.invokevirtual 173, 3) := by decide +kernel
theorem dX11_clash_12 : decode cX11_clash 12 = .ok (.if_icmp .ge 141, 3) := by decide +kernel
theorem dX11_clash_15 : decode cX11_clash 15 = .ok (.aload_n 0, 1) := by decide +kernel
theorem dX11_clash_16 : decode cX11_clash 16 = .ok (.getfield 15, 3) := by decide +kernel
theorem dX11_clash_19 : decode cX11_clash 19 = .ok (.getfield 19, 3) := by decide +kernel
theorem dX11_clash_22 : decode cX11_clash 22 = .ok (.aload_n 0, 1) := by decide +kernel
theorem dX11_clash_23 : decode cX11_clash 23 = .ok (.getfield 15, 3) := by decide +kernel
theorem dX11_clash_26 : decode cX11_clash 26 = .ok (.iload 4, 2) := by decide +kernel
theorem dX11_clash_28 : decode cX11_clash 28 = .ok (.invokevirtual 176, 3) := by decide +kernel
theorem dX11_clash_31 : decode cX11_clash 31 = .ok (.invokevirtual 73, 3) := by decide +kernel
theorem dX11_clash_34 : decode cX11_clash 34 = .ok (.checkcast 77, 3) := by decide +kernel
theorem dX11_clash_37 : decode cX11_clash 37 = .ok (.astore 5, 2) := by decide +kernel
theorem dX11_clash_39 : decode cX11_clash 39 = .ok (.aload 5, 2) := by decide +kernel
theorem dX11_clash_41 : decode cX11_clash 41 = .ok (.getfield 111, 3) := by decide +kernel
theorem dX11_clash_44 : decode cX11_clash 44 = .ok (.iload_n 2, 1) := by decide +kernel
theorem dX11_clash_45 : decode cX11_clash 45 = .ok (.invokestatic 179, 3) := by decide +kernel
theorem dX11_clash_48 : decode cX11_clash 48 = .ok (.ifCond .eq 99, 3) := by decide +kernel
theorem dX11_clash_51 : decode cX11_clash 51 = .ok (.iload_n 3, 1) := by decide +kernel
theorem dX11_clash_52 : decode cX11_clash 52 = .ok (.ifCond .ne 15, 3) := by decide +kernel
theorem dX11_clash_55 : decode cX11_clash 55 = .ok (.aload 5, 2) := by decide +kernel
theorem dX11_clash_57 : decode cX11_clash 57 = .ok (.getfield 79, 3) := by decide +kernel
theorem dX11_clash_60 : decode cX11_clash 60 = .ok (.iconst 3, 1) := by decide +kernel
theorem dX11_clash_61 : decode cX11_clash 61 = .ok (.if_icmp .ne 6, 3) := by decide +kernel
theorem dX11_clash_64 : decode cX11_clash 64 = .ok (.goto 83, 3) := by decide +kernel
theorem dX11_clash_67 : decode cX11_clash 67 = .ok (.iconst 0, 1) := by decide +kernel
theorem dX11_clash_68 : decode cX11_clash 68 = .ok (.istore 6, 2) := by decide +kernel
theorem dX11_clash_70 : decode cX11_clash 70 = .ok (.iload 6, 2) := by decide +kernel
theorem dX11_clash_72 : decode cX11_clash 72 = .ok (.aload_n 0, 1) := by decide +kernel
theorem dX11_clash_73 : decode cX11_clash 73 = .ok (.getfield 15, 3) := by decide +kernel
theorem dX11_clash_76 : decode cX11_clash 76 = .ok (.getfield 40, 3) := by decide +kernel
theorem dX11_clash_79 : decode cX11_clash 79 = .ok (.invokevirtual 25, 3) := by decide +kernel
theorem dX11_clash_82 : decode cX11_clash 82 = .ok (.if_icmp .ge 65, 3) := by decide +kernel
theorem dX11_clash_85 : decode cX11_clash 85 = .ok (.aload_n 0, 1) := by decide +kernel
theorem dX11_clash_86 : decode cX11_clash 86 = .ok (.getfield 56, 3) := by decide +kernel
theorem dX11_clash_89 : decode cX11_clash 89 = .ok (.iload_n 1, 1) := by decide +kernel
theorem dX11_clash_90 : decode cX11_clash 90 = .ok (.aaload, 1) := by decide +kernel
theorem dX11_clash_91 : decode cX11_clash 91 = .ok (.iload 6, 2) := by decide +kernel
theorem dX11_clash_93 : decode cX11_clash 93 = .ok (.iaload, 1) := by decide +kernel
theorem dX11_clash_94 : decode cX11_clash 94 = .ok (.iload 4, 2) := by decide +kernel
theorem dX11_clash_96 : decode cX11_clash 96 = .ok (.invokestatic 182, 3) := by decide +kernel
theorem dX11_clash_99 : decode cX11_clash 99 = .ok (.ifCond .eq 42, 3) := by decide +kernel
theorem dX11_clash_102 : decode cX11_clash 102 = .ok (.aload_n 0, 1) := by decide +kernel
theorem dX11_clash_103 : decode cX11_clash 103 = .ok (.iload_n 1, 1) := by decide +kernel
theorem dX11_clash_104 : decode cX11_clash 104 = .ok (.iload 6, 2) := by decide +kernel
theorem dX11_clash_106 : decode cX11_clash 106 = .ok (.invokevirtual 153, 3) := by decide +kernel
theorem dX11_clash_109 : decode cX11_clash 109 = .ok (.ifCond .eq 32, 3) := by decide +kernel
theorem dX11_clash_112 : decode cX11_clash 112 = .ok (.aload_n 0, 1) := by decide +kernel
theorem dX11_clash_113 : decode cX11_clash 113 = .ok (.getfield 15, 3) := by decide +kernel
theorem dX11_clash_116 : decode cX11_clash 116 = .ok (.aload_n 0, 1) := by decide +kernel
theorem dX11_clash_117 : decode cX11_clash 117 = .ok (.getfield 15, 3) := by decide +kernel
theorem dX11_clash_120 : decode cX11_clash 120 = .ok (.getfield 19, 3) := by decide +kernel
theorem dX11_clash_123 : decode cX11_clash 123 = .ok (.iload_n 1, 1) := by decide +kernel
theorem dX11_clash_124 : decode cX11_clash 124 = .ok (.invokevirtual 73, 3) := by decide +kernel
theorem dX11_clash_127 : decode cX11_clash 127 = .ok (.checkcast 77, 3) := by decide +kernel
theorem dX11_clash_130 : decode cX11_clash 130 = .ok (.iload 6, 2) := by decide +kernel
theorem dX11_clash_132 : decode cX11_clash 132 = .ok (.invokevirtual 151, 3) := by decide +kernel
theorem dX11_clash_135 : decode cX11_clash 135 = .ok (.ifCond .ne 6, 3) := by decide +kernel
theorem dX11_clash_138 : decode cX11_clash 138 = .ok (.iload 4, 2) := by decide +kernel
theorem dX11_clash_140 : decode cX11_clash 140 = .ok (.ireturn, 1) := by decide +kernel
theorem dX11_clash_141 : decode cX11_clash 141 = .ok (.iinc 6 1, 3) := by decide +kernel
theorem dX11_clash_144 : decode cX11_clash 144 = .ok (.goto (-74), 3) := by decide +kernel
theorem dX11_clash_147 : decode cX11_clash 147 = .ok (.iinc 4 1, 3) := by decide +kernel
theorem dX11_clash_150 : decode cX11_clash 150 = .ok (.goto (-147), 3) := by decide +kernel
theorem dX11_clash_153 : decode cX11_clash 153 = .ok (.iconst (-1), 1) := by decide +kernel
theorem dX11_clash_154 : decode cX11_clash 154 = .ok (.ireturn, 1) := by decide +kernel
set_option maxRecDepth 20000 in
theorem ggX11_inTheWay_X14_loans : GoodIn wsX11_inTheWay wsX14_loans := goodIn_r _ [12, 13, 14, 15, 16, 17, 18, 19, 20, 21, 22, 23, 24, 25, 26, 27, 28, 29, 30, 31, 32, 33, 34, 35, 36, 37, 38, 39, 40, 41, 42, 43, 44, 45, 46, 47, 48, 49, 50, 51, 52, 53, 97, 98, 102, 103, 104, 105, 106, 107, 108, 99, 100, 101] (by decide +kernel) (by decide +kernel)
set_option maxRecDepth 20000 in
theorem gX11_inTheWay_X14_loans : GoodIn wsX11_inTheWay (wsV RX11 173 RX14 yX14_loans wsX14_loans) := goodIn_app (goodIn_of _ (by decide +kernel)) ggX11_inTheWay_X14_loans
set_option maxRecDepth 20000 in
theorem ggX11_inTheWay_X14_lineOf : GoodIn wsX11_inTheWay wsX14_lineOf := goodIn_r _ [57, 13, 14, 58, 59, 60, 18, 61, 62, 63, 64, 65, 66, 67, 68, 69, 70, 71, 72, 73, 74, 75, 76, 77, 78, 79, 48, 49, 50, 51, 52, 53, 97, 98, 106, 107, 108, 99, 100, 101] (by decide +kernel) (by decide +kernel)
set_option maxRecDepth 20000 in
theorem gX11_inTheWay_X14_lineOf : GoodIn wsX11_inTheWay (wsV RX11 176 RX14 yX14_lineOf wsX14_lineOf) := goodIn_app (goodIn_of _ (by decide +kernel)) ggX11_inTheWay_X14_lineOf
set_option maxRecDepth 20000 in
theorem ggX11_inTheWay_Jx4a65c_get_915e3 : GoodIn wsX11_inTheWay wsJx4a65c_get_915e3 := goodIn_r _ [66, 62, 67, 68, 69, 70, 71, 72, 73, 74, 75, 76, 77, 18, 78, 79, 106, 107, 108] (by decide +kernel) (by decide +kernel)
set_option maxRecDepth 20000 in
theorem gX11_inTheWay_Jx4a65c_get_915e3 : GoodIn wsX11_inTheWay (wsV RX11 73 RJx4a65c yJx4a65c_get_915e3 wsJx4a65c_get_915e3) := goodIn_app (goodIn_of _ (by decide +kernel)) ggX11_inTheWay_Jx4a65c_get_915e3
set_option maxRecDepth 20000 in
theorem ggX11_inTheWay_X14_meet : GoodIn wsX11_inTheWay wsX14_meet := goodIn_r _ [83] (by decide +kernel) (by decide +kernel)
set_option maxRecDepth 20000 in
theorem gX11_inTheWay_X14_meet : GoodIn wsX11_inTheWay (va_wsS RX11 179 yX14_meet wsX14_meet) := goodIn_app (goodIn_of _ (by decide +kernel)) ggX11_inTheWay_X14_meet
set_option maxRecDepth 20000 in
theorem ggX11_inTheWay_Jx4a65c_size_8abf5 : GoodIn wsX11_inTheWay wsJx4a65c_size_8abf5 := goodIn_r _ [61, 62, 106, 107, 108] (by decide +kernel) (by decide +kernel)
set_option maxRecDepth 20000 in
theorem gX11_inTheWay_Jx4a65c_size_8abf5 : GoodIn wsX11_inTheWay (wsV RX11 25 RJx4a65c yJx4a65c_size_8abf5 wsJx4a65c_size_8abf5) := goodIn_app (goodIn_of _ (by decide +kernel)) ggX11_inTheWay_Jx4a65c_size_8abf5
set_option maxRecDepth 20000 in
theorem ggX11_inTheWay_X16_has : GoodIn wsX11_inTheWay wsX16_has := goodIn_r _ [87] (by decide +kernel) (by decide +kernel)
set_option maxRecDepth 20000 in
theorem gX11_inTheWay_X16_has_n182 : GoodIn wsX11_inTheWay (wsX16_has) := ggX11_inTheWay_X16_has
theorem dX11_inTheWay_0 : decode cX11_inTheWay 0 = .ok (.iconst 0, 1) := by decide +kernel
theorem dX11_inTheWay_1 : decode cX11_inTheWay 1 = .ok (.istore_n 3, 1) := by decide +kernel
theorem dX11_inTheWay_2 : decode cX11_inTheWay 2 = .ok (.iload_n 3, 1) := by decide +kernel
theorem dX11_inTheWay_3 : decode cX11_inTheWay 3 = .ok (.aload_n 0, 1) := by decide +kernel
theorem dX11_inTheWay_4 : decode cX11_inTheWay 4 = .ok (.getfield 15, 3) := by decide +kernel
theorem dX11_inTheWay_7 : decode cX11_inTheWay 7 = .ok (.invokevirtual 173, 3) := by decide +kernel
theorem dX11_inTheWay_10 : decode cX11_inTheWay 10 = .ok (.if_icmp .ge 97, 3) := by decide +kernel
theorem dX11_inTheWay_13 : decode cX11_inTheWay 13 = .ok (.aload_n 0, 1) := by decide +kernel
theorem dX11_inTheWay_14 : decode cX11_inTheWay 14 = .ok (.getfield 15, 3) := by decide +kernel
theorem dX11_inTheWay_17 : decode cX11_inTheWay 17 = .ok (.getfield 19, 3) := by decide +kernel
theorem dX11_inTheWay_20 : decode cX11_inTheWay 20 = .ok (.aload_n 0, 1) := by decide +kernel
theorem dX11_inTheWay_21 : decode cX11_inTheWay 21 = .ok (.getfield 15, 3) := by decide +kernel
theorem dX11_inTheWay_24 : decode cX11_inTheWay 24 = .ok (.iload_n 3, 1) := by decide +kernel
theorem dX11_inTheWay_25 : decode cX11_inTheWay 25 = .ok (.invokevirtual 176, 3) := by decide +kernel
theorem dX11_inTheWay_28 : decode cX11_inTheWay 28 = .ok (.invokevirtual 73, 3) := by decide +kernel
theorem dX11_inTheWay_31 : decode cX11_inTheWay 31 = .ok (.checkcast 77, 3) := by decide +kernel
theorem dX11_inTheWay_34 : decode cX11_inTheWay 34 = .ok (.getfield 111, 3) := by decide +kernel
theorem dX11_inTheWay_37 : decode cX11_inTheWay 37 = .ok (.iload_n 2, 1) := by decide +kernel
theorem dX11_inTheWay_38 : decode cX11_inTheWay 38 = .ok (.invokestatic 179, 3) := by decide +kernel
theorem dX11_inTheWay_41 : decode cX11_inTheWay 41 = .ok (.ifCond .ne 6, 3) := by decide +kernel
theorem dX11_inTheWay_44 : decode cX11_inTheWay 44 = .ok (.goto 57, 3) := by decide +kernel
theorem dX11_inTheWay_47 : decode cX11_inTheWay 47 = .ok (.iconst 0, 1) := by decide +kernel
theorem dX11_inTheWay_48 : decode cX11_inTheWay 48 = .ok (.istore 4, 2) := by decide +kernel
theorem dX11_inTheWay_50 : decode cX11_inTheWay 50 = .ok (.iload 4, 2) := by decide +kernel
theorem dX11_inTheWay_52 : decode cX11_inTheWay 52 = .ok (.aload_n 0, 1) := by decide +kernel
theorem dX11_inTheWay_53 : decode cX11_inTheWay 53 = .ok (.getfield 15, 3) := by decide +kernel
theorem dX11_inTheWay_56 : decode cX11_inTheWay 56 = .ok (.getfield 40, 3) := by decide +kernel
theorem dX11_inTheWay_59 : decode cX11_inTheWay 59 = .ok (.invokevirtual 25, 3) := by decide +kernel
theorem dX11_inTheWay_62 : decode cX11_inTheWay 62 = .ok (.if_icmp .ge 39, 3) := by decide +kernel
theorem dX11_inTheWay_65 : decode cX11_inTheWay 65 = .ok (.aload_n 0, 1) := by decide +kernel
theorem dX11_inTheWay_66 : decode cX11_inTheWay 66 = .ok (.getfield 56, 3) := by decide +kernel
theorem dX11_inTheWay_69 : decode cX11_inTheWay 69 = .ok (.iload_n 1, 1) := by decide +kernel
theorem dX11_inTheWay_70 : decode cX11_inTheWay 70 = .ok (.aaload, 1) := by decide +kernel
theorem dX11_inTheWay_71 : decode cX11_inTheWay 71 = .ok (.iload 4, 2) := by decide +kernel
theorem dX11_inTheWay_73 : decode cX11_inTheWay 73 = .ok (.iaload, 1) := by decide +kernel
theorem dX11_inTheWay_74 : decode cX11_inTheWay 74 = .ok (.iload_n 3, 1) := by decide +kernel
theorem dX11_inTheWay_75 : decode cX11_inTheWay 75 = .ok (.invokestatic 182, 3) := by decide +kernel
theorem dX11_inTheWay_78 : decode cX11_inTheWay 78 = .ok (.ifCond .eq 17, 3) := by decide +kernel
theorem dX11_inTheWay_81 : decode cX11_inTheWay 81 = .ok (.aload_n 0, 1) := by decide +kernel
theorem dX11_inTheWay_82 : decode cX11_inTheWay 82 = .ok (.getfield 59, 3) := by decide +kernel
theorem dX11_inTheWay_85 : decode cX11_inTheWay 85 = .ok (.iload_n 1, 1) := by decide +kernel
theorem dX11_inTheWay_86 : decode cX11_inTheWay 86 = .ok (.aaload, 1) := by decide +kernel
theorem dX11_inTheWay_87 : decode cX11_inTheWay 87 = .ok (.iload 4, 2) := by decide +kernel
theorem dX11_inTheWay_89 : decode cX11_inTheWay 89 = .ok (.baload, 1) := by decide +kernel
theorem dX11_inTheWay_90 : decode cX11_inTheWay 90 = .ok (.ifCond .eq 5, 3) := by decide +kernel
theorem dX11_inTheWay_93 : decode cX11_inTheWay 93 = .ok (.iload_n 3, 1) := by decide +kernel
theorem dX11_inTheWay_94 : decode cX11_inTheWay 94 = .ok (.ireturn, 1) := by decide +kernel
theorem dX11_inTheWay_95 : decode cX11_inTheWay 95 = .ok (.iinc 4 1, 3) := by decide +kernel
theorem dX11_inTheWay_98 : decode cX11_inTheWay 98 = .ok (.goto (-48), 3) := by decide +kernel
theorem dX11_inTheWay_101 : decode cX11_inTheWay 101 = .ok (.iinc 3 1, 3) := by decide +kernel
theorem dX11_inTheWay_104 : decode cX11_inTheWay 104 = .ok (.goto (-102), 3) := by decide +kernel
theorem dX11_inTheWay_107 : decode cX11_inTheWay 107 = .ok (.iconst (-1), 1) := by decide +kernel
theorem dX11_inTheWay_108 : decode cX11_inTheWay 108 = .ok (.ireturn, 1) := by decide +kernel
set_option maxRecDepth 20000 in
theorem ggX11_lastUse_Jx4a65c_size_8abf5 : GoodIn wsX11_lastUse wsJx4a65c_size_8abf5 := goodIn_r _ [11, 12, 77, 78, 79] (by decide +kernel) (by decide +kernel)
set_option maxRecDepth 20000 in
theorem gX11_lastUse_Jx4a65c_size_8abf5 : GoodIn wsX11_lastUse (wsV RX11 25 RJx4a65c yJx4a65c_size_8abf5 wsJx4a65c_size_8abf5) := goodIn_app (goodIn_of _ (by decide +kernel)) ggX11_lastUse_Jx4a65c_size_8abf5
set_option maxRecDepth 20000 in
theorem ggX11_lastUse_X14_isBorrow : GoodIn wsX11_lastUse wsX14_isBorrow := goodIn_r _ [17, 18, 19, 20, 16, 21, 22, 23, 24, 8, 9, 10, 11, 12, 25, 26, 27, 28, 29, 30, 31, 32, 33, 34, 35, 36, 37, 38, 39, 40, 41, 42, 43, 44, 45, 46, 47, 48, 49, 50, 75, 76, 77, 78, 79, 80] (by decide +kernel) (by decide +kernel)
set_option maxRecDepth 20000 in
theorem gX11_lastUse_X14_isBorrow : GoodIn wsX11_lastUse (wsV RX11 143 RX14 yX14_isBorrow wsX14_isBorrow) := goodIn_app (goodIn_of _ (by decide +kernel)) ggX11_lastUse_X14_isBorrow
set_option maxRecDepth 20000 in
theorem ggX11_lastUse_Jx4a65c_get_915e3 : GoodIn wsX11_lastUse wsJx4a65c_get_915e3 := goodIn_r _ [31, 12, 32, 33, 34, 35, 36, 37, 38, 39, 40, 41, 42, 10, 43, 44, 77, 78, 79] (by decide +kernel) (by decide +kernel)
set_option maxRecDepth 20000 in
theorem gX11_lastUse_Jx4a65c_get_915e3 : GoodIn wsX11_lastUse (wsV RX11 73 RJx4a65c yJx4a65c_get_915e3 wsJx4a65c_get_915e3) := goodIn_app (goodIn_of _ (by decide +kernel)) ggX11_lastUse_Jx4a65c_get_915e3
set_option maxRecDepth 20000 in
theorem ggX11_lastUse_X14_uses_ : GoodIn wsX11_lastUse wsX14_uses_ := goodIn_r _ [55, 56, 57, 58, 16, 59, 60, 61, 62, 63, 81, 82, 83] (by decide +kernel) (by decide +kernel)
set_option maxRecDepth 20000 in
theorem gX11_lastUse_X14_uses_ : GoodIn wsX11_lastUse (wsV RX11 147 RX14 yX14_uses_ wsX14_uses_) := goodIn_app (goodIn_of _ (by decide +kernel)) ggX11_lastUse_X14_uses_
set_option maxRecDepth 20000 in
theorem ggX11_lastUse_X16_has : GoodIn wsX11_lastUse wsX16_has := goodIn_r _ [65] (by decide +kernel) (by decide +kernel)
set_option maxRecDepth 20000 in
theorem gX11_lastUse_X16_has_n182 : GoodIn wsX11_lastUse (wsX16_has) := ggX11_lastUse_X16_has
theorem dX11_lastUse_0 : decode cX11_lastUse 0 = .ok (.aload_n 0, 1) := by decide +kernel
theorem dX11_lastUse_1 : decode cX11_lastUse 1 = .ok (.getfield 31, 3) := by decide +kernel
theorem dX11_lastUse_4 : decode cX11_lastUse 4 = .ok (.iconst 1, 1) := by decide +kernel
theorem dX11_lastUse_5 : decode cX11_lastUse 5 = .ok (.isub, 1) := by decide +kernel
theorem dX11_lastUse_6 : decode cX11_lastUse 6 = .ok (.istore_n 2, 1) := by decide +kernel
theorem dX11_lastUse_7 : decode cX11_lastUse 7 = .ok (.iload_n 2, 1) := by decide +kernel
theorem dX11_lastUse_8 : decode cX11_lastUse 8 = .ok (.ifCond .lt 86, 3) := by decide +kernel
theorem dX11_lastUse_11 : decode cX11_lastUse 11 = .ok (.iconst 0, 1) := by decide +kernel
theorem dX11_lastUse_12 : decode cX11_lastUse 12 = .ok (.istore_n 3, 1) := by decide +kernel
theorem dX11_lastUse_13 : decode cX11_lastUse 13 = .ok (.iload_n 3, 1) := by decide +kernel
theorem dX11_lastUse_14 : decode cX11_lastUse 14 = .ok (.aload_n 0, 1) := by decide +kernel
theorem dX11_lastUse_15 : decode cX11_lastUse 15 = .ok (.getfield 15, 3) := by decide +kernel
theorem dX11_lastUse_18 : decode cX11_lastUse 18 = .ok (.getfield 40, 3) := by decide +kernel
theorem dX11_lastUse_21 : decode cX11_lastUse 21 = .ok (.invokevirtual 25, 3) := by decide +kernel
theorem dX11_lastUse_24 : decode cX11_lastUse 24 = .ok (.if_icmp .ge 64, 3) := by decide +kernel
theorem dX11_lastUse_27 : decode cX11_lastUse 27 = .ok (.aload_n 0, 1) := by decide +kernel
theorem dX11_lastUse_28 : decode cX11_lastUse 28 = .ok (.getfield 15, 3) := by decide +kernel
theorem dX11_lastUse_31 : decode cX11_lastUse 31 = .ok (.iconst 3, 1) := by decide +kernel
theorem dX11_lastUse_32 : decode cX11_lastUse 32 = .ok (.iload_n 3, 1) := by decide +kernel
theorem dX11_lastUse_33 : decode cX11_lastUse 33 = .ok (.imul, 1) := by decide +kernel
theorem dX11_lastUse_34 : decode cX11_lastUse 34 = .ok (.invokevirtual 143, 3) := by decide +kernel
theorem dX11_lastUse_37 : decode cX11_lastUse 37 = .ok (.ifCond .eq 45, 3) := by decide +kernel
theorem dX11_lastUse_40 : decode cX11_lastUse 40 = .ok (.aload_n 0, 1) := by decide +kernel
theorem dX11_lastUse_41 : decode cX11_lastUse 41 = .ok (.getfield 15, 3) := by decide +kernel
theorem dX11_lastUse_44 : decode cX11_lastUse 44 = .ok (.aload_n 0, 1) := by decide +kernel
theorem dX11_lastUse_45 : decode cX11_lastUse 45 = .ok (.getfield 15, 3) := by decide +kernel
theorem dX11_lastUse_48 : decode cX11_lastUse 48 = .ok (.getfield 19, 3) := by decide +kernel
theorem dX11_lastUse_51 : decode cX11_lastUse 51 = .ok (.iload_n 2, 1) := by decide +kernel
theorem dX11_lastUse_52 : decode cX11_lastUse 52 = .ok (.invokevirtual 73, 3) := by decide +kernel
theorem dX11_lastUse_55 : decode cX11_lastUse 55 = .ok (.checkcast 77, 3) := by decide +kernel
theorem dX11_lastUse_58 : decode cX11_lastUse 58 = .ok (.iload_n 3, 1) := by decide +kernel
theorem dX11_lastUse_59 : decode cX11_lastUse 59 = .ok (.invokevirtual 147, 3) := by decide +kernel
theorem dX11_lastUse_62 : decode cX11_lastUse 62 = .ok (.ifCond .eq 20, 3) := by decide +kernel
theorem dX11_lastUse_65 : decode cX11_lastUse 65 = .ok (.aload_n 0, 1) := by decide +kernel
theorem dX11_lastUse_66 : decode cX11_lastUse 66 = .ok (.getfield 56, 3) := by decide +kernel
theorem dX11_lastUse_69 : decode cX11_lastUse 69 = .ok (.iload_n 2, 1) := by decide +kernel
theorem dX11_lastUse_70 : decode cX11_lastUse 70 = .ok (.aaload, 1) := by decide +kernel
theorem dX11_lastUse_71 : decode cX11_lastUse 71 = .ok (.iload_n 3, 1) := by decide +kernel
theorem dX11_lastUse_72 : decode cX11_lastUse 72 = .ok (.iaload, 1) := by decide +kernel
theorem dX11_lastUse_73 : decode cX11_lastUse 73 = .ok (.iload_n 1, 1) := by decide +kernel
theorem dX11_lastUse_74 : decode cX11_lastUse 74 = .ok (.invokestatic 182, 3) := by decide +kernel
theorem dX11_lastUse_77 : decode cX11_lastUse 77 = .ok (.ifCond .eq 5, 3) := by decide +kernel
theorem dX11_lastUse_80 : decode cX11_lastUse 80 = .ok (.iload_n 2, 1) := by decide +kernel
theorem dX11_lastUse_81 : decode cX11_lastUse 81 = .ok (.ireturn, 1) := by decide +kernel
theorem dX11_lastUse_82 : decode cX11_lastUse 82 = .ok (.iinc 3 1, 3) := by decide +kernel
theorem dX11_lastUse_85 : decode cX11_lastUse 85 = .ok (.goto (-72), 3) := by decide +kernel
theorem dX11_lastUse_88 : decode cX11_lastUse 88 = .ok (.iinc 2 (-1), 3) := by decide +kernel
theorem dX11_lastUse_91 : decode cX11_lastUse 91 = .ok (.goto (-84), 3) := by decide +kernel
theorem dX11_lastUse_94 : decode cX11_lastUse 94 = .ok (.iconst (-1), 1) := by decide +kernel
theorem dX11_lastUse_95 : decode cX11_lastUse 95 = .ok (.ireturn, 1) := by decide +kernel
set_option maxRecDepth 20000 in
theorem ggX11_state_X14_leaves : GoodIn wsX11_state wsX14_leaves := goodIn_r _ [9, 10, 11, 12, 13, 8, 14, 15, 16, 17, 18, 19, 20, 21, 22, 23, 24, 25, 26, 27, 28, 29, 30, 31, 32, 33, 34, 35, 36, 37, 38, 39, 40, 41, 42, 43, 44, 45, 46, 47, 48, 58, 59, 60, 61, 62, 63] (by decide +kernel) (by decide +kernel)
set_option maxRecDepth 20000 in
theorem gX11_state_X14_leaves : GoodIn wsX11_state (wsV RX11 135 RX14 yX14_leaves wsX14_leaves) := goodIn_app (goodIn_of _ (by decide +kernel)) ggX11_state_X14_leaves
theorem dX11_state_0 : decode cX11_state 0 = .ok (.aload_n 0, 1) := by decide +kernel
theorem dX11_state_1 : decode cX11_state 1 = .ok (.getfield 43, 3) := by decide +kernel
theorem dX11_state_4 : decode cX11_state 4 = .ok (.iload_n 1, 1) := by decide +kernel
theorem dX11_state_5 : decode cX11_state 5 = .ok (.baload, 1) := by decide +kernel
theorem dX11_state_6 : decode cX11_state 6 = .ok (.ifCond .ne 5, 3) := by decide +kernel
theorem dX11_state_9 : decode cX11_state 9 = .ok (.iconst 0, 1) := by decide +kernel
theorem dX11_state_10 : decode cX11_state 10 = .ok (.ireturn, 1) := by decide +kernel
theorem dX11_state_11 : decode cX11_state 11 = .ok (.iconst 1, 1) := by decide +kernel
theorem dX11_state_12 : decode cX11_state 12 = .ok (.istore_n 3, 1) := by decide +kernel
theorem dX11_state_13 : decode cX11_state 13 = .ok (.iconst 0, 1) := by decide +kernel
theorem dX11_state_14 : decode cX11_state 14 = .ok (.istore 4, 2) := by decide +kernel
theorem dX11_state_16 : decode cX11_state 16 = .ok (.aload_n 0, 1) := by decide +kernel
theorem dX11_state_17 : decode cX11_state 17 = .ok (.getfield 15, 3) := by decide +kernel
theorem dX11_state_20 : decode cX11_state 20 = .ok (.iload_n 2, 1) := by decide +kernel
theorem dX11_state_21 : decode cX11_state 21 = .ok (.invokevirtual 135, 3) := by decide +kernel
theorem dX11_state_24 : decode cX11_state 24 = .ok (.astore 5, 2) := by decide +kernel
theorem dX11_state_26 : decode cX11_state 26 = .ok (.aload 5, 2) := by decide +kernel
theorem dX11_state_28 : decode cX11_state 28 = .ok (.arraylength, 1) := by decide +kernel
theorem dX11_state_29 : decode cX11_state 29 = .ok (.istore 6, 2) := by decide +kernel
theorem dX11_state_31 : decode cX11_state 31 = .ok (.iconst 0, 1) := by decide +kernel
theorem dX11_state_32 : decode cX11_state 32 = .ok (.istore 7, 2) := by decide +kernel
theorem dX11_state_34 : decode cX11_state 34 = .ok (.iload 7, 2) := by decide +kernel
theorem dX11_state_36 : decode cX11_state 36 = .ok (.iload 6, 2) := by decide +kernel
theorem dX11_state_38 : decode cX11_state 38 = .ok (.if_icmp .ge 58, 3) := by decide +kernel
theorem dX11_state_41 : decode cX11_state 41 = .ok (.aload 5, 2) := by decide +kernel
theorem dX11_state_43 : decode cX11_state 43 = .ok (.iload 7, 2) := by decide +kernel
theorem dX11_state_45 : decode cX11_state 45 = .ok (.iaload, 1) := by decide +kernel
theorem dX11_state_46 : decode cX11_state 46 = .ok (.istore 8, 2) := by decide +kernel
theorem dX11_state_48 : decode cX11_state 48 = .ok (.iload_n 3, 1) := by decide +kernel
theorem dX11_state_49 : decode cX11_state 49 = .ok (.aload_n 0, 1) := by decide +kernel
theorem dX11_state_50 : decode cX11_state 50 = .ok (.getfield 52, 3) := by decide +kernel
theorem dX11_state_53 : decode cX11_state 53 = .ok (.iload_n 1, 1) := by decide +kernel
theorem dX11_state_54 : decode cX11_state 54 = .ok (.aaload, 1) := by decide +kernel
theorem dX11_state_55 : decode cX11_state 55 = .ok (.iload 8, 2) := by decide +kernel
theorem dX11_state_57 : decode cX11_state 57 = .ok (.baload, 1) := by decide +kernel
theorem dX11_state_58 : decode cX11_state 58 = .ok (.ifCond .ne 7, 3) := by decide +kernel
theorem dX11_state_61 : decode cX11_state 61 = .ok (.iconst 1, 1) := by decide +kernel
theorem dX11_state_62 : decode cX11_state 62 = .ok (.goto 4, 3) := by decide +kernel
theorem dX11_state_65 : decode cX11_state 65 = .ok (.iconst 0, 1) := by decide +kernel
theorem dX11_state_66 : decode cX11_state 66 = .ok (.iand, 1) := by decide +kernel
theorem dX11_state_67 : decode cX11_state 67 = .ok (.istore_n 3, 1) := by decide +kernel
theorem dX11_state_68 : decode cX11_state 68 = .ok (.iload 4, 2) := by decide +kernel
theorem dX11_state_70 : decode cX11_state 70 = .ok (.aload_n 0, 1) := by decide +kernel
theorem dX11_state_71 : decode cX11_state 71 = .ok (.getfield 49, 3) := by decide +kernel
theorem dX11_state_74 : decode cX11_state 74 = .ok (.iload_n 1, 1) := by decide +kernel
theorem dX11_state_75 : decode cX11_state 75 = .ok (.aaload, 1) := by decide +kernel
theorem dX11_state_76 : decode cX11_state 76 = .ok (.iload 8, 2) := by decide +kernel
theorem dX11_state_78 : decode cX11_state 78 = .ok (.baload, 1) := by decide +kernel
theorem dX11_state_79 : decode cX11_state 79 = .ok (.ifCond .ne 7, 3) := by decide +kernel
theorem dX11_state_82 : decode cX11_state 82 = .ok (.iconst 1, 1) := by decide +kernel
theorem dX11_state_83 : decode cX11_state 83 = .ok (.goto 4, 3) := by decide +kernel
theorem dX11_state_86 : decode cX11_state 86 = .ok (.iconst 0, 1) := by decide +kernel
theorem dX11_state_87 : decode cX11_state 87 = .ok (.ior, 1) := by decide +kernel
theorem dX11_state_88 : decode cX11_state 88 = .ok (.istore 4, 2) := by decide +kernel
theorem dX11_state_90 : decode cX11_state 90 = .ok (.iinc 7 1, 3) := by decide +kernel
theorem dX11_state_93 : decode cX11_state 93 = .ok (.goto (-59), 3) := by decide +kernel
theorem dX11_state_96 : decode cX11_state 96 = .ok (.iload_n 3, 1) := by decide +kernel
theorem dX11_state_97 : decode cX11_state 97 = .ok (.ifCond .eq 7, 3) := by decide +kernel
theorem dX11_state_100 : decode cX11_state 100 = .ok (.iconst 1, 1) := by decide +kernel
theorem dX11_state_101 : decode cX11_state 101 = .ok (.goto 13, 3) := by decide +kernel
theorem dX11_state_104 : decode cX11_state 104 = .ok (.iload 4, 2) := by decide +kernel
theorem dX11_state_106 : decode cX11_state 106 = .ok (.ifCond .eq 7, 3) := by decide +kernel
theorem dX11_state_109 : decode cX11_state 109 = .ok (.iconst 2, 1) := by decide +kernel
theorem dX11_state_110 : decode cX11_state 110 = .ok (.goto 4, 3) := by decide +kernel
theorem dX11_state_113 : decode cX11_state 113 = .ok (.iconst 3, 1) := by decide +kernel
theorem dX11_state_114 : decode cX11_state 114 = .ok (.ireturn, 1) := by decide +kernel
set_option maxRecDepth 20000 in
theorem ggX11_needsFlag_Jx4a65c_get_915e3 : GoodIn wsX11_needsFlag wsJx4a65c_get_915e3 := goodIn_r _ [12, 13, 14, 15, 16, 17, 18, 19, 20, 21, 22, 23, 24, 11, 25, 26, 49, 50, 51] (by decide +kernel) (by decide +kernel)
set_option maxRecDepth 20000 in
theorem gX11_needsFlag_Jx4a65c_get_915e3 : GoodIn wsX11_needsFlag (wsV RX11 73 RJx4a65c yJx4a65c_get_915e3 wsJx4a65c_get_915e3) := goodIn_app (goodIn_of _ (by decide +kernel)) ggX11_needsFlag_Jx4a65c_get_915e3
set_option maxRecDepth 20000 in
theorem ggX11_needsFlag_X11_asksFlag : GoodIn wsX11_needsFlag wsX11_asksFlag := goodIn_r _ [31, 32, 33, 34, 35, 36, 37, 52, 53, 54] (by decide +kernel) (by decide +kernel)
set_option maxRecDepth 20000 in
theorem gX11_needsFlag_X11_asksFlag : GoodIn wsX11_needsFlag (wsV RX11 185 RX11 yX11_asksFlag wsX11_asksFlag) := goodIn_app (goodIn_of _ (by decide +kernel)) ggX11_needsFlag_X11_asksFlag
theorem dX11_needsFlag_0 : decode cX11_needsFlag 0 = .ok (.iconst 0, 1) := by decide +kernel
theorem dX11_needsFlag_1 : decode cX11_needsFlag 1 = .ok (.istore_n 2, 1) := by decide +kernel
theorem dX11_needsFlag_2 : decode cX11_needsFlag 2 = .ok (.iload_n 2, 1) := by decide +kernel
theorem dX11_needsFlag_3 : decode cX11_needsFlag 3 = .ok (.aload_n 0, 1) := by decide +kernel
theorem dX11_needsFlag_4 : decode cX11_needsFlag 4 = .ok (.getfield 31, 3) := by decide +kernel
theorem dX11_needsFlag_7 : decode cX11_needsFlag 7 = .ok (.if_icmp .gt 72, 3) := by decide +kernel
theorem dX11_needsFlag_10 : decode cX11_needsFlag 10 = .ok (.aload_n 0, 1) := by decide +kernel
theorem dX11_needsFlag_11 : decode cX11_needsFlag 11 = .ok (.getfield 43, 3) := by decide +kernel
theorem dX11_needsFlag_14 : decode cX11_needsFlag 14 = .ok (.iload_n 2, 1) := by decide +kernel
theorem dX11_needsFlag_15 : decode cX11_needsFlag 15 = .ok (.baload, 1) := by decide +kernel
theorem dX11_needsFlag_16 : decode cX11_needsFlag 16 = .ok (.ifCond .eq 57, 3) := by decide +kernel
theorem dX11_needsFlag_19 : decode cX11_needsFlag 19 = .ok (.aload_n 0, 1) := by decide +kernel
theorem dX11_needsFlag_20 : decode cX11_needsFlag 20 = .ok (.getfield 49, 3) := by decide +kernel
theorem dX11_needsFlag_23 : decode cX11_needsFlag 23 = .ok (.iload_n 2, 1) := by decide +kernel
theorem dX11_needsFlag_24 : decode cX11_needsFlag 24 = .ok (.aaload, 1) := by decide +kernel
theorem dX11_needsFlag_25 : decode cX11_needsFlag 25 = .ok (.iload_n 1, 1) := by decide +kernel
theorem dX11_needsFlag_26 : decode cX11_needsFlag 26 = .ok (.baload, 1) := by decide +kernel
theorem dX11_needsFlag_27 : decode cX11_needsFlag 27 = .ok (.ifCond .eq 46, 3) := by decide +kernel
theorem dX11_needsFlag_30 : decode cX11_needsFlag 30 = .ok (.aload_n 0, 1) := by decide +kernel
theorem dX11_needsFlag_31 : decode cX11_needsFlag 31 = .ok (.getfield 52, 3) := by decide +kernel
theorem dX11_needsFlag_34 : decode cX11_needsFlag 34 = .ok (.iload_n 2, 1) := by decide +kernel
theorem dX11_needsFlag_35 : decode cX11_needsFlag 35 = .ok (.aaload, 1) := by decide +kernel
theorem dX11_needsFlag_36 : decode cX11_needsFlag 36 = .ok (.iload_n 1, 1) := by decide +kernel
theorem dX11_needsFlag_37 : decode cX11_needsFlag 37 = .ok (.baload, 1) := by decide +kernel
theorem dX11_needsFlag_38 : decode cX11_needsFlag 38 = .ok (.ifCond .eq 35, 3) := by decide +kernel
theorem dX11_needsFlag_41 : decode cX11_needsFlag 41 = .ok (.iload_n 2, 1) := by decide +kernel
theorem dX11_needsFlag_42 : decode cX11_needsFlag 42 = .ok (.aload_n 0, 1) := by decide +kernel
theorem dX11_needsFlag_43 : decode cX11_needsFlag 43 = .ok (.getfield 31, 3) := by decide +kernel
theorem dX11_needsFlag_46 : decode cX11_needsFlag 46 = .ok (.if_icmp .eq 25, 3) := by decide +kernel
theorem dX11_needsFlag_49 : decode cX11_needsFlag 49 = .ok (.aload_n 0, 1) := by decide +kernel
theorem dX11_needsFlag_50 : decode cX11_needsFlag 50 = .ok (.aload_n 0, 1) := by decide +kernel
theorem dX11_needsFlag_51 : decode cX11_needsFlag 51 = .ok (.getfield 15, 3) := by decide +kernel
theorem dX11_needsFlag_54 : decode cX11_needsFlag 54 = .ok (.getfield 19, 3) := by decide +kernel
theorem dX11_needsFlag_57 : decode cX11_needsFlag 57 = .ok (.iload_n 2, 1) := by decide +kernel
theorem dX11_needsFlag_58 : decode cX11_needsFlag 58 = .ok (.invokevirtual 73, 3) := by decide +kernel
theorem dX11_needsFlag_61 : decode cX11_needsFlag 61 = .ok (.checkcast 77, 3) := by decide +kernel
theorem dX11_needsFlag_64 : decode cX11_needsFlag 64 = .ok (.iload_n 1, 1) := by decide +kernel
theorem dX11_needsFlag_65 : decode cX11_needsFlag 65 = .ok (.invokevirtual 185, 3) := by decide +kernel
theorem dX11_needsFlag_68 : decode cX11_needsFlag 68 = .ok (.ifCond .eq 5, 3) := by decide +kernel
theorem dX11_needsFlag_71 : decode cX11_needsFlag 71 = .ok (.iconst 1, 1) := by decide +kernel
theorem dX11_needsFlag_72 : decode cX11_needsFlag 72 = .ok (.ireturn, 1) := by decide +kernel
theorem dX11_needsFlag_73 : decode cX11_needsFlag 73 = .ok (.iinc 2 1, 3) := by decide +kernel
theorem dX11_needsFlag_76 : decode cX11_needsFlag 76 = .ok (.goto (-74), 3) := by decide +kernel
theorem dX11_needsFlag_79 : decode cX11_needsFlag 79 = .ok (.iconst 0, 1) := by decide +kernel
theorem dX11_needsFlag_80 : decode cX11_needsFlag 80 = .ok (.ireturn, 1) := by decide +kernel
set_option maxRecDepth 20000 in
theorem ggX11_asksFlag_X14_meet : GoodIn wsX11_asksFlag wsX14_meet := goodIn_r _ [6] (by decide +kernel) (by decide +kernel)
set_option maxRecDepth 20000 in
theorem gX11_asksFlag_X14_meet : GoodIn wsX11_asksFlag (va_wsS RX11 179 yX14_meet wsX14_meet) := goodIn_app (goodIn_of _ (by decide +kernel)) ggX11_asksFlag_X14_meet
theorem dX11_asksFlag_0 : decode cX11_asksFlag 0 = .ok (.aload_n 1, 1) := by decide +kernel
theorem dX11_asksFlag_1 : decode cX11_asksFlag 1 = .ok (.getfield 79, 3) := by decide +kernel
theorem dX11_asksFlag_4 : decode cX11_asksFlag 4 = .ok (.bipush 15, 2) := by decide +kernel
theorem dX11_asksFlag_6 : decode cX11_asksFlag 6 = .ok (.if_icmp .eq 12, 3) := by decide +kernel
theorem dX11_asksFlag_9 : decode cX11_asksFlag 9 = .ok (.aload_n 1, 1) := by decide +kernel
theorem dX11_asksFlag_10 : decode cX11_asksFlag 10 = .ok (.getfield 79, 3) := by decide +kernel
theorem dX11_asksFlag_13 : decode cX11_asksFlag 13 = .ok (.bipush 13, 2) := by decide +kernel
theorem dX11_asksFlag_15 : decode cX11_asksFlag 15 = .ok (.if_icmp .ne 5, 3) := by decide +kernel
theorem dX11_asksFlag_18 : decode cX11_asksFlag 18 = .ok (.iconst 1, 1) := by decide +kernel
theorem dX11_asksFlag_19 : decode cX11_asksFlag 19 = .ok (.ireturn, 1) := by decide +kernel
theorem dX11_asksFlag_20 : decode cX11_asksFlag 20 = .ok (.aload_n 1, 1) := by decide +kernel
theorem dX11_asksFlag_21 : decode cX11_asksFlag 21 = .ok (.getfield 79, 3) := by decide +kernel
theorem dX11_asksFlag_24 : decode cX11_asksFlag 24 = .ok (.iconst 2, 1) := by decide +kernel
theorem dX11_asksFlag_25 : decode cX11_asksFlag 25 = .ok (.if_icmp .gt 18, 3) := by decide +kernel
theorem dX11_asksFlag_28 : decode cX11_asksFlag 28 = .ok (.aload_n 1, 1) := by decide +kernel
theorem dX11_asksFlag_29 : decode cX11_asksFlag 29 = .ok (.getfield 118, 3) := by decide +kernel
theorem dX11_asksFlag_32 : decode cX11_asksFlag 32 = .ok (.iload_n 2, 1) := by decide +kernel
theorem dX11_asksFlag_33 : decode cX11_asksFlag 33 = .ok (.invokestatic 179, 3) := by decide +kernel
theorem dX11_asksFlag_36 : decode cX11_asksFlag 36 = .ok (.ifCond .eq 7, 3) := by decide +kernel
theorem dX11_asksFlag_39 : decode cX11_asksFlag 39 = .ok (.iconst 1, 1) := by decide +kernel
theorem dX11_asksFlag_40 : decode cX11_asksFlag 40 = .ok (.goto 4, 3) := by decide +kernel
theorem dX11_asksFlag_43 : decode cX11_asksFlag 43 = .ok (.iconst 0, 1) := by decide +kernel
theorem dX11_asksFlag_44 : decode cX11_asksFlag 44 = .ok (.ireturn, 1) := by decide +kernel
theorem dX12_init_0 : decode cX12_init 0 = .ok (.aload_n 0, 1) := by decide +kernel
theorem dX12_init_1 : decode cX12_init 1 = .ok (.invokespecial 3, 3) := by decide +kernel
theorem dX12_init_4 : decode cX12_init 4 = .ok (.aload_n 0, 1) := by decide +kernel
theorem dX12_init_5 : decode cX12_init 5 = .ok (.iload_n 1, 1) := by decide +kernel
theorem dX12_init_6 : decode cX12_init 6 = .ok (.putfield 9, 3) := by decide +kernel
theorem dX12_init_9 : decode cX12_init 9 = .ok (.aload_n 0, 1) := by decide +kernel
theorem dX12_init_10 : decode cX12_init 10 = .ok (.iload_n 2, 1) := by decide +kernel
theorem dX12_init_11 : decode cX12_init 11 = .ok (.putfield 15, 3) := by decide +kernel
theorem dX12_init_14 : decode cX12_init 14 = .ok (.aload_n 0, 1) := by decide +kernel
theorem dX12_init_15 : decode cX12_init 15 = .ok (.iload_n 3, 1) := by decide +kernel
theorem dX12_init_16 : decode cX12_init 16 = .ok (.putfield 18, 3) := by decide +kernel
theorem dX12_init_19 : decode cX12_init 19 = .ok (.return_, 1) := by decide +kernel
theorem dX12_isLoan_0 : decode cX12_isLoan 0 = .ok (.aload_n 0, 1) := by decide +kernel
theorem dX12_isLoan_1 : decode cX12_isLoan 1 = .ok (.getfield 9, 3) := by decide +kernel
theorem dX12_isLoan_4 : decode cX12_isLoan 4 = .ok (.iconst 3, 1) := by decide +kernel
theorem dX12_isLoan_5 : decode cX12_isLoan 5 = .ok (.if_icmp .eq 11, 3) := by decide +kernel
theorem dX12_isLoan_8 : decode cX12_isLoan 8 = .ok (.aload_n 0, 1) := by decide +kernel
theorem dX12_isLoan_9 : decode cX12_isLoan 9 = .ok (.getfield 9, 3) := by decide +kernel
theorem dX12_isLoan_12 : decode cX12_isLoan 12 = .ok (.iconst 4, 1) := by decide +kernel
theorem dX12_isLoan_13 : decode cX12_isLoan 13 = .ok (.if_icmp .ne 7, 3) := by decide +kernel
theorem dX12_isLoan_16 : decode cX12_isLoan 16 = .ok (.iconst 1, 1) := by decide +kernel
theorem dX12_isLoan_17 : decode cX12_isLoan 17 = .ok (.goto 4, 3) := by decide +kernel
theorem dX12_isLoan_20 : decode cX12_isLoan 20 = .ok (.iconst 0, 1) := by decide +kernel
theorem dX12_isLoan_21 : decode cX12_isLoan 21 = .ok (.ireturn, 1) := by decide +kernel
theorem dX12_gives_0 : decode cX12_gives 0 = .ok (.aload_n 0, 1) := by decide +kernel
theorem dX12_gives_1 : decode cX12_gives 1 = .ok (.getfield 9, 3) := by decide +kernel
theorem dX12_gives_4 : decode cX12_gives 4 = .ok (.iconst 4, 1) := by decide +kernel
theorem dX12_gives_5 : decode cX12_gives 5 = .ok (.if_icmp .gt 7, 3) := by decide +kernel
theorem dX12_gives_8 : decode cX12_gives 8 = .ok (.iconst 1, 1) := by decide +kernel
theorem dX12_gives_9 : decode cX12_gives 9 = .ok (.goto 4, 3) := by decide +kernel
theorem dX12_gives_12 : decode cX12_gives 12 = .ok (.iconst 0, 1) := by decide +kernel
theorem dX12_gives_13 : decode cX12_gives 13 = .ok (.ireturn, 1) := by decide +kernel
theorem dX13_init_0 : decode cX13_init 0 = .ok (.aload_n 0, 1) := by decide +kernel
theorem dX13_init_1 : decode cX13_init 1 = .ok (.invokespecial 1, 3) := by decide +kernel
theorem dX13_init_4 : decode cX13_init 4 = .ok (.aload_n 0, 1) := by decide +kernel
theorem dX13_init_5 : decode cX13_init 5 = .ok (.iconst 1, 1) := by decide +kernel
theorem dX13_init_6 : decode cX13_init 6 = .ok (.putfield 7, 3) := by decide +kernel
theorem dX13_init_9 : decode cX13_init 9 = .ok (.aload_n 0, 1) := by decide +kernel
theorem dX13_init_10 : decode cX13_init 10 = .ok (.iload_n 1, 1) := by decide +kernel
theorem dX13_init_11 : decode cX13_init 11 = .ok (.putfield 13, 3) := by decide +kernel
theorem dX13_init_14 : decode cX13_init 14 = .ok (.return_, 1) := by decide +kernel
set_option maxRecDepth 20000 in
theorem ggX14_init_Jx4a65c_init_da8c8 : GoodIn wsX14_init wsJx4a65c_init_da8c8 := goodIn_r _ [11, 12, 13, 14, 15, 16, 17, 18, 19, 20, 21, 22, 23, 2, 3, 24, 25, 26] (by decide +kernel) (by decide +kernel)
set_option maxRecDepth 20000 in
theorem gX14_init_Jx4a65c_init_da8c8 : GoodIn wsX14_init (wsJx4a65c_init_da8c8) := ggX14_init_Jx4a65c_init_da8c8
theorem dX14_init_0 : decode cX14_init 0 = .ok (.aload_n 0, 1) := by decide +kernel
theorem dX14_init_1 : decode cX14_init 1 = .ok (.invokespecial 3, 3) := by decide +kernel
theorem dX14_init_4 : decode cX14_init 4 = .ok (.aload_n 0, 1) := by decide +kernel
theorem dX14_init_5 : decode cX14_init 5 = .ok (.new 9, 3) := by decide +kernel
theorem dX14_init_8 : decode cX14_init 8 = .ok (.dup, 1) := by decide +kernel
theorem dX14_init_9 : decode cX14_init 9 = .ok (.invokespecial 11, 3) := by decide +kernel
theorem dX14_init_12 : decode cX14_init 12 = .ok (.putfield 12, 3) := by decide +kernel
theorem dX14_init_15 : decode cX14_init 15 = .ok (.aload_n 0, 1) := by decide +kernel
theorem dX14_init_16 : decode cX14_init 16 = .ok (.new 9, 3) := by decide +kernel
theorem dX14_init_19 : decode cX14_init 19 = .ok (.dup, 1) := by decide +kernel
theorem dX14_init_20 : decode cX14_init 20 = .ok (.invokespecial 11, 3) := by decide +kernel
theorem dX14_init_23 : decode cX14_init 23 = .ok (.putfield 18, 3) := by decide +kernel
theorem dX14_init_26 : decode cX14_init 26 = .ok (.return_, 1) := by decide +kernel
set_option maxRecDepth 20000 in
theorem ggX14_copy_X14_init : GoodIn wsX14_copy wsX14_init := goodIn_r _ [8, 9, 10, 11, 12, 13, 14, 4, 5, 15, 16, 17, 18, 19, 20, 21, 22, 23, 24, 25, 26, 27, 28, 29, 82, 83, 84, 80, 81] (by decide +kernel) (by decide +kernel)
set_option maxRecDepth 20000 in
theorem gX14_copy_X14_init : GoodIn wsX14_copy (wsX14_init) := ggX14_copy_X14_init
set_option maxRecDepth 20000 in
theorem ggX14_copy_Jx4a65c_addAll_f0b43 : GoodIn wsX14_copy wsJx4a65c_addAll_f0b43 := goodIn_r _ [33, 34, 35, 19, 36, 37, 38, 39, 40, 41, 42, 43, 14, 44, 45, 46, 47, 48, 49, 50, 51, 52, 53, 54, 55, 56, 57, 58, 59, 60, 61, 62, 63, 64, 65, 66, 18, 67, 68, 69, 70, 71, 72, 73, 74, 75, 76, 77, 78, 79, 82, 83, 84] (by decide +kernel) (by decide +kernel)
set_option maxRecDepth 20000 in
theorem gX14_copy_Jx4a65c_addAll_f0b43 : GoodIn wsX14_copy (wsV RX14 22 RJx4a65c yJx4a65c_addAll_f0b43 wsJx4a65c_addAll_f0b43) := goodIn_app (goodIn_of _ (by decide +kernel)) ggX14_copy_Jx4a65c_addAll_f0b43
theorem dX14_copy_0 : decode cX14_copy 0 = .ok (.new 13, 3) := by decide +kernel
theorem dX14_copy_3 : decode cX14_copy 3 = .ok (.dup, 1) := by decide +kernel
theorem dX14_copy_4 : decode cX14_copy 4 = .ok (.invokespecial 21, 3) := by decide +kernel
theorem dX14_copy_7 : decode cX14_copy 7 = .ok (.astore_n 1, 1) := by decide +kernel
theorem dX14_copy_8 : decode cX14_copy 8 = .ok (.aload_n 1, 1) := by decide +kernel
theorem dX14_copy_9 : decode cX14_copy 9 = .ok (.getfield 12, 3) := by decide +kernel
theorem dX14_copy_12 : decode cX14_copy 12 = .ok (.aload_n 0, 1) := by decide +kernel
theorem dX14_copy_13 : decode cX14_copy 13 = .ok (.getfield 12, 3) := by decide +kernel
theorem dX14_copy_16 : decode cX14_copy 16 = .ok (.invokevirtual 22, 3) := by decide +kernel
theorem dX14_copy_19 : decode cX14_copy 19 = .ok (.pop, 1) := by decide +kernel
theorem dX14_copy_20 : decode cX14_copy 20 = .ok (.aload_n 1, 1) := by decide +kernel
theorem dX14_copy_21 : decode cX14_copy 21 = .ok (.getfield 18, 3) := by decide +kernel
theorem dX14_copy_24 : decode cX14_copy 24 = .ok (.aload_n 0, 1) := by decide +kernel
theorem dX14_copy_25 : decode cX14_copy 25 = .ok (.getfield 18, 3) := by decide +kernel
theorem dX14_copy_28 : decode cX14_copy 28 = .ok (.invokevirtual 22, 3) := by decide +kernel
theorem dX14_copy_31 : decode cX14_copy 31 = .ok (.pop, 1) := by decide +kernel
theorem dX14_copy_32 : decode cX14_copy 32 = .ok (.aload_n 1, 1) := by decide +kernel
theorem dX14_copy_33 : decode cX14_copy 33 = .ok (.areturn, 1) := by decide +kernel
set_option maxRecDepth 20000 in
theorem ggX14_kindOf_Jx4a65c_size_8abf5 : GoodIn wsX14_kindOf wsJx4a65c_size_8abf5 := goodIn_r _ [7, 8, 37, 38, 39] (by decide +kernel) (by decide +kernel)
set_option maxRecDepth 20000 in
theorem gX14_kindOf_Jx4a65c_size_8abf5 : GoodIn wsX14_kindOf (wsV RX14 26 RJx4a65c yJx4a65c_size_8abf5 wsJx4a65c_size_8abf5) := goodIn_app (goodIn_of _ (by decide +kernel)) ggX14_kindOf_Jx4a65c_size_8abf5
set_option maxRecDepth 20000 in
theorem ggX14_kindOf_X16_isIn : GoodIn wsX14_kindOf wsX16_isIn := goodIn_r _ [11] (by decide +kernel) (by decide +kernel)
set_option maxRecDepth 20000 in
theorem gX14_kindOf_X16_isIn_n30 : GoodIn wsX14_kindOf (wsX16_isIn) := ggX14_kindOf_X16_isIn
set_option maxRecDepth 20000 in
theorem ggX14_kindOf_Jx4a65c_get_915e3 : GoodIn wsX14_kindOf wsJx4a65c_get_915e3 := goodIn_r _ [15, 8, 16, 17, 18, 19, 20, 21, 22, 23, 24, 25, 26, 6, 27, 28, 37, 38, 39] (by decide +kernel) (by decide +kernel)
set_option maxRecDepth 20000 in
theorem gX14_kindOf_Jx4a65c_get_915e3 : GoodIn wsX14_kindOf (wsV RX14 34 RJx4a65c yJx4a65c_get_915e3 wsJx4a65c_get_915e3) := goodIn_app (goodIn_of _ (by decide +kernel)) ggX14_kindOf_Jx4a65c_get_915e3
set_option maxRecDepth 20000 in
theorem ggX14_kindOf_J6_intValue_8abf5 : GoodIn wsX14_kindOf wsJ6_intValue_8abf5 := goodIn_r _ [33, 34, 40] (by decide +kernel) (by decide +kernel)
set_option maxRecDepth 20000 in
theorem gX14_kindOf_J6_intValue_8abf5 : GoodIn wsX14_kindOf (wsV RX14 40 RJ6 yJ6_intValue_8abf5 wsJ6_intValue_8abf5) := goodIn_app (goodIn_of _ (by decide +kernel)) ggX14_kindOf_J6_intValue_8abf5
theorem dX14_kindOf_0 : decode cX14_kindOf 0 = .ok (.iload_n 1, 1) := by decide +kernel
theorem dX14_kindOf_1 : decode cX14_kindOf 1 = .ok (.iconst 0, 1) := by decide +kernel
theorem dX14_kindOf_2 : decode cX14_kindOf 2 = .ok (.iconst 3, 1) := by decide +kernel
theorem dX14_kindOf_3 : decode cX14_kindOf 3 = .ok (.aload_n 0, 1) := by decide +kernel
theorem dX14_kindOf_4 : decode cX14_kindOf 4 = .ok (.getfield 12, 3) := by decide +kernel
theorem dX14_kindOf_7 : decode cX14_kindOf 7 = .ok (.invokevirtual 26, 3) := by decide +kernel
theorem dX14_kindOf_10 : decode cX14_kindOf 10 = .ok (.imul, 1) := by decide +kernel
theorem dX14_kindOf_11 : decode cX14_kindOf 11 = .ok (.iconst 1, 1) := by decide +kernel
theorem dX14_kindOf_12 : decode cX14_kindOf 12 = .ok (.isub, 1) := by decide +kernel
theorem dX14_kindOf_13 : decode cX14_kindOf 13 = .ok (.invokestatic 30, 3) := by decide +kernel
theorem dX14_kindOf_16 : decode cX14_kindOf 16 = .ok (.ifCond .ne 5, 3) := by decide +kernel
theorem dX14_kindOf_19 : decode cX14_kindOf 19 = .ok (.iconst (-1), 1) := by decide +kernel
theorem dX14_kindOf_20 : decode cX14_kindOf 20 = .ok (.ireturn, 1) := by decide +kernel
theorem dX14_kindOf_21 : decode cX14_kindOf 21 = .ok (.aload_n 0, 1) := by decide +kernel
theorem dX14_kindOf_22 : decode cX14_kindOf 22 = .ok (.getfield 12, 3) := by decide +kernel
theorem dX14_kindOf_25 : decode cX14_kindOf 25 = .ok (.iload_n 1, 1) := by decide +kernel
theorem dX14_kindOf_26 : decode cX14_kindOf 26 = .ok (.iconst 3, 1) := by decide +kernel
theorem dX14_kindOf_27 : decode cX14_kindOf 27 = .ok (.idiv, 1) := by decide +kernel
theorem dX14_kindOf_28 : decode cX14_kindOf 28 = .ok (.invokevirtual 34, 3) := by decide +kernel
theorem dX14_kindOf_31 : decode cX14_kindOf 31 = .ok (.checkcast 38, 3) := by decide +kernel
theorem dX14_kindOf_34 : decode cX14_kindOf 34 = .ok (.invokevirtual 40, 3) := by decide +kernel
theorem dX14_kindOf_37 : decode cX14_kindOf 37 = .ok (.istore_n 2, 1) := by decide +kernel
theorem dX14_kindOf_38 : decode cX14_kindOf 38 = .ok (.iload_n 1, 1) := by decide +kernel
theorem dX14_kindOf_39 : decode cX14_kindOf 39 = .ok (.iconst 3, 1) := by decide +kernel
theorem dX14_kindOf_40 : decode cX14_kindOf 40 = .ok (.irem, 1) := by decide +kernel
theorem dX14_kindOf_41 : decode cX14_kindOf 41 = .ok (.ifCond .ne 7, 3) := by decide +kernel
theorem dX14_kindOf_44 : decode cX14_kindOf 44 = .ok (.iload_n 2, 1) := by decide +kernel
theorem dX14_kindOf_45 : decode cX14_kindOf 45 = .ok (.goto 13, 3) := by decide +kernel
theorem dX14_kindOf_48 : decode cX14_kindOf 48 = .ok (.iload_n 2, 1) := by decide +kernel
theorem dX14_kindOf_49 : decode cX14_kindOf 49 = .ok (.iconst 2, 1) := by decide +kernel
theorem dX14_kindOf_50 : decode cX14_kindOf 50 = .ok (.if_icmp .ne 7, 3) := by decide +kernel
theorem dX14_kindOf_53 : decode cX14_kindOf 53 = .ok (.iconst 1, 1) := by decide +kernel
theorem dX14_kindOf_54 : decode cX14_kindOf 54 = .ok (.goto 4, 3) := by decide +kernel
theorem dX14_kindOf_57 : decode cX14_kindOf 57 = .ok (.iconst (-1), 1) := by decide +kernel
theorem dX14_kindOf_58 : decode cX14_kindOf 58 = .ok (.ireturn, 1) := by decide +kernel
set_option maxRecDepth 20000 in
theorem ggX14_isBorrow_X14_kindOf : GoodIn wsX14_isBorrow wsX14_kindOf := goodIn_r _ [5, 6, 7, 8, 9, 10, 11, 12, 13, 14, 15, 16, 17, 18, 19, 20, 21, 22, 23, 24, 25, 26, 27, 28, 29, 30, 31, 32, 33, 34, 35, 36, 37, 38, 39, 40, 41, 42, 43, 44, 45] (by decide +kernel) (by decide +kernel)
set_option maxRecDepth 20000 in
theorem gX14_isBorrow_X14_kindOf : GoodIn wsX14_isBorrow (wsV RX14 43 RX14 yX14_kindOf wsX14_kindOf) := goodIn_app (goodIn_of _ (by decide +kernel)) ggX14_isBorrow_X14_kindOf
theorem dX14_isBorrow_0 : decode cX14_isBorrow 0 = .ok (.aload_n 0, 1) := by decide +kernel
theorem dX14_isBorrow_1 : decode cX14_isBorrow 1 = .ok (.iload_n 1, 1) := by decide +kernel
theorem dX14_isBorrow_2 : decode cX14_isBorrow 2 = .ok (.invokevirtual 43, 3) := by decide +kernel
theorem dX14_isBorrow_5 : decode cX14_isBorrow 5 = .ok (.iconst 3, 1) := by decide +kernel
theorem dX14_isBorrow_6 : decode cX14_isBorrow 6 = .ok (.if_icmp .eq 12, 3) := by decide +kernel
theorem dX14_isBorrow_9 : decode cX14_isBorrow 9 = .ok (.aload_n 0, 1) := by decide +kernel
theorem dX14_isBorrow_10 : decode cX14_isBorrow 10 = .ok (.iload_n 1, 1) := by decide +kernel
theorem dX14_isBorrow_11 : decode cX14_isBorrow 11 = .ok (.invokevirtual 43, 3) := by decide +kernel
theorem dX14_isBorrow_14 : decode cX14_isBorrow 14 = .ok (.iconst 4, 1) := by decide +kernel
theorem dX14_isBorrow_15 : decode cX14_isBorrow 15 = .ok (.if_icmp .ne 7, 3) := by decide +kernel
theorem dX14_isBorrow_18 : decode cX14_isBorrow 18 = .ok (.iconst 1, 1) := by decide +kernel
theorem dX14_isBorrow_19 : decode cX14_isBorrow 19 = .ok (.goto 4, 3) := by decide +kernel
theorem dX14_isBorrow_22 : decode cX14_isBorrow 22 = .ok (.iconst 0, 1) := by decide +kernel
theorem dX14_isBorrow_23 : decode cX14_isBorrow 23 = .ok (.ireturn, 1) := by decide +kernel
set_option maxRecDepth 20000 in
theorem ggX14_isOwned_X14_kindOf : GoodIn wsX14_isOwned wsX14_kindOf := goodIn_r _ [5, 6, 7, 8, 9, 10, 11, 12, 13, 14, 15, 16, 17, 18, 19, 20, 21, 22, 23, 24, 25, 26, 27, 28, 29, 30, 31, 32, 33, 34, 35, 36, 37, 38, 39, 40, 41, 42, 43, 44, 45] (by decide +kernel) (by decide +kernel)
set_option maxRecDepth 20000 in
theorem gX14_isOwned_X14_kindOf : GoodIn wsX14_isOwned (wsV RX14 43 RX14 yX14_kindOf wsX14_kindOf) := goodIn_app (goodIn_of _ (by decide +kernel)) ggX14_isOwned_X14_kindOf
theorem dX14_isOwned_0 : decode cX14_isOwned 0 = .ok (.aload_n 0, 1) := by decide +kernel
theorem dX14_isOwned_1 : decode cX14_isOwned 1 = .ok (.iload_n 1, 1) := by decide +kernel
theorem dX14_isOwned_2 : decode cX14_isOwned 2 = .ok (.invokevirtual 43, 3) := by decide +kernel
theorem dX14_isOwned_5 : decode cX14_isOwned 5 = .ok (.iconst 1, 1) := by decide +kernel
theorem dX14_isOwned_6 : decode cX14_isOwned 6 = .ok (.if_icmp .eq 21, 3) := by decide +kernel
theorem dX14_isOwned_9 : decode cX14_isOwned 9 = .ok (.aload_n 0, 1) := by decide +kernel
theorem dX14_isOwned_10 : decode cX14_isOwned 10 = .ok (.iload_n 1, 1) := by decide +kernel
theorem dX14_isOwned_11 : decode cX14_isOwned 11 = .ok (.invokevirtual 43, 3) := by decide +kernel
theorem dX14_isOwned_14 : decode cX14_isOwned 14 = .ok (.iconst 2, 1) := by decide +kernel
theorem dX14_isOwned_15 : decode cX14_isOwned 15 = .ok (.if_icmp .eq 12, 3) := by decide +kernel
theorem dX14_isOwned_18 : decode cX14_isOwned 18 = .ok (.aload_n 0, 1) := by decide +kernel
theorem dX14_isOwned_19 : decode cX14_isOwned 19 = .ok (.iload_n 1, 1) := by decide +kernel
theorem dX14_isOwned_20 : decode cX14_isOwned 20 = .ok (.invokevirtual 43, 3) := by decide +kernel
theorem dX14_isOwned_23 : decode cX14_isOwned 23 = .ok (.iconst 5, 1) := by decide +kernel
theorem dX14_isOwned_24 : decode cX14_isOwned 24 = .ok (.if_icmp .ne 7, 3) := by decide +kernel
theorem dX14_isOwned_27 : decode cX14_isOwned 27 = .ok (.iconst 1, 1) := by decide +kernel
theorem dX14_isOwned_28 : decode cX14_isOwned 28 = .ok (.goto 4, 3) := by decide +kernel
theorem dX14_isOwned_31 : decode cX14_isOwned 31 = .ok (.iconst 0, 1) := by decide +kernel
theorem dX14_isOwned_32 : decode cX14_isOwned 32 = .ok (.ireturn, 1) := by decide +kernel
set_option maxRecDepth 20000 in
theorem ggX14_canBeLent_X14_kindOf : GoodIn wsX14_canBeLent wsX14_kindOf := goodIn_r _ [5, 6, 7, 8, 9, 10, 11, 12, 13, 14, 15, 16, 17, 18, 19, 20, 21, 22, 23, 24, 25, 26, 27, 28, 29, 30, 31, 32, 33, 34, 35, 36, 37, 38, 39, 40, 41, 42, 43, 44, 45] (by decide +kernel) (by decide +kernel)
set_option maxRecDepth 20000 in
theorem gX14_canBeLent_X14_kindOf : GoodIn wsX14_canBeLent (wsV RX14 43 RX14 yX14_kindOf wsX14_kindOf) := goodIn_app (goodIn_of _ (by decide +kernel)) ggX14_canBeLent_X14_kindOf
set_option maxRecDepth 20000 in
theorem ggX14_canBeLent_X16_isIn : GoodIn wsX14_canBeLent wsX16_isIn := goodIn_r _ [16] (by decide +kernel) (by decide +kernel)
set_option maxRecDepth 20000 in
theorem gX14_canBeLent_X16_isIn_n30 : GoodIn wsX14_canBeLent (wsX16_isIn) := ggX14_canBeLent_X16_isIn
theorem dX14_canBeLent_0 : decode cX14_canBeLent 0 = .ok (.aload_n 0, 1) := by decide +kernel
theorem dX14_canBeLent_1 : decode cX14_canBeLent 1 = .ok (.iload_n 1, 1) := by decide +kernel
theorem dX14_canBeLent_2 : decode cX14_canBeLent 2 = .ok (.invokevirtual 43, 3) := by decide +kernel
theorem dX14_canBeLent_5 : decode cX14_canBeLent 5 = .ok (.iconst 0, 1) := by decide +kernel
theorem dX14_canBeLent_6 : decode cX14_canBeLent 6 = .ok (.iconst 2, 1) := by decide +kernel
theorem dX14_canBeLent_7 : decode cX14_canBeLent 7 = .ok (.invokestatic 30, 3) := by decide +kernel
theorem dX14_canBeLent_10 : decode cX14_canBeLent 10 = .ok (.ireturn, 1) := by decide +kernel
set_option maxRecDepth 20000 in
theorem ggX14_leaves_X14_kindOf : GoodIn wsX14_leaves wsX14_kindOf := goodIn_r _ [6, 7, 8, 9, 10, 11, 12, 13, 14, 15, 16, 17, 18, 19, 20, 21, 22, 23, 24, 25, 26, 27, 28, 29, 30, 31, 32, 33, 34, 35, 36, 37, 38, 39, 40, 41, 42, 43, 44, 45, 46] (by decide +kernel) (by decide +kernel)
set_option maxRecDepth 20000 in
theorem gX14_leaves_X14_kindOf : GoodIn wsX14_leaves (wsV RX14 43 RX14 yX14_kindOf wsX14_kindOf) := goodIn_app (goodIn_of _ (by decide +kernel)) ggX14_leaves_X14_kindOf
theorem dX14_leaves_0 : decode cX14_leaves 0 = .ok (.aload_n 0, 1) := by decide +kernel
theorem dX14_leaves_1 : decode cX14_leaves 1 = .ok (.iload_n 1, 1) := by decide +kernel
theorem dX14_leaves_2 : decode cX14_leaves 2 = .ok (.invokevirtual 43, 3) := by decide +kernel
theorem dX14_leaves_5 : decode cX14_leaves 5 = .ok (.iconst 2, 1) := by decide +kernel
theorem dX14_leaves_6 : decode cX14_leaves 6 = .ok (.if_icmp .ne 21, 3) := by decide +kernel
theorem dX14_leaves_9 : decode cX14_leaves 9 = .ok (.iconst 2, 1) := by decide +kernel
theorem dX14_leaves_10 : decode cX14_leaves 10 = .ok (.newarray .int, 2) := by decide +kernel
theorem dX14_leaves_12 : decode cX14_leaves 12 = .ok (.dup, 1) := by decide +kernel
theorem dX14_leaves_13 : decode cX14_leaves 13 = .ok (.iconst 0, 1) := by decide +kernel
theorem dX14_leaves_14 : decode cX14_leaves 14 = .ok (.iload_n 1, 1) := by decide +kernel
theorem dX14_leaves_15 : decode cX14_leaves 15 = .ok (.iconst 1, 1) := by decide +kernel
theorem dX14_leaves_16 : decode cX14_leaves 16 = .ok (.iadd, 1) := by decide +kernel
theorem dX14_leaves_17 : decode cX14_leaves 17 = .ok (.iastore, 1) := by decide +kernel
theorem dX14_leaves_18 : decode cX14_leaves 18 = .ok (.dup, 1) := by decide +kernel
theorem dX14_leaves_19 : decode cX14_leaves 19 = .ok (.iconst 1, 1) := by decide +kernel
theorem dX14_leaves_20 : decode cX14_leaves 20 = .ok (.iload_n 1, 1) := by decide +kernel
theorem dX14_leaves_21 : decode cX14_leaves 21 = .ok (.iconst 2, 1) := by decide +kernel
theorem dX14_leaves_22 : decode cX14_leaves 22 = .ok (.iadd, 1) := by decide +kernel
theorem dX14_leaves_23 : decode cX14_leaves 23 = .ok (.iastore, 1) := by decide +kernel
theorem dX14_leaves_24 : decode cX14_leaves 24 = .ok (.goto 10, 3) := by decide +kernel
theorem dX14_leaves_27 : decode cX14_leaves 27 = .ok (.iconst 1, 1) := by decide +kernel
theorem dX14_leaves_28 : decode cX14_leaves 28 = .ok (.newarray .int, 2) := by decide +kernel
theorem dX14_leaves_30 : decode cX14_leaves 30 = .ok (.dup, 1) := by decide +kernel
theorem dX14_leaves_31 : decode cX14_leaves 31 = .ok (.iconst 0, 1) := by decide +kernel
theorem dX14_leaves_32 : decode cX14_leaves 32 = .ok (.iload_n 1, 1) := by decide +kernel
theorem dX14_leaves_33 : decode cX14_leaves 33 = .ok (.iastore, 1) := by decide +kernel
theorem dX14_leaves_34 : decode cX14_leaves 34 = .ok (.areturn, 1) := by decide +kernel
theorem dX14_meet_0 : decode cX14_meet 0 = .ok (.iload_n 0, 1) := by decide +kernel
theorem dX14_meet_1 : decode cX14_meet 1 = .ok (.iload_n 1, 1) := by decide +kernel
theorem dX14_meet_2 : decode cX14_meet 2 = .ok (.if_icmp .eq 24, 3) := by decide +kernel
theorem dX14_meet_5 : decode cX14_meet 5 = .ok (.iload_n 0, 1) := by decide +kernel
theorem dX14_meet_6 : decode cX14_meet 6 = .ok (.iconst 3, 1) := by decide +kernel
theorem dX14_meet_7 : decode cX14_meet 7 = .ok (.idiv, 1) := by decide +kernel
theorem dX14_meet_8 : decode cX14_meet 8 = .ok (.iload_n 1, 1) := by decide +kernel
theorem dX14_meet_9 : decode cX14_meet 9 = .ok (.iconst 3, 1) := by decide +kernel
theorem dX14_meet_10 : decode cX14_meet 10 = .ok (.idiv, 1) := by decide +kernel
theorem dX14_meet_11 : decode cX14_meet 11 = .ok (.if_icmp .ne 19, 3) := by decide +kernel
theorem dX14_meet_14 : decode cX14_meet 14 = .ok (.iload_n 0, 1) := by decide +kernel
theorem dX14_meet_15 : decode cX14_meet 15 = .ok (.iconst 3, 1) := by decide +kernel
theorem dX14_meet_16 : decode cX14_meet 16 = .ok (.irem, 1) := by decide +kernel
theorem dX14_meet_17 : decode cX14_meet 17 = .ok (.ifCond .eq 9, 3) := by decide +kernel
theorem dX14_meet_20 : decode cX14_meet 20 = .ok (.iload_n 1, 1) := by decide +kernel
theorem dX14_meet_21 : decode cX14_meet 21 = .ok (.iconst 3, 1) := by decide +kernel
theorem dX14_meet_22 : decode cX14_meet 22 = .ok (.irem, 1) := by decide +kernel
theorem dX14_meet_23 : decode cX14_meet 23 = .ok (.ifCond .ne 7, 3) := by decide +kernel
theorem dX14_meet_26 : decode cX14_meet 26 = .ok (.iconst 1, 1) := by decide +kernel
theorem dX14_meet_27 : decode cX14_meet 27 = .ok (.goto 4, 3) := by decide +kernel
theorem dX14_meet_30 : decode cX14_meet 30 = .ok (.iconst 0, 1) := by decide +kernel
theorem dX14_meet_31 : decode cX14_meet 31 = .ok (.ireturn, 1) := by decide +kernel
set_option maxRecDepth 20000 in
theorem ggX14_isNumber_X16_isIn : GoodIn wsX14_isNumber wsX16_isIn := goodIn_r _ [3] (by decide +kernel) (by decide +kernel)
set_option maxRecDepth 20000 in
theorem gX14_isNumber_X16_isIn_n30 : GoodIn wsX14_isNumber (wsX16_isIn) := ggX14_isNumber_X16_isIn
theorem dX14_isNumber_0 : decode cX14_isNumber 0 = .ok (.iload_n 0, 1) := by decide +kernel
theorem dX14_isNumber_1 : decode cX14_isNumber 1 = .ok (.bipush (-99), 2) := by decide +kernel
theorem dX14_isNumber_3 : decode cX14_isNumber 3 = .ok (.bipush 99, 2) := by decide +kernel
theorem dX14_isNumber_5 : decode cX14_isNumber 5 = .ok (.invokestatic 30, 3) := by decide +kernel
theorem dX14_isNumber_8 : decode cX14_isNumber 8 = .ok (.ireturn, 1) := by decide +kernel
set_option maxRecDepth 20000 in
theorem ggX14_isLine_X14_kindOf : GoodIn wsX14_isLine wsX14_kindOf := goodIn_r _ [5, 6, 7, 8, 9, 10, 11, 12, 13, 14, 15, 16, 17, 18, 19, 20, 21, 22, 23, 24, 25, 26, 27, 28, 29, 30, 31, 32, 33, 34, 35, 36, 37, 38, 39, 55, 56, 57, 58, 59, 60] (by decide +kernel) (by decide +kernel)
set_option maxRecDepth 20000 in
theorem gX14_isLine_X14_kindOf : GoodIn wsX14_isLine (wsV RX14 43 RX14 yX14_kindOf wsX14_kindOf) := goodIn_app (goodIn_of _ (by decide +kernel)) ggX14_isLine_X14_kindOf
set_option maxRecDepth 20000 in
theorem ggX14_isLine_X14_isBorrow : GoodIn wsX14_isLine wsX14_isBorrow := goodIn_r _ [43, 1, 2, 3, 4, 5, 6, 7, 8, 9, 10, 11, 12, 13, 14, 15, 16, 17, 18, 19, 20, 21, 22, 23, 24, 25, 26, 27, 28, 29, 30, 31, 32, 33, 34, 35, 36, 37, 38, 39, 55, 56, 57, 58, 59, 60] (by decide +kernel) (by decide +kernel)
set_option maxRecDepth 20000 in
theorem gX14_isLine_X14_isBorrow : GoodIn wsX14_isLine (wsV RX14 47 RX14 yX14_isBorrow wsX14_isBorrow) := goodIn_app (goodIn_of _ (by decide +kernel)) ggX14_isLine_X14_isBorrow
set_option maxRecDepth 20000 in
theorem ggX14_isLine_X14_isNumber : GoodIn wsX14_isLine wsX14_isNumber := goodIn_r _ [46, 14, 15, 16] (by decide +kernel) (by decide +kernel)
set_option maxRecDepth 20000 in
theorem gX14_isLine_X14_isNumber : GoodIn wsX14_isLine (va_wsS RX14 51 yX14_isNumber wsX14_isNumber) := goodIn_app (goodIn_of _ (by decide +kernel)) ggX14_isLine_X14_isNumber
set_option maxRecDepth 20000 in
theorem ggX14_isLine_X14_canBeLent : GoodIn wsX14_isLine wsX14_canBeLent := goodIn_r _ [50, 1, 2, 3, 4, 5, 6, 7, 8, 9, 10, 11, 12, 13, 14, 15, 16, 17, 18, 19, 20, 21, 22, 23, 24, 25, 26, 27, 28, 29, 30, 31, 32, 33, 34, 35, 36, 37, 38, 39, 55, 56, 57, 58, 59, 60] (by decide +kernel) (by decide +kernel)
set_option maxRecDepth 20000 in
theorem gX14_isLine_X14_canBeLent : GoodIn wsX14_isLine (wsV RX14 54 RX14 yX14_canBeLent wsX14_canBeLent) := goodIn_app (goodIn_of _ (by decide +kernel)) ggX14_isLine_X14_canBeLent
set_option maxRecDepth 20000 in
theorem ggX14_isLine_X14_isOwned : GoodIn wsX14_isLine wsX14_isOwned := goodIn_r _ [54, 1, 2, 3, 4, 5, 6, 7, 8, 9, 10, 11, 12, 13, 14, 15, 16, 17, 18, 19, 20, 21, 22, 23, 24, 25, 26, 27, 28, 29, 30, 31, 32, 33, 34, 35, 36, 37, 38, 39, 55, 56, 57, 58, 59, 60] (by decide +kernel) (by decide +kernel)
set_option maxRecDepth 20000 in
theorem gX14_isLine_X14_isOwned : GoodIn wsX14_isLine (wsV RX14 57 RX14 yX14_isOwned wsX14_isOwned) := goodIn_app (goodIn_of _ (by decide +kernel)) ggX14_isLine_X14_isOwned
set_option maxRecDepth 20000 in
theorem ggX14_isLine_X16_isIn : GoodIn wsX14_isLine wsX16_isIn := goodIn_r _ [16] (by decide +kernel) (by decide +kernel)
set_option maxRecDepth 20000 in
theorem gX14_isLine_X16_isIn_n30 : GoodIn wsX14_isLine (wsX16_isIn) := ggX14_isLine_X16_isIn
theorem dX14_isLine_0 : decode cX14_isLine 0 = .ok (.aload_n 0, 1) := by decide +kernel
theorem dX14_isLine_1 : decode cX14_isLine 1 = .ok (.iload_n 2, 1) := by decide +kernel
theorem dX14_isLine_2 : decode cX14_isLine 2 = .ok (.invokevirtual 43, 3) := by decide +kernel
theorem dX14_isLine_5 : decode cX14_isLine 5 = .ok (.istore 4, 2) := by decide +kernel
theorem dX14_isLine_7 : decode cX14_isLine 7 = .ok (.iload_n 1, 1) := by decide +kernel
theorem dX14_isLine_8 : decode cX14_isLine 8 = .ok (.tableswitch 392 0 16 #[84, 111, 151, 184, 204, 224, 240, 271, 289, 323, 304, 323, 337, 358, 358, 323, 374], 84) := by decide +kernel
theorem dX14_isLine_92 : decode cX14_isLine 92 = .ok (.iload 4, 2) := by decide +kernel
theorem dX14_isLine_94 : decode cX14_isLine 94 = .ok (.iconst (-1), 1) := by decide +kernel
theorem dX14_isLine_95 : decode cX14_isLine 95 = .ok (.if_icmp .eq 22, 3) := by decide +kernel
theorem dX14_isLine_98 : decode cX14_isLine 98 = .ok (.aload_n 0, 1) := by decide +kernel
theorem dX14_isLine_99 : decode cX14_isLine 99 = .ok (.iload_n 2, 1) := by decide +kernel
theorem dX14_isLine_100 : decode cX14_isLine 100 = .ok (.invokevirtual 47, 3) := by decide +kernel
theorem dX14_isLine_103 : decode cX14_isLine 103 = .ok (.ifCond .ne 14, 3) := by decide +kernel
theorem dX14_isLine_106 : decode cX14_isLine 106 = .ok (.iload_n 3, 1) := by decide +kernel
theorem dX14_isLine_107 : decode cX14_isLine 107 = .ok (.invokestatic 51, 3) := by decide +kernel
theorem dX14_isLine_110 : decode cX14_isLine 110 = .ok (.ifCond .eq 7, 3) := by decide +kernel
theorem dX14_isLine_113 : decode cX14_isLine 113 = .ok (.iconst 1, 1) := by decide +kernel
theorem dX14_isLine_114 : decode cX14_isLine 114 = .ok (.goto 4, 3) := by decide +kernel
theorem dX14_isLine_117 : decode cX14_isLine 117 = .ok (.iconst 0, 1) := by decide +kernel
theorem dX14_isLine_118 : decode cX14_isLine 118 = .ok (.ireturn, 1) := by decide +kernel
theorem dX14_isLine_119 : decode cX14_isLine 119 = .ok (.iload 4, 2) := by decide +kernel
theorem dX14_isLine_121 : decode cX14_isLine 121 = .ok (.aload_n 0, 1) := by decide +kernel
theorem dX14_isLine_122 : decode cX14_isLine 122 = .ok (.iload_n 3, 1) := by decide +kernel
theorem dX14_isLine_123 : decode cX14_isLine 123 = .ok (.invokevirtual 43, 3) := by decide +kernel
theorem dX14_isLine_126 : decode cX14_isLine 126 = .ok (.if_icmp .ne 31, 3) := by decide +kernel
theorem dX14_isLine_129 : decode cX14_isLine 129 = .ok (.iload 4, 2) := by decide +kernel
theorem dX14_isLine_131 : decode cX14_isLine 131 = .ok (.iconst 1, 1) := by decide +kernel
theorem dX14_isLine_132 : decode cX14_isLine 132 = .ok (.if_icmp .eq 21, 3) := by decide +kernel
theorem dX14_isLine_135 : decode cX14_isLine 135 = .ok (.iload 4, 2) := by decide +kernel
theorem dX14_isLine_137 : decode cX14_isLine 137 = .ok (.iconst 2, 1) := by decide +kernel
theorem dX14_isLine_138 : decode cX14_isLine 138 = .ok (.if_icmp .eq 15, 3) := by decide +kernel
theorem dX14_isLine_141 : decode cX14_isLine 141 = .ok (.iload 4, 2) := by decide +kernel
theorem dX14_isLine_143 : decode cX14_isLine 143 = .ok (.iconst 5, 1) := by decide +kernel
theorem dX14_isLine_144 : decode cX14_isLine 144 = .ok (.if_icmp .eq 9, 3) := by decide +kernel
theorem dX14_isLine_147 : decode cX14_isLine 147 = .ok (.iload 4, 2) := by decide +kernel
theorem dX14_isLine_149 : decode cX14_isLine 149 = .ok (.iconst 4, 1) := by decide +kernel
theorem dX14_isLine_150 : decode cX14_isLine 150 = .ok (.if_icmp .ne 7, 3) := by decide +kernel
theorem dX14_isLine_153 : decode cX14_isLine 153 = .ok (.iconst 1, 1) := by decide +kernel
theorem dX14_isLine_154 : decode cX14_isLine 154 = .ok (.goto 4, 3) := by decide +kernel
theorem dX14_isLine_157 : decode cX14_isLine 157 = .ok (.iconst 0, 1) := by decide +kernel
theorem dX14_isLine_158 : decode cX14_isLine 158 = .ok (.ireturn, 1) := by decide +kernel
theorem dX14_isLine_159 : decode cX14_isLine 159 = .ok (.iload 4, 2) := by decide +kernel
theorem dX14_isLine_161 : decode cX14_isLine 161 = .ok (.aload_n 0, 1) := by decide +kernel
theorem dX14_isLine_162 : decode cX14_isLine 162 = .ok (.iload_n 3, 1) := by decide +kernel
theorem dX14_isLine_163 : decode cX14_isLine 163 = .ok (.invokevirtual 43, 3) := by decide +kernel
theorem dX14_isLine_166 : decode cX14_isLine 166 = .ok (.if_icmp .ne 24, 3) := by decide +kernel
theorem dX14_isLine_169 : decode cX14_isLine 169 = .ok (.iload 4, 2) := by decide +kernel
theorem dX14_isLine_171 : decode cX14_isLine 171 = .ok (.ifCond .eq 15, 3) := by decide +kernel
theorem dX14_isLine_174 : decode cX14_isLine 174 = .ok (.iload 4, 2) := by decide +kernel
theorem dX14_isLine_176 : decode cX14_isLine 176 = .ok (.iconst 3, 1) := by decide +kernel
theorem dX14_isLine_177 : decode cX14_isLine 177 = .ok (.if_icmp .eq 9, 3) := by decide +kernel
theorem dX14_isLine_180 : decode cX14_isLine 180 = .ok (.iload 4, 2) := by decide +kernel
theorem dX14_isLine_182 : decode cX14_isLine 182 = .ok (.iconst 5, 1) := by decide +kernel
theorem dX14_isLine_183 : decode cX14_isLine 183 = .ok (.if_icmp .ne 7, 3) := by decide +kernel
theorem dX14_isLine_186 : decode cX14_isLine 186 = .ok (.iconst 1, 1) := by decide +kernel
theorem dX14_isLine_187 : decode cX14_isLine 187 = .ok (.goto 4, 3) := by decide +kernel
theorem dX14_isLine_190 : decode cX14_isLine 190 = .ok (.iconst 0, 1) := by decide +kernel
theorem dX14_isLine_191 : decode cX14_isLine 191 = .ok (.ireturn, 1) := by decide +kernel
theorem dX14_isLine_192 : decode cX14_isLine 192 = .ok (.iload 4, 2) := by decide +kernel
theorem dX14_isLine_194 : decode cX14_isLine 194 = .ok (.iconst 3, 1) := by decide +kernel
theorem dX14_isLine_195 : decode cX14_isLine 195 = .ok (.if_icmp .ne 15, 3) := by decide +kernel
theorem dX14_isLine_198 : decode cX14_isLine 198 = .ok (.aload_n 0, 1) := by decide +kernel
theorem dX14_isLine_199 : decode cX14_isLine 199 = .ok (.iload_n 3, 1) := by decide +kernel
theorem dX14_isLine_200 : decode cX14_isLine 200 = .ok (.invokevirtual 54, 3) := by decide +kernel
theorem dX14_isLine_203 : decode cX14_isLine 203 = .ok (.ifCond .eq 7, 3) := by decide +kernel
theorem dX14_isLine_206 : decode cX14_isLine 206 = .ok (.iconst 1, 1) := by decide +kernel
theorem dX14_isLine_207 : decode cX14_isLine 207 = .ok (.goto 4, 3) := by decide +kernel
theorem dX14_isLine_210 : decode cX14_isLine 210 = .ok (.iconst 0, 1) := by decide +kernel
theorem dX14_isLine_211 : decode cX14_isLine 211 = .ok (.ireturn, 1) := by decide +kernel
theorem dX14_isLine_212 : decode cX14_isLine 212 = .ok (.iload 4, 2) := by decide +kernel
theorem dX14_isLine_214 : decode cX14_isLine 214 = .ok (.iconst 4, 1) := by decide +kernel
theorem dX14_isLine_215 : decode cX14_isLine 215 = .ok (.if_icmp .ne 15, 3) := by decide +kernel
theorem dX14_isLine_218 : decode cX14_isLine 218 = .ok (.aload_n 0, 1) := by decide +kernel
theorem dX14_isLine_219 : decode cX14_isLine 219 = .ok (.iload_n 3, 1) := by decide +kernel
theorem dX14_isLine_220 : decode cX14_isLine 220 = .ok (.invokevirtual 54, 3) := by decide +kernel
theorem dX14_isLine_223 : decode cX14_isLine 223 = .ok (.ifCond .eq 7, 3) := by decide +kernel
theorem dX14_isLine_226 : decode cX14_isLine 226 = .ok (.iconst 1, 1) := by decide +kernel
theorem dX14_isLine_227 : decode cX14_isLine 227 = .ok (.goto 4, 3) := by decide +kernel
theorem dX14_isLine_230 : decode cX14_isLine 230 = .ok (.iconst 0, 1) := by decide +kernel
theorem dX14_isLine_231 : decode cX14_isLine 231 = .ok (.ireturn, 1) := by decide +kernel
theorem dX14_isLine_232 : decode cX14_isLine 232 = .ok (.iload 4, 2) := by decide +kernel
theorem dX14_isLine_234 : decode cX14_isLine 234 = .ok (.iconst (-1), 1) := by decide +kernel
theorem dX14_isLine_235 : decode cX14_isLine 235 = .ok (.if_icmp .eq 11, 3) := by decide +kernel
theorem dX14_isLine_238 : decode cX14_isLine 238 = .ok (.iload_n 3, 1) := by decide +kernel
theorem dX14_isLine_239 : decode cX14_isLine 239 = .ok (.ifCond .ne 7, 3) := by decide +kernel
theorem dX14_isLine_242 : decode cX14_isLine 242 = .ok (.iconst 1, 1) := by decide +kernel
theorem dX14_isLine_243 : decode cX14_isLine 243 = .ok (.goto 4, 3) := by decide +kernel
theorem dX14_isLine_246 : decode cX14_isLine 246 = .ok (.iconst 0, 1) := by decide +kernel
theorem dX14_isLine_247 : decode cX14_isLine 247 = .ok (.ireturn, 1) := by decide +kernel
theorem dX14_isLine_248 : decode cX14_isLine 248 = .ok (.iload 4, 2) := by decide +kernel
theorem dX14_isLine_250 : decode cX14_isLine 250 = .ok (.iconst (-1), 1) := by decide +kernel
theorem dX14_isLine_251 : decode cX14_isLine 251 = .ok (.if_icmp .eq 26, 3) := by decide +kernel
theorem dX14_isLine_254 : decode cX14_isLine 254 = .ok (.iload 4, 2) := by decide +kernel
theorem dX14_isLine_256 : decode cX14_isLine 256 = .ok (.iconst 2, 1) := by decide +kernel
theorem dX14_isLine_257 : decode cX14_isLine 257 = .ok (.if_icmp .eq 20, 3) := by decide +kernel
theorem dX14_isLine_260 : decode cX14_isLine 260 = .ok (.iload 4, 2) := by decide +kernel
theorem dX14_isLine_262 : decode cX14_isLine 262 = .ok (.iconst 3, 1) := by decide +kernel
theorem dX14_isLine_263 : decode cX14_isLine 263 = .ok (.if_icmp .eq 14, 3) := by decide +kernel
theorem dX14_isLine_266 : decode cX14_isLine 266 = .ok (.iload_n 3, 1) := by decide +kernel
theorem dX14_isLine_267 : decode cX14_isLine 267 = .ok (.invokestatic 51, 3) := by decide +kernel
theorem dX14_isLine_270 : decode cX14_isLine 270 = .ok (.ifCond .eq 7, 3) := by decide +kernel
theorem dX14_isLine_273 : decode cX14_isLine 273 = .ok (.iconst 1, 1) := by decide +kernel
theorem dX14_isLine_274 : decode cX14_isLine 274 = .ok (.goto 4, 3) := by decide +kernel
theorem dX14_isLine_277 : decode cX14_isLine 277 = .ok (.iconst 0, 1) := by decide +kernel
theorem dX14_isLine_278 : decode cX14_isLine 278 = .ok (.ireturn, 1) := by decide +kernel
theorem dX14_isLine_279 : decode cX14_isLine 279 = .ok (.aload_n 0, 1) := by decide +kernel
theorem dX14_isLine_280 : decode cX14_isLine 280 = .ok (.iload_n 2, 1) := by decide +kernel
theorem dX14_isLine_281 : decode cX14_isLine 281 = .ok (.invokevirtual 57, 3) := by decide +kernel
theorem dX14_isLine_284 : decode cX14_isLine 284 = .ok (.ifCond .eq 11, 3) := by decide +kernel
theorem dX14_isLine_287 : decode cX14_isLine 287 = .ok (.iload_n 3, 1) := by decide +kernel
theorem dX14_isLine_288 : decode cX14_isLine 288 = .ok (.ifCond .ne 7, 3) := by decide +kernel
theorem dX14_isLine_291 : decode cX14_isLine 291 = .ok (.iconst 1, 1) := by decide +kernel
theorem dX14_isLine_292 : decode cX14_isLine 292 = .ok (.goto 4, 3) := by decide +kernel
theorem dX14_isLine_295 : decode cX14_isLine 295 = .ok (.iconst 0, 1) := by decide +kernel
theorem dX14_isLine_296 : decode cX14_isLine 296 = .ok (.ireturn, 1) := by decide +kernel
theorem dX14_isLine_297 : decode cX14_isLine 297 = .ok (.iload 4, 2) := by decide +kernel
theorem dX14_isLine_299 : decode cX14_isLine 299 = .ok (.ifCond .ne 11, 3) := by decide +kernel
theorem dX14_isLine_302 : decode cX14_isLine 302 = .ok (.iload_n 3, 1) := by decide +kernel
theorem dX14_isLine_303 : decode cX14_isLine 303 = .ok (.ifCond .ne 7, 3) := by decide +kernel
theorem dX14_isLine_306 : decode cX14_isLine 306 = .ok (.iconst 1, 1) := by decide +kernel
theorem dX14_isLine_307 : decode cX14_isLine 307 = .ok (.goto 4, 3) := by decide +kernel
theorem dX14_isLine_310 : decode cX14_isLine 310 = .ok (.iconst 0, 1) := by decide +kernel
theorem dX14_isLine_311 : decode cX14_isLine 311 = .ok (.ireturn, 1) := by decide +kernel
theorem dX14_isLine_312 : decode cX14_isLine 312 = .ok (.iload_n 2, 1) := by decide +kernel
theorem dX14_isLine_313 : decode cX14_isLine 313 = .ok (.iconst 1, 1) := by decide +kernel
theorem dX14_isLine_314 : decode cX14_isLine 314 = .ok (.iconst 4, 1) := by decide +kernel
theorem dX14_isLine_315 : decode cX14_isLine 315 = .ok (.invokestatic 30, 3) := by decide +kernel
theorem dX14_isLine_318 : decode cX14_isLine 318 = .ok (.ifCond .eq 11, 3) := by decide +kernel
theorem dX14_isLine_321 : decode cX14_isLine 321 = .ok (.iload_n 3, 1) := by decide +kernel
theorem dX14_isLine_322 : decode cX14_isLine 322 = .ok (.ifCond .ne 7, 3) := by decide +kernel
theorem dX14_isLine_325 : decode cX14_isLine 325 = .ok (.iconst 1, 1) := by decide +kernel
theorem dX14_isLine_326 : decode cX14_isLine 326 = .ok (.goto 4, 3) := by decide +kernel
theorem dX14_isLine_329 : decode cX14_isLine 329 = .ok (.iconst 0, 1) := by decide +kernel
theorem dX14_isLine_330 : decode cX14_isLine 330 = .ok (.ireturn, 1) := by decide +kernel
theorem dX14_isLine_331 : decode cX14_isLine 331 = .ok (.iload_n 2, 1) := by decide +kernel
theorem dX14_isLine_332 : decode cX14_isLine 332 = .ok (.ifCond .ne 11, 3) := by decide +kernel
theorem dX14_isLine_335 : decode cX14_isLine 335 = .ok (.iload_n 3, 1) := by decide +kernel
theorem dX14_isLine_336 : decode cX14_isLine 336 = .ok (.ifCond .ne 7, 3) := by decide +kernel
theorem dX14_isLine_339 : decode cX14_isLine 339 = .ok (.iconst 1, 1) := by decide +kernel
theorem dX14_isLine_340 : decode cX14_isLine 340 = .ok (.goto 4, 3) := by decide +kernel
theorem dX14_isLine_343 : decode cX14_isLine 343 = .ok (.iconst 0, 1) := by decide +kernel
theorem dX14_isLine_344 : decode cX14_isLine 344 = .ok (.ireturn, 1) := by decide +kernel
theorem dX14_isLine_345 : decode cX14_isLine 345 = .ok (.iload 4, 2) := by decide +kernel
theorem dX14_isLine_347 : decode cX14_isLine 347 = .ok (.iconst 5, 1) := by decide +kernel
theorem dX14_isLine_348 : decode cX14_isLine 348 = .ok (.if_icmp .ne 16, 3) := by decide +kernel
theorem dX14_isLine_351 : decode cX14_isLine 351 = .ok (.aload_n 0, 1) := by decide +kernel
theorem dX14_isLine_352 : decode cX14_isLine 352 = .ok (.iload_n 3, 1) := by decide +kernel
theorem dX14_isLine_353 : decode cX14_isLine 353 = .ok (.invokevirtual 43, 3) := by decide +kernel
theorem dX14_isLine_356 : decode cX14_isLine 356 = .ok (.iconst 5, 1) := by decide +kernel
theorem dX14_isLine_357 : decode cX14_isLine 357 = .ok (.if_icmp .ne 7, 3) := by decide +kernel
theorem dX14_isLine_360 : decode cX14_isLine 360 = .ok (.iconst 1, 1) := by decide +kernel
theorem dX14_isLine_361 : decode cX14_isLine 361 = .ok (.goto 4, 3) := by decide +kernel
theorem dX14_isLine_364 : decode cX14_isLine 364 = .ok (.iconst 0, 1) := by decide +kernel
theorem dX14_isLine_365 : decode cX14_isLine 365 = .ok (.ireturn, 1) := by decide +kernel
theorem dX14_isLine_366 : decode cX14_isLine 366 = .ok (.iload 4, 2) := by decide +kernel
theorem dX14_isLine_368 : decode cX14_isLine 368 = .ok (.iconst 5, 1) := by decide +kernel
theorem dX14_isLine_369 : decode cX14_isLine 369 = .ok (.if_icmp .ne 11, 3) := by decide +kernel
theorem dX14_isLine_372 : decode cX14_isLine 372 = .ok (.iload_n 3, 1) := by decide +kernel
theorem dX14_isLine_373 : decode cX14_isLine 373 = .ok (.ifCond .ne 7, 3) := by decide +kernel
theorem dX14_isLine_376 : decode cX14_isLine 376 = .ok (.iconst 1, 1) := by decide +kernel
theorem dX14_isLine_377 : decode cX14_isLine 377 = .ok (.goto 4, 3) := by decide +kernel
theorem dX14_isLine_380 : decode cX14_isLine 380 = .ok (.iconst 0, 1) := by decide +kernel
theorem dX14_isLine_381 : decode cX14_isLine 381 = .ok (.ireturn, 1) := by decide +kernel
theorem dX14_isLine_382 : decode cX14_isLine 382 = .ok (.iload 4, 2) := by decide +kernel
theorem dX14_isLine_384 : decode cX14_isLine 384 = .ok (.ifCond .ne 14, 3) := by decide +kernel
theorem dX14_isLine_387 : decode cX14_isLine 387 = .ok (.iload_n 3, 1) := by decide +kernel
theorem dX14_isLine_388 : decode cX14_isLine 388 = .ok (.invokestatic 51, 3) := by decide +kernel
theorem dX14_isLine_391 : decode cX14_isLine 391 = .ok (.ifCond .eq 7, 3) := by decide +kernel
theorem dX14_isLine_394 : decode cX14_isLine 394 = .ok (.iconst 1, 1) := by decide +kernel
theorem dX14_isLine_395 : decode cX14_isLine 395 = .ok (.goto 4, 3) := by decide +kernel
theorem dX14_isLine_398 : decode cX14_isLine 398 = .ok (.iconst 0, 1) := by decide +kernel
theorem dX14_isLine_399 : decode cX14_isLine 399 = .ok (.ireturn, 1) := by decide +kernel
theorem dX14_isLine_400 : decode cX14_isLine 400 = .ok (.iconst 0, 1) := by decide +kernel
theorem dX14_isLine_401 : decode cX14_isLine 401 = .ok (.ireturn, 1) := by decide +kernel
set_option maxRecDepth 20000 in
theorem ggX14_loans_Jx4a65c_iterator_32c93 : GoodIn wsX14_loans wsJx4a65c_iterator_32c93 := goodIn_r _ [7, 8, 9, 10, 11, 12, 13, 14, 15, 16, 17, 18, 19, 20, 21, 44, 45, 46, 47, 48, 49, 50] (by decide +kernel) (by decide +kernel)
set_option maxRecDepth 20000 in
theorem gX14_loans_Jx4a65c_iterator_32c93 : GoodIn wsX14_loans (wsV RX14 60 RJx4a65c yJx4a65c_iterator_32c93 wsJx4a65c_iterator_32c93) := goodIn_app (goodIn_of _ (by decide +kernel)) ggX14_loans_Jx4a65c_iterator_32c93
set_option maxRecDepth 20000 in
theorem ggX14_loans_Jx35411_hasNext_aae02 : GoodIn wsX14_loans wsJx35411_hasNext_aae02 := goodIn_r _ [25, 26, 14, 44, 45, 46, 47, 48, 49, 50] (by decide +kernel) (by decide +kernel)
set_option maxRecDepth 20000 in
theorem gX14_loans_Jx35411_hasNext_aae02_f64Jx35411 : GoodIn wsX14_loans (va_wsF RX14 64 RJx35411 ⟨"java/util/Iterator", "hasNext", "()Z"⟩ yJx35411_hasNext_aae02 wsJx35411_hasNext_aae02) := goodIn_app (goodIn_of _ (by decide +kernel)) ggX14_loans_Jx35411_hasNext_aae02
set_option maxRecDepth 20000 in
theorem ggX14_loans_Jx35411_next_0502b : GoodIn wsX14_loans wsJx35411_next_0502b := goodIn_r _ [30, 26, 14, 31, 18, 32, 33, 34, 10, 35, 19, 20, 21, 44, 45, 46, 47, 48, 49, 50] (by decide +kernel) (by decide +kernel)
set_option maxRecDepth 20000 in
theorem gX14_loans_Jx35411_next_0502b_f70Jx35411 : GoodIn wsX14_loans (va_wsF RX14 70 RJx35411 ⟨"java/util/Iterator", "next", "()Ljava/lang/Object;"⟩ yJx35411_next_0502b wsJx35411_next_0502b) := goodIn_app (goodIn_of _ (by decide +kernel)) ggX14_loans_Jx35411_next_0502b
set_option maxRecDepth 20000 in
theorem ggX14_loans_X12_isLoan : GoodIn wsX14_loans wsX12_isLoan := goodIn_r _ [40, 41, 51, 52, 53] (by decide +kernel) (by decide +kernel)
set_option maxRecDepth 20000 in
theorem gX14_loans_X12_isLoan : GoodIn wsX14_loans (wsV RX14 76 RX12 yX12_isLoan wsX12_isLoan) := goodIn_app (goodIn_of _ (by decide +kernel)) ggX14_loans_X12_isLoan
theorem dX14_loans_0 : decode cX14_loans 0 = .ok (.iconst 0, 1) := by decide +kernel
theorem dX14_loans_1 : decode cX14_loans 1 = .ok (.istore_n 1, 1) := by decide +kernel
theorem dX14_loans_2 : decode cX14_loans 2 = .ok (.aload_n 0, 1) := by decide +kernel
theorem dX14_loans_3 : decode cX14_loans 3 = .ok (.getfield 18, 3) := by decide +kernel
theorem dX14_loans_6 : decode cX14_loans 6 = .ok (.invokevirtual 60, 3) := by decide +kernel
theorem dX14_loans_9 : decode cX14_loans 9 = .ok (.astore_n 2, 1) := by decide +kernel
theorem dX14_loans_10 : decode cX14_loans 10 = .ok (.aload_n 2, 1) := by decide +kernel
theorem dX14_loans_11 : decode cX14_loans 11 = .ok (.invokeinterface 64 1, 5) := by decide +kernel
theorem dX14_loans_16 : decode cX14_loans 16 = .ok (.ifCond .eq 31, 3) := by decide +kernel
theorem dX14_loans_19 : decode cX14_loans 19 = .ok (.aload_n 2, 1) := by decide +kernel
theorem dX14_loans_20 : decode cX14_loans 20 = .ok (.invokeinterface 70 1, 5) := by decide +kernel
theorem dX14_loans_25 : decode cX14_loans 25 = .ok (.checkcast 74, 3) := by decide +kernel
theorem dX14_loans_28 : decode cX14_loans 28 = .ok (.astore_n 3, 1) := by decide +kernel
theorem dX14_loans_29 : decode cX14_loans 29 = .ok (.iload_n 1, 1) := by decide +kernel
theorem dX14_loans_30 : decode cX14_loans 30 = .ok (.aload_n 3, 1) := by decide +kernel
theorem dX14_loans_31 : decode cX14_loans 31 = .ok (.invokevirtual 76, 3) := by decide +kernel
theorem dX14_loans_34 : decode cX14_loans 34 = .ok (.ifCond .eq 7, 3) := by decide +kernel
theorem dX14_loans_37 : decode cX14_loans 37 = .ok (.iconst 1, 1) := by decide +kernel
theorem dX14_loans_38 : decode cX14_loans 38 = .ok (.goto 4, 3) := by decide +kernel
theorem dX14_loans_41 : decode cX14_loans 41 = .ok (.iconst 0, 1) := by decide +kernel
theorem dX14_loans_42 : decode cX14_loans 42 = .ok (.iadd, 1) := by decide +kernel
theorem dX14_loans_43 : decode cX14_loans 43 = .ok (.istore_n 1, 1) := by decide +kernel
theorem dX14_loans_44 : decode cX14_loans 44 = .ok (.goto (-34), 3) := by decide +kernel
theorem dX14_loans_47 : decode cX14_loans 47 = .ok (.iload_n 1, 1) := by decide +kernel
theorem dX14_loans_48 : decode cX14_loans 48 = .ok (.ireturn, 1) := by decide +kernel
set_option maxRecDepth 20000 in
theorem ggX14_lineOf_Jx4a65c_size_8abf5 : GoodIn wsX14_lineOf wsJx4a65c_size_8abf5 := goodIn_r _ [7, 8, 34, 35, 36] (by decide +kernel) (by decide +kernel)
