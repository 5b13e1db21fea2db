theorem dX10_init_0 : decode cX10_init 0 = .ok (.aload_n 0, 1) := by decide +kernel
theorem dX10_init_1 : decode cX10_init 1 = .ok (.invokespecial 1, 3) := by decide +kernel
theorem dX10_init_4 : decode cX10_init 4 = .ok (.aload_n 0, 1) := by decide +kernel
theorem dX10_init_5 : decode cX10_init 5 = .ok (.iload_n 1, 1) := by decide +kernel
theorem dX10_init_6 : decode cX10_init 6 = .ok (.putfield 7, 3) := by decide +kernel
theorem dX10_init_9 : decode cX10_init 9 = .ok (.return_, 1) := by decide +kernel
theorem dX11_init_0 : decode cX11_init 0 = .ok (.aload_n 0, 1) := by decide +kernel
theorem dX11_init_1 : decode cX11_init 1 = .ok (.invokespecial 3, 3) := by decide +kernel
theorem dX11_init_4 : decode cX11_init 4 = .ok (.aload_n 0, 1) := by decide +kernel
theorem dX11_init_5 : decode cX11_init 5 = .ok (.iconst (-1), 1) := by decide +kernel
theorem dX11_init_6 : decode cX11_init 6 = .ok (.putfield 9, 3) := by decide +kernel
theorem dX11_init_9 : decode cX11_init 9 = .ok (.aload_n 0, 1) := by decide +kernel
theorem dX11_init_10 : decode cX11_init 10 = .ok (.aload_n 1, 1) := by decide +kernel
theorem dX11_init_11 : decode cX11_init 11 = .ok (.putfield 15, 3) := by decide +kernel
theorem dX11_init_14 : decode cX11_init 14 = .ok (.aload_n 0, 1) := by decide +kernel
theorem dX11_init_15 : decode cX11_init 15 = .ok (.aload_n 1, 1) := by decide +kernel
theorem dX11_init_16 : decode cX11_init 16 = .ok (.getfield 19, 3) := by decide +kernel
theorem dX11_init_19 : decode cX11_init 19 = .ok (.invokevirtual 25, 3) := by decide +kernel
theorem dX11_init_22 : decode cX11_init 22 = .ok (.putfield 31, 3) := by decide +kernel
theorem dX11_init_25 : decode cX11_init 25 = .ok (.aload_n 0, 1) := by decide +kernel
theorem dX11_init_26 : decode cX11_init 26 = .ok (.aload_n 0, 1) := by decide +kernel
theorem dX11_init_27 : decode cX11_init 27 = .ok (.getfield 31, 3) := by decide +kernel
theorem dX11_init_30 : decode cX11_init 30 = .ok (.iconst 1, 1) := by decide +kernel
theorem dX11_init_31 : decode cX11_init 31 = .ok (.iadd, 1) := by decide +kernel
theorem dX11_init_32 : decode cX11_init 32 = .ok (.anewarray 34, 3) := by decide +kernel
theorem dX11_init_35 : decode cX11_init 35 = .ok (.putfield 36, 3) := by decide +kernel
theorem dX11_init_38 : decode cX11_init 38 = .ok (.iconst 3, 1) := by decide +kernel
theorem dX11_init_39 : decode cX11_init 39 = .ok (.aload_n 1, 1) := by decide +kernel
theorem dX11_init_40 : decode cX11_init 40 = .ok (.getfield 40, 3) := by decide +kernel
theorem dX11_init_43 : decode cX11_init 43 = .ok (.invokevirtual 25, 3) := by decide +kernel
theorem dX11_init_46 : decode cX11_init 46 = .ok (.imul, 1) := by decide +kernel
theorem dX11_init_47 : decode cX11_init 47 = .ok (.istore_n 2, 1) := by decide +kernel
theorem dX11_init_48 : decode cX11_init 48 = .ok (.aload_n 0, 1) := by decide +kernel
theorem dX11_init_49 : decode cX11_init 49 = .ok (.aload_n 0, 1) := by decide +kernel
theorem dX11_init_50 : decode cX11_init 50 = .ok (.getfield 31, 3) := by decide +kernel
theorem dX11_init_53 : decode cX11_init 53 = .ok (.iconst 1, 1) := by decide +kernel
theorem dX11_init_54 : decode cX11_init 54 = .ok (.iadd, 1) := by decide +kernel
theorem dX11_init_55 : decode cX11_init 55 = .ok (.newarray .boolean, 2) := by decide +kernel
theorem dX11_init_57 : decode cX11_init 57 = .ok (.putfield 43, 3) := by decide +kernel
theorem dX11_init_60 : decode cX11_init 60 = .ok (.aload_n 0, 1) := by decide +kernel
theorem dX11_init_61 : decode cX11_init 61 = .ok (.aload_n 0, 1) := by decide +kernel
theorem dX11_init_62 : decode cX11_init 62 = .ok (.getfield 31, 3) := by decide +kernel
theorem dX11_init_65 : decode cX11_init 65 = .ok (.iconst 1, 1) := by decide +kernel
theorem dX11_init_66 : decode cX11_init 66 = .ok (.iadd, 1) := by decide +kernel
theorem dX11_init_67 : decode cX11_init 67 = .ok (.iload_n 2, 1) := by decide +kernel
theorem dX11_init_68 : decode cX11_init 68 = .ok (.multianewarray 47 2, 4) := by decide +kernel
theorem dX11_init_72 : decode cX11_init 72 = .ok (.putfield 49, 3) := by decide +kernel
theorem dX11_init_75 : decode cX11_init 75 = .ok (.aload_n 0, 1) := by decide +kernel
theorem dX11_init_76 : decode cX11_init 76 = .ok (.aload_n 0, 1) := by decide +kernel
theorem dX11_init_77 : decode cX11_init 77 = .ok (.getfield 31, 3) := by decide +kernel
theorem dX11_init_80 : decode cX11_init 80 = .ok (.iconst 1, 1) := by decide +kernel
theorem dX11_init_81 : decode cX11_init 81 = .ok (.iadd, 1) := by decide +kernel
theorem dX11_init_82 : decode cX11_init 82 = .ok (.iload_n 2, 1) := by decide +kernel
theorem dX11_init_83 : decode cX11_init 83 = .ok (.multianewarray 47 2, 4) := by decide +kernel
theorem dX11_init_87 : decode cX11_init 87 = .ok (.putfield 52, 3) := by decide +kernel
theorem dX11_init_90 : decode cX11_init 90 = .ok (.aload_n 0, 1) := by decide +kernel
theorem dX11_init_91 : decode cX11_init 91 = .ok (.aload_n 0, 1) := by decide +kernel
theorem dX11_init_92 : decode cX11_init 92 = .ok (.getfield 31, 3) := by decide +kernel
theorem dX11_init_95 : decode cX11_init 95 = .ok (.iconst 1, 1) := by decide +kernel
theorem dX11_init_96 : decode cX11_init 96 = .ok (.iadd, 1) := by decide +kernel
theorem dX11_init_97 : decode cX11_init 97 = .ok (.aload_n 1, 1) := by decide +kernel
theorem dX11_init_98 : decode cX11_init 98 = .ok (.getfield 40, 3) := by decide +kernel
theorem dX11_init_101 : decode cX11_init 101 = .ok (.invokevirtual 25, 3) := by decide +kernel
theorem dX11_init_104 : decode cX11_init 104 = .ok (.multianewarray 55 2, 4) := by decide +kernel
theorem dX11_init_108 : decode cX11_init 108 = .ok (.putfield 56, 3) := by decide +kernel
theorem dX11_init_111 : decode cX11_init 111 = .ok (.aload_n 0, 1) := by decide +kernel
theorem dX11_init_112 : decode cX11_init 112 = .ok (.aload_n 0, 1) := by decide +kernel
theorem dX11_init_113 : decode cX11_init 113 = .ok (.getfield 31, 3) := by decide +kernel
theorem dX11_init_116 : decode cX11_init 116 = .ok (.iconst 1, 1) := by decide +kernel
theorem dX11_init_117 : decode cX11_init 117 = .ok (.iadd, 1) := by decide +kernel
theorem dX11_init_118 : decode cX11_init 118 = .ok (.aload_n 1, 1) := by decide +kernel
theorem dX11_init_119 : decode cX11_init 119 = .ok (.getfield 40, 3) := by decide +kernel
theorem dX11_init_122 : decode cX11_init 122 = .ok (.invokevirtual 25, 3) := by decide +kernel
theorem dX11_init_125 : decode cX11_init 125 = .ok (.multianewarray 47 2, 4) := by decide +kernel
theorem dX11_init_129 : decode cX11_init 129 = .ok (.putfield 59, 3) := by decide +kernel
theorem dX11_init_132 : decode cX11_init 132 = .ok (.aload_n 0, 1) := by decide +kernel
theorem dX11_init_133 : decode cX11_init 133 = .ok (.invokevirtual 62, 3) := by decide +kernel
theorem dX11_init_136 : decode cX11_init 136 = .ok (.aload_n 0, 1) := by decide +kernel
theorem dX11_init_137 : decode cX11_init 137 = .ok (.getfield 9, 3) := by decide +kernel
theorem dX11_init_140 : decode cX11_init 140 = .ok (.iconst (-1), 1) := by decide +kernel
theorem dX11_init_141 : decode cX11_init 141 = .ok (.if_icmp .eq 4, 3) := by decide +kernel
theorem dX11_init_144 : decode cX11_init 144 = .ok (.return_, 1) := by decide +kernel
theorem dX11_init_145 : decode cX11_init 145 = .ok (.aload_n 0, 1) := by decide +kernel
theorem dX11_init_146 : decode cX11_init 146 = .ok (.getfield 43, 3) := by decide +kernel
theorem dX11_init_149 : decode cX11_init 149 = .ok (.iconst 0, 1) := by decide +kernel
theorem dX11_init_150 : decode cX11_init 150 = .ok (.iconst 1, 1) := by decide +kernel
theorem dX11_init_151 : decode cX11_init 151 = .ok (.bastore, 1) := by decide +kernel
theorem dX11_init_152 : decode cX11_init 152 = .ok (.iconst 0, 1) := by decide +kernel
theorem dX11_init_153 : decode cX11_init 153 = .ok (.istore_n 3, 1) := by decide +kernel
theorem dX11_init_154 : decode cX11_init 154 = .ok (.iload_n 3, 1) := by decide +kernel
theorem dX11_init_155 : decode cX11_init 155 = .ok (.iload_n 2, 1) := by decide +kernel
theorem dX11_init_156 : decode cX11_init 156 = .ok (.if_icmp .ge 18, 3) := by decide +kernel
theorem dX11_init_159 : decode cX11_init 159 = .ok (.aload_n 0, 1) := by decide +kernel
theorem dX11_init_160 : decode cX11_init 160 = .ok (.getfield 52, 3) := by decide +kernel
theorem dX11_init_163 : decode cX11_init 163 = .ok (.iconst 0, 1) := by decide +kernel
theorem dX11_init_164 : decode cX11_init 164 = .ok (.aaload, 1) := by decide +kernel
theorem dX11_init_165 : decode cX11_init 165 = .ok (.iload_n 3, 1) := by decide +kernel
theorem dX11_init_166 : decode cX11_init 166 = .ok (.iconst 1, 1) := by decide +kernel
theorem dX11_init_167 : decode cX11_init 167 = .ok (.bastore, 1) := by decide +kernel
theorem dX11_init_168 : decode cX11_init 168 = .ok (.iinc 3 1, 3) := by decide +kernel
theorem dX11_init_171 : decode cX11_init 171 = .ok (.goto (-17), 3) := by decide +kernel
theorem dX11_init_174 : decode cX11_init 174 = .ok (.iconst 1, 1) := by decide +kernel
theorem dX11_init_175 : decode cX11_init 175 = .ok (.istore_n 3, 1) := by decide +kernel
theorem dX11_init_176 : decode cX11_init 176 = .ok (.iload_n 3, 1) := by decide +kernel
theorem dX11_init_177 : decode cX11_init 177 = .ok (.ifCond .eq 11, 3) := by decide +kernel
theorem dX11_init_180 : decode cX11_init 180 = .ok (.aload_n 0, 1) := by decide +kernel
theorem dX11_init_181 : decode cX11_init 181 = .ok (.invokevirtual 65, 3) := by decide +kernel
theorem dX11_init_184 : decode cX11_init 184 = .ok (.istore_n 3, 1) := by decide +kernel
theorem dX11_init_185 : decode cX11_init 185 = .ok (.goto (-9), 3) := by decide +kernel
theorem dX11_init_188 : decode cX11_init 188 = .ok (.iconst 1, 1) := by decide +kernel
theorem dX11_init_189 : decode cX11_init 189 = .ok (.istore_n 3, 1) := by decide +kernel
theorem dX11_init_190 : decode cX11_init 190 = .ok (.iload_n 3, 1) := by decide +kernel
theorem dX11_init_191 : decode cX11_init 191 = .ok (.ifCond .eq 11, 3) := by decide +kernel
theorem dX11_init_194 : decode cX11_init 194 = .ok (.aload_n 0, 1) := by decide +kernel
theorem dX11_init_195 : decode cX11_init 195 = .ok (.invokevirtual 69, 3) := by decide +kernel
theorem dX11_init_198 : decode cX11_init 198 = .ok (.istore_n 3, 1) := by decide +kernel
theorem dX11_init_199 : decode cX11_init 199 = .ok (.goto (-9), 3) := by decide +kernel
theorem dX11_init_202 : decode cX11_init 202 = .ok (.return_, 1) := by decide +kernel
theorem dX11_isWhole_0 : decode cX11_isWhole 0 = .ok (.aload_n 0, 1) := by decide +kernel
theorem dX11_isWhole_1 : decode cX11_isWhole 1 = .ok (.getfield 9, 3) := by decide +kernel
theorem dX11_isWhole_4 : decode cX11_isWhole 4 = .ok (.iconst (-1), 1) := by decide +kernel
theorem dX11_isWhole_5 : decode cX11_isWhole 5 = .ok (.if_icmp .ne 7, 3) := by decide +kernel
theorem dX11_isWhole_8 : decode cX11_isWhole 8 = .ok (.iconst 1, 1) := by decide +kernel
theorem dX11_isWhole_9 : decode cX11_isWhole 9 = .ok (.goto 4, 3) := by decide +kernel
theorem dX11_isWhole_12 : decode cX11_isWhole 12 = .ok (.iconst 0, 1) := by decide +kernel
theorem dX11_isWhole_13 : decode cX11_isWhole 13 = .ok (.ireturn, 1) := by decide +kernel
theorem dX11_join_0 : decode cX11_join 0 = .ok (.new 26, 3) := by decide +kernel
theorem dX11_join_3 : decode cX11_join 3 = .ok (.dup, 1) := by decide +kernel
theorem dX11_join_4 : decode cX11_join 4 = .ok (.invokespecial 72, 3) := by decide +kernel
theorem dX11_join_7 : decode cX11_join 7 = .ok (.astore_n 1, 1) := by decide +kernel
theorem dX11_join_8 : decode cX11_join 8 = .ok (.aload_n 0, 1) := by decide +kernel
theorem dX11_join_9 : decode cX11_join 9 = .ok (.getfield 31, 3) := by decide +kernel
theorem dX11_join_12 : decode cX11_join 12 = .ok (.iconst 1, 1) := by decide +kernel
theorem dX11_join_13 : decode cX11_join 13 = .ok (.iadd, 1) := by decide +kernel
theorem dX11_join_14 : decode cX11_join 14 = .ok (.newarray .int, 2) := by decide +kernel
theorem dX11_join_16 : decode cX11_join 16 = .ok (.astore_n 2, 1) := by decide +kernel
theorem dX11_join_17 : decode cX11_join 17 = .ok (.iconst 0, 1) := by decide +kernel
theorem dX11_join_18 : decode cX11_join 18 = .ok (.istore_n 3, 1) := by decide +kernel
theorem dX11_join_19 : decode cX11_join 19 = .ok (.iload_n 3, 1) := by decide +kernel
theorem dX11_join_20 : decode cX11_join 20 = .ok (.aload_n 0, 1) := by decide +kernel
theorem dX11_join_21 : decode cX11_join 21 = .ok (.getfield 31, 3) := by decide +kernel
theorem dX11_join_24 : decode cX11_join 24 = .ok (.if_icmp .gt 42, 3) := by decide +kernel
theorem dX11_join_27 : decode cX11_join 27 = .ok (.aload_n 0, 1) := by decide +kernel
theorem dX11_join_28 : decode cX11_join 28 = .ok (.getfield 36, 3) := by decide +kernel
theorem dX11_join_31 : decode cX11_join 31 = .ok (.iload_n 3, 1) := by decide +kernel
theorem dX11_join_32 : decode cX11_join 32 = .ok (.iload_n 3, 1) := by decide +kernel
theorem dX11_join_33 : decode cX11_join 33 = .ok (.aload_n 0, 1) := by decide +kernel
theorem dX11_join_34 : decode cX11_join 34 = .ok (.getfield 31, 3) := by decide +kernel
theorem dX11_join_37 : decode cX11_join 37 = .ok (.if_icmp .ne 9, 3) := by decide +kernel
theorem dX11_join_40 : decode cX11_join 40 = .ok (.iconst 0, 1) := by decide +kernel
theorem dX11_join_41 : decode cX11_join 41 = .ok (.newarray .int, 2) := by decide +kernel
theorem dX11_join_43 : decode cX11_join 43 = .ok (.goto 12, 3) := by decide +kernel
theorem dX11_join_46 : decode cX11_join 46 = .ok (.iconst 1, 1) := by decide +kernel
theorem dX11_join_47 : decode cX11_join 47 = .ok (.newarray .int, 2) := by decide +kernel
theorem dX11_join_49 : decode cX11_join 49 = .ok (.dup, 1) := by decide +kernel
theorem dX11_join_50 : decode cX11_join 50 = .ok (.iconst 0, 1) := by decide +kernel
theorem dX11_join_51 : decode cX11_join 51 = .ok (.iload_n 3, 1) := by decide +kernel
theorem dX11_join_52 : decode cX11_join 52 = .ok (.iconst 1, 1) := by decide +kernel
theorem dX11_join_53 : decode cX11_join 53 = .ok (.iadd, 1) := by decide +kernel
theorem dX11_join_54 : decode cX11_join 54 = .ok (.iastore, 1) := by decide +kernel
theorem dX11_join_55 : decode cX11_join 55 = .ok (.aastore, 1) := by decide +kernel
theorem dX11_join_56 : decode cX11_join 56 = .ok (.aload_n 2, 1) := by decide +kernel
theorem dX11_join_57 : decode cX11_join 57 = .ok (.iload_n 3, 1) := by decide +kernel
theorem dX11_join_58 : decode cX11_join 58 = .ok (.iconst (-1), 1) := by decide +kernel
theorem dX11_join_59 : decode cX11_join 59 = .ok (.iastore, 1) := by decide +kernel
theorem dX11_join_60 : decode cX11_join 60 = .ok (.iinc 3 1, 3) := by decide +kernel
theorem dX11_join_63 : decode cX11_join 63 = .ok (.goto (-44), 3) := by decide +kernel
theorem dX11_join_66 : decode cX11_join 66 = .ok (.iconst 0, 1) := by decide +kernel
theorem dX11_join_67 : decode cX11_join 67 = .ok (.istore_n 3, 1) := by decide +kernel
theorem dX11_join_68 : decode cX11_join 68 = .ok (.iload_n 3, 1) := by decide +kernel
theorem dX11_join_69 : decode cX11_join 69 = .ok (.aload_n 0, 1) := by decide +kernel
theorem dX11_join_70 : decode cX11_join 70 = .ok (.getfield 31, 3) := by decide +kernel
theorem dX11_join_73 : decode cX11_join 73 = .ok (.if_icmp .ge 195, 3) := by decide +kernel
theorem dX11_join_76 : decode cX11_join 76 = .ok (.aload_n 0, 1) := by decide +kernel
theorem dX11_join_77 : decode cX11_join 77 = .ok (.getfield 15, 3) := by decide +kernel
theorem dX11_join_80 : decode cX11_join 80 = .ok (.getfield 19, 3) := by decide +kernel
theorem dX11_join_83 : decode cX11_join 83 = .ok (.iload_n 3, 1) := by decide +kernel
theorem dX11_join_84 : decode cX11_join 84 = .ok (.invokevirtual 73, 3) := by decide +kernel
theorem dX11_join_87 : decode cX11_join 87 = .ok (.checkcast 77, 3) := by decide +kernel
theorem dX11_join_90 : decode cX11_join 90 = .ok (.getfield 79, 3) := by decide +kernel
theorem dX11_join_93 : decode cX11_join 93 = .ok (.istore 4, 2) := by decide +kernel
theorem dX11_join_95 : decode cX11_join 95 = .ok (.aload_n 1, 1) := by decide +kernel
theorem dX11_join_96 : decode cX11_join 96 = .ok (.invokevirtual 82, 3) := by decide +kernel
theorem dX11_join_99 : decode cX11_join 99 = .ok (.ifCond .eq 7, 3) := by decide +kernel
theorem dX11_join_102 : decode cX11_join 102 = .ok (.iconst (-1), 1) := by decide +kernel
theorem dX11_join_103 : decode cX11_join 103 = .ok (.goto 19, 3) := by decide +kernel
theorem dX11_join_106 : decode cX11_join 106 = .ok (.aload_n 1, 1) := by decide +kernel
theorem dX11_join_107 : decode cX11_join 107 = .ok (.aload_n 1, 1) := by decide +kernel
theorem dX11_join_108 : decode cX11_join 108 = .ok (.invokevirtual 25, 3) := by decide +kernel
theorem dX11_join_111 : decode cX11_join 111 = .ok (.iconst 1, 1) := by decide +kernel
theorem dX11_join_112 : decode cX11_join 112 = .ok (.isub, 1) := by decide +kernel
theorem dX11_join_113 : decode cX11_join 113 = .ok (.invokevirtual 73, 3) := by decide +kernel
theorem dX11_join_116 : decode cX11_join 116 = .ok (.checkcast 85, 3) := by decide +kernel
theorem dX11_join_119 : decode cX11_join 119 = .ok (.invokevirtual 87, 3) := by decide +kernel
theorem dX11_join_122 : decode cX11_join 122 = .ok (.istore 5, 2) := by decide +kernel
theorem dX11_join_124 : decode cX11_join 124 = .ok (.iload 4, 2) := by decide +kernel
theorem dX11_join_126 : decode cX11_join 126 = .ok (.bipush 8, 2) := by decide +kernel
theorem dX11_join_128 : decode cX11_join 128 = .ok (.if_icmp .eq 10, 3) := by decide +kernel
theorem dX11_join_131 : decode cX11_join 131 = .ok (.iload 4, 2) := by decide +kernel
theorem dX11_join_133 : decode cX11_join 133 = .ok (.bipush 10, 2) := by decide +kernel
theorem dX11_join_135 : decode cX11_join 135 = .ok (.if_icmp .ne 12, 3) := by decide +kernel
theorem dX11_join_138 : decode cX11_join 138 = .ok (.aload_n 1, 1) := by decide +kernel
theorem dX11_join_139 : decode cX11_join 139 = .ok (.iload_n 3, 1) := by decide +kernel
theorem dX11_join_140 : decode cX11_join 140 = .ok (.invokestatic 90, 3) := by decide +kernel
theorem dX11_join_143 : decode cX11_join 143 = .ok (.invokevirtual 94, 3) := by decide +kernel
theorem dX11_join_146 : decode cX11_join 146 = .ok (.pop, 1) := by decide +kernel
theorem dX11_join_147 : decode cX11_join 147 = .ok (.iload 4, 2) := by decide +kernel
theorem dX11_join_149 : decode cX11_join 149 = .ok (.bipush 15, 2) := by decide +kernel
theorem dX11_join_151 : decode cX11_join 151 = .ok (.if_icmp .ne 12, 3) := by decide +kernel
theorem dX11_join_154 : decode cX11_join 154 = .ok (.aload_n 0, 1) := by decide +kernel
theorem dX11_join_155 : decode cX11_join 155 = .ok (.getfield 36, 3) := by decide +kernel
theorem dX11_join_158 : decode cX11_join 158 = .ok (.iload_n 3, 1) := by decide +kernel
theorem dX11_join_159 : decode cX11_join 159 = .ok (.iconst 0, 1) := by decide +kernel
theorem dX11_join_160 : decode cX11_join 160 = .ok (.newarray .int, 2) := by decide +kernel
theorem dX11_join_162 : decode cX11_join 162 = .ok (.aastore, 1) := by decide +kernel
theorem dX11_join_163 : decode cX11_join 163 = .ok (.iload 4, 2) := by decide +kernel
theorem dX11_join_165 : decode cX11_join 165 = .ok (.bipush 9, 2) := by decide +kernel
theorem dX11_join_167 : decode cX11_join 167 = .ok (.if_icmp .ne 51, 3) := by decide +kernel
theorem dX11_join_170 : decode cX11_join 170 = .ok (.iload 5, 2) := by decide +kernel
theorem dX11_join_172 : decode cX11_join 172 = .ok (.iconst (-1), 1) := by decide +kernel
theorem dX11_join_173 : decode cX11_join 173 = .ok (.if_icmp .eq 34, 3) := by decide +kernel
theorem dX11_join_176 : decode cX11_join 176 = .ok (.aload_n 0, 1) := by decide +kernel
theorem dX11_join_177 : decode cX11_join 177 = .ok (.getfield 15, 3) := by decide +kernel
theorem dX11_join_180 : decode cX11_join 180 = .ok (.getfield 19, 3) := by decide +kernel
theorem dX11_join_183 : decode cX11_join 183 = .ok (.iload 5, 2) := by decide +kernel
theorem dX11_join_185 : decode cX11_join 185 = .ok (.invokevirtual 73, 3) := by decide +kernel
theorem dX11_join_188 : decode cX11_join 188 = .ok (.checkcast 77, 3) := by decide +kernel
theorem dX11_join_191 : decode cX11_join 191 = .ok (.getfield 79, 3) := by decide +kernel
theorem dX11_join_194 : decode cX11_join 194 = .ok (.bipush 10, 2) := by decide +kernel
theorem dX11_join_196 : decode cX11_join 196 = .ok (.if_icmp .eq 11, 3) := by decide +kernel
theorem dX11_join_199 : decode cX11_join 199 = .ok (.aload_n 2, 1) := by decide +kernel
theorem dX11_join_200 : decode cX11_join 200 = .ok (.iload 5, 2) := by decide +kernel
theorem dX11_join_202 : decode cX11_join 202 = .ok (.iaload, 1) := by decide +kernel
theorem dX11_join_203 : decode cX11_join 203 = .ok (.iconst (-1), 1) := by decide +kernel
theorem dX11_join_204 : decode cX11_join 204 = .ok (.if_icmp .eq 9, 3) := by decide +kernel
theorem dX11_join_207 : decode cX11_join 207 = .ok (.aload_n 0, 1) := by decide +kernel
theorem dX11_join_208 : decode cX11_join 208 = .ok (.iload_n 3, 1) := by decide +kernel
theorem dX11_join_209 : decode cX11_join 209 = .ok (.putfield 9, 3) := by decide +kernel
theorem dX11_join_212 : decode cX11_join 212 = .ok (.return_, 1) := by decide +kernel
theorem dX11_join_213 : decode cX11_join 213 = .ok (.aload_n 2, 1) := by decide +kernel
theorem dX11_join_214 : decode cX11_join 214 = .ok (.iload 5, 2) := by decide +kernel
theorem dX11_join_216 : decode cX11_join 216 = .ok (.iload_n 3, 1) := by decide +kernel
theorem dX11_join_217 : decode cX11_join 217 = .ok (.iastore, 1) := by decide +kernel
theorem dX11_join_218 : decode cX11_join 218 = .ok (.iload 4, 2) := by decide +kernel
theorem dX11_join_220 : decode cX11_join 220 = .ok (.bipush 11, 2) := by decide +kernel
theorem dX11_join_222 : decode cX11_join 222 = .ok (.if_icmp .eq 6, 3) := by decide +kernel
theorem dX11_join_225 : decode cX11_join 225 = .ok (.goto 37, 3) := by decide +kernel
theorem dX11_join_228 : decode cX11_join 228 = .ok (.iload 5, 2) := by decide +kernel
theorem dX11_join_230 : decode cX11_join 230 = .ok (.iconst (-1), 1) := by decide +kernel
theorem dX11_join_231 : decode cX11_join 231 = .ok (.if_icmp .ne 9, 3) := by decide +kernel
theorem dX11_join_234 : decode cX11_join 234 = .ok (.aload_n 0, 1) := by decide +kernel
theorem dX11_join_235 : decode cX11_join 235 = .ok (.iload_n 3, 1) := by decide +kernel
theorem dX11_join_236 : decode cX11_join 236 = .ok (.putfield 9, 3) := by decide +kernel
theorem dX11_join_239 : decode cX11_join 239 = .ok (.return_, 1) := by decide +kernel
theorem dX11_join_240 : decode cX11_join 240 = .ok (.aload_n 1, 1) := by decide +kernel
theorem dX11_join_241 : decode cX11_join 241 = .ok (.aload_n 1, 1) := by decide +kernel
theorem dX11_join_242 : decode cX11_join 242 = .ok (.invokevirtual 25, 3) := by decide +kernel
theorem dX11_join_245 : decode cX11_join 245 = .ok (.iconst 1, 1) := by decide +kernel
theorem dX11_join_246 : decode cX11_join 246 = .ok (.isub, 1) := by decide +kernel
theorem dX11_join_247 : decode cX11_join 247 = .ok (.invokevirtual 98, 3) := by decide +kernel
theorem dX11_join_250 : decode cX11_join 250 = .ok (.pop, 1) := by decide +kernel
theorem dX11_join_251 : decode cX11_join 251 = .ok (.aload_n 0, 1) := by decide +kernel
theorem dX11_join_252 : decode cX11_join 252 = .ok (.iload 5, 2) := by decide +kernel
theorem dX11_join_254 : decode cX11_join 254 = .ok (.aload_n 2, 1) := by decide +kernel
theorem dX11_join_255 : decode cX11_join 255 = .ok (.iload 5, 2) := by decide +kernel
theorem dX11_join_257 : decode cX11_join 257 = .ok (.iaload, 1) := by decide +kernel
theorem dX11_join_258 : decode cX11_join 258 = .ok (.iload_n 3, 1) := by decide +kernel
theorem dX11_join_259 : decode cX11_join 259 = .ok (.invokevirtual 101, 3) := by decide +kernel
theorem dX11_join_262 : decode cX11_join 262 = .ok (.iinc 3 1, 3) := by decide +kernel
theorem dX11_join_265 : decode cX11_join 265 = .ok (.goto (-197), 3) := by decide +kernel
theorem dX11_join_268 : decode cX11_join 268 = .ok (.aload_n 1, 1) := by decide +kernel
theorem dX11_join_269 : decode cX11_join 269 = .ok (.invokevirtual 82, 3) := by decide +kernel
theorem dX11_join_272 : decode cX11_join 272 = .ok (.ifCond .ne 23, 3) := by decide +kernel
theorem dX11_join_275 : decode cX11_join 275 = .ok (.aload_n 0, 1) := by decide +kernel
theorem dX11_join_276 : decode cX11_join 276 = .ok (.aload_n 1, 1) := by decide +kernel
theorem dX11_join_277 : decode cX11_join 277 = .ok (.aload_n 1, 1) := by decide +kernel
theorem dX11_join_278 : decode cX11_join 278 = .ok (.invokevirtual 25, 3) := by decide +kernel
theorem dX11_join_281 : decode cX11_join 281 = .ok (.iconst 1, 1) := by decide +kernel
theorem dX11_join_282 : decode cX11_join 282 = .ok (.isub, 1) := by decide +kernel
theorem dX11_join_283 : decode cX11_join 283 = .ok (.invokevirtual 73, 3) := by decide +kernel
theorem dX11_join_286 : decode cX11_join 286 = .ok (.checkcast 85, 3) := by decide +kernel
theorem dX11_join_289 : decode cX11_join 289 = .ok (.invokevirtual 87, 3) := by decide +kernel
theorem dX11_join_292 : decode cX11_join 292 = .ok (.putfield 9, 3) := by decide +kernel
theorem dX11_join_295 : decode cX11_join 295 = .ok (.return_, 1) := by decide +kernel
theorem dX11_flow_0 : decode cX11_flow 0 = .ok (.iconst 0, 1) := by decide +kernel
theorem dX11_flow_1 : decode cX11_flow 1 = .ok (.istore_n 1, 1) := by decide +kernel
theorem dX11_flow_2 : decode cX11_flow 2 = .ok (.iconst 0, 1) := by decide +kernel
theorem dX11_flow_3 : decode cX11_flow 3 = .ok (.istore_n 2, 1) := by decide +kernel
theorem dX11_flow_4 : decode cX11_flow 4 = .ok (.iload_n 2, 1) := by decide +kernel
theorem dX11_flow_5 : decode cX11_flow 5 = .ok (.aload_n 0, 1) := by decide +kernel
theorem dX11_flow_6 : decode cX11_flow 6 = .ok (.getfield 31, 3) := by decide +kernel
theorem dX11_flow_9 : decode cX11_flow 9 = .ok (.if_icmp .ge 252, 3) := by decide +kernel
theorem dX11_flow_12 : decode cX11_flow 12 = .ok (.aload_n 0, 1) := by decide +kernel
theorem dX11_flow_13 : decode cX11_flow 13 = .ok (.getfield 43, 3) := by decide +kernel
theorem dX11_flow_16 : decode cX11_flow 16 = .ok (.iload_n 2, 1) := by decide +kernel
theorem dX11_flow_17 : decode cX11_flow 17 = .ok (.baload, 1) := by decide +kernel
theorem dX11_flow_18 : decode cX11_flow 18 = .ok (.ifCond .ne 6, 3) := by decide +kernel
theorem dX11_flow_21 : decode cX11_flow 21 = .ok (.goto 234, 3) := by decide +kernel
theorem dX11_flow_24 : decode cX11_flow 24 = .ok (.aload_n 0, 1) := by decide +kernel
theorem dX11_flow_25 : decode cX11_flow 25 = .ok (.getfield 15, 3) := by decide +kernel
theorem dX11_flow_28 : decode cX11_flow 28 = .ok (.getfield 19, 3) := by decide +kernel
theorem dX11_flow_31 : decode cX11_flow 31 = .ok (.iload_n 2, 1) := by decide +kernel
theorem dX11_flow_32 : decode cX11_flow 32 = .ok (.invokevirtual 73, 3) := by decide +kernel
theorem dX11_flow_35 : decode cX11_flow 35 = .ok (.checkcast 77, 3) := by decide +kernel
theorem dX11_flow_38 : decode cX11_flow 38 = .ok (.astore_n 3, 1) := by decide +kernel
theorem dX11_flow_39 : decode cX11_flow 39 = .ok (.aload_n 0, 1) := by decide +kernel
theorem dX11_flow_40 : decode cX11_flow 40 = .ok (.getfield 49, 3) := by decide +kernel
theorem dX11_flow_43 : decode cX11_flow 43 = .ok (.iload_n 2, 1) := by decide +kernel
theorem dX11_flow_44 : decode cX11_flow 44 = .ok (.aaload, 1) := by decide +kernel
theorem dX11_flow_45 : decode cX11_flow 45 = .ok (.invokevirtual 105, 3) := by decide +kernel
theorem dX11_flow_48 : decode cX11_flow 48 = .ok (.checkcast 106, 3) := by decide +kernel
theorem dX11_flow_51 : decode cX11_flow 51 = .ok (.astore 4, 2) := by decide +kernel
theorem dX11_flow_53 : decode cX11_flow 53 = .ok (.aload_n 0, 1) := by decide +kernel
theorem dX11_flow_54 : decode cX11_flow 54 = .ok (.getfield 52, 3) := by decide +kernel
theorem dX11_flow_57 : decode cX11_flow 57 = .ok (.iload_n 2, 1) := by decide +kernel
theorem dX11_flow_58 : decode cX11_flow 58 = .ok (.aaload, 1) := by decide +kernel
theorem dX11_flow_59 : decode cX11_flow 59 = .ok (.invokevirtual 105, 3) := by decide +kernel
theorem dX11_flow_62 : decode cX11_flow 62 = .ok (.checkcast 106, 3) := by decide +kernel
theorem dX11_flow_65 : decode cX11_flow 65 = .ok (.astore 5, 2) := by decide +kernel
theorem dX11_flow_67 : decode cX11_flow 67 = .ok (.aload_n 0, 1) := by decide +kernel
theorem dX11_flow_68 : decode cX11_flow 68 = .ok (.getfield 56, 3) := by decide +kernel
theorem dX11_flow_71 : decode cX11_flow 71 = .ok (.iload_n 2, 1) := by decide +kernel
theorem dX11_flow_72 : decode cX11_flow 72 = .ok (.aaload, 1) := by decide +kernel
theorem dX11_flow_73 : decode cX11_flow 73 = .ok (.invokevirtual 110, 3) := by decide +kernel
theorem dX11_flow_76 : decode cX11_flow 76 = .ok (.checkcast 34, 3) := by decide +kernel
theorem dX11_flow_79 : decode cX11_flow 79 = .ok (.astore 6, 2) := by decide +kernel
theorem dX11_flow_81 : decode cX11_flow 81 = .ok (.aload_n 3, 1) := by decide +kernel
theorem dX11_flow_82 : decode cX11_flow 82 = .ok (.getfield 79, 3) := by decide +kernel
theorem dX11_flow_85 : decode cX11_flow 85 = .ok (.iconst 1, 1) := by decide +kernel
theorem dX11_flow_86 : decode cX11_flow 86 = .ok (.if_icmp .ne 16, 3) := by decide +kernel
theorem dX11_flow_89 : decode cX11_flow 89 = .ok (.aload_n 0, 1) := by decide +kernel
theorem dX11_flow_90 : decode cX11_flow 90 = .ok (.aload 4, 2) := by decide +kernel
theorem dX11_flow_92 : decode cX11_flow 92 = .ok (.aload 5, 2) := by decide +kernel
theorem dX11_flow_94 : decode cX11_flow 94 = .ok (.aload_n 3, 1) := by decide +kernel
theorem dX11_flow_95 : decode cX11_flow 95 = .ok (.getfield 111, 3) := by decide +kernel
theorem dX11_flow_98 : decode cX11_flow 98 = .ok (.iconst 0, 1) := by decide +kernel
theorem dX11_flow_99 : decode cX11_flow 99 = .ok (.invokevirtual 114, 3) := by decide +kernel
theorem dX11_flow_102 : decode cX11_flow 102 = .ok (.aload_n 3, 1) := by decide +kernel
theorem dX11_flow_103 : decode cX11_flow 103 = .ok (.getfield 79, 3) := by decide +kernel
theorem dX11_flow_106 : decode cX11_flow 106 = .ok (.bipush 7, 2) := by decide +kernel
theorem dX11_flow_108 : decode cX11_flow 108 = .ok (.if_icmp .ne 16, 3) := by decide +kernel
theorem dX11_flow_111 : decode cX11_flow 111 = .ok (.aload_n 0, 1) := by decide +kernel
theorem dX11_flow_112 : decode cX11_flow 112 = .ok (.aload 4, 2) := by decide +kernel
theorem dX11_flow_114 : decode cX11_flow 114 = .ok (.aload 5, 2) := by decide +kernel
theorem dX11_flow_116 : decode cX11_flow 116 = .ok (.aload_n 3, 1) := by decide +kernel
theorem dX11_flow_117 : decode cX11_flow 117 = .ok (.getfield 118, 3) := by decide +kernel
theorem dX11_flow_120 : decode cX11_flow 120 = .ok (.iconst 0, 1) := by decide +kernel
theorem dX11_flow_121 : decode cX11_flow 121 = .ok (.invokevirtual 114, 3) := by decide +kernel
theorem dX11_flow_124 : decode cX11_flow 124 = .ok (.aload_n 3, 1) := by decide +kernel
theorem dX11_flow_125 : decode cX11_flow 125 = .ok (.invokevirtual 121, 3) := by decide +kernel
theorem dX11_flow_128 : decode cX11_flow 128 = .ok (.ifCond .eq 16, 3) := by decide +kernel
theorem dX11_flow_131 : decode cX11_flow 131 = .ok (.aload_n 0, 1) := by decide +kernel
theorem dX11_flow_132 : decode cX11_flow 132 = .ok (.aload 4, 2) := by decide +kernel
theorem dX11_flow_134 : decode cX11_flow 134 = .ok (.aload 5, 2) := by decide +kernel
theorem dX11_flow_136 : decode cX11_flow 136 = .ok (.aload_n 3, 1) := by decide +kernel
theorem dX11_flow_137 : decode cX11_flow 137 = .ok (.getfield 118, 3) := by decide +kernel
theorem dX11_flow_140 : decode cX11_flow 140 = .ok (.iconst 1, 1) := by decide +kernel
theorem dX11_flow_141 : decode cX11_flow 141 = .ok (.invokevirtual 114, 3) := by decide +kernel
theorem dX11_flow_144 : decode cX11_flow 144 = .ok (.aload_n 3, 1) := by decide +kernel
theorem dX11_flow_145 : decode cX11_flow 145 = .ok (.invokevirtual 124, 3) := by decide +kernel
theorem dX11_flow_148 : decode cX11_flow 148 = .ok (.ifCond .eq 22, 3) := by decide +kernel
theorem dX11_flow_151 : decode cX11_flow 151 = .ok (.aload 6, 2) := by decide +kernel
theorem dX11_flow_153 : decode cX11_flow 153 = .ok (.aload_n 3, 1) := by decide +kernel
theorem dX11_flow_154 : decode cX11_flow 154 = .ok (.getfield 118, 3) := by decide +kernel
theorem dX11_flow_157 : decode cX11_flow 157 = .ok (.iconst 3, 1) := by decide +kernel
theorem dX11_flow_158 : decode cX11_flow 158 = .ok (.idiv, 1) := by decide +kernel
theorem dX11_flow_159 : decode cX11_flow 159 = .ok (.iconst 1, 1) := by decide +kernel
theorem dX11_flow_160 : decode cX11_flow 160 = .ok (.aload_n 0, 1) := by decide +kernel
theorem dX11_flow_161 : decode cX11_flow 161 = .ok (.getfield 15, 3) := by decide +kernel
theorem dX11_flow_164 : decode cX11_flow 164 = .ok (.iload_n 2, 1) := by decide +kernel
theorem dX11_flow_165 : decode cX11_flow 165 = .ok (.invokevirtual 127, 3) := by decide +kernel
theorem dX11_flow_168 : decode cX11_flow 168 = .ok (.ishl, 1) := by decide +kernel
theorem dX11_flow_169 : decode cX11_flow 169 = .ok (.iastore, 1) := by decide +kernel
theorem dX11_flow_170 : decode cX11_flow 170 = .ok (.aload_n 3, 1) := by decide +kernel
theorem dX11_flow_171 : decode cX11_flow 171 = .ok (.getfield 79, 3) := by decide +kernel
theorem dX11_flow_174 : decode cX11_flow 174 = .ok (.iconst 1, 1) := by decide +kernel
theorem dX11_flow_175 : decode cX11_flow 175 = .ok (.if_icmp .eq 11, 3) := by decide +kernel
theorem dX11_flow_178 : decode cX11_flow 178 = .ok (.aload_n 3, 1) := by decide +kernel
theorem dX11_flow_179 : decode cX11_flow 179 = .ok (.getfield 79, 3) := by decide +kernel
theorem dX11_flow_182 : decode cX11_flow 182 = .ok (.iconst 2, 1) := by decide +kernel
theorem dX11_flow_183 : decode cX11_flow 183 = .ok (.if_icmp .ne 21, 3) := by decide +kernel
theorem dX11_flow_186 : decode cX11_flow 186 = .ok (.aload 6, 2) := by decide +kernel
theorem dX11_flow_188 : decode cX11_flow 188 = .ok (.aload_n 3, 1) := by decide +kernel
theorem dX11_flow_189 : decode cX11_flow 189 = .ok (.getfield 118, 3) := by decide +kernel
theorem dX11_flow_192 : decode cX11_flow 192 = .ok (.iconst 3, 1) := by decide +kernel
theorem dX11_flow_193 : decode cX11_flow 193 = .ok (.idiv, 1) := by decide +kernel
theorem dX11_flow_194 : decode cX11_flow 194 = .ok (.aload 6, 2) := by decide +kernel
theorem dX11_flow_196 : decode cX11_flow 196 = .ok (.aload_n 3, 1) := by decide +kernel
theorem dX11_flow_197 : decode cX11_flow 197 = .ok (.getfield 111, 3) := by decide +kernel
theorem dX11_flow_200 : decode cX11_flow 200 = .ok (.iconst 3, 1) := by decide +kernel
theorem dX11_flow_201 : decode cX11_flow 201 = .ok (.idiv, 1) := by decide +kernel
theorem dX11_flow_202 : decode cX11_flow 202 = .ok (.iaload, 1) := by decide +kernel
theorem dX11_flow_203 : decode cX11_flow 203 = .ok (.iastore, 1) := by decide +kernel
theorem dX11_flow_204 : decode cX11_flow 204 = .ok (.aload_n 0, 1) := by decide +kernel
theorem dX11_flow_205 : decode cX11_flow 205 = .ok (.getfield 36, 3) := by decide +kernel
theorem dX11_flow_208 : decode cX11_flow 208 = .ok (.iload_n 2, 1) := by decide +kernel
theorem dX11_flow_209 : decode cX11_flow 209 = .ok (.aaload, 1) := by decide +kernel
theorem dX11_flow_210 : decode cX11_flow 210 = .ok (.astore 7, 2) := by decide +kernel
theorem dX11_flow_212 : decode cX11_flow 212 = .ok (.aload 7, 2) := by decide +kernel
theorem dX11_flow_214 : decode cX11_flow 214 = .ok (.arraylength, 1) := by decide +kernel
theorem dX11_flow_215 : decode cX11_flow 215 = .ok (.istore 8, 2) := by decide +kernel
theorem dX11_flow_217 : decode cX11_flow 217 = .ok (.iconst 0, 1) := by decide +kernel
theorem dX11_flow_218 : decode cX11_flow 218 = .ok (.istore 9, 2) := by decide +kernel
theorem dX11_flow_220 : decode cX11_flow 220 = .ok (.iload 9, 2) := by decide +kernel
theorem dX11_flow_222 : decode cX11_flow 222 = .ok (.iload 8, 2) := by decide +kernel
theorem dX11_flow_224 : decode cX11_flow 224 = .ok (.if_icmp .ge 31, 3) := by decide +kernel
theorem dX11_flow_227 : decode cX11_flow 227 = .ok (.aload 7, 2) := by decide +kernel
theorem dX11_flow_229 : decode cX11_flow 229 = .ok (.iload 9, 2) := by decide +kernel
theorem dX11_flow_231 : decode cX11_flow 231 = .ok (.iaload, 1) := by decide +kernel
theorem dX11_flow_232 : decode cX11_flow 232 = .ok (.istore 10, 2) := by decide +kernel
theorem dX11_flow_234 : decode cX11_flow 234 = .ok (.iload_n 1, 1) := by decide +kernel
theorem dX11_flow_235 : decode cX11_flow 235 = .ok (.aload_n 0, 1) := by decide +kernel
theorem dX11_flow_236 : decode cX11_flow 236 = .ok (.iload 10, 2) := by decide +kernel
theorem dX11_flow_238 : decode cX11_flow 238 = .ok (.aload 4, 2) := by decide +kernel
theorem dX11_flow_240 : decode cX11_flow 240 = .ok (.aload 5, 2) := by decide +kernel
theorem dX11_flow_242 : decode cX11_flow 242 = .ok (.aload 6, 2) := by decide +kernel
theorem dX11_flow_244 : decode cX11_flow 244 = .ok (.invokevirtual 131, 3) := by decide +kernel
theorem dX11_flow_247 : decode cX11_flow 247 = .ok (.ior, 1) := by decide +kernel
theorem dX11_flow_248 : decode cX11_flow 248 = .ok (.istore_n 1, 1) := by decide +kernel
theorem dX11_flow_249 : decode cX11_flow 249 = .ok (.iinc 9 1, 3) := by decide +kernel
theorem dX11_flow_252 : decode cX11_flow 252 = .ok (.goto (-32), 3) := by decide +kernel
theorem dX11_flow_255 : decode cX11_flow 255 = .ok (.iinc 2 1, 3) := by decide +kernel
theorem dX11_flow_258 : decode cX11_flow 258 = .ok (.goto (-254), 3) := by decide +kernel
theorem dX11_flow_261 : decode cX11_flow 261 = .ok (.iload_n 1, 1) := by decide +kernel
theorem dX11_flow_262 : decode cX11_flow 262 = .ok (.ireturn, 1) := by decide +kernel
theorem dX11_want_0 : decode cX11_want 0 = .ok (.iconst 0, 1) := by decide +kernel
theorem dX11_want_1 : decode cX11_want 1 = .ok (.istore_n 1, 1) := by decide +kernel
theorem dX11_want_2 : decode cX11_want 2 = .ok (.aload_n 0, 1) := by decide +kernel
theorem dX11_want_3 : decode cX11_want 3 = .ok (.getfield 31, 3) := by decide +kernel
theorem dX11_want_6 : decode cX11_want 6 = .ok (.iconst 1, 1) := by decide +kernel
theorem dX11_want_7 : decode cX11_want 7 = .ok (.isub, 1) := by decide +kernel
theorem dX11_want_8 : decode cX11_want 8 = .ok (.istore_n 2, 1) := by decide +kernel
theorem dX11_want_9 : decode cX11_want 9 = .ok (.iload_n 2, 1) := by decide +kernel
theorem dX11_want_10 : decode cX11_want 10 = .ok (.ifCond .lt 65, 3) := by decide +kernel
theorem dX11_want_13 : decode cX11_want 13 = .ok (.iconst 0, 1) := by decide +kernel
theorem dX11_want_14 : decode cX11_want 14 = .ok (.istore_n 3, 1) := by decide +kernel
theorem dX11_want_15 : decode cX11_want 15 = .ok (.iload_n 3, 1) := by decide +kernel
theorem dX11_want_16 : decode cX11_want 16 = .ok (.aload_n 0, 1) := by decide +kernel
theorem dX11_want_17 : decode cX11_want 17 = .ok (.getfield 15, 3) := by decide +kernel
theorem dX11_want_20 : decode cX11_want 20 = .ok (.getfield 40, 3) := by decide +kernel
theorem dX11_want_23 : decode cX11_want 23 = .ok (.invokevirtual 25, 3) := by decide +kernel
theorem dX11_want_26 : decode cX11_want 26 = .ok (.if_icmp .ge 43, 3) := by decide +kernel
theorem dX11_want_29 : decode cX11_want 29 = .ok (.aload_n 0, 1) := by decide +kernel
theorem dX11_want_30 : decode cX11_want 30 = .ok (.getfield 59, 3) := by decide +kernel
theorem dX11_want_33 : decode cX11_want 33 = .ok (.iload_n 2, 1) := by decide +kernel
theorem dX11_want_34 : decode cX11_want 34 = .ok (.aaload, 1) := by decide +kernel
theorem dX11_want_35 : decode cX11_want 35 = .ok (.iload_n 3, 1) := by decide +kernel
theorem dX11_want_36 : decode cX11_want 36 = .ok (.baload, 1) := by decide +kernel
theorem dX11_want_37 : decode cX11_want 37 = .ok (.ifCond .ne 26, 3) := by decide +kernel
theorem dX11_want_40 : decode cX11_want 40 = .ok (.aload_n 0, 1) := by decide +kernel
theorem dX11_want_41 : decode cX11_want 41 = .ok (.iload_n 2, 1) := by decide +kernel
theorem dX11_want_42 : decode cX11_want 42 = .ok (.iload_n 3, 1) := by decide +kernel
theorem dX11_want_43 : decode cX11_want 43 = .ok (.invokevirtual 139, 3) := by decide +kernel
theorem dX11_want_46 : decode cX11_want 46 = .ok (.ifCond .ne 6, 3) := by decide +kernel
theorem dX11_want_49 : decode cX11_want 49 = .ok (.goto 14, 3) := by decide +kernel
theorem dX11_want_52 : decode cX11_want 52 = .ok (.aload_n 0, 1) := by decide +kernel
theorem dX11_want_53 : decode cX11_want 53 = .ok (.getfield 59, 3) := by decide +kernel
theorem dX11_want_56 : decode cX11_want 56 = .ok (.iload_n 2, 1) := by decide +kernel
theorem dX11_want_57 : decode cX11_want 57 = .ok (.aaload, 1) := by decide +kernel
theorem dX11_want_58 : decode cX11_want 58 = .ok (.iload_n 3, 1) := by decide +kernel
theorem dX11_want_59 : decode cX11_want 59 = .ok (.iconst 1, 1) := by decide +kernel
theorem dX11_want_60 : decode cX11_want 60 = .ok (.bastore, 1) := by decide +kernel
theorem dX11_want_61 : decode cX11_want 61 = .ok (.iconst 1, 1) := by decide +kernel
theorem dX11_want_62 : decode cX11_want 62 = .ok (.istore_n 1, 1) := by decide +kernel
theorem dX11_want_63 : decode cX11_want 63 = .ok (.iinc 3 1, 3) := by decide +kernel
theorem dX11_want_66 : decode cX11_want 66 = .ok (.goto (-51), 3) := by decide +kernel
theorem dX11_want_69 : decode cX11_want 69 = .ok (.iinc 2 (-1), 3) := by decide +kernel
theorem dX11_want_72 : decode cX11_want 72 = .ok (.goto (-63), 3) := by decide +kernel
theorem dX11_want_75 : decode cX11_want 75 = .ok (.iload_n 1, 1) := by decide +kernel
theorem dX11_want_76 : decode cX11_want 76 = .ok (.ireturn, 1) := by decide +kernel
theorem dX11_faults_0 : decode cX11_faults 0 = .ok (.new 26, 3) := by decide +kernel
theorem dX11_faults_3 : decode cX11_faults 3 = .ok (.dup, 1) := by decide +kernel
theorem dX11_faults_4 : decode cX11_faults 4 = .ok (.invokespecial 72, 3) := by decide +kernel
theorem dX11_faults_7 : decode cX11_faults 7 = .ok (.astore_n 1, 1) := by decide +kernel
theorem dX11_faults_8 : decode cX11_faults 8 = .ok (.aload_n 0, 1) := by decide +kernel
theorem dX11_faults_9 : decode cX11_faults 9 = .ok (.invokevirtual 156, 3) := by decide +kernel
theorem dX11_faults_12 : decode cX11_faults 12 = .ok (.ifCond .ne 32, 3) := by decide +kernel
theorem dX11_faults_15 : decode cX11_faults 15 = .ok (.aload_n 1, 1) := by decide +kernel
theorem dX11_faults_16 : decode cX11_faults 16 = .ok (.iconst 4, 1) := by decide +kernel
theorem dX11_faults_17 : decode cX11_faults 17 = .ok (.newarray .int, 2) := by decide +kernel
theorem dX11_faults_19 : decode cX11_faults 19 = .ok (.dup, 1) := by decide +kernel
theorem dX11_faults_20 : decode cX11_faults 20 = .ok (.iconst 0, 1) := by decide +kernel
theorem dX11_faults_21 : decode cX11_faults 21 = .ok (.iconst 5, 1) := by decide +kernel
theorem dX11_faults_22 : decode cX11_faults 22 = .ok (.iastore, 1) := by decide +kernel
theorem dX11_faults_23 : decode cX11_faults 23 = .ok (.dup, 1) := by decide +kernel
theorem dX11_faults_24 : decode cX11_faults 24 = .ok (.iconst 1, 1) := by decide +kernel
theorem dX11_faults_25 : decode cX11_faults 25 = .ok (.aload_n 0, 1) := by decide +kernel
theorem dX11_faults_26 : decode cX11_faults 26 = .ok (.getfield 9, 3) := by decide +kernel
theorem dX11_faults_29 : decode cX11_faults 29 = .ok (.iastore, 1) := by decide +kernel
theorem dX11_faults_30 : decode cX11_faults 30 = .ok (.dup, 1) := by decide +kernel
theorem dX11_faults_31 : decode cX11_faults 31 = .ok (.iconst 2, 1) := by decide +kernel
theorem dX11_faults_32 : decode cX11_faults 32 = .ok (.iconst (-1), 1) := by decide +kernel
theorem dX11_faults_33 : decode cX11_faults 33 = .ok (.iastore, 1) := by decide +kernel
theorem dX11_faults_34 : decode cX11_faults 34 = .ok (.dup, 1) := by decide +kernel
theorem dX11_faults_35 : decode cX11_faults 35 = .ok (.iconst 3, 1) := by decide +kernel
theorem dX11_faults_36 : decode cX11_faults 36 = .ok (.iconst (-1), 1) := by decide +kernel
theorem dX11_faults_37 : decode cX11_faults 37 = .ok (.iastore, 1) := by decide +kernel
theorem dX11_faults_38 : decode cX11_faults 38 = .ok (.invokevirtual 94, 3) := by decide +kernel
theorem dX11_faults_41 : decode cX11_faults 41 = .ok (.pop, 1) := by decide +kernel
theorem dX11_faults_42 : decode cX11_faults 42 = .ok (.aload_n 1, 1) := by decide +kernel
theorem dX11_faults_43 : decode cX11_faults 43 = .ok (.areturn, 1) := by decide +kernel
theorem dX11_faults_44 : decode cX11_faults 44 = .ok (.iconst 0, 1) := by decide +kernel
theorem dX11_faults_45 : decode cX11_faults 45 = .ok (.istore_n 2, 1) := by decide +kernel
theorem dX11_faults_46 : decode cX11_faults 46 = .ok (.iload_n 2, 1) := by decide +kernel
theorem dX11_faults_47 : decode cX11_faults 47 = .ok (.aload_n 0, 1) := by decide +kernel
theorem dX11_faults_48 : decode cX11_faults 48 = .ok (.getfield 31, 3) := by decide +kernel
theorem dX11_faults_51 : decode cX11_faults 51 = .ok (.if_icmp .ge 38, 3) := by decide +kernel
theorem dX11_faults_54 : decode cX11_faults 54 = .ok (.aload_n 0, 1) := by decide +kernel
theorem dX11_faults_55 : decode cX11_faults 55 = .ok (.getfield 43, 3) := by decide +kernel
theorem dX11_faults_58 : decode cX11_faults 58 = .ok (.iload_n 2, 1) := by decide +kernel
theorem dX11_faults_59 : decode cX11_faults 59 = .ok (.baload, 1) := by decide +kernel
theorem dX11_faults_60 : decode cX11_faults 60 = .ok (.ifCond .eq 11, 3) := by decide +kernel
theorem dX11_faults_63 : decode cX11_faults 63 = .ok (.aload_n 0, 1) := by decide +kernel
theorem dX11_faults_64 : decode cX11_faults 64 = .ok (.iload_n 2, 1) := by decide +kernel
theorem dX11_faults_65 : decode cX11_faults 65 = .ok (.invokevirtual 159, 3) := by decide +kernel
theorem dX11_faults_68 : decode cX11_faults 68 = .ok (.goto 4, 3) := by decide +kernel
theorem dX11_faults_71 : decode cX11_faults 71 = .ok (.aconst_null, 1) := by decide +kernel
theorem dX11_faults_72 : decode cX11_faults 72 = .ok (.astore_n 3, 1) := by decide +kernel
theorem dX11_faults_73 : decode cX11_faults 73 = .ok (.aload_n 3, 1) := by decide +kernel
theorem dX11_faults_74 : decode cX11_faults 74 = .ok (.ifnull 9, 3) := by decide +kernel
theorem dX11_faults_77 : decode cX11_faults 77 = .ok (.aload_n 1, 1) := by decide +kernel
theorem dX11_faults_78 : decode cX11_faults 78 = .ok (.aload_n 3, 1) := by decide +kernel
theorem dX11_faults_79 : decode cX11_faults 79 = .ok (.invokevirtual 94, 3) := by decide +kernel
theorem dX11_faults_82 : decode cX11_faults 82 = .ok (.pop, 1) := by decide +kernel
theorem dX11_faults_83 : decode cX11_faults 83 = .ok (.iinc 2 1, 3) := by decide +kernel
theorem dX11_faults_86 : decode cX11_faults 86 = .ok (.goto (-40), 3) := by decide +kernel
theorem dX11_faults_89 : decode cX11_faults 89 = .ok (.aload_n 1, 1) := by decide +kernel
theorem dX11_faults_90 : decode cX11_faults 90 = .ok (.areturn, 1) := by decide +kernel
theorem dX12_init_0 : decode cX12_init 0 = .ok (.aload_n 0, 1) := by decide +kernel
theorem dX12_init_1 : decode cX12_init 1 = .ok (.invokespecial 3, 3) := by decide +kernel
theorem dX12_init_4 : decode cX12_init 4 = .ok (.aload_n 0, 1) := by decide +kernel
theorem dX12_init_5 : decode cX12_init 5 = .ok (.iload_n 1, 1) := by decide +kernel
theorem dX12_init_6 : decode cX12_init 6 = .ok (.putfield 9, 3) := by decide +kernel
theorem dX12_init_9 : decode cX12_init 9 = .ok (.aload_n 0, 1) := by decide +kernel
theorem dX12_init_10 : decode cX12_init 10 = .ok (.iload_n 2, 1) := by decide +kernel
theorem dX12_init_11 : decode cX12_init 11 = .ok (.putfield 15, 3) := by decide +kernel
theorem dX12_init_14 : decode cX12_init 14 = .ok (.aload_n 0, 1) := by decide +kernel
theorem dX12_init_15 : decode cX12_init 15 = .ok (.iload_n 3, 1) := by decide +kernel
theorem dX12_init_16 : decode cX12_init 16 = .ok (.putfield 18, 3) := by decide +kernel
theorem dX12_init_19 : decode cX12_init 19 = .ok (.return_, 1) := by decide +kernel
theorem dX12_isLoan_0 : decode cX12_isLoan 0 = .ok (.aload_n 0, 1) := by decide +kernel
theorem dX12_isLoan_1 : decode cX12_isLoan 1 = .ok (.getfield 9, 3) := by decide +kernel
theorem dX12_isLoan_4 : decode cX12_isLoan 4 = .ok (.iconst 3, 1) := by decide +kernel
theorem dX12_isLoan_5 : decode cX12_isLoan 5 = .ok (.if_icmp .eq 11, 3) := by decide +kernel
theorem dX12_isLoan_8 : decode cX12_isLoan 8 = .ok (.aload_n 0, 1) := by decide +kernel
theorem dX12_isLoan_9 : decode cX12_isLoan 9 = .ok (.getfield 9, 3) := by decide +kernel
theorem dX12_isLoan_12 : decode cX12_isLoan 12 = .ok (.iconst 4, 1) := by decide +kernel
theorem dX12_isLoan_13 : decode cX12_isLoan 13 = .ok (.if_icmp .ne 7, 3) := by decide +kernel
theorem dX12_isLoan_16 : decode cX12_isLoan 16 = .ok (.iconst 1, 1) := by decide +kernel
theorem dX12_isLoan_17 : decode cX12_isLoan 17 = .ok (.goto 4, 3) := by decide +kernel
theorem dX12_isLoan_20 : decode cX12_isLoan 20 = .ok (.iconst 0, 1) := by decide +kernel
theorem dX12_isLoan_21 : decode cX12_isLoan 21 = .ok (.ireturn, 1) := by decide +kernel
theorem dX12_gives_0 : decode cX12_gives 0 = .ok (.aload_n 0, 1) := by decide +kernel
theorem dX12_gives_1 : decode cX12_gives 1 = .ok (.getfield 9, 3) := by decide +kernel
theorem dX12_gives_4 : decode cX12_gives 4 = .ok (.iconst 4, 1) := by decide +kernel
theorem dX12_gives_5 : decode cX12_gives 5 = .ok (.if_icmp .gt 7, 3) := by decide +kernel
theorem dX12_gives_8 : decode cX12_gives 8 = .ok (.iconst 1, 1) := by decide +kernel
theorem dX12_gives_9 : decode cX12_gives 9 = .ok (.goto 4, 3) := by decide +kernel
theorem dX12_gives_12 : decode cX12_gives 12 = .ok (.iconst 0, 1) := by decide +kernel
theorem dX12_gives_13 : decode cX12_gives 13 = .ok (.ireturn, 1) := by decide +kernel
theorem dX14_init_0 : decode cX14_init 0 = .ok (.aload_n 0, 1) := by decide +kernel
theorem dX14_init_1 : decode cX14_init 1 = .ok (.invokespecial 3, 3) := by decide +kernel
theorem dX14_init_4 : decode cX14_init 4 = .ok (.aload_n 0, 1) := by decide +kernel
theorem dX14_init_5 : decode cX14_init 5 = .ok (.new 9, 3) := by decide +kernel
theorem dX14_init_8 : decode cX14_init 8 = .ok (.dup, 1) := by decide +kernel
theorem dX14_init_9 : decode cX14_init 9 = .ok (.invokespecial 11, 3) := by decide +kernel
theorem dX14_init_12 : decode cX14_init 12 = .ok (.putfield 12, 3) := by decide +kernel
theorem dX14_init_15 : decode cX14_init 15 = .ok (.aload_n 0, 1) := by decide +kernel
theorem dX14_init_16 : decode cX14_init 16 = .ok (.new 9, 3) := by decide +kernel
theorem dX14_init_19 : decode cX14_init 19 = .ok (.dup, 1) := by decide +kernel
theorem dX14_init_20 : decode cX14_init 20 = .ok (.invokespecial 11, 3) := by decide +kernel
theorem dX14_init_23 : decode cX14_init 23 = .ok (.putfield 18, 3) := by decide +kernel
theorem dX14_init_26 : decode cX14_init 26 = .ok (.return_, 1) := by decide +kernel
theorem dX14_copy_0 : decode cX14_copy 0 = .ok (.new 13, 3) := by decide +kernel
theorem dX14_copy_3 : decode cX14_copy 3 = .ok (.dup, 1) := by decide +kernel
theorem dX14_copy_4 : decode cX14_copy 4 = .ok (.invokespecial 21, 3) := by decide +kernel
theorem dX14_copy_7 : decode cX14_copy 7 = .ok (.astore_n 1, 1) := by decide +kernel
theorem dX14_copy_8 : decode cX14_copy 8 = .ok (.aload_n 1, 1) := by decide +kernel
theorem dX14_copy_9 : decode cX14_copy 9 = .ok (.getfield 12, 3) := by decide +kernel
theorem dX14_copy_12 : decode cX14_copy 12 = .ok (.aload_n 0, 1) := by decide +kernel
theorem dX14_copy_13 : decode cX14_copy 13 = .ok (.getfield 12, 3) := by decide +kernel
theorem dX14_copy_16 : decode cX14_copy 16 = .ok (.invokevirtual 22, 3) := by decide +kernel
theorem dX14_copy_19 : decode cX14_copy 19 = .ok (.pop, 1) := by decide +kernel
theorem dX14_copy_20 : decode cX14_copy 20 = .ok (.aload_n 1, 1) := by decide +kernel
theorem dX14_copy_21 : decode cX14_copy 21 = .ok (.getfield 18, 3) := by decide +kernel
theorem dX14_copy_24 : decode cX14_copy 24 = .ok (.aload_n 0, 1) := by decide +kernel
theorem dX14_copy_25 : decode cX14_copy 25 = .ok (.getfield 18, 3) := by decide +kernel
theorem dX14_copy_28 : decode cX14_copy 28 = .ok (.invokevirtual 22, 3) := by decide +kernel
theorem dX14_copy_31 : decode cX14_copy 31 = .ok (.pop, 1) := by decide +kernel
theorem dX14_copy_32 : decode cX14_copy 32 = .ok (.aload_n 1, 1) := by decide +kernel
theorem dX14_copy_33 : decode cX14_copy 33 = .ok (.areturn, 1) := by decide +kernel
theorem dX14_kindOf_0 : decode cX14_kindOf 0 = .ok (.iload_n 1, 1) := by decide +kernel
theorem dX14_kindOf_1 : decode cX14_kindOf 1 = .ok (.iconst 0, 1) := by decide +kernel
theorem dX14_kindOf_2 : decode cX14_kindOf 2 = .ok (.iconst 3, 1) := by decide +kernel
theorem dX14_kindOf_3 : decode cX14_kindOf 3 = .ok (.aload_n 0, 1) := by decide +kernel
theorem dX14_kindOf_4 : decode cX14_kindOf 4 = .ok (.getfield 12, 3) := by decide +kernel
theorem dX14_kindOf_7 : decode cX14_kindOf 7 = .ok (.invokevirtual 26, 3) := by decide +kernel
theorem dX14_kindOf_10 : decode cX14_kindOf 10 = .ok (.imul, 1) := by decide +kernel
theorem dX14_kindOf_11 : decode cX14_kindOf 11 = .ok (.iconst 1, 1) := by decide +kernel
theorem dX14_kindOf_12 : decode cX14_kindOf 12 = .ok (.isub, 1) := by decide +kernel
theorem dX14_kindOf_13 : decode cX14_kindOf 13 = .ok (.invokestatic 30, 3) := by decide +kernel
theorem dX14_kindOf_16 : decode cX14_kindOf 16 = .ok (.ifCond .ne 5, 3) := by decide +kernel
theorem dX14_kindOf_19 : decode cX14_kindOf 19 = .ok (.iconst (-1), 1) := by decide +kernel
theorem dX14_kindOf_20 : decode cX14_kindOf 20 = .ok (.ireturn, 1) := by decide +kernel
theorem dX14_kindOf_21 : decode cX14_kindOf 21 = .ok (.aload_n 0, 1) := by decide +kernel
theorem dX14_kindOf_22 : decode cX14_kindOf 22 = .ok (.getfield 12, 3) := by decide +kernel
theorem dX14_kindOf_25 : decode cX14_kindOf 25 = .ok (.iload_n 1, 1) := by decide +kernel
theorem dX14_kindOf_26 : decode cX14_kindOf 26 = .ok (.iconst 3, 1) := by decide +kernel
theorem dX14_kindOf_27 : decode cX14_kindOf 27 = .ok (.idiv, 1) := by decide +kernel
theorem dX14_kindOf_28 : decode cX14_kindOf 28 = .ok (.invokevirtual 34, 3) := by decide +kernel
theorem dX14_kindOf_31 : decode cX14_kindOf 31 = .ok (.checkcast 38, 3) := by decide +kernel
theorem dX14_kindOf_34 : decode cX14_kindOf 34 = .ok (.invokevirtual 40, 3) := by decide +kernel
theorem dX14_kindOf_37 : decode cX14_kindOf 37 = .ok (.istore_n 2, 1) := by decide +kernel
theorem dX14_kindOf_38 : decode cX14_kindOf 38 = .ok (.iload_n 1, 1) := by decide +kernel
theorem dX14_kindOf_39 : decode cX14_kindOf 39 = .ok (.iconst 3, 1) := by decide +kernel
theorem dX14_kindOf_40 : decode cX14_kindOf 40 = .ok (.irem, 1) := by decide +kernel
theorem dX14_kindOf_41 : decode cX14_kindOf 41 = .ok (.ifCond .ne 7, 3) := by decide +kernel
theorem dX14_kindOf_44 : decode cX14_kindOf 44 = .ok (.iload_n 2, 1) := by decide +kernel
theorem dX14_kindOf_45 : decode cX14_kindOf 45 = .ok (.goto 13, 3) := by decide +kernel
theorem dX14_kindOf_48 : decode cX14_kindOf 48 = .ok (.iload_n 2, 1) := by decide +kernel
theorem dX14_kindOf_49 : decode cX14_kindOf 49 = .ok (.iconst 2, 1) := by decide +kernel
theorem dX14_kindOf_50 : decode cX14_kindOf 50 = .ok (.if_icmp .ne 7, 3) := by decide +kernel
theorem dX14_kindOf_53 : decode cX14_kindOf 53 = .ok (.iconst 1, 1) := by decide +kernel
theorem dX14_kindOf_54 : decode cX14_kindOf 54 = .ok (.goto 4, 3) := by decide +kernel
theorem dX14_kindOf_57 : decode cX14_kindOf 57 = .ok (.iconst (-1), 1) := by decide +kernel
theorem dX14_kindOf_58 : decode cX14_kindOf 58 = .ok (.ireturn, 1) := by decide +kernel
theorem dX14_isBorrow_0 : decode cX14_isBorrow 0 = .ok (.aload_n 0, 1) := by decide +kernel
theorem dX14_isBorrow_1 : decode cX14_isBorrow 1 = .ok (.iload_n 1, 1) := by decide +kernel
theorem dX14_isBorrow_2 : decode cX14_isBorrow 2 = .ok (.invokevirtual 43, 3) := by decide +kernel
theorem dX14_isBorrow_5 : decode cX14_isBorrow 5 = .ok (.iconst 3, 1) := by decide +kernel
theorem dX14_isBorrow_6 : decode cX14_isBorrow 6 = .ok (.if_icmp .eq 12, 3) := by decide +kernel
theorem dX14_isBorrow_9 : decode cX14_isBorrow 9 = .ok (.aload_n 0, 1) := by decide +kernel
theorem dX14_isBorrow_10 : decode cX14_isBorrow 10 = .ok (.iload_n 1, 1) := by decide +kernel
theorem dX14_isBorrow_11 : decode cX14_isBorrow 11 = .ok (.invokevirtual 43, 3) := by decide +kernel
theorem dX14_isBorrow_14 : decode cX14_isBorrow 14 = .ok (.iconst 4, 1) := by decide +kernel
theorem dX14_isBorrow_15 : decode cX14_isBorrow 15 = .ok (.if_icmp .ne 7, 3) := by decide +kernel
theorem dX14_isBorrow_18 : decode cX14_isBorrow 18 = .ok (.iconst 1, 1) := by decide +kernel
theorem dX14_isBorrow_19 : decode cX14_isBorrow 19 = .ok (.goto 4, 3) := by decide +kernel
theorem dX14_isBorrow_22 : decode cX14_isBorrow 22 = .ok (.iconst 0, 1) := by decide +kernel
theorem dX14_isBorrow_23 : decode cX14_isBorrow 23 = .ok (.ireturn, 1) := by decide +kernel
theorem dX14_isOwned_0 : decode cX14_isOwned 0 = .ok (.aload_n 0, 1) := by decide +kernel
theorem dX14_isOwned_1 : decode cX14_isOwned 1 = .ok (.iload_n 1, 1) := by decide +kernel
theorem dX14_isOwned_2 : decode cX14_isOwned 2 = .ok (.invokevirtual 43, 3) := by decide +kernel
theorem dX14_isOwned_5 : decode cX14_isOwned 5 = .ok (.iconst 1, 1) := by decide +kernel
theorem dX14_isOwned_6 : decode cX14_isOwned 6 = .ok (.if_icmp .eq 21, 3) := by decide +kernel
theorem dX14_isOwned_9 : decode cX14_isOwned 9 = .ok (.aload_n 0, 1) := by decide +kernel
theorem dX14_isOwned_10 : decode cX14_isOwned 10 = .ok (.iload_n 1, 1) := by decide +kernel
theorem dX14_isOwned_11 : decode cX14_isOwned 11 = .ok (.invokevirtual 43, 3) := by decide +kernel
theorem dX14_isOwned_14 : decode cX14_isOwned 14 = .ok (.iconst 2, 1) := by decide +kernel
theorem dX14_isOwned_15 : decode cX14_isOwned 15 = .ok (.if_icmp .eq 12, 3) := by decide +kernel
theorem dX14_isOwned_18 : decode cX14_isOwned 18 = .ok (.aload_n 0, 1) := by decide +kernel
theorem dX14_isOwned_19 : decode cX14_isOwned 19 = .ok (.iload_n 1, 1) := by decide +kernel
theorem dX14_isOwned_20 : decode cX14_isOwned 20 = .ok (.invokevirtual 43, 3) := by decide +kernel
theorem dX14_isOwned_23 : decode cX14_isOwned 23 = .ok (.iconst 5, 1) := by decide +kernel
theorem dX14_isOwned_24 : decode cX14_isOwned 24 = .ok (.if_icmp .ne 7, 3) := by decide +kernel
theorem dX14_isOwned_27 : decode cX14_isOwned 27 = .ok (.iconst 1, 1) := by decide +kernel
theorem dX14_isOwned_28 : decode cX14_isOwned 28 = .ok (.goto 4, 3) := by decide +kernel
theorem dX14_isOwned_31 : decode cX14_isOwned 31 = .ok (.iconst 0, 1) := by decide +kernel
theorem dX14_isOwned_32 : decode cX14_isOwned 32 = .ok (.ireturn, 1) := by decide +kernel
theorem dX14_canBeLent_0 : decode cX14_canBeLent 0 = .ok (.aload_n 0, 1) := by decide +kernel
theorem dX14_canBeLent_1 : decode cX14_canBeLent 1 = .ok (.iload_n 1, 1) := by decide +kernel
theorem dX14_canBeLent_2 : decode cX14_canBeLent 2 = .ok (.invokevirtual 43, 3) := by decide +kernel
theorem dX14_canBeLent_5 : decode cX14_canBeLent 5 = .ok (.iconst 0, 1) := by decide +kernel
theorem dX14_canBeLent_6 : decode cX14_canBeLent 6 = .ok (.iconst 2, 1) := by decide +kernel
theorem dX14_canBeLent_7 : decode cX14_canBeLent 7 = .ok (.invokestatic 30, 3) := by decide +kernel
theorem dX14_canBeLent_10 : decode cX14_canBeLent 10 = .ok (.ireturn, 1) := by decide +kernel
theorem dX14_isNumber_0 : decode cX14_isNumber 0 = .ok (.iload_n 0, 1) := by decide +kernel
theorem dX14_isNumber_1 : decode cX14_isNumber 1 = .ok (.bipush (-99), 2) := by decide +kernel
theorem dX14_isNumber_3 : decode cX14_isNumber 3 = .ok (.bipush 99, 2) := by decide +kernel
theorem dX14_isNumber_5 : decode cX14_isNumber 5 = .ok (.invokestatic 30, 3) := by decide +kernel
theorem dX14_isNumber_8 : decode cX14_isNumber 8 = .ok (.ireturn, 1) := by decide +kernel
theorem dX14_isLine_0 : decode cX14_isLine 0 = .ok (.aload_n 0, 1) := by decide +kernel
theorem dX14_isLine_1 : decode cX14_isLine 1 = .ok (.iload_n 2, 1) := by decide +kernel
theorem dX14_isLine_2 : decode cX14_isLine 2 = .ok (.invokevirtual 43, 3) := by decide +kernel
theorem dX14_isLine_5 : decode cX14_isLine 5 = .ok (.istore 4, 2) := by decide +kernel
theorem dX14_isLine_7 : decode cX14_isLine 7 = .ok (.iload_n 1, 1) := by decide +kernel
theorem dX14_isLine_8 : decode cX14_isLine 8 = .ok (.tableswitch 392 0 16 #[84, 111, 151, 184, 204, 224, 240, 271, 289, 323, 304, 323, 337, 358, 358, 323, 374], 84) := by decide +kernel
theorem dX14_isLine_92 : decode cX14_isLine 92 = .ok (.iload 4, 2) := by decide +kernel
theorem dX14_isLine_94 : decode cX14_isLine 94 = .ok (.iconst (-1), 1) := by decide +kernel
theorem dX14_isLine_95 : decode cX14_isLine 95 = .ok (.if_icmp .eq 22, 3) := by decide +kernel
theorem dX14_isLine_98 : decode cX14_isLine 98 = .ok (.aload_n 0, 1) := by decide +kernel
theorem dX14_isLine_99 : decode cX14_isLine 99 = .ok (.iload_n 2, 1) := by decide +kernel
theorem dX14_isLine_100 : decode cX14_isLine 100 = .ok (.invokevirtual 47, 3) := by decide +kernel
theorem dX14_isLine_103 : decode cX14_isLine 103 = .ok (.ifCond .ne 14, 3) := by decide +kernel
theorem dX14_isLine_106 : decode cX14_isLine 106 = .ok (.iload_n 3, 1) := by decide +kernel
theorem dX14_isLine_107 : decode cX14_isLine 107 = .ok (.invokestatic 51, 3) := by decide +kernel
theorem dX14_isLine_110 : decode cX14_isLine 110 = .ok (.ifCond .eq 7, 3) := by decide +kernel
theorem dX14_isLine_113 : decode cX14_isLine 113 = .ok (.iconst 1, 1) := by decide +kernel
theorem dX14_isLine_114 : decode cX14_isLine 114 = .ok (.goto 4, 3) := by decide +kernel
theorem dX14_isLine_117 : decode cX14_isLine 117 = .ok (.iconst 0, 1) := by decide +kernel
theorem dX14_isLine_118 : decode cX14_isLine 118 = .ok (.ireturn, 1) := by decide +kernel
theorem dX14_isLine_119 : decode cX14_isLine 119 = .ok (.iload 4, 2) := by decide +kernel
theorem dX14_isLine_121 : decode cX14_isLine 121 = .ok (.aload_n 0, 1) := by decide +kernel
theorem dX14_isLine_122 : decode cX14_isLine 122 = .ok (.iload_n 3, 1) := by decide +kernel
theorem dX14_isLine_123 : decode cX14_isLine 123 = .ok (.invokevirtual 43, 3) := by decide +kernel
theorem dX14_isLine_126 : decode cX14_isLine 126 = .ok (.if_icmp .ne 31, 3) := by decide +kernel
theorem dX14_isLine_129 : decode cX14_isLine 129 = .ok (.iload 4, 2) := by decide +kernel
theorem dX14_isLine_131 : decode cX14_isLine 131 = .ok (.iconst 1, 1) := by decide +kernel
theorem dX14_isLine_132 : decode cX14_isLine 132 = .ok (.if_icmp .eq 21, 3) := by decide +kernel
theorem dX14_isLine_135 : decode cX14_isLine 135 = .ok (.iload 4, 2) := by decide +kernel
theorem dX14_isLine_137 : decode cX14_isLine 137 = .ok (.iconst 2, 1) := by decide +kernel
theorem dX14_isLine_138 : decode cX14_isLine 138 = .ok (.if_icmp .eq 15, 3) := by decide +kernel
theorem dX14_isLine_141 : decode cX14_isLine 141 = .ok (.iload 4, 2) := by decide +kernel
theorem dX14_isLine_143 : decode cX14_isLine 143 = .ok (.iconst 5, 1) := by decide +kernel
theorem dX14_isLine_144 : decode cX14_isLine 144 = .ok (.if_icmp .eq 9, 3) := by decide +kernel
theorem dX14_isLine_147 : decode cX14_isLine 147 = .ok (.iload 4, 2) := by decide +kernel
theorem dX14_isLine_149 : decode cX14_isLine 149 = .ok (.iconst 4, 1) := by decide +kernel
theorem dX14_isLine_150 : decode cX14_isLine 150 = .ok (.if_icmp .ne 7, 3) := by decide +kernel
theorem dX14_isLine_153 : decode cX14_isLine 153 = .ok (.iconst 1, 1) := by decide +kernel
theorem dX14_isLine_154 : decode cX14_isLine 154 = .ok (.goto 4, 3) := by decide +kernel
theorem dX14_isLine_157 : decode cX14_isLine 157 = .ok (.iconst 0, 1) := by decide +kernel
theorem dX14_isLine_158 : decode cX14_isLine 158 = .ok (.ireturn, 1) := by decide +kernel
theorem dX14_isLine_159 : decode cX14_isLine 159 = .ok (.iload 4, 2) := by decide +kernel
theorem dX14_isLine_161 : decode cX14_isLine 161 = .ok (.aload_n 0, 1) := by decide +kernel
theorem dX14_isLine_162 : decode cX14_isLine 162 = .ok (.iload_n 3, 1) := by decide +kernel
theorem dX14_isLine_163 : decode cX14_isLine 163 = .ok (.invokevirtual 43, 3) := by decide +kernel
theorem dX14_isLine_166 : decode cX14_isLine 166 = .ok (.if_icmp .ne 24, 3) := by decide +kernel
theorem dX14_isLine_169 : decode cX14_isLine 169 = .ok (.iload 4, 2) := by decide +kernel
theorem dX14_isLine_171 : decode cX14_isLine 171 = .ok (.ifCond .eq 15, 3) := by decide +kernel
theorem dX14_isLine_174 : decode cX14_isLine 174 = .ok (.iload 4, 2) := by decide +kernel
theorem dX14_isLine_176 : decode cX14_isLine 176 = .ok (.iconst 3, 1) := by decide +kernel
theorem dX14_isLine_177 : decode cX14_isLine 177 = .ok (.if_icmp .eq 9, 3) := by decide +kernel
theorem dX14_isLine_180 : decode cX14_isLine 180 = .ok (.iload 4, 2) := by decide +kernel
theorem dX14_isLine_182 : decode cX14_isLine 182 = .ok (.iconst 5, 1) := by decide +kernel
theorem dX14_isLine_183 : decode cX14_isLine 183 = .ok (.if_icmp .ne 7, 3) := by decide +kernel
theorem dX14_isLine_186 : decode cX14_isLine 186 = .ok (.iconst 1, 1) := by decide +kernel
theorem dX14_isLine_187 : decode cX14_isLine 187 = .ok (.goto 4, 3) := by decide +kernel
theorem dX14_isLine_190 : decode cX14_isLine 190 = .ok (.iconst 0, 1) := by decide +kernel
theorem dX14_isLine_191 : decode cX14_isLine 191 = .ok (.ireturn, 1) := by decide +kernel
theorem dX14_isLine_192 : decode cX14_isLine 192 = .ok (.iload 4, 2) := by decide +kernel
theorem dX14_isLine_194 : decode cX14_isLine 194 = .ok (.iconst 3, 1) := by decide +kernel
theorem dX14_isLine_195 : decode cX14_isLine 195 = .ok (.if_icmp .ne 15, 3) := by decide +kernel
theorem dX14_isLine_198 : decode cX14_isLine 198 = .ok (.aload_n 0, 1) := by decide +kernel
theorem dX14_isLine_199 : decode cX14_isLine 199 = .ok (.iload_n 3, 1) := by decide +kernel
theorem dX14_isLine_200 : decode cX14_isLine 200 = .ok (.invokevirtual 54, 3) := by decide +kernel
theorem dX14_isLine_203 : decode cX14_isLine 203 = .ok (.ifCond .eq 7, 3) := by decide +kernel
theorem dX14_isLine_206 : decode cX14_isLine 206 = .ok (.iconst 1, 1) := by decide +kernel
theorem dX14_isLine_207 : decode cX14_isLine 207 = .ok (.goto 4, 3) := by decide +kernel
theorem dX14_isLine_210 : decode cX14_isLine 210 = .ok (.iconst 0, 1) := by decide +kernel
theorem dX14_isLine_211 : decode cX14_isLine 211 = .ok (.ireturn, 1) := by decide +kernel
theorem dX14_isLine_212 : decode cX14_isLine 212 = .ok (.iload 4, 2) := by decide +kernel
theorem dX14_isLine_214 : decode cX14_isLine 214 = .ok (.iconst 4, 1) := by decide +kernel
theorem dX14_isLine_215 : decode cX14_isLine 215 = .ok (.if_icmp .ne 15, 3) := by decide +kernel
theorem dX14_isLine_218 : decode cX14_isLine 218 = .ok (.aload_n 0, 1) := by decide +kernel
theorem dX14_isLine_219 : decode cX14_isLine 219 = .ok (.iload_n 3, 1) := by decide +kernel
theorem dX14_isLine_220 : decode cX14_isLine 220 = .ok (.invokevirtual 54, 3) := by decide +kernel
theorem dX14_isLine_223 : decode cX14_isLine 223 = .ok (.ifCond .eq 7, 3) := by decide +kernel
theorem dX14_isLine_226 : decode cX14_isLine 226 = .ok (.iconst 1, 1) := by decide +kernel
theorem dX14_isLine_227 : decode cX14_isLine 227 = .ok (.goto 4, 3) := by decide +kernel
theorem dX14_isLine_230 : decode cX14_isLine 230 = .ok (.iconst 0, 1) := by decide +kernel
theorem dX14_isLine_231 : decode cX14_isLine 231 = .ok (.ireturn, 1) := by decide +kernel
theorem dX14_isLine_232 : decode cX14_isLine 232 = .ok (.iload 4, 2) := by decide +kernel
theorem dX14_isLine_234 : decode cX14_isLine 234 = .ok (.iconst (-1), 1) := by decide +kernel
theorem dX14_isLine_235 : decode cX14_isLine 235 = .ok (.if_icmp .eq 11, 3) := by decide +kernel
theorem dX14_isLine_238 : decode cX14_isLine 238 = .ok (.iload_n 3, 1) := by decide +kernel
theorem dX14_isLine_239 : decode cX14_isLine 239 = .ok (.ifCond .ne 7, 3) := by decide +kernel
theorem dX14_isLine_242 : decode cX14_isLine 242 = .ok (.iconst 1, 1) := by decide +kernel
theorem dX14_isLine_243 : decode cX14_isLine 243 = .ok (.goto 4, 3) := by decide +kernel
theorem dX14_isLine_246 : decode cX14_isLine 246 = .ok (.iconst 0, 1) := by decide +kernel
theorem dX14_isLine_247 : decode cX14_isLine 247 = .ok (.ireturn, 1) := by decide +kernel
theorem dX14_isLine_248 : decode cX14_isLine 248 = .ok (.iload 4, 2) := by decide +kernel
theorem dX14_isLine_250 : decode cX14_isLine 250 = .ok (.iconst (-1), 1) := by decide +kernel
theorem dX14_isLine_251 : decode cX14_isLine 251 = .ok (.if_icmp .eq 26, 3) := by decide +kernel
theorem dX14_isLine_254 : decode cX14_isLine 254 = .ok (.iload 4, 2) := by decide +kernel
theorem dX14_isLine_256 : decode cX14_isLine 256 = .ok (.iconst 2, 1) := by decide +kernel
theorem dX14_isLine_257 : decode cX14_isLine 257 = .ok (.if_icmp .eq 20, 3) := by decide +kernel
theorem dX14_isLine_260 : decode cX14_isLine 260 = .ok (.iload 4, 2) := by decide +kernel
theorem dX14_isLine_262 : decode cX14_isLine 262 = .ok (.iconst 3, 1) := by decide +kernel
theorem dX14_isLine_263 : decode cX14_isLine 263 = .ok (.if_icmp .eq 14, 3) := by decide +kernel
theorem dX14_isLine_266 : decode cX14_isLine 266 = .ok (.iload_n 3, 1) := by decide +kernel
theorem dX14_isLine_267 : decode cX14_isLine 267 = .ok (.invokestatic 51, 3) := by decide +kernel
theorem dX14_isLine_270 : decode cX14_isLine 270 = .ok (.ifCond .eq 7, 3) := by decide +kernel
theorem dX14_isLine_273 : decode cX14_isLine 273 = .ok (.iconst 1, 1) := by decide +kernel
theorem dX14_isLine_274 : decode cX14_isLine 274 = .ok (.goto 4, 3) := by decide +kernel
theorem dX14_isLine_277 : decode cX14_isLine 277 = .ok (.iconst 0, 1) := by decide +kernel
theorem dX14_isLine_278 : decode cX14_isLine 278 = .ok (.ireturn, 1) := by decide +kernel
theorem dX14_isLine_279 : decode cX14_isLine 279 = .ok (.aload_n 0, 1) := by decide +kernel
theorem dX14_isLine_280 : decode cX14_isLine 280 = .ok (.iload_n 2, 1) := by decide +kernel
theorem dX14_isLine_281 : decode cX14_isLine 281 = .ok (.invokevirtual 57, 3) := by decide +kernel
theorem dX14_isLine_284 : decode cX14_isLine 284 = .ok (.ifCond .eq 11, 3) := by decide +kernel
theorem dX14_isLine_287 : decode cX14_isLine 287 = .ok (.iload_n 3, 1) := by decide +kernel
theorem dX14_isLine_288 : decode cX14_isLine 288 = .ok (.ifCond .ne 7, 3) := by decide +kernel
theorem dX14_isLine_291 : decode cX14_isLine 291 = .ok (.iconst 1, 1) := by decide +kernel
theorem dX14_isLine_292 : decode cX14_isLine 292 = .ok (.goto 4, 3) := by decide +kernel
theorem dX14_isLine_295 : decode cX14_isLine 295 = .ok (.iconst 0, 1) := by decide +kernel
theorem dX14_isLine_296 : decode cX14_isLine 296 = .ok (.ireturn, 1) := by decide +kernel
theorem dX14_isLine_297 : decode cX14_isLine 297 = .ok (.iload 4, 2) := by decide +kernel
theorem dX14_isLine_299 : decode cX14_isLine 299 = .ok (.ifCond .ne 11, 3) := by decide +kernel
theorem dX14_isLine_302 : decode cX14_isLine 302 = .ok (.iload_n 3, 1) := by decide +kernel
theorem dX14_isLine_303 : decode cX14_isLine 303 = .ok (.ifCond .ne 7, 3) := by decide +kernel
theorem dX14_isLine_306 : decode cX14_isLine 306 = .ok (.iconst 1, 1) := by decide +kernel
theorem dX14_isLine_307 : decode cX14_isLine 307 = .ok (.goto 4, 3) := by decide +kernel
theorem dX14_isLine_310 : decode cX14_isLine 310 = .ok (.iconst 0, 1) := by decide +kernel
theorem dX14_isLine_311 : decode cX14_isLine 311 = .ok (.ireturn, 1) := by decide +kernel
theorem dX14_isLine_312 : decode cX14_isLine 312 = .ok (.iload_n 2, 1) := by decide +kernel
theorem dX14_isLine_313 : decode cX14_isLine 313 = .ok (.iconst 1, 1) := by decide +kernel
theorem dX14_isLine_314 : decode cX14_isLine 314 = .ok (.iconst 4, 1) := by decide +kernel
theorem dX14_isLine_315 : decode cX14_isLine 315 = .ok (.invokestatic 30, 3) := by decide +kernel
theorem dX14_isLine_318 : decode cX14_isLine 318 = .ok (.ifCond .eq 11, 3) := by decide +kernel
theorem dX14_isLine_321 : decode cX14_isLine 321 = .ok (.iload_n 3, 1) := by decide +kernel
theorem dX14_isLine_322 : decode cX14_isLine 322 = .ok (.ifCond .ne 7, 3) := by decide +kernel
theorem dX14_isLine_325 : decode cX14_isLine 325 = .ok (.iconst 1, 1) := by decide +kernel
theorem dX14_isLine_326 : decode cX14_isLine 326 = .ok (.goto 4, 3) := by decide +kernel
theorem dX14_isLine_329 : decode cX14_isLine 329 = .ok (.iconst 0, 1) := by decide +kernel
theorem dX14_isLine_330 : decode cX14_isLine 330 = .ok (.ireturn, 1) := by decide +kernel
theorem dX14_isLine_331 : decode cX14_isLine 331 = .ok (.iload_n 2, 1) := by decide +kernel
theorem dX14_isLine_332 : decode cX14_isLine 332 = .ok (.ifCond .ne 11, 3) := by decide +kernel
theorem dX14_isLine_335 : decode cX14_isLine 335 = .ok (.iload_n 3, 1) := by decide +kernel
theorem dX14_isLine_336 : decode cX14_isLine 336 = .ok (.ifCond .ne 7, 3) := by decide +kernel
theorem dX14_isLine_339 : decode cX14_isLine 339 = .ok (.iconst 1, 1) := by decide +kernel
theorem dX14_isLine_340 : decode cX14_isLine 340 = .ok (.goto 4, 3) := by decide +kernel
theorem dX14_isLine_343 : decode cX14_isLine 343 = .ok (.iconst 0, 1) := by decide +kernel
theorem dX14_isLine_344 : decode cX14_isLine 344 = .ok (.ireturn, 1) := by decide +kernel
theorem dX14_isLine_345 : decode cX14_isLine 345 = .ok (.iload 4, 2) := by decide +kernel
theorem dX14_isLine_347 : decode cX14_isLine 347 = .ok (.iconst 5, 1) := by decide +kernel
theorem dX14_isLine_348 : decode cX14_isLine 348 = .ok (.if_icmp .ne 16, 3) := by decide +kernel
theorem dX14_isLine_351 : decode cX14_isLine 351 = .ok (.aload_n 0, 1) := by decide +kernel
theorem dX14_isLine_352 : decode cX14_isLine 352 = .ok (.iload_n 3, 1) := by decide +kernel
theorem dX14_isLine_353 : decode cX14_isLine 353 = .ok (.invokevirtual 43, 3) := by decide +kernel
theorem dX14_isLine_356 : decode cX14_isLine 356 = .ok (.iconst 5, 1) := by decide +kernel
theorem dX14_isLine_357 : decode cX14_isLine 357 = .ok (.if_icmp .ne 7, 3) := by decide +kernel
theorem dX14_isLine_360 : decode cX14_isLine 360 = .ok (.iconst 1, 1) := by decide +kernel
theorem dX14_isLine_361 : decode cX14_isLine 361 = .ok (.goto 4, 3) := by decide +kernel
theorem dX14_isLine_364 : decode cX14_isLine 364 = .ok (.iconst 0, 1) := by decide +kernel
theorem dX14_isLine_365 : decode cX14_isLine 365 = .ok (.ireturn, 1) := by decide +kernel
theorem dX14_isLine_366 : decode cX14_isLine 366 = .ok (.iload 4, 2) := by decide +kernel
theorem dX14_isLine_368 : decode cX14_isLine 368 = .ok (.iconst 5, 1) := by decide +kernel
theorem dX14_isLine_369 : decode cX14_isLine 369 = .ok (.if_icmp .ne 11, 3) := by decide +kernel
theorem dX14_isLine_372 : decode cX14_isLine 372 = .ok (.iload_n 3, 1) := by decide +kernel
theorem dX14_isLine_373 : decode cX14_isLine 373 = .ok (.ifCond .ne 7, 3) := by decide +kernel
theorem dX14_isLine_376 : decode cX14_isLine 376 = .ok (.iconst 1, 1) := by decide +kernel
theorem dX14_isLine_377 : decode cX14_isLine 377 = .ok (.goto 4, 3) := by decide +kernel
theorem dX14_isLine_380 : decode cX14_isLine 380 = .ok (.iconst 0, 1) := by decide +kernel
theorem dX14_isLine_381 : decode cX14_isLine 381 = .ok (.ireturn, 1) := by decide +kernel
theorem dX14_isLine_382 : decode cX14_isLine 382 = .ok (.iload 4, 2) := by decide +kernel
theorem dX14_isLine_384 : decode cX14_isLine 384 = .ok (.ifCond .ne 14, 3) := by decide +kernel
theorem dX14_isLine_387 : decode cX14_isLine 387 = .ok (.iload_n 3, 1) := by decide +kernel
theorem dX14_isLine_388 : decode cX14_isLine 388 = .ok (.invokestatic 51, 3) := by decide +kernel
theorem dX14_isLine_391 : decode cX14_isLine 391 = .ok (.ifCond .eq 7, 3) := by decide +kernel
theorem dX14_isLine_394 : decode cX14_isLine 394 = .ok (.iconst 1, 1) := by decide +kernel
theorem dX14_isLine_395 : decode cX14_isLine 395 = .ok (.goto 4, 3) := by decide +kernel
theorem dX14_isLine_398 : decode cX14_isLine 398 = .ok (.iconst 0, 1) := by decide +kernel
theorem dX14_isLine_399 : decode cX14_isLine 399 = .ok (.ireturn, 1) := by decide +kernel
theorem dX14_isLine_400 : decode cX14_isLine 400 = .ok (.iconst 0, 1) := by decide +kernel
theorem dX14_isLine_401 : decode cX14_isLine 401 = .ok (.ireturn, 1) := by decide +kernel
theorem dX14_loans_0 : decode cX14_loans 0 = .ok (.iconst 0, 1) := by decide +kernel
theorem dX14_loans_1 : decode cX14_loans 1 = .ok (.istore_n 1, 1) := by decide +kernel
theorem dX14_loans_2 : decode cX14_loans 2 = .ok (.aload_n 0, 1) := by decide +kernel
theorem dX14_loans_3 : decode cX14_loans 3 = .ok (.getfield 18, 3) := by decide +kernel
theorem dX14_loans_6 : decode cX14_loans 6 = .ok (.invokevirtual 60, 3) := by decide +kernel
theorem dX14_loans_9 : decode cX14_loans 9 = .ok (.astore_n 2, 1) := by decide +kernel
theorem dX14_loans_10 : decode cX14_loans 10 = .ok (.aload_n 2, 1) := by decide +kernel
theorem dX14_loans_11 : decode cX14_loans 11 = .ok (.invokeinterface 64 1, 5) := by decide +kernel
theorem dX14_loans_16 : decode cX14_loans 16 = .ok (.ifCond .eq 31, 3) := by decide +kernel
theorem dX14_loans_19 : decode cX14_loans 19 = .ok (.aload_n 2, 1) := by decide +kernel
theorem dX14_loans_20 : decode cX14_loans 20 = .ok (.invokeinterface 70 1, 5) := by decide +kernel
theorem dX14_loans_25 : decode cX14_loans 25 = .ok (.checkcast 74, 3) := by decide +kernel
theorem dX14_loans_28 : decode cX14_loans 28 = .ok (.astore_n 3, 1) := by decide +kernel
theorem dX14_loans_29 : decode cX14_loans 29 = .ok (.iload_n 1, 1) := by decide +kernel
theorem dX14_loans_30 : decode cX14_loans 30 = .ok (.aload_n 3, 1) := by decide +kernel
theorem dX14_loans_31 : decode cX14_loans 31 = .ok (.invokevirtual 76, 3) := by decide +kernel
theorem dX14_loans_34 : decode cX14_loans 34 = .ok (.ifCond .eq 7, 3) := by decide +kernel
theorem dX14_loans_37 : decode cX14_loans 37 = .ok (.iconst 1, 1) := by decide +kernel
theorem dX14_loans_38 : decode cX14_loans 38 = .ok (.goto 4, 3) := by decide +kernel
theorem dX14_loans_41 : decode cX14_loans 41 = .ok (.iconst 0, 1) := by decide +kernel
theorem dX14_loans_42 : decode cX14_loans 42 = .ok (.iadd, 1) := by decide +kernel
theorem dX14_loans_43 : decode cX14_loans 43 = .ok (.istore_n 1, 1) := by decide +kernel
theorem dX14_loans_44 : decode cX14_loans 44 = .ok (.goto (-34), 3) := by decide +kernel
theorem dX14_loans_47 : decode cX14_loans 47 = .ok (.iload_n 1, 1) := by decide +kernel
theorem dX14_loans_48 : decode cX14_loans 48 = .ok (.ireturn, 1) := by decide +kernel
theorem dX15_init_0 : decode cX15_init 0 = .ok (.aload_n 0, 1) := by decide +kernel
theorem dX15_init_1 : decode cX15_init 1 = .ok (.invokespecial 3, 3) := by decide +kernel
theorem dX15_init_4 : decode cX15_init 4 = .ok (.aload_n 0, 1) := by decide +kernel
theorem dX15_init_5 : decode cX15_init 5 = .ok (.new 9, 3) := by decide +kernel
theorem dX15_init_8 : decode cX15_init 8 = .ok (.dup, 1) := by decide +kernel
theorem dX15_init_9 : decode cX15_init 9 = .ok (.invokespecial 11, 3) := by decide +kernel
theorem dX15_init_12 : decode cX15_init 12 = .ok (.putfield 12, 3) := by decide +kernel
theorem dX15_init_15 : decode cX15_init 15 = .ok (.aload_n 0, 1) := by decide +kernel
theorem dX15_init_16 : decode cX15_init 16 = .ok (.iconst (-1), 1) := by decide +kernel
theorem dX15_init_17 : decode cX15_init 17 = .ok (.putfield 18, 3) := by decide +kernel
theorem dX15_init_20 : decode cX15_init 20 = .ok (.aload_n 0, 1) := by decide +kernel
theorem dX15_init_21 : decode cX15_init 21 = .ok (.aload_n 1, 1) := by decide +kernel
theorem dX15_init_22 : decode cX15_init 22 = .ok (.putfield 22, 3) := by decide +kernel
theorem dX15_init_25 : decode cX15_init 25 = .ok (.aload_n 0, 1) := by decide +kernel
theorem dX15_init_26 : decode cX15_init 26 = .ok (.aload_n 2, 1) := by decide +kernel
theorem dX15_init_27 : decode cX15_init 27 = .ok (.putfield 26, 3) := by decide +kernel
theorem dX15_init_30 : decode cX15_init 30 = .ok (.aload_n 0, 1) := by decide +kernel
theorem dX15_init_31 : decode cX15_init 31 = .ok (.aload_n 1, 1) := by decide +kernel
theorem dX15_init_32 : decode cX15_init 32 = .ok (.getfield 30, 3) := by decide +kernel
theorem dX15_init_35 : decode cX15_init 35 = .ok (.invokevirtual 35, 3) := by decide +kernel
theorem dX15_init_38 : decode cX15_init 38 = .ok (.putfield 39, 3) := by decide +kernel
theorem dX15_init_41 : decode cX15_init 41 = .ok (.iconst 3, 1) := by decide +kernel
theorem dX15_init_42 : decode cX15_init 42 = .ok (.aload_n 1, 1) := by decide +kernel
theorem dX15_init_43 : decode cX15_init 43 = .ok (.getfield 42, 3) := by decide +kernel
theorem dX15_init_46 : decode cX15_init 46 = .ok (.invokevirtual 35, 3) := by decide +kernel
theorem dX15_init_49 : decode cX15_init 49 = .ok (.imul, 1) := by decide +kernel
theorem dX15_init_50 : decode cX15_init 50 = .ok (.istore_n 3, 1) := by decide +kernel
theorem dX15_init_51 : decode cX15_init 51 = .ok (.aload_n 0, 1) := by decide +kernel
theorem dX15_init_52 : decode cX15_init 52 = .ok (.iload_n 3, 1) := by decide +kernel
theorem dX15_init_53 : decode cX15_init 53 = .ok (.newarray .int, 2) := by decide +kernel
theorem dX15_init_55 : decode cX15_init 55 = .ok (.putfield 45, 3) := by decide +kernel
theorem dX15_init_58 : decode cX15_init 58 = .ok (.aload_n 0, 1) := by decide +kernel
theorem dX15_init_59 : decode cX15_init 59 = .ok (.iload_n 3, 1) := by decide +kernel
theorem dX15_init_60 : decode cX15_init 60 = .ok (.anewarray 49, 3) := by decide +kernel
theorem dX15_init_63 : decode cX15_init 63 = .ok (.putfield 51, 3) := by decide +kernel
theorem dX15_init_66 : decode cX15_init 66 = .ok (.aload_n 0, 1) := by decide +kernel
theorem dX15_init_67 : decode cX15_init 67 = .ok (.iload_n 3, 1) := by decide +kernel
theorem dX15_init_68 : decode cX15_init 68 = .ok (.anewarray 55, 3) := by decide +kernel
theorem dX15_init_71 : decode cX15_init 71 = .ok (.putfield 57, 3) := by decide +kernel
theorem dX15_init_74 : decode cX15_init 74 = .ok (.aload_n 0, 1) := by decide +kernel
theorem dX15_init_75 : decode cX15_init 75 = .ok (.aload_n 1, 1) := by decide +kernel
theorem dX15_init_76 : decode cX15_init 76 = .ok (.getfield 42, 3) := by decide +kernel
theorem dX15_init_79 : decode cX15_init 79 = .ok (.invokevirtual 35, 3) := by decide +kernel
theorem dX15_init_82 : decode cX15_init 82 = .ok (.newarray .int, 2) := by decide +kernel
theorem dX15_init_84 : decode cX15_init 84 = .ok (.putfield 61, 3) := by decide +kernel
theorem dX15_init_87 : decode cX15_init 87 = .ok (.aload_n 0, 1) := by decide +kernel
theorem dX15_init_88 : decode cX15_init 88 = .ok (.aload_n 0, 1) := by decide +kernel
theorem dX15_init_89 : decode cX15_init 89 = .ok (.getfield 39, 3) := by decide +kernel
theorem dX15_init_92 : decode cX15_init 92 = .ok (.iconst 1, 1) := by decide +kernel
theorem dX15_init_93 : decode cX15_init 93 = .ok (.iadd, 1) := by decide +kernel
theorem dX15_init_94 : decode cX15_init 94 = .ok (.newarray .int, 2) := by decide +kernel
theorem dX15_init_96 : decode cX15_init 96 = .ok (.putfield 64, 3) := by decide +kernel
theorem dX15_init_99 : decode cX15_init 99 = .ok (.aload_n 0, 1) := by decide +kernel
theorem dX15_init_100 : decode cX15_init 100 = .ok (.invokevirtual 67, 3) := by decide +kernel
theorem dX15_init_103 : decode cX15_init 103 = .ok (.return_, 1) := by decide +kernel
theorem dX15_go_0 : decode cX15_go 0 = .ok (.aload_n 0, 1) := by decide +kernel
theorem dX15_go_1 : decode cX15_go 1 = .ok (.getfield 70, 3) := by decide +kernel
theorem dX15_go_4 : decode cX15_go 4 = .ok (.aload_n 0, 1) := by decide +kernel
theorem dX15_go_5 : decode cX15_go 5 = .ok (.getfield 39, 3) := by decide +kernel
theorem dX15_go_8 : decode cX15_go 8 = .ok (.if_icmp .ge 93, 3) := by decide +kernel
theorem dX15_go_11 : decode cX15_go 11 = .ok (.aload_n 0, 1) := by decide +kernel
theorem dX15_go_12 : decode cX15_go 12 = .ok (.getfield 18, 3) := by decide +kernel
theorem dX15_go_15 : decode cX15_go 15 = .ok (.iconst (-1), 1) := by decide +kernel
theorem dX15_go_16 : decode cX15_go 16 = .ok (.if_icmp .ne 85, 3) := by decide +kernel
theorem dX15_go_19 : decode cX15_go 19 = .ok (.aload_n 0, 1) := by decide +kernel
theorem dX15_go_20 : decode cX15_go 20 = .ok (.getfield 73, 3) := by decide +kernel
theorem dX15_go_23 : decode cX15_go 23 = .ok (.sipush 500, 3) := by decide +kernel
theorem dX15_go_26 : decode cX15_go 26 = .ok (.if_icmp .ne 9, 3) := by decide +kernel
theorem dX15_go_29 : decode cX15_go 29 = .ok (.aload_n 0, 1) := by decide +kernel
theorem dX15_go_30 : decode cX15_go 30 = .ok (.iconst 1, 1) := by decide +kernel
theorem dX15_go_31 : decode cX15_go 31 = .ok (.putfield 76, 3) := by decide +kernel
theorem dX15_go_34 : decode cX15_go 34 = .ok (.return_, 1) := by decide +kernel
theorem dX15_go_35 : decode cX15_go 35 = .ok (.aload_n 0, 1) := by decide +kernel
theorem dX15_go_36 : decode cX15_go 36 = .ok (.dup, 1) := by decide +kernel
theorem dX15_go_37 : decode cX15_go 37 = .ok (.getfield 73, 3) := by decide +kernel
theorem dX15_go_40 : decode cX15_go 40 = .ok (.iconst 1, 1) := by decide +kernel
theorem dX15_go_41 : decode cX15_go 41 = .ok (.iadd, 1) := by decide +kernel
theorem dX15_go_42 : decode cX15_go 42 = .ok (.putfield 73, 3) := by decide +kernel
theorem dX15_go_45 : decode cX15_go 45 = .ok (.aload_n 0, 1) := by decide +kernel
theorem dX15_go_46 : decode cX15_go 46 = .ok (.getfield 70, 3) := by decide +kernel
theorem dX15_go_49 : decode cX15_go 49 = .ok (.istore_n 1, 1) := by decide +kernel
theorem dX15_go_50 : decode cX15_go 50 = .ok (.aload_n 0, 1) := by decide +kernel
theorem dX15_go_51 : decode cX15_go 51 = .ok (.iload_n 1, 1) := by decide +kernel
theorem dX15_go_52 : decode cX15_go 52 = .ok (.aload_n 0, 1) := by decide +kernel
theorem dX15_go_53 : decode cX15_go 53 = .ok (.getfield 22, 3) := by decide +kernel
theorem dX15_go_56 : decode cX15_go 56 = .ok (.getfield 30, 3) := by decide +kernel
theorem dX15_go_59 : decode cX15_go 59 = .ok (.iload_n 1, 1) := by decide +kernel
theorem dX15_go_60 : decode cX15_go 60 = .ok (.invokevirtual 80, 3) := by decide +kernel
theorem dX15_go_63 : decode cX15_go 63 = .ok (.checkcast 84, 3) := by decide +kernel
theorem dX15_go_66 : decode cX15_go 66 = .ok (.invokevirtual 86, 3) := by decide +kernel
theorem dX15_go_69 : decode cX15_go 69 = .ok (.istore_n 2, 1) := by decide +kernel
theorem dX15_go_70 : decode cX15_go 70 = .ok (.aload_n 0, 1) := by decide +kernel
theorem dX15_go_71 : decode cX15_go 71 = .ok (.getfield 90, 3) := by decide +kernel
theorem dX15_go_74 : decode cX15_go 74 = .ok (.ifCond .eq 4, 3) := by decide +kernel
theorem dX15_go_77 : decode cX15_go 77 = .ok (.return_, 1) := by decide +kernel
theorem dX15_go_78 : decode cX15_go 78 = .ok (.aload_n 0, 1) := by decide +kernel
theorem dX15_go_79 : decode cX15_go 79 = .ok (.aload_n 0, 1) := by decide +kernel
theorem dX15_go_80 : decode cX15_go 80 = .ok (.getfield 18, 3) := by decide +kernel
theorem dX15_go_83 : decode cX15_go 83 = .ok (.iconst (-1), 1) := by decide +kernel
theorem dX15_go_84 : decode cX15_go 84 = .ok (.if_icmp .ne 7, 3) := by decide +kernel
theorem dX15_go_87 : decode cX15_go 87 = .ok (.iload_n 2, 1) := by decide +kernel
theorem dX15_go_88 : decode cX15_go 88 = .ok (.goto 7, 3) := by decide +kernel
theorem dX15_go_91 : decode cX15_go 91 = .ok (.aload_n 0, 1) := by decide +kernel
theorem dX15_go_92 : decode cX15_go 92 = .ok (.getfield 39, 3) := by decide +kernel
theorem dX15_go_95 : decode cX15_go 95 = .ok (.putfield 70, 3) := by decide +kernel
theorem dX15_go_98 : decode cX15_go 98 = .ok (.goto (-98), 3) := by decide +kernel
theorem dX15_go_101 : decode cX15_go 101 = .ok (.aload_n 0, 1) := by decide +kernel
theorem dX15_go_102 : decode cX15_go 102 = .ok (.aload_n 0, 1) := by decide +kernel
theorem dX15_go_103 : decode cX15_go 103 = .ok (.getfield 39, 3) := by decide +kernel
theorem dX15_go_106 : decode cX15_go 106 = .ok (.putfield 70, 3) := by decide +kernel
theorem dX15_go_109 : decode cX15_go 109 = .ok (.aload_n 0, 1) := by decide +kernel
theorem dX15_go_110 : decode cX15_go 110 = .ok (.getfield 22, 3) := by decide +kernel
theorem dX15_go_113 : decode cX15_go 113 = .ok (.getfield 42, 3) := by decide +kernel
theorem dX15_go_116 : decode cX15_go 116 = .ok (.invokevirtual 35, 3) := by decide +kernel
theorem dX15_go_119 : decode cX15_go 119 = .ok (.iconst 1, 1) := by decide +kernel
theorem dX15_go_120 : decode cX15_go 120 = .ok (.isub, 1) := by decide +kernel
theorem dX15_go_121 : decode cX15_go 121 = .ok (.istore_n 1, 1) := by decide +kernel
theorem dX15_go_122 : decode cX15_go 122 = .ok (.iload_n 1, 1) := by decide +kernel
theorem dX15_go_123 : decode cX15_go 123 = .ok (.ifCond .lt 29, 3) := by decide +kernel
theorem dX15_go_126 : decode cX15_go 126 = .ok (.aload_n 0, 1) := by decide +kernel
theorem dX15_go_127 : decode cX15_go 127 = .ok (.getfield 22, 3) := by decide +kernel
theorem dX15_go_130 : decode cX15_go 130 = .ok (.iconst 3, 1) := by decide +kernel
theorem dX15_go_131 : decode cX15_go 131 = .ok (.iload_n 1, 1) := by decide +kernel
theorem dX15_go_132 : decode cX15_go 132 = .ok (.imul, 1) := by decide +kernel
theorem dX15_go_133 : decode cX15_go 133 = .ok (.invokevirtual 93, 3) := by decide +kernel
theorem dX15_go_136 : decode cX15_go 136 = .ok (.ifCond .eq 10, 3) := by decide +kernel
theorem dX15_go_139 : decode cX15_go 139 = .ok (.aload_n 0, 1) := by decide +kernel
theorem dX15_go_140 : decode cX15_go 140 = .ok (.iconst 3, 1) := by decide +kernel
theorem dX15_go_141 : decode cX15_go 141 = .ok (.iload_n 1, 1) := by decide +kernel
theorem dX15_go_142 : decode cX15_go 142 = .ok (.imul, 1) := by decide +kernel
theorem dX15_go_143 : decode cX15_go 143 = .ok (.invokevirtual 97, 3) := by decide +kernel
theorem dX15_go_146 : decode cX15_go 146 = .ok (.iinc 1 (-1), 3) := by decide +kernel
theorem dX15_go_149 : decode cX15_go 149 = .ok (.goto (-27), 3) := by decide +kernel
theorem dX15_go_152 : decode cX15_go 152 = .ok (.return_, 1) := by decide +kernel
theorem dX15_outcome_0 : decode cX15_outcome 0 = .ok (.aload_n 0, 1) := by decide +kernel
theorem dX15_outcome_1 : decode cX15_outcome 1 = .ok (.getfield 76, 3) := by decide +kernel
theorem dX15_outcome_4 : decode cX15_outcome 4 = .ok (.ifCond .eq 7, 3) := by decide +kernel
theorem dX15_outcome_7 : decode cX15_outcome 7 = .ok (.iconst 3, 1) := by decide +kernel
theorem dX15_outcome_8 : decode cX15_outcome 8 = .ok (.goto 27, 3) := by decide +kernel
theorem dX15_outcome_11 : decode cX15_outcome 11 = .ok (.aload_n 0, 1) := by decide +kernel
theorem dX15_outcome_12 : decode cX15_outcome 12 = .ok (.getfield 90, 3) := by decide +kernel
theorem dX15_outcome_15 : decode cX15_outcome 15 = .ok (.ifCond .eq 7, 3) := by decide +kernel
theorem dX15_outcome_18 : decode cX15_outcome 18 = .ok (.iconst 2, 1) := by decide +kernel
theorem dX15_outcome_19 : decode cX15_outcome 19 = .ok (.goto 16, 3) := by decide +kernel
theorem dX15_outcome_22 : decode cX15_outcome 22 = .ok (.aload_n 0, 1) := by decide +kernel
theorem dX15_outcome_23 : decode cX15_outcome 23 = .ok (.getfield 18, 3) := by decide +kernel
theorem dX15_outcome_26 : decode cX15_outcome 26 = .ok (.iconst (-1), 1) := by decide +kernel
theorem dX15_outcome_27 : decode cX15_outcome 27 = .ok (.if_icmp .eq 7, 3) := by decide +kernel
theorem dX15_outcome_30 : decode cX15_outcome 30 = .ok (.iconst 1, 1) := by decide +kernel
theorem dX15_outcome_31 : decode cX15_outcome 31 = .ok (.goto 4, 3) := by decide +kernel
theorem dX15_outcome_34 : decode cX15_outcome 34 = .ok (.iconst 0, 1) := by decide +kernel
theorem dX15_outcome_35 : decode cX15_outcome 35 = .ok (.ireturn, 1) := by decide +kernel
theorem dX16_isIn_0 : decode cX16_isIn 0 = .ok (.iload_n 0, 1) := by decide +kernel
theorem dX16_isIn_1 : decode cX16_isIn 1 = .ok (.iload_n 1, 1) := by decide +kernel
theorem dX16_isIn_2 : decode cX16_isIn 2 = .ok (.if_icmp .lt 12, 3) := by decide +kernel
theorem dX16_isIn_5 : decode cX16_isIn 5 = .ok (.iload_n 0, 1) := by decide +kernel
theorem dX16_isIn_6 : decode cX16_isIn 6 = .ok (.iload_n 2, 1) := by decide +kernel
theorem dX16_isIn_7 : decode cX16_isIn 7 = .ok (.if_icmp .gt 7, 3) := by decide +kernel
theorem dX16_isIn_10 : decode cX16_isIn 10 = .ok (.iconst 1, 1) := by decide +kernel
theorem dX16_isIn_11 : decode cX16_isIn 11 = .ok (.goto 4, 3) := by decide +kernel
theorem dX16_isIn_14 : decode cX16_isIn 14 = .ok (.iconst 0, 1) := by decide +kernel
theorem dX16_isIn_15 : decode cX16_isIn 15 = .ok (.ireturn, 1) := by decide +kernel
theorem dX16_init_0 : decode cX16_init 0 = .ok (.aload_n 0, 1) := by decide +kernel
theorem dX16_init_1 : decode cX16_init 1 = .ok (.invokespecial 1, 3) := by decide +kernel
theorem dX16_init_4 : decode cX16_init 4 = .ok (.aload_n 0, 1) := by decide +kernel
theorem dX16_init_5 : decode cX16_init 5 = .ok (.new 7, 3) := by decide +kernel
theorem dX16_init_8 : decode cX16_init 8 = .ok (.dup, 1) := by decide +kernel
theorem dX16_init_9 : decode cX16_init 9 = .ok (.invokespecial 9, 3) := by decide +kernel
theorem dX16_init_12 : decode cX16_init 12 = .ok (.putfield 10, 3) := by decide +kernel
theorem dX16_init_15 : decode cX16_init 15 = .ok (.return_, 1) := by decide +kernel
theorem dX16_thrown_0 : decode cX16_thrown 0 = .ok (.aload_n 0, 1) := by decide +kernel
theorem dX16_thrown_1 : decode cX16_thrown 1 = .ok (.getfield 16, 3) := by decide +kernel
theorem dX16_thrown_4 : decode cX16_thrown 4 = .ok (.ireturn, 1) := by decide +kernel
theorem dX16_refuse_0 : decode cX16_refuse 0 = .ok (.iload_n 1, 1) := by decide +kernel
theorem dX16_refuse_1 : decode cX16_refuse 1 = .ok (.ifCond .eq 15, 3) := by decide +kernel
theorem dX16_refuse_4 : decode cX16_refuse 4 = .ok (.aload_n 0, 1) := by decide +kernel
theorem dX16_refuse_5 : decode cX16_refuse 5 = .ok (.getfield 16, 3) := by decide +kernel
theorem dX16_refuse_8 : decode cX16_refuse 8 = .ok (.ifCond .ne 8, 3) := by decide +kernel
theorem dX16_refuse_11 : decode cX16_refuse 11 = .ok (.aload_n 0, 1) := by decide +kernel
theorem dX16_refuse_12 : decode cX16_refuse 12 = .ok (.iload_n 2, 1) := by decide +kernel
theorem dX16_refuse_13 : decode cX16_refuse 13 = .ok (.putfield 16, 3) := by decide +kernel
theorem dX16_refuse_16 : decode cX16_refuse 16 = .ok (.aload_n 0, 1) := by decide +kernel
theorem dX16_refuse_17 : decode cX16_refuse 17 = .ok (.getfield 16, 3) := by decide +kernel
theorem dX16_refuse_20 : decode cX16_refuse 20 = .ok (.ifCond .le 7, 3) := by decide +kernel
theorem dX16_refuse_23 : decode cX16_refuse 23 = .ok (.iconst 1, 1) := by decide +kernel
theorem dX16_refuse_24 : decode cX16_refuse 24 = .ok (.goto 4, 3) := by decide +kernel
theorem dX16_refuse_27 : decode cX16_refuse 27 = .ok (.iconst 0, 1) := by decide +kernel
theorem dX16_refuse_28 : decode cX16_refuse 28 = .ok (.ireturn, 1) := by decide +kernel
theorem dX16_start_0 : decode cX16_start 0 = .ok (.aload_n 0, 1) := by decide +kernel
theorem dX16_start_1 : decode cX16_start 1 = .ok (.iconst 0, 1) := by decide +kernel
theorem dX16_start_2 : decode cX16_start 2 = .ok (.putfield 16, 3) := by decide +kernel
theorem dX16_start_5 : decode cX16_start 5 = .ok (.aload_n 0, 1) := by decide +kernel
theorem dX16_start_6 : decode cX16_start 6 = .ok (.iload_n 1, 1) := by decide +kernel
theorem dX16_start_7 : decode cX16_start 7 = .ok (.iload_n 2, 1) := by decide +kernel
theorem dX16_start_8 : decode cX16_start 8 = .ok (.invokevirtual 20, 3) := by decide +kernel
theorem dX16_start_11 : decode cX16_start 11 = .ok (.ireturn, 1) := by decide +kernel
theorem dX16_check_0 : decode cX16_check 0 = .ok (.new 24, 3) := by decide +kernel
theorem dX16_check_3 : decode cX16_check 3 = .ok (.dup, 1) := by decide +kernel
theorem dX16_check_4 : decode cX16_check 4 = .ok (.aload_n 0, 1) := by decide +kernel
theorem dX16_check_5 : decode cX16_check 5 = .ok (.getfield 10, 3) := by decide +kernel
theorem dX16_check_8 : decode cX16_check 8 = .ok (.invokespecial 26, 3) := by decide +kernel
theorem dX16_check_11 : decode cX16_check 11 = .ok (.areturn, 1) := by decide +kernel
theorem dX16_variable_0 : decode cX16_variable 0 = .ok (.aload_n 0, 1) := by decide +kernel
theorem dX16_variable_1 : decode cX16_variable 1 = .ok (.iload_n 1, 1) := by decide +kernel
theorem dX16_variable_2 : decode cX16_variable 2 = .ok (.iconst 0, 1) := by decide +kernel
theorem dX16_variable_3 : decode cX16_variable 3 = .ok (.iconst 5, 1) := by decide +kernel
theorem dX16_variable_4 : decode cX16_variable 4 = .ok (.invokestatic 29, 3) := by decide +kernel
theorem dX16_variable_7 : decode cX16_variable 7 = .ok (.ifCond .ne 7, 3) := by decide +kernel
theorem dX16_variable_10 : decode cX16_variable 10 = .ok (.iconst 1, 1) := by decide +kernel
theorem dX16_variable_11 : decode cX16_variable 11 = .ok (.goto 4, 3) := by decide +kernel
theorem dX16_variable_14 : decode cX16_variable 14 = .ok (.iconst 0, 1) := by decide +kernel
theorem dX16_variable_15 : decode cX16_variable 15 = .ok (.iconst 1, 1) := by decide +kernel
theorem dX16_variable_16 : decode cX16_variable 16 = .ok (.invokevirtual 33, 3) := by decide +kernel
theorem dX16_variable_19 : decode cX16_variable 19 = .ok (.ifCond .ne 31, 3) := by decide +kernel
theorem dX16_variable_22 : decode cX16_variable 22 = .ok (.aload_n 0, 1) := by decide +kernel
theorem dX16_variable_23 : decode cX16_variable 23 = .ok (.aload_n 0, 1) := by decide +kernel
theorem dX16_variable_24 : decode cX16_variable 24 = .ok (.getfield 10, 3) := by decide +kernel
theorem dX16_variable_27 : decode cX16_variable 27 = .ok (.getfield 36, 3) := by decide +kernel
theorem dX16_variable_30 : decode cX16_variable 30 = .ok (.invokevirtual 40, 3) := by decide +kernel
theorem dX16_variable_33 : decode cX16_variable 33 = .ok (.bipush 8, 2) := by decide +kernel
theorem dX16_variable_35 : decode cX16_variable 35 = .ok (.if_icmp .ne 7, 3) := by decide +kernel
theorem dX16_variable_38 : decode cX16_variable 38 = .ok (.iconst 1, 1) := by decide +kernel
theorem dX16_variable_39 : decode cX16_variable 39 = .ok (.goto 4, 3) := by decide +kernel
theorem dX16_variable_42 : decode cX16_variable 42 = .ok (.iconst 0, 1) := by decide +kernel
theorem dX16_variable_43 : decode cX16_variable 43 = .ok (.iconst 2, 1) := by decide +kernel
theorem dX16_variable_44 : decode cX16_variable 44 = .ok (.invokevirtual 20, 3) := by decide +kernel
theorem dX16_variable_47 : decode cX16_variable 47 = .ok (.ifCond .eq 5, 3) := by decide +kernel
theorem dX16_variable_50 : decode cX16_variable 50 = .ok (.iconst 0, 1) := by decide +kernel
theorem dX16_variable_51 : decode cX16_variable 51 = .ok (.ireturn, 1) := by decide +kernel
theorem dX16_variable_52 : decode cX16_variable 52 = .ok (.aload_n 0, 1) := by decide +kernel
theorem dX16_variable_53 : decode cX16_variable 53 = .ok (.getfield 10, 3) := by decide +kernel
theorem dX16_variable_56 : decode cX16_variable 56 = .ok (.getfield 36, 3) := by decide +kernel
theorem dX16_variable_59 : decode cX16_variable 59 = .ok (.iload_n 1, 1) := by decide +kernel
theorem dX16_variable_60 : decode cX16_variable 60 = .ok (.invokestatic 46, 3) := by decide +kernel
theorem dX16_variable_63 : decode cX16_variable 63 = .ok (.invokevirtual 52, 3) := by decide +kernel
theorem dX16_variable_66 : decode cX16_variable 66 = .ok (.pop, 1) := by decide +kernel
theorem dX16_variable_67 : decode cX16_variable 67 = .ok (.aload_n 0, 1) := by decide +kernel
theorem dX16_variable_68 : decode cX16_variable 68 = .ok (.getfield 10, 3) := by decide +kernel
theorem dX16_variable_71 : decode cX16_variable 71 = .ok (.getfield 36, 3) := by decide +kernel
theorem dX16_variable_74 : decode cX16_variable 74 = .ok (.invokevirtual 40, 3) := by decide +kernel
theorem dX16_variable_77 : decode cX16_variable 77 = .ok (.iconst 1, 1) := by decide +kernel
theorem dX16_variable_78 : decode cX16_variable 78 = .ok (.isub, 1) := by decide +kernel
theorem dX16_variable_79 : decode cX16_variable 79 = .ok (.ireturn, 1) := by decide +kernel
theorem dX16_add_0 : decode cX16_add 0 = .ok (.aload_n 0, 1) := by decide +kernel
theorem dX16_add_1 : decode cX16_add 1 = .ok (.aload_n 0, 1) := by decide +kernel
theorem dX16_add_2 : decode cX16_add 2 = .ok (.getfield 10, 3) := by decide +kernel
theorem dX16_add_5 : decode cX16_add 5 = .ok (.iload_n 1, 1) := by decide +kernel
theorem dX16_add_6 : decode cX16_add 6 = .ok (.iload_n 2, 1) := by decide +kernel
theorem dX16_add_7 : decode cX16_add 7 = .ok (.iload_n 3, 1) := by decide +kernel
theorem dX16_add_8 : decode cX16_add 8 = .ok (.invokevirtual 56, 3) := by decide +kernel
theorem dX16_add_11 : decode cX16_add 11 = .ok (.ifCond .ne 7, 3) := by decide +kernel
theorem dX16_add_14 : decode cX16_add 14 = .ok (.iconst 1, 1) := by decide +kernel
theorem dX16_add_15 : decode cX16_add 15 = .ok (.goto 4, 3) := by decide +kernel
theorem dX16_add_18 : decode cX16_add 18 = .ok (.iconst 0, 1) := by decide +kernel
theorem dX16_add_19 : decode cX16_add 19 = .ok (.iconst 1, 1) := by decide +kernel
theorem dX16_add_20 : decode cX16_add 20 = .ok (.invokevirtual 33, 3) := by decide +kernel
theorem dX16_add_23 : decode cX16_add 23 = .ok (.ifCond .eq 5, 3) := by decide +kernel
theorem dX16_add_26 : decode cX16_add 26 = .ok (.iconst 0, 1) := by decide +kernel
theorem dX16_add_27 : decode cX16_add 27 = .ok (.ireturn, 1) := by decide +kernel
theorem dX16_add_28 : decode cX16_add 28 = .ok (.new 59, 3) := by decide +kernel
theorem dX16_add_31 : decode cX16_add 31 = .ok (.dup, 1) := by decide +kernel
theorem dX16_add_32 : decode cX16_add 32 = .ok (.iload_n 1, 1) := by decide +kernel
theorem dX16_add_33 : decode cX16_add 33 = .ok (.iload_n 2, 1) := by decide +kernel
theorem dX16_add_34 : decode cX16_add 34 = .ok (.iload_n 3, 1) := by decide +kernel
theorem dX16_add_35 : decode cX16_add 35 = .ok (.invokespecial 61, 3) := by decide +kernel
theorem dX16_add_38 : decode cX16_add 38 = .ok (.astore 4, 2) := by decide +kernel
theorem dX16_add_40 : decode cX16_add 40 = .ok (.aload_n 0, 1) := by decide +kernel
theorem dX16_add_41 : decode cX16_add 41 = .ok (.aload_n 0, 1) := by decide +kernel
theorem dX16_add_42 : decode cX16_add 42 = .ok (.getfield 10, 3) := by decide +kernel
theorem dX16_add_45 : decode cX16_add 45 = .ok (.getfield 64, 3) := by decide +kernel
theorem dX16_add_48 : decode cX16_add 48 = .ok (.invokevirtual 40, 3) := by decide +kernel
theorem dX16_add_51 : decode cX16_add 51 = .ok (.bipush 32, 2) := by decide +kernel
theorem dX16_add_53 : decode cX16_add 53 = .ok (.if_icmp .eq 23, 3) := by decide +kernel
theorem dX16_add_56 : decode cX16_add 56 = .ok (.aload 4, 2) := by decide +kernel
theorem dX16_add_58 : decode cX16_add 58 = .ok (.invokevirtual 67, 3) := by decide +kernel
theorem dX16_add_61 : decode cX16_add 61 = .ok (.ifCond .eq 19, 3) := by decide +kernel
theorem dX16_add_64 : decode cX16_add 64 = .ok (.aload_n 0, 1) := by decide +kernel
theorem dX16_add_65 : decode cX16_add 65 = .ok (.getfield 10, 3) := by decide +kernel
theorem dX16_add_68 : decode cX16_add 68 = .ok (.invokevirtual 71, 3) := by decide +kernel
theorem dX16_add_71 : decode cX16_add 71 = .ok (.bipush 16, 2) := by decide +kernel
theorem dX16_add_73 : decode cX16_add 73 = .ok (.if_icmp .ne 7, 3) := by decide +kernel
theorem dX16_add_76 : decode cX16_add 76 = .ok (.iconst 1, 1) := by decide +kernel
theorem dX16_add_77 : decode cX16_add 77 = .ok (.goto 4, 3) := by decide +kernel
theorem dX16_add_80 : decode cX16_add 80 = .ok (.iconst 0, 1) := by decide +kernel
theorem dX16_add_81 : decode cX16_add 81 = .ok (.iconst 2, 1) := by decide +kernel
theorem dX16_add_82 : decode cX16_add 82 = .ok (.invokevirtual 20, 3) := by decide +kernel
theorem dX16_add_85 : decode cX16_add 85 = .ok (.ifCond .eq 5, 3) := by decide +kernel
theorem dX16_add_88 : decode cX16_add 88 = .ok (.iconst 0, 1) := by decide +kernel
theorem dX16_add_89 : decode cX16_add 89 = .ok (.ireturn, 1) := by decide +kernel
theorem dX16_add_90 : decode cX16_add 90 = .ok (.aload_n 0, 1) := by decide +kernel
theorem dX16_add_91 : decode cX16_add 91 = .ok (.getfield 10, 3) := by decide +kernel
theorem dX16_add_94 : decode cX16_add 94 = .ok (.getfield 64, 3) := by decide +kernel
theorem dX16_add_97 : decode cX16_add 97 = .ok (.aload 4, 2) := by decide +kernel
theorem dX16_add_99 : decode cX16_add 99 = .ok (.invokevirtual 52, 3) := by decide +kernel
theorem dX16_add_102 : decode cX16_add 102 = .ok (.pop, 1) := by decide +kernel
theorem dX16_add_103 : decode cX16_add 103 = .ok (.aload_n 0, 1) := by decide +kernel
theorem dX16_add_104 : decode cX16_add 104 = .ok (.getfield 10, 3) := by decide +kernel
theorem dX16_add_107 : decode cX16_add 107 = .ok (.getfield 64, 3) := by decide +kernel
theorem dX16_add_110 : decode cX16_add 110 = .ok (.invokevirtual 40, 3) := by decide +kernel
theorem dX16_add_113 : decode cX16_add 113 = .ok (.iconst 1, 1) := by decide +kernel
theorem dX16_add_114 : decode cX16_add 114 = .ok (.isub, 1) := by decide +kernel
theorem dX16_add_115 : decode cX16_add 115 = .ok (.ireturn, 1) := by decide +kernel
theorem dX16_isNoLine_0 : decode cX16_isNoLine 0 = .ok (.iload_n 1, 1) := by decide +kernel
theorem dX16_isNoLine_1 : decode cX16_isNoLine 1 = .ok (.iconst 0, 1) := by decide +kernel
theorem dX16_isNoLine_2 : decode cX16_isNoLine 2 = .ok (.aload_n 0, 1) := by decide +kernel
theorem dX16_isNoLine_3 : decode cX16_isNoLine 3 = .ok (.getfield 10, 3) := by decide +kernel
theorem dX16_isNoLine_6 : decode cX16_isNoLine 6 = .ok (.getfield 64, 3) := by decide +kernel
theorem dX16_isNoLine_9 : decode cX16_isNoLine 9 = .ok (.invokevirtual 40, 3) := by decide +kernel
theorem dX16_isNoLine_12 : decode cX16_isNoLine 12 = .ok (.iconst 1, 1) := by decide +kernel
theorem dX16_isNoLine_13 : decode cX16_isNoLine 13 = .ok (.isub, 1) := by decide +kernel
theorem dX16_isNoLine_14 : decode cX16_isNoLine 14 = .ok (.invokestatic 29, 3) := by decide +kernel
theorem dX16_isNoLine_17 : decode cX16_isNoLine 17 = .ok (.ifCond .ne 7, 3) := by decide +kernel
theorem dX16_isNoLine_20 : decode cX16_isNoLine 20 = .ok (.iconst 1, 1) := by decide +kernel
theorem dX16_isNoLine_21 : decode cX16_isNoLine 21 = .ok (.goto 4, 3) := by decide +kernel
theorem dX16_isNoLine_24 : decode cX16_isNoLine 24 = .ok (.iconst 0, 1) := by decide +kernel
theorem dX16_isNoLine_25 : decode cX16_isNoLine 25 = .ok (.ireturn, 1) := by decide +kernel
theorem dX16_isNoPoint_0 : decode cX16_isNoPoint 0 = .ok (.iload_n 1, 1) := by decide +kernel
theorem dX16_isNoPoint_1 : decode cX16_isNoPoint 1 = .ok (.iconst 0, 1) := by decide +kernel
theorem dX16_isNoPoint_2 : decode cX16_isNoPoint 2 = .ok (.aload_n 0, 1) := by decide +kernel
theorem dX16_isNoPoint_3 : decode cX16_isNoPoint 3 = .ok (.getfield 10, 3) := by decide +kernel
theorem dX16_isNoPoint_6 : decode cX16_isNoPoint 6 = .ok (.getfield 64, 3) := by decide +kernel
theorem dX16_isNoPoint_9 : decode cX16_isNoPoint 9 = .ok (.invokevirtual 40, 3) := by decide +kernel
theorem dX16_isNoPoint_12 : decode cX16_isNoPoint 12 = .ok (.invokestatic 29, 3) := by decide +kernel
theorem dX16_isNoPoint_15 : decode cX16_isNoPoint 15 = .ok (.ifCond .ne 7, 3) := by decide +kernel
theorem dX16_isNoPoint_18 : decode cX16_isNoPoint 18 = .ok (.iconst 1, 1) := by decide +kernel
theorem dX16_isNoPoint_19 : decode cX16_isNoPoint 19 = .ok (.goto 4, 3) := by decide +kernel
theorem dX16_isNoPoint_22 : decode cX16_isNoPoint 22 = .ok (.iconst 0, 1) := by decide +kernel
theorem dX16_isNoPoint_23 : decode cX16_isNoPoint 23 = .ok (.ireturn, 1) := by decide +kernel
theorem dX16_put_0 : decode cX16_put 0 = .ok (.aload_n 0, 1) := by decide +kernel
theorem dX16_put_1 : decode cX16_put 1 = .ok (.aload_n 0, 1) := by decide +kernel
theorem dX16_put_2 : decode cX16_put 2 = .ok (.iload_n 1, 1) := by decide +kernel
theorem dX16_put_3 : decode cX16_put 3 = .ok (.invokevirtual 74, 3) := by decide +kernel
theorem dX16_put_6 : decode cX16_put 6 = .ok (.iconst 1, 1) := by decide +kernel
theorem dX16_put_7 : decode cX16_put 7 = .ok (.invokevirtual 33, 3) := by decide +kernel
theorem dX16_put_10 : decode cX16_put 10 = .ok (.ifCond .ne 30, 3) := by decide +kernel
theorem dX16_put_13 : decode cX16_put 13 = .ok (.aload_n 0, 1) := by decide +kernel
theorem dX16_put_14 : decode cX16_put 14 = .ok (.aload_n 0, 1) := by decide +kernel
theorem dX16_put_15 : decode cX16_put 15 = .ok (.getfield 10, 3) := by decide +kernel
theorem dX16_put_18 : decode cX16_put 18 = .ok (.iload_n 2, 1) := by decide +kernel
theorem dX16_put_19 : decode cX16_put 19 = .ok (.iload_n 3, 1) := by decide +kernel
theorem dX16_put_20 : decode cX16_put 20 = .ok (.iload 4, 2) := by decide +kernel
theorem dX16_put_22 : decode cX16_put 22 = .ok (.invokevirtual 56, 3) := by decide +kernel
theorem dX16_put_25 : decode cX16_put 25 = .ok (.ifCond .ne 7, 3) := by decide +kernel
theorem dX16_put_28 : decode cX16_put 28 = .ok (.iconst 1, 1) := by decide +kernel
theorem dX16_put_29 : decode cX16_put 29 = .ok (.goto 4, 3) := by decide +kernel
theorem dX16_put_32 : decode cX16_put 32 = .ok (.iconst 0, 1) := by decide +kernel
theorem dX16_put_33 : decode cX16_put 33 = .ok (.iconst 2, 1) := by decide +kernel
theorem dX16_put_34 : decode cX16_put 34 = .ok (.invokevirtual 20, 3) := by decide +kernel
theorem dX16_put_37 : decode cX16_put 37 = .ok (.ifCond .eq 5, 3) := by decide +kernel
theorem dX16_put_40 : decode cX16_put 40 = .ok (.iconst 0, 1) := by decide +kernel
theorem dX16_put_41 : decode cX16_put 41 = .ok (.ireturn, 1) := by decide +kernel
theorem dX16_put_42 : decode cX16_put 42 = .ok (.aload_n 0, 1) := by decide +kernel
theorem dX16_put_43 : decode cX16_put 43 = .ok (.getfield 10, 3) := by decide +kernel
theorem dX16_put_46 : decode cX16_put 46 = .ok (.getfield 64, 3) := by decide +kernel
theorem dX16_put_49 : decode cX16_put 49 = .ok (.iload_n 1, 1) := by decide +kernel
theorem dX16_put_50 : decode cX16_put 50 = .ok (.invokevirtual 78, 3) := by decide +kernel
theorem dX16_put_53 : decode cX16_put 53 = .ok (.checkcast 59, 3) := by decide +kernel
theorem dX16_put_56 : decode cX16_put 56 = .ok (.astore 5, 2) := by decide +kernel
theorem dX16_put_58 : decode cX16_put 58 = .ok (.aload_n 0, 1) := by decide +kernel
theorem dX16_put_59 : decode cX16_put 59 = .ok (.getfield 10, 3) := by decide +kernel
theorem dX16_put_62 : decode cX16_put 62 = .ok (.getfield 64, 3) := by decide +kernel
theorem dX16_put_65 : decode cX16_put 65 = .ok (.iload_n 1, 1) := by decide +kernel
theorem dX16_put_66 : decode cX16_put 66 = .ok (.new 59, 3) := by decide +kernel
theorem dX16_put_69 : decode cX16_put 69 = .ok (.dup, 1) := by decide +kernel
theorem dX16_put_70 : decode cX16_put 70 = .ok (.iload_n 2, 1) := by decide +kernel
theorem dX16_put_71 : decode cX16_put 71 = .ok (.iload_n 3, 1) := by decide +kernel
theorem dX16_put_72 : decode cX16_put 72 = .ok (.iload 4, 2) := by decide +kernel
theorem dX16_put_74 : decode cX16_put 74 = .ok (.invokespecial 61, 3) := by decide +kernel
theorem dX16_put_77 : decode cX16_put 77 = .ok (.invokevirtual 82, 3) := by decide +kernel
theorem dX16_put_80 : decode cX16_put 80 = .ok (.pop, 1) := by decide +kernel
theorem dX16_put_81 : decode cX16_put 81 = .ok (.aload_n 0, 1) := by decide +kernel
theorem dX16_put_82 : decode cX16_put 82 = .ok (.getfield 10, 3) := by decide +kernel
theorem dX16_put_85 : decode cX16_put 85 = .ok (.invokevirtual 71, 3) := by decide +kernel
theorem dX16_put_88 : decode cX16_put 88 = .ok (.bipush 16, 2) := by decide +kernel
theorem dX16_put_90 : decode cX16_put 90 = .ok (.if_icmp .le 26, 3) := by decide +kernel
theorem dX16_put_93 : decode cX16_put 93 = .ok (.aload_n 0, 1) := by decide +kernel
theorem dX16_put_94 : decode cX16_put 94 = .ok (.getfield 10, 3) := by decide +kernel
theorem dX16_put_97 : decode cX16_put 97 = .ok (.getfield 64, 3) := by decide +kernel
theorem dX16_put_100 : decode cX16_put 100 = .ok (.iload_n 1, 1) := by decide +kernel
theorem dX16_put_101 : decode cX16_put 101 = .ok (.aload 5, 2) := by decide +kernel
theorem dX16_put_103 : decode cX16_put 103 = .ok (.invokevirtual 82, 3) := by decide +kernel
theorem dX16_put_106 : decode cX16_put 106 = .ok (.pop, 1) := by decide +kernel
theorem dX16_put_107 : decode cX16_put 107 = .ok (.aload_n 0, 1) := by decide +kernel
theorem dX16_put_108 : decode cX16_put 108 = .ok (.iconst 1, 1) := by decide +kernel
theorem dX16_put_109 : decode cX16_put 109 = .ok (.iconst 3, 1) := by decide +kernel
theorem dX16_put_110 : decode cX16_put 110 = .ok (.invokevirtual 20, 3) := by decide +kernel
theorem dX16_put_113 : decode cX16_put 113 = .ok (.pop, 1) := by decide +kernel
theorem dX16_put_114 : decode cX16_put 114 = .ok (.iconst 0, 1) := by decide +kernel
theorem dX16_put_115 : decode cX16_put 115 = .ok (.ireturn, 1) := by decide +kernel
theorem dX16_put_116 : decode cX16_put 116 = .ok (.aload 5, 2) := by decide +kernel
theorem dX16_put_118 : decode cX16_put 118 = .ok (.getfield 86, 3) := by decide +kernel
theorem dX16_put_121 : decode cX16_put 121 = .ok (.ireturn, 1) := by decide +kernel
theorem dX16_cut_0 : decode cX16_cut 0 = .ok (.aload_n 0, 1) := by decide +kernel
theorem dX16_cut_1 : decode cX16_cut 1 = .ok (.aload_n 0, 1) := by decide +kernel
theorem dX16_cut_2 : decode cX16_cut 2 = .ok (.getfield 10, 3) := by decide +kernel
theorem dX16_cut_5 : decode cX16_cut 5 = .ok (.getfield 64, 3) := by decide +kernel
theorem dX16_cut_8 : decode cX16_cut 8 = .ok (.invokevirtual 89, 3) := by decide +kernel
theorem dX16_cut_11 : decode cX16_cut 11 = .ok (.iconst 1, 1) := by decide +kernel
theorem dX16_cut_12 : decode cX16_cut 12 = .ok (.invokevirtual 33, 3) := by decide +kernel
theorem dX16_cut_15 : decode cX16_cut 15 = .ok (.ifCond .eq 7, 3) := by decide +kernel
theorem dX16_cut_18 : decode cX16_cut 18 = .ok (.iconst 0, 1) := by decide +kernel
theorem dX16_cut_19 : decode cX16_cut 19 = .ok (.goto 31, 3) := by decide +kernel
theorem dX16_cut_22 : decode cX16_cut 22 = .ok (.aload_n 0, 1) := by decide +kernel
theorem dX16_cut_23 : decode cX16_cut 23 = .ok (.getfield 10, 3) := by decide +kernel
theorem dX16_cut_26 : decode cX16_cut 26 = .ok (.getfield 64, 3) := by decide +kernel
theorem dX16_cut_29 : decode cX16_cut 29 = .ok (.aload_n 0, 1) := by decide +kernel
theorem dX16_cut_30 : decode cX16_cut 30 = .ok (.getfield 10, 3) := by decide +kernel
theorem dX16_cut_33 : decode cX16_cut 33 = .ok (.getfield 64, 3) := by decide +kernel
theorem dX16_cut_36 : decode cX16_cut 36 = .ok (.invokevirtual 40, 3) := by decide +kernel
theorem dX16_cut_39 : decode cX16_cut 39 = .ok (.iconst 1, 1) := by decide +kernel
theorem dX16_cut_40 : decode cX16_cut 40 = .ok (.isub, 1) := by decide +kernel
theorem dX16_cut_41 : decode cX16_cut 41 = .ok (.invokevirtual 92, 3) := by decide +kernel
theorem dX16_cut_44 : decode cX16_cut 44 = .ok (.checkcast 59, 3) := by decide +kernel
theorem dX16_cut_47 : decode cX16_cut 47 = .ok (.getfield 86, 3) := by decide +kernel
theorem dX16_cut_50 : decode cX16_cut 50 = .ok (.ireturn, 1) := by decide +kernel
theorem dX16_ofLine_0 : decode cX16_ofLine 0 = .ok (.aload_n 0, 1) := by decide +kernel
theorem dX16_ofLine_1 : decode cX16_ofLine 1 = .ok (.aload_n 0, 1) := by decide +kernel
theorem dX16_ofLine_2 : decode cX16_ofLine 2 = .ok (.iload_n 1, 1) := by decide +kernel
theorem dX16_ofLine_3 : decode cX16_ofLine 3 = .ok (.invokevirtual 74, 3) := by decide +kernel
theorem dX16_ofLine_6 : decode cX16_ofLine 6 = .ok (.iconst 1, 1) := by decide +kernel
theorem dX16_ofLine_7 : decode cX16_ofLine 7 = .ok (.invokevirtual 33, 3) := by decide +kernel
theorem dX16_ofLine_10 : decode cX16_ofLine 10 = .ok (.ifCond .ne 25, 3) := by decide +kernel
theorem dX16_ofLine_13 : decode cX16_ofLine 13 = .ok (.aload_n 0, 1) := by decide +kernel
theorem dX16_ofLine_14 : decode cX16_ofLine 14 = .ok (.iload_n 2, 1) := by decide +kernel
theorem dX16_ofLine_15 : decode cX16_ofLine 15 = .ok (.iconst 0, 1) := by decide +kernel
theorem dX16_ofLine_16 : decode cX16_ofLine 16 = .ok (.iconst 5, 1) := by decide +kernel
theorem dX16_ofLine_17 : decode cX16_ofLine 17 = .ok (.invokestatic 29, 3) := by decide +kernel
theorem dX16_ofLine_20 : decode cX16_ofLine 20 = .ok (.ifCond .ne 7, 3) := by decide +kernel
theorem dX16_ofLine_23 : decode cX16_ofLine 23 = .ok (.iconst 1, 1) := by decide +kernel
theorem dX16_ofLine_24 : decode cX16_ofLine 24 = .ok (.goto 4, 3) := by decide +kernel
theorem dX16_ofLine_27 : decode cX16_ofLine 27 = .ok (.iconst 0, 1) := by decide +kernel
theorem dX16_ofLine_28 : decode cX16_ofLine 28 = .ok (.iconst 2, 1) := by decide +kernel
theorem dX16_ofLine_29 : decode cX16_ofLine 29 = .ok (.invokevirtual 20, 3) := by decide +kernel
theorem dX16_ofLine_32 : decode cX16_ofLine 32 = .ok (.ifCond .eq 7, 3) := by decide +kernel
theorem dX16_ofLine_35 : decode cX16_ofLine 35 = .ok (.iconst 0, 1) := by decide +kernel
theorem dX16_ofLine_36 : decode cX16_ofLine 36 = .ok (.goto 13, 3) := by decide +kernel
theorem dX16_ofLine_39 : decode cX16_ofLine 39 = .ok (.aload_n 0, 1) := by decide +kernel
theorem dX16_ofLine_40 : decode cX16_ofLine 40 = .ok (.aload_n 0, 1) := by decide +kernel
theorem dX16_ofLine_41 : decode cX16_ofLine 41 = .ok (.invokevirtual 112, 3) := by decide +kernel
theorem dX16_ofLine_44 : decode cX16_ofLine 44 = .ok (.iload_n 1, 1) := by decide +kernel
theorem dX16_ofLine_45 : decode cX16_ofLine 45 = .ok (.iload_n 2, 1) := by decide +kernel
theorem dX16_ofLine_46 : decode cX16_ofLine 46 = .ok (.invokevirtual 116, 3) := by decide +kernel
theorem dX16_ofLine_49 : decode cX16_ofLine 49 = .ok (.ireturn, 1) := by decide +kernel
theorem dX16_state_0 : decode cX16_state 0 = .ok (.aload_n 0, 1) := by decide +kernel
theorem dX16_state_1 : decode cX16_state 1 = .ok (.aload_n 0, 1) := by decide +kernel
theorem dX16_state_2 : decode cX16_state 2 = .ok (.iload_n 1, 1) := by decide +kernel
theorem dX16_state_3 : decode cX16_state 3 = .ok (.invokevirtual 120, 3) := by decide +kernel
theorem dX16_state_6 : decode cX16_state 6 = .ok (.ifCond .ne 15, 3) := by decide +kernel
theorem dX16_state_9 : decode cX16_state 9 = .ok (.aload_n 0, 1) := by decide +kernel
theorem dX16_state_10 : decode cX16_state 10 = .ok (.getfield 10, 3) := by decide +kernel
theorem dX16_state_13 : decode cX16_state 13 = .ok (.iload_n 2, 1) := by decide +kernel
theorem dX16_state_14 : decode cX16_state 14 = .ok (.invokevirtual 123, 3) := by decide +kernel
theorem dX16_state_17 : decode cX16_state 17 = .ok (.iconst (-1), 1) := by decide +kernel
theorem dX16_state_18 : decode cX16_state 18 = .ok (.if_icmp .ne 7, 3) := by decide +kernel
theorem dX16_state_21 : decode cX16_state 21 = .ok (.iconst 1, 1) := by decide +kernel
theorem dX16_state_22 : decode cX16_state 22 = .ok (.goto 4, 3) := by decide +kernel
theorem dX16_state_25 : decode cX16_state 25 = .ok (.iconst 0, 1) := by decide +kernel
theorem dX16_state_26 : decode cX16_state 26 = .ok (.iconst 1, 1) := by decide +kernel
theorem dX16_state_27 : decode cX16_state 27 = .ok (.invokevirtual 33, 3) := by decide +kernel
theorem dX16_state_30 : decode cX16_state 30 = .ok (.ifCond .eq 7, 3) := by decide +kernel
theorem dX16_state_33 : decode cX16_state 33 = .ok (.iconst 0, 1) := by decide +kernel
theorem dX16_state_34 : decode cX16_state 34 = .ok (.goto 12, 3) := by decide +kernel
theorem dX16_state_37 : decode cX16_state 37 = .ok (.aload_n 0, 1) := by decide +kernel
theorem dX16_state_38 : decode cX16_state 38 = .ok (.invokevirtual 112, 3) := by decide +kernel
theorem dX16_state_41 : decode cX16_state 41 = .ok (.iload_n 1, 1) := by decide +kernel
theorem dX16_state_42 : decode cX16_state 42 = .ok (.iload_n 2, 1) := by decide +kernel
theorem dX16_state_43 : decode cX16_state 43 = .ok (.invokevirtual 127, 3) := by decide +kernel
theorem dX16_state_46 : decode cX16_state 46 = .ok (.ireturn, 1) := by decide +kernel
theorem dX16_isNoBorrow_0 : decode cX16_isNoBorrow 0 = .ok (.iload_n 1, 1) := by decide +kernel
theorem dX16_isNoBorrow_1 : decode cX16_isNoBorrow 1 = .ok (.iconst 0, 1) := by decide +kernel
theorem dX16_isNoBorrow_2 : decode cX16_isNoBorrow 2 = .ok (.aload_n 0, 1) := by decide +kernel
theorem dX16_isNoBorrow_3 : decode cX16_isNoBorrow 3 = .ok (.getfield 10, 3) := by decide +kernel
theorem dX16_isNoBorrow_6 : decode cX16_isNoBorrow 6 = .ok (.getfield 36, 3) := by decide +kernel
theorem dX16_isNoBorrow_9 : decode cX16_isNoBorrow 9 = .ok (.invokevirtual 40, 3) := by decide +kernel
theorem dX16_isNoBorrow_12 : decode cX16_isNoBorrow 12 = .ok (.iconst 1, 1) := by decide +kernel
theorem dX16_isNoBorrow_13 : decode cX16_isNoBorrow 13 = .ok (.isub, 1) := by decide +kernel
theorem dX16_isNoBorrow_14 : decode cX16_isNoBorrow 14 = .ok (.invokestatic 29, 3) := by decide +kernel
theorem dX16_isNoBorrow_17 : decode cX16_isNoBorrow 17 = .ok (.ifCond .eq 16, 3) := by decide +kernel
theorem dX16_isNoBorrow_20 : decode cX16_isNoBorrow 20 = .ok (.aload_n 0, 1) := by decide +kernel
theorem dX16_isNoBorrow_21 : decode cX16_isNoBorrow 21 = .ok (.getfield 10, 3) := by decide +kernel
theorem dX16_isNoBorrow_24 : decode cX16_isNoBorrow 24 = .ok (.iconst 3, 1) := by decide +kernel
theorem dX16_isNoBorrow_25 : decode cX16_isNoBorrow 25 = .ok (.iload_n 1, 1) := by decide +kernel
theorem dX16_isNoBorrow_26 : decode cX16_isNoBorrow 26 = .ok (.imul, 1) := by decide +kernel
theorem dX16_isNoBorrow_27 : decode cX16_isNoBorrow 27 = .ok (.invokevirtual 131, 3) := by decide +kernel
theorem dX16_isNoBorrow_30 : decode cX16_isNoBorrow 30 = .ok (.ifCond .ne 7, 3) := by decide +kernel
theorem dX16_isNoBorrow_33 : decode cX16_isNoBorrow 33 = .ok (.iconst 1, 1) := by decide +kernel
theorem dX16_isNoBorrow_34 : decode cX16_isNoBorrow 34 = .ok (.goto 4, 3) := by decide +kernel
theorem dX16_isNoBorrow_37 : decode cX16_isNoBorrow 37 = .ok (.iconst 0, 1) := by decide +kernel
theorem dX16_isNoBorrow_38 : decode cX16_isNoBorrow 38 = .ok (.ireturn, 1) := by decide +kernel
theorem dX16_holds_0 : decode cX16_holds 0 = .ok (.aload_n 0, 1) := by decide +kernel
theorem dX16_holds_1 : decode cX16_holds 1 = .ok (.aload_n 0, 1) := by decide +kernel
theorem dX16_holds_2 : decode cX16_holds 2 = .ok (.iload_n 1, 1) := by decide +kernel
theorem dX16_holds_3 : decode cX16_holds 3 = .ok (.invokevirtual 120, 3) := by decide +kernel
theorem dX16_holds_6 : decode cX16_holds 6 = .ok (.ifCond .ne 11, 3) := by decide +kernel
theorem dX16_holds_9 : decode cX16_holds 9 = .ok (.aload_n 0, 1) := by decide +kernel
theorem dX16_holds_10 : decode cX16_holds 10 = .ok (.iload_n 2, 1) := by decide +kernel
theorem dX16_holds_11 : decode cX16_holds 11 = .ok (.invokevirtual 134, 3) := by decide +kernel
theorem dX16_holds_14 : decode cX16_holds 14 = .ok (.ifCond .eq 7, 3) := by decide +kernel
theorem dX16_holds_17 : decode cX16_holds 17 = .ok (.iconst 1, 1) := by decide +kernel
theorem dX16_holds_18 : decode cX16_holds 18 = .ok (.goto 4, 3) := by decide +kernel
theorem dX16_holds_21 : decode cX16_holds 21 = .ok (.iconst 0, 1) := by decide +kernel
theorem dX16_holds_22 : decode cX16_holds 22 = .ok (.iconst 1, 1) := by decide +kernel
theorem dX16_holds_23 : decode cX16_holds 23 = .ok (.invokevirtual 33, 3) := by decide +kernel
theorem dX16_holds_26 : decode cX16_holds 26 = .ok (.ifCond .eq 7, 3) := by decide +kernel
theorem dX16_holds_29 : decode cX16_holds 29 = .ok (.iconst 0, 1) := by decide +kernel
theorem dX16_holds_30 : decode cX16_holds 30 = .ok (.goto 14, 3) := by decide +kernel
theorem dX16_holds_33 : decode cX16_holds 33 = .ok (.aload_n 0, 1) := by decide +kernel
theorem dX16_holds_34 : decode cX16_holds 34 = .ok (.invokevirtual 112, 3) := by decide +kernel
theorem dX16_holds_37 : decode cX16_holds 37 = .ok (.getfield 137, 3) := by decide +kernel
theorem dX16_holds_40 : decode cX16_holds 40 = .ok (.iload_n 1, 1) := by decide +kernel
theorem dX16_holds_41 : decode cX16_holds 41 = .ok (.aaload, 1) := by decide +kernel
theorem dX16_holds_42 : decode cX16_holds 42 = .ok (.iload_n 2, 1) := by decide +kernel
theorem dX16_holds_43 : decode cX16_holds 43 = .ok (.iaload, 1) := by decide +kernel
theorem dX16_holds_44 : decode cX16_holds 44 = .ok (.ireturn, 1) := by decide +kernel
theorem dX16_isWanted_0 : decode cX16_isWanted 0 = .ok (.aload_n 0, 1) := by decide +kernel
theorem dX16_isWanted_1 : decode cX16_isWanted 1 = .ok (.aload_n 0, 1) := by decide +kernel
theorem dX16_isWanted_2 : decode cX16_isWanted 2 = .ok (.iload_n 1, 1) := by decide +kernel
theorem dX16_isWanted_3 : decode cX16_isWanted 3 = .ok (.invokevirtual 120, 3) := by decide +kernel
theorem dX16_isWanted_6 : decode cX16_isWanted 6 = .ok (.ifCond .ne 11, 3) := by decide +kernel
theorem dX16_isWanted_9 : decode cX16_isWanted 9 = .ok (.aload_n 0, 1) := by decide +kernel
theorem dX16_isWanted_10 : decode cX16_isWanted 10 = .ok (.iload_n 2, 1) := by decide +kernel
theorem dX16_isWanted_11 : decode cX16_isWanted 11 = .ok (.invokevirtual 134, 3) := by decide +kernel
theorem dX16_isWanted_14 : decode cX16_isWanted 14 = .ok (.ifCond .eq 7, 3) := by decide +kernel
theorem dX16_isWanted_17 : decode cX16_isWanted 17 = .ok (.iconst 1, 1) := by decide +kernel
theorem dX16_isWanted_18 : decode cX16_isWanted 18 = .ok (.goto 4, 3) := by decide +kernel
theorem dX16_isWanted_21 : decode cX16_isWanted 21 = .ok (.iconst 0, 1) := by decide +kernel
theorem dX16_isWanted_22 : decode cX16_isWanted 22 = .ok (.iconst 1, 1) := by decide +kernel
theorem dX16_isWanted_23 : decode cX16_isWanted 23 = .ok (.invokevirtual 33, 3) := by decide +kernel
theorem dX16_isWanted_26 : decode cX16_isWanted 26 = .ok (.ifCond .ne 21, 3) := by decide +kernel
theorem dX16_isWanted_29 : decode cX16_isWanted 29 = .ok (.aload_n 0, 1) := by decide +kernel
theorem dX16_isWanted_30 : decode cX16_isWanted 30 = .ok (.invokevirtual 112, 3) := by decide +kernel
theorem dX16_isWanted_33 : decode cX16_isWanted 33 = .ok (.getfield 140, 3) := by decide +kernel
theorem dX16_isWanted_36 : decode cX16_isWanted 36 = .ok (.iload_n 1, 1) := by decide +kernel
theorem dX16_isWanted_37 : decode cX16_isWanted 37 = .ok (.aaload, 1) := by decide +kernel
theorem dX16_isWanted_38 : decode cX16_isWanted 38 = .ok (.iload_n 2, 1) := by decide +kernel
theorem dX16_isWanted_39 : decode cX16_isWanted 39 = .ok (.baload, 1) := by decide +kernel
theorem dX16_isWanted_40 : decode cX16_isWanted 40 = .ok (.ifCond .eq 7, 3) := by decide +kernel
theorem dX16_isWanted_43 : decode cX16_isWanted 43 = .ok (.iconst 1, 1) := by decide +kernel
theorem dX16_isWanted_44 : decode cX16_isWanted 44 = .ok (.goto 4, 3) := by decide +kernel
theorem dX16_isWanted_47 : decode cX16_isWanted 47 = .ok (.iconst 0, 1) := by decide +kernel
theorem dX16_isWanted_48 : decode cX16_isWanted 48 = .ok (.ireturn, 1) := by decide +kernel
theorem dX16_inTheWay_0 : decode cX16_inTheWay 0 = .ok (.aload_n 0, 1) := by decide +kernel
theorem dX16_inTheWay_1 : decode cX16_inTheWay 1 = .ok (.aload_n 0, 1) := by decide +kernel
theorem dX16_inTheWay_2 : decode cX16_inTheWay 2 = .ok (.iload_n 1, 1) := by decide +kernel
theorem dX16_inTheWay_3 : decode cX16_inTheWay 3 = .ok (.invokevirtual 120, 3) := by decide +kernel
theorem dX16_inTheWay_6 : decode cX16_inTheWay 6 = .ok (.ifCond .ne 15, 3) := by decide +kernel
theorem dX16_inTheWay_9 : decode cX16_inTheWay 9 = .ok (.aload_n 0, 1) := by decide +kernel
theorem dX16_inTheWay_10 : decode cX16_inTheWay 10 = .ok (.getfield 10, 3) := by decide +kernel
theorem dX16_inTheWay_13 : decode cX16_inTheWay 13 = .ok (.iload_n 2, 1) := by decide +kernel
theorem dX16_inTheWay_14 : decode cX16_inTheWay 14 = .ok (.invokevirtual 123, 3) := by decide +kernel
theorem dX16_inTheWay_17 : decode cX16_inTheWay 17 = .ok (.iconst (-1), 1) := by decide +kernel
theorem dX16_inTheWay_18 : decode cX16_inTheWay 18 = .ok (.if_icmp .ne 7, 3) := by decide +kernel
theorem dX16_inTheWay_21 : decode cX16_inTheWay 21 = .ok (.iconst 1, 1) := by decide +kernel
theorem dX16_inTheWay_22 : decode cX16_inTheWay 22 = .ok (.goto 4, 3) := by decide +kernel
theorem dX16_inTheWay_25 : decode cX16_inTheWay 25 = .ok (.iconst 0, 1) := by decide +kernel
theorem dX16_inTheWay_26 : decode cX16_inTheWay 26 = .ok (.iconst 1, 1) := by decide +kernel
theorem dX16_inTheWay_27 : decode cX16_inTheWay 27 = .ok (.invokevirtual 33, 3) := by decide +kernel
theorem dX16_inTheWay_30 : decode cX16_inTheWay 30 = .ok (.ifCond .eq 7, 3) := by decide +kernel
theorem dX16_inTheWay_33 : decode cX16_inTheWay 33 = .ok (.iconst 0, 1) := by decide +kernel
theorem dX16_inTheWay_34 : decode cX16_inTheWay 34 = .ok (.goto 12, 3) := by decide +kernel
theorem dX16_inTheWay_37 : decode cX16_inTheWay 37 = .ok (.aload_n 0, 1) := by decide +kernel
theorem dX16_inTheWay_38 : decode cX16_inTheWay 38 = .ok (.invokevirtual 112, 3) := by decide +kernel
theorem dX16_inTheWay_41 : decode cX16_inTheWay 41 = .ok (.iload_n 1, 1) := by decide +kernel
theorem dX16_inTheWay_42 : decode cX16_inTheWay 42 = .ok (.iload_n 2, 1) := by decide +kernel
theorem dX16_inTheWay_43 : decode cX16_inTheWay 43 = .ok (.invokevirtual 144, 3) := by decide +kernel
theorem dX16_inTheWay_46 : decode cX16_inTheWay 46 = .ok (.ireturn, 1) := by decide +kernel
theorem dX16_ofLoan_0 : decode cX16_ofLoan 0 = .ok (.aload_n 0, 1) := by decide +kernel
theorem dX16_ofLoan_1 : decode cX16_ofLoan 1 = .ok (.iload_n 1, 1) := by decide +kernel
theorem dX16_ofLoan_2 : decode cX16_ofLoan 2 = .ok (.iconst 0, 1) := by decide +kernel
theorem dX16_ofLoan_3 : decode cX16_ofLoan 3 = .ok (.aload_n 0, 1) := by decide +kernel
theorem dX16_ofLoan_4 : decode cX16_ofLoan 4 = .ok (.getfield 10, 3) := by decide +kernel
theorem dX16_ofLoan_7 : decode cX16_ofLoan 7 = .ok (.invokevirtual 71, 3) := by decide +kernel
theorem dX16_ofLoan_10 : decode cX16_ofLoan 10 = .ok (.iconst 1, 1) := by decide +kernel
theorem dX16_ofLoan_11 : decode cX16_ofLoan 11 = .ok (.isub, 1) := by decide +kernel
theorem dX16_ofLoan_12 : decode cX16_ofLoan 12 = .ok (.invokestatic 29, 3) := by decide +kernel
theorem dX16_ofLoan_15 : decode cX16_ofLoan 15 = .ok (.ifCond .ne 7, 3) := by decide +kernel
theorem dX16_ofLoan_18 : decode cX16_ofLoan 18 = .ok (.iconst 1, 1) := by decide +kernel
theorem dX16_ofLoan_19 : decode cX16_ofLoan 19 = .ok (.goto 4, 3) := by decide +kernel
theorem dX16_ofLoan_22 : decode cX16_ofLoan 22 = .ok (.iconst 0, 1) := by decide +kernel
theorem dX16_ofLoan_23 : decode cX16_ofLoan 23 = .ok (.iconst 1, 1) := by decide +kernel
theorem dX16_ofLoan_24 : decode cX16_ofLoan 24 = .ok (.invokevirtual 33, 3) := by decide +kernel
theorem dX16_ofLoan_27 : decode cX16_ofLoan 27 = .ok (.ifCond .ne 25, 3) := by decide +kernel
theorem dX16_ofLoan_30 : decode cX16_ofLoan 30 = .ok (.aload_n 0, 1) := by decide +kernel
theorem dX16_ofLoan_31 : decode cX16_ofLoan 31 = .ok (.iload_n 2, 1) := by decide +kernel
theorem dX16_ofLoan_32 : decode cX16_ofLoan 32 = .ok (.iconst 0, 1) := by decide +kernel
theorem dX16_ofLoan_33 : decode cX16_ofLoan 33 = .ok (.iconst 3, 1) := by decide +kernel
theorem dX16_ofLoan_34 : decode cX16_ofLoan 34 = .ok (.invokestatic 29, 3) := by decide +kernel
theorem dX16_ofLoan_37 : decode cX16_ofLoan 37 = .ok (.ifCond .ne 7, 3) := by decide +kernel
theorem dX16_ofLoan_40 : decode cX16_ofLoan 40 = .ok (.iconst 1, 1) := by decide +kernel
theorem dX16_ofLoan_41 : decode cX16_ofLoan 41 = .ok (.goto 4, 3) := by decide +kernel
theorem dX16_ofLoan_44 : decode cX16_ofLoan 44 = .ok (.iconst 0, 1) := by decide +kernel
theorem dX16_ofLoan_45 : decode cX16_ofLoan 45 = .ok (.iconst 2, 1) := by decide +kernel
theorem dX16_ofLoan_46 : decode cX16_ofLoan 46 = .ok (.invokevirtual 20, 3) := by decide +kernel
theorem dX16_ofLoan_49 : decode cX16_ofLoan 49 = .ok (.ifCond .eq 7, 3) := by decide +kernel
theorem dX16_ofLoan_52 : decode cX16_ofLoan 52 = .ok (.iconst 0, 1) := by decide +kernel
theorem dX16_ofLoan_53 : decode cX16_ofLoan 53 = .ok (.goto 13, 3) := by decide +kernel
theorem dX16_ofLoan_56 : decode cX16_ofLoan 56 = .ok (.aload_n 0, 1) := by decide +kernel
theorem dX16_ofLoan_57 : decode cX16_ofLoan 57 = .ok (.aload_n 0, 1) := by decide +kernel
theorem dX16_ofLoan_58 : decode cX16_ofLoan 58 = .ok (.invokevirtual 112, 3) := by decide +kernel
theorem dX16_ofLoan_61 : decode cX16_ofLoan 61 = .ok (.iload_n 1, 1) := by decide +kernel
theorem dX16_ofLoan_62 : decode cX16_ofLoan 62 = .ok (.iload_n 2, 1) := by decide +kernel
theorem dX16_ofLoan_63 : decode cX16_ofLoan 63 = .ok (.invokevirtual 153, 3) := by decide +kernel
theorem dX16_ofLoan_66 : decode cX16_ofLoan 66 = .ok (.ireturn, 1) := by decide +kernel
theorem dX16_fault_0 : decode cX16_fault 0 = .ok (.aload_n 0, 1) := by decide +kernel
theorem dX16_fault_1 : decode cX16_fault 1 = .ok (.invokevirtual 112, 3) := by decide +kernel
theorem dX16_fault_4 : decode cX16_fault 4 = .ok (.astore_n 3, 1) := by decide +kernel
theorem dX16_fault_5 : decode cX16_fault 5 = .ok (.aload_n 3, 1) := by decide +kernel
theorem dX16_fault_6 : decode cX16_fault 6 = .ok (.invokevirtual 156, 3) := by decide +kernel
theorem dX16_fault_9 : decode cX16_fault 9 = .ok (.astore 4, 2) := by decide +kernel
theorem dX16_fault_11 : decode cX16_fault 11 = .ok (.aload_n 0, 1) := by decide +kernel
theorem dX16_fault_12 : decode cX16_fault 12 = .ok (.iload_n 1, 1) := by decide +kernel
theorem dX16_fault_13 : decode cX16_fault 13 = .ok (.iconst 0, 1) := by decide +kernel
theorem dX16_fault_14 : decode cX16_fault 14 = .ok (.aload 4, 2) := by decide +kernel
theorem dX16_fault_16 : decode cX16_fault 16 = .ok (.invokevirtual 40, 3) := by decide +kernel
theorem dX16_fault_19 : decode cX16_fault 19 = .ok (.iconst 1, 1) := by decide +kernel
theorem dX16_fault_20 : decode cX16_fault 20 = .ok (.isub, 1) := by decide +kernel
theorem dX16_fault_21 : decode cX16_fault 21 = .ok (.invokestatic 29, 3) := by decide +kernel
theorem dX16_fault_24 : decode cX16_fault 24 = .ok (.ifCond .ne 7, 3) := by decide +kernel
theorem dX16_fault_27 : decode cX16_fault 27 = .ok (.iconst 1, 1) := by decide +kernel
theorem dX16_fault_28 : decode cX16_fault 28 = .ok (.goto 4, 3) := by decide +kernel
theorem dX16_fault_31 : decode cX16_fault 31 = .ok (.iconst 0, 1) := by decide +kernel
theorem dX16_fault_32 : decode cX16_fault 32 = .ok (.iconst 1, 1) := by decide +kernel
theorem dX16_fault_33 : decode cX16_fault 33 = .ok (.invokevirtual 33, 3) := by decide +kernel
theorem dX16_fault_36 : decode cX16_fault 36 = .ok (.ifCond .ne 25, 3) := by decide +kernel
theorem dX16_fault_39 : decode cX16_fault 39 = .ok (.aload_n 0, 1) := by decide +kernel
theorem dX16_fault_40 : decode cX16_fault 40 = .ok (.iload_n 2, 1) := by decide +kernel
theorem dX16_fault_41 : decode cX16_fault 41 = .ok (.iconst 0, 1) := by decide +kernel
theorem dX16_fault_42 : decode cX16_fault 42 = .ok (.iconst 4, 1) := by decide +kernel
theorem dX16_fault_43 : decode cX16_fault 43 = .ok (.invokestatic 29, 3) := by decide +kernel
theorem dX16_fault_46 : decode cX16_fault 46 = .ok (.ifCond .ne 7, 3) := by decide +kernel
theorem dX16_fault_49 : decode cX16_fault 49 = .ok (.iconst 1, 1) := by decide +kernel
theorem dX16_fault_50 : decode cX16_fault 50 = .ok (.goto 4, 3) := by decide +kernel
theorem dX16_fault_53 : decode cX16_fault 53 = .ok (.iconst 0, 1) := by decide +kernel
theorem dX16_fault_54 : decode cX16_fault 54 = .ok (.iconst 2, 1) := by decide +kernel
theorem dX16_fault_55 : decode cX16_fault 55 = .ok (.invokevirtual 20, 3) := by decide +kernel
theorem dX16_fault_58 : decode cX16_fault 58 = .ok (.ifCond .eq 7, 3) := by decide +kernel
theorem dX16_fault_61 : decode cX16_fault 61 = .ok (.iconst 0, 1) := by decide +kernel
theorem dX16_fault_62 : decode cX16_fault 62 = .ok (.goto 17, 3) := by decide +kernel
theorem dX16_fault_65 : decode cX16_fault 65 = .ok (.aload_n 3, 1) := by decide +kernel
theorem dX16_fault_66 : decode cX16_fault 66 = .ok (.aload 4, 2) := by decide +kernel
theorem dX16_fault_68 : decode cX16_fault 68 = .ok (.iload_n 1, 1) := by decide +kernel
theorem dX16_fault_69 : decode cX16_fault 69 = .ok (.invokevirtual 78, 3) := by decide +kernel
theorem dX16_fault_72 : decode cX16_fault 72 = .ok (.checkcast 160, 3) := by decide +kernel
theorem dX16_fault_75 : decode cX16_fault 75 = .ok (.iload_n 2, 1) := by decide +kernel
theorem dX16_fault_76 : decode cX16_fault 76 = .ok (.invokestatic 162, 3) := by decide +kernel
theorem dX16_fault_79 : decode cX16_fault 79 = .ok (.ireturn, 1) := by decide +kernel
theorem dX16_ofVariable_0 : decode cX16_ofVariable 0 = .ok (.aload_n 0, 1) := by decide +kernel
theorem dX16_ofVariable_1 : decode cX16_ofVariable 1 = .ok (.iload_n 1, 1) := by decide +kernel
theorem dX16_ofVariable_2 : decode cX16_ofVariable 2 = .ok (.iconst 0, 1) := by decide +kernel
theorem dX16_ofVariable_3 : decode cX16_ofVariable 3 = .ok (.aload_n 0, 1) := by decide +kernel
theorem dX16_ofVariable_4 : decode cX16_ofVariable 4 = .ok (.getfield 10, 3) := by decide +kernel
theorem dX16_ofVariable_7 : decode cX16_ofVariable 7 = .ok (.getfield 36, 3) := by decide +kernel
theorem dX16_ofVariable_10 : decode cX16_ofVariable 10 = .ok (.invokevirtual 40, 3) := by decide +kernel
theorem dX16_ofVariable_13 : decode cX16_ofVariable 13 = .ok (.iconst 1, 1) := by decide +kernel
theorem dX16_ofVariable_14 : decode cX16_ofVariable 14 = .ok (.isub, 1) := by decide +kernel
theorem dX16_ofVariable_15 : decode cX16_ofVariable 15 = .ok (.invokestatic 29, 3) := by decide +kernel
theorem dX16_ofVariable_18 : decode cX16_ofVariable 18 = .ok (.ifCond .ne 7, 3) := by decide +kernel
theorem dX16_ofVariable_21 : decode cX16_ofVariable 21 = .ok (.iconst 1, 1) := by decide +kernel
theorem dX16_ofVariable_22 : decode cX16_ofVariable 22 = .ok (.goto 4, 3) := by decide +kernel
theorem dX16_ofVariable_25 : decode cX16_ofVariable 25 = .ok (.iconst 0, 1) := by decide +kernel
theorem dX16_ofVariable_26 : decode cX16_ofVariable 26 = .ok (.iconst 1, 1) := by decide +kernel
theorem dX16_ofVariable_27 : decode cX16_ofVariable 27 = .ok (.invokevirtual 33, 3) := by decide +kernel
theorem dX16_ofVariable_30 : decode cX16_ofVariable 30 = .ok (.ifCond .ne 25, 3) := by decide +kernel
theorem dX16_ofVariable_33 : decode cX16_ofVariable 33 = .ok (.aload_n 0, 1) := by decide +kernel
theorem dX16_ofVariable_34 : decode cX16_ofVariable 34 = .ok (.iload_n 2, 1) := by decide +kernel
theorem dX16_ofVariable_35 : decode cX16_ofVariable 35 = .ok (.iconst 0, 1) := by decide +kernel
theorem dX16_ofVariable_36 : decode cX16_ofVariable 36 = .ok (.iconst 3, 1) := by decide +kernel
theorem dX16_ofVariable_37 : decode cX16_ofVariable 37 = .ok (.invokestatic 29, 3) := by decide +kernel
theorem dX16_ofVariable_40 : decode cX16_ofVariable 40 = .ok (.ifCond .ne 7, 3) := by decide +kernel
theorem dX16_ofVariable_43 : decode cX16_ofVariable 43 = .ok (.iconst 1, 1) := by decide +kernel
theorem dX16_ofVariable_44 : decode cX16_ofVariable 44 = .ok (.goto 4, 3) := by decide +kernel
theorem dX16_ofVariable_47 : decode cX16_ofVariable 47 = .ok (.iconst 0, 1) := by decide +kernel
theorem dX16_ofVariable_48 : decode cX16_ofVariable 48 = .ok (.iconst 2, 1) := by decide +kernel
theorem dX16_ofVariable_49 : decode cX16_ofVariable 49 = .ok (.invokevirtual 20, 3) := by decide +kernel
theorem dX16_ofVariable_52 : decode cX16_ofVariable 52 = .ok (.ifCond .eq 7, 3) := by decide +kernel
theorem dX16_ofVariable_55 : decode cX16_ofVariable 55 = .ok (.iconst 0, 1) := by decide +kernel
theorem dX16_ofVariable_56 : decode cX16_ofVariable 56 = .ok (.goto 13, 3) := by decide +kernel
theorem dX16_ofVariable_59 : decode cX16_ofVariable 59 = .ok (.aload_n 0, 1) := by decide +kernel
theorem dX16_ofVariable_60 : decode cX16_ofVariable 60 = .ok (.aload_n 0, 1) := by decide +kernel
theorem dX16_ofVariable_61 : decode cX16_ofVariable 61 = .ok (.invokevirtual 112, 3) := by decide +kernel
theorem dX16_ofVariable_64 : decode cX16_ofVariable 64 = .ok (.iload_n 1, 1) := by decide +kernel
theorem dX16_ofVariable_65 : decode cX16_ofVariable 65 = .ok (.iload_n 2, 1) := by decide +kernel
theorem dX16_ofVariable_66 : decode cX16_ofVariable 66 = .ok (.invokevirtual 202, 3) := by decide +kernel
theorem dX16_ofVariable_69 : decode cX16_ofVariable 69 = .ok (.ireturn, 1) := by decide +kernel
theorem dX16_run_0 : decode cX16_run 0 = .ok (.aload_n 0, 1) := by decide +kernel
theorem dX16_run_1 : decode cX16_run 1 = .ok (.invokevirtual 112, 3) := by decide +kernel
theorem dX16_run_4 : decode cX16_run 4 = .ok (.astore_n 1, 1) := by decide +kernel
theorem dX16_run_5 : decode cX16_run 5 = .ok (.aload_n 0, 1) := by decide +kernel
theorem dX16_run_6 : decode cX16_run 6 = .ok (.aload_n 1, 1) := by decide +kernel
theorem dX16_run_7 : decode cX16_run 7 = .ok (.invokevirtual 156, 3) := by decide +kernel
theorem dX16_run_10 : decode cX16_run 10 = .ok (.invokevirtual 89, 3) := by decide +kernel
theorem dX16_run_13 : decode cX16_run 13 = .ok (.ifCond .ne 7, 3) := by decide +kernel
theorem dX16_run_16 : decode cX16_run 16 = .ok (.iconst 1, 1) := by decide +kernel
theorem dX16_run_17 : decode cX16_run 17 = .ok (.goto 4, 3) := by decide +kernel
theorem dX16_run_20 : decode cX16_run 20 = .ok (.iconst 0, 1) := by decide +kernel
theorem dX16_run_21 : decode cX16_run 21 = .ok (.iconst 1, 1) := by decide +kernel
theorem dX16_run_22 : decode cX16_run 22 = .ok (.invokevirtual 33, 3) := by decide +kernel
theorem dX16_run_25 : decode cX16_run 25 = .ok (.ifCond .eq 5, 3) := by decide +kernel
theorem dX16_run_28 : decode cX16_run 28 = .ok (.iconst 0, 1) := by decide +kernel
theorem dX16_run_29 : decode cX16_run 29 = .ok (.ireturn, 1) := by decide +kernel
theorem dX16_run_30 : decode cX16_run 30 = .ok (.aload_n 0, 1) := by decide +kernel
theorem dX16_run_31 : decode cX16_run 31 = .ok (.new 205, 3) := by decide +kernel
theorem dX16_run_34 : decode cX16_run 34 = .ok (.dup, 1) := by decide +kernel
theorem dX16_run_35 : decode cX16_run 35 = .ok (.aload_n 0, 1) := by decide +kernel
theorem dX16_run_36 : decode cX16_run 36 = .ok (.getfield 10, 3) := by decide +kernel
theorem dX16_run_39 : decode cX16_run 39 = .ok (.invokevirtual 207, 3) := by decide +kernel
theorem dX16_run_42 : decode cX16_run 42 = .ok (.aload_n 1, 1) := by decide +kernel
theorem dX16_run_43 : decode cX16_run 43 = .ok (.invokespecial 211, 3) := by decide +kernel
theorem dX16_run_46 : decode cX16_run 46 = .ok (.putfield 214, 3) := by decide +kernel
theorem dX16_run_49 : decode cX16_run 49 = .ok (.aload_n 0, 1) := by decide +kernel
theorem dX16_run_50 : decode cX16_run 50 = .ok (.dup, 1) := by decide +kernel
theorem dX16_run_51 : decode cX16_run 51 = .ok (.getfield 218, 3) := by decide +kernel
theorem dX16_run_54 : decode cX16_run 54 = .ok (.iconst 1, 1) := by decide +kernel
theorem dX16_run_55 : decode cX16_run 55 = .ok (.iadd, 1) := by decide +kernel
theorem dX16_run_56 : decode cX16_run 56 = .ok (.putfield 218, 3) := by decide +kernel
theorem dX16_run_59 : decode cX16_run 59 = .ok (.aload_n 0, 1) := by decide +kernel
theorem dX16_run_60 : decode cX16_run 60 = .ok (.getfield 214, 3) := by decide +kernel
theorem dX16_run_63 : decode cX16_run 63 = .ok (.invokevirtual 221, 3) := by decide +kernel
theorem dX16_run_66 : decode cX16_run 66 = .ok (.ireturn, 1) := by decide +kernel
theorem dX16_ofRunNow_0 : decode cX16_ofRunNow 0 = .ok (.iload_n 1, 1) := by decide +kernel
theorem dX16_ofRunNow_1 : decode cX16_ofRunNow 1 = .ok (.bipush 9, 2) := by decide +kernel
theorem dX16_ofRunNow_3 : decode cX16_ofRunNow 3 = .ok (.if_icmp .ne 10, 3) := by decide +kernel
theorem dX16_ofRunNow_6 : decode cX16_ofRunNow 6 = .ok (.aload_n 0, 1) := by decide +kernel
theorem dX16_ofRunNow_7 : decode cX16_ofRunNow 7 = .ok (.getfield 218, 3) := by decide +kernel
theorem dX16_ofRunNow_10 : decode cX16_ofRunNow 10 = .ok (.goto 22, 3) := by decide +kernel
theorem dX16_ofRunNow_13 : decode cX16_ofRunNow 13 = .ok (.aload_n 0, 1) := by decide +kernel
theorem dX16_ofRunNow_14 : decode cX16_ofRunNow 14 = .ok (.getfield 214, 3) := by decide +kernel
theorem dX16_ofRunNow_17 : decode cX16_ofRunNow 17 = .ok (.ifnonnull 7, 3) := by decide +kernel
theorem dX16_ofRunNow_20 : decode cX16_ofRunNow 20 = .ok (.iconst 0, 1) := by decide +kernel
theorem dX16_ofRunNow_21 : decode cX16_ofRunNow 21 = .ok (.goto 11, 3) := by decide +kernel
theorem dX16_ofRunNow_24 : decode cX16_ofRunNow 24 = .ok (.aload_n 0, 1) := by decide +kernel
theorem dX16_ofRunNow_25 : decode cX16_ofRunNow 25 = .ok (.getfield 214, 3) := by decide +kernel
theorem dX16_ofRunNow_28 : decode cX16_ofRunNow 28 = .ok (.iload_n 1, 1) := by decide +kernel
theorem dX16_ofRunNow_29 : decode cX16_ofRunNow 29 = .ok (.invokevirtual 224, 3) := by decide +kernel
theorem dX16_ofRunNow_32 : decode cX16_ofRunNow 32 = .ok (.ireturn, 1) := by decide +kernel
theorem dX16_ofRun_0 : decode cX16_ofRun 0 = .ok (.aload_n 0, 1) := by decide +kernel
theorem dX16_ofRun_1 : decode cX16_ofRun 1 = .ok (.iload_n 1, 1) := by decide +kernel
theorem dX16_ofRun_2 : decode cX16_ofRun 2 = .ok (.iconst 0, 1) := by decide +kernel
theorem dX16_ofRun_3 : decode cX16_ofRun 3 = .ok (.bipush 9, 2) := by decide +kernel
theorem dX16_ofRun_5 : decode cX16_ofRun 5 = .ok (.invokestatic 29, 3) := by decide +kernel
theorem dX16_ofRun_8 : decode cX16_ofRun 8 = .ok (.ifCond .ne 7, 3) := by decide +kernel
theorem dX16_ofRun_11 : decode cX16_ofRun 11 = .ok (.iconst 1, 1) := by decide +kernel
theorem dX16_ofRun_12 : decode cX16_ofRun 12 = .ok (.goto 4, 3) := by decide +kernel
theorem dX16_ofRun_15 : decode cX16_ofRun 15 = .ok (.iconst 0, 1) := by decide +kernel
theorem dX16_ofRun_16 : decode cX16_ofRun 16 = .ok (.iconst 1, 1) := by decide +kernel
theorem dX16_ofRun_17 : decode cX16_ofRun 17 = .ok (.invokevirtual 33, 3) := by decide +kernel
theorem dX16_ofRun_20 : decode cX16_ofRun 20 = .ok (.ifCond .eq 7, 3) := by decide +kernel
theorem dX16_ofRun_23 : decode cX16_ofRun 23 = .ok (.iconst 0, 1) := by decide +kernel
theorem dX16_ofRun_24 : decode cX16_ofRun 24 = .ok (.goto 8, 3) := by decide +kernel
theorem dX16_ofRun_27 : decode cX16_ofRun 27 = .ok (.aload_n 0, 1) := by decide +kernel
theorem dX16_ofRun_28 : decode cX16_ofRun 28 = .ok (.iload_n 1, 1) := by decide +kernel
theorem dX16_ofRun_29 : decode cX16_ofRun 29 = .ok (.invokevirtual 226, 3) := by decide +kernel
theorem dX16_ofRun_32 : decode cX16_ofRun 32 = .ok (.ireturn, 1) := by decide +kernel
theorem dX16_kept_0 : decode cX16_kept 0 = .ok (.aload_n 0, 1) := by decide +kernel
theorem dX16_kept_1 : decode cX16_kept 1 = .ok (.getfield 214, 3) := by decide +kernel
theorem dX16_kept_4 : decode cX16_kept 4 = .ok (.ifnonnull 7, 3) := by decide +kernel
theorem dX16_kept_7 : decode cX16_kept 7 = .ok (.iconst 0, 1) := by decide +kernel
theorem dX16_kept_8 : decode cX16_kept 8 = .ok (.goto 18, 3) := by decide +kernel
theorem dX16_kept_11 : decode cX16_kept 11 = .ok (.bipush 60, 2) := by decide +kernel
theorem dX16_kept_13 : decode cX16_kept 13 = .ok (.aload_n 0, 1) := by decide +kernel
theorem dX16_kept_14 : decode cX16_kept 14 = .ok (.getfield 214, 3) := by decide +kernel
theorem dX16_kept_17 : decode cX16_kept 17 = .ok (.getfield 229, 3) := by decide +kernel
theorem dX16_kept_20 : decode cX16_kept 20 = .ok (.invokevirtual 40, 3) := by decide +kernel
theorem dX16_kept_23 : decode cX16_kept 23 = .ok (.invokestatic 231, 3) := by decide +kernel
theorem dX16_kept_26 : decode cX16_kept 26 = .ok (.ireturn, 1) := by decide +kernel
theorem dX16_told__0 : decode cX16_told_ 0 = .ok (.aload_n 0, 1) := by decide +kernel
theorem dX16_told__1 : decode cX16_told_ 1 = .ok (.iload_n 1, 1) := by decide +kernel
theorem dX16_told__2 : decode cX16_told_ 2 = .ok (.iconst 0, 1) := by decide +kernel
theorem dX16_told__3 : decode cX16_told_ 3 = .ok (.aload_n 0, 1) := by decide +kernel
theorem dX16_told__4 : decode cX16_told_ 4 = .ok (.invokevirtual 236, 3) := by decide +kernel
theorem dX16_told__7 : decode cX16_told_ 7 = .ok (.iconst 1, 1) := by decide +kernel
theorem dX16_told__8 : decode cX16_told_ 8 = .ok (.isub, 1) := by decide +kernel
theorem dX16_told__9 : decode cX16_told_ 9 = .ok (.invokestatic 29, 3) := by decide +kernel
theorem dX16_told__12 : decode cX16_told_ 12 = .ok (.ifCond .ne 7, 3) := by decide +kernel
theorem dX16_told__15 : decode cX16_told_ 15 = .ok (.iconst 1, 1) := by decide +kernel
theorem dX16_told__16 : decode cX16_told_ 16 = .ok (.goto 4, 3) := by decide +kernel
theorem dX16_told__19 : decode cX16_told_ 19 = .ok (.iconst 0, 1) := by decide +kernel
theorem dX16_told__20 : decode cX16_told_ 20 = .ok (.iconst 1, 1) := by decide +kernel
theorem dX16_told__21 : decode cX16_told_ 21 = .ok (.invokevirtual 33, 3) := by decide +kernel
theorem dX16_told__24 : decode cX16_told_ 24 = .ok (.ifCond .ne 25, 3) := by decide +kernel
theorem dX16_told__27 : decode cX16_told_ 27 = .ok (.aload_n 0, 1) := by decide +kernel
theorem dX16_told__28 : decode cX16_told_ 28 = .ok (.iload_n 2, 1) := by decide +kernel
theorem dX16_told__29 : decode cX16_told_ 29 = .ok (.iconst 0, 1) := by decide +kernel
theorem dX16_told__30 : decode cX16_told_ 30 = .ok (.iconst 2, 1) := by decide +kernel
theorem dX16_told__31 : decode cX16_told_ 31 = .ok (.invokestatic 29, 3) := by decide +kernel
theorem dX16_told__34 : decode cX16_told_ 34 = .ok (.ifCond .ne 7, 3) := by decide +kernel
theorem dX16_told__37 : decode cX16_told_ 37 = .ok (.iconst 1, 1) := by decide +kernel
theorem dX16_told__38 : decode cX16_told_ 38 = .ok (.goto 4, 3) := by decide +kernel
theorem dX16_told__41 : decode cX16_told_ 41 = .ok (.iconst 0, 1) := by decide +kernel
theorem dX16_told__42 : decode cX16_told_ 42 = .ok (.iconst 2, 1) := by decide +kernel
theorem dX16_told__43 : decode cX16_told_ 43 = .ok (.invokevirtual 20, 3) := by decide +kernel
theorem dX16_told__46 : decode cX16_told_ 46 = .ok (.ifCond .eq 7, 3) := by decide +kernel
theorem dX16_told__49 : decode cX16_told_ 49 = .ok (.iconst 0, 1) := by decide +kernel
theorem dX16_told__50 : decode cX16_told_ 50 = .ok (.goto 19, 3) := by decide +kernel
theorem dX16_told__53 : decode cX16_told_ 53 = .ok (.aload_n 0, 1) := by decide +kernel
theorem dX16_told__54 : decode cX16_told_ 54 = .ok (.getfield 214, 3) := by decide +kernel
theorem dX16_told__57 : decode cX16_told_ 57 = .ok (.getfield 229, 3) := by decide +kernel
theorem dX16_told__60 : decode cX16_told_ 60 = .ok (.iload_n 1, 1) := by decide +kernel
theorem dX16_told__61 : decode cX16_told_ 61 = .ok (.invokevirtual 78, 3) := by decide +kernel
theorem dX16_told__64 : decode cX16_told_ 64 = .ok (.checkcast 160, 3) := by decide +kernel
theorem dX16_told__67 : decode cX16_told_ 67 = .ok (.iload_n 2, 1) := by decide +kernel
theorem dX16_told__68 : decode cX16_told_ 68 = .ok (.iaload, 1) := by decide +kernel
theorem dX16_told__69 : decode cX16_told_ 69 = .ok (.ireturn, 1) := by decide +kernel
theorem dX16_count_0 : decode cX16_count 0 = .ok (.iconst 0, 1) := by decide +kernel
theorem dX16_count_1 : decode cX16_count 1 = .ok (.istore_n 3, 1) := by decide +kernel
theorem dX16_count_2 : decode cX16_count 2 = .ok (.iload_n 2, 1) := by decide +kernel
theorem dX16_count_3 : decode cX16_count 3 = .ok (.tableswitch 151 0 5 #[37, 48, 59, 67, 75, 114], 37) := by decide +kernel
theorem dX16_count_40 : decode cX16_count 40 = .ok (.aload_n 0, 1) := by decide +kernel
theorem dX16_count_41 : decode cX16_count 41 = .ok (.getfield 10, 3) := by decide +kernel
theorem dX16_count_44 : decode cX16_count 44 = .ok (.getfield 36, 3) := by decide +kernel
theorem dX16_count_47 : decode cX16_count 47 = .ok (.invokevirtual 40, 3) := by decide +kernel
theorem dX16_count_50 : decode cX16_count 50 = .ok (.ireturn, 1) := by decide +kernel
theorem dX16_count_51 : decode cX16_count 51 = .ok (.aload_n 0, 1) := by decide +kernel
theorem dX16_count_52 : decode cX16_count 52 = .ok (.getfield 10, 3) := by decide +kernel
theorem dX16_count_55 : decode cX16_count 55 = .ok (.getfield 64, 3) := by decide +kernel
theorem dX16_count_58 : decode cX16_count 58 = .ok (.invokevirtual 40, 3) := by decide +kernel
theorem dX16_count_61 : decode cX16_count 61 = .ok (.ireturn, 1) := by decide +kernel
theorem dX16_count_62 : decode cX16_count 62 = .ok (.aload_n 1, 1) := by decide +kernel
theorem dX16_count_63 : decode cX16_count 63 = .ok (.invokevirtual 156, 3) := by decide +kernel
theorem dX16_count_66 : decode cX16_count 66 = .ok (.invokevirtual 40, 3) := by decide +kernel
theorem dX16_count_69 : decode cX16_count 69 = .ok (.ireturn, 1) := by decide +kernel
theorem dX16_count_70 : decode cX16_count 70 = .ok (.aload_n 0, 1) := by decide +kernel
theorem dX16_count_71 : decode cX16_count 71 = .ok (.getfield 10, 3) := by decide +kernel
theorem dX16_count_74 : decode cX16_count 74 = .ok (.invokevirtual 71, 3) := by decide +kernel
theorem dX16_count_77 : decode cX16_count 77 = .ok (.ireturn, 1) := by decide +kernel
theorem dX16_count_78 : decode cX16_count 78 = .ok (.iconst 0, 1) := by decide +kernel
theorem dX16_count_79 : decode cX16_count 79 = .ok (.istore 4, 2) := by decide +kernel
theorem dX16_count_81 : decode cX16_count 81 = .ok (.iload 4, 2) := by decide +kernel
theorem dX16_count_83 : decode cX16_count 83 = .ok (.aload_n 0, 1) := by decide +kernel
theorem dX16_count_84 : decode cX16_count 84 = .ok (.getfield 10, 3) := by decide +kernel
theorem dX16_count_87 : decode cX16_count 87 = .ok (.getfield 36, 3) := by decide +kernel
theorem dX16_count_90 : decode cX16_count 90 = .ok (.invokevirtual 40, 3) := by decide +kernel
theorem dX16_count_93 : decode cX16_count 93 = .ok (.if_icmp .ge 22, 3) := by decide +kernel
theorem dX16_count_96 : decode cX16_count 96 = .ok (.iload_n 3, 1) := by decide +kernel
theorem dX16_count_97 : decode cX16_count 97 = .ok (.aload_n 0, 1) := by decide +kernel
theorem dX16_count_98 : decode cX16_count 98 = .ok (.aload_n 1, 1) := by decide +kernel
theorem dX16_count_99 : decode cX16_count 99 = .ok (.iload 4, 2) := by decide +kernel
theorem dX16_count_101 : decode cX16_count 101 = .ok (.invokevirtual 179, 3) := by decide +kernel
theorem dX16_count_104 : decode cX16_count 104 = .ok (.invokestatic 239, 3) := by decide +kernel
theorem dX16_count_107 : decode cX16_count 107 = .ok (.iadd, 1) := by decide +kernel
theorem dX16_count_108 : decode cX16_count 108 = .ok (.istore_n 3, 1) := by decide +kernel
theorem dX16_count_109 : decode cX16_count 109 = .ok (.iinc 4 1, 3) := by decide +kernel
theorem dX16_count_112 : decode cX16_count 112 = .ok (.goto (-31), 3) := by decide +kernel
theorem dX16_count_115 : decode cX16_count 115 = .ok (.iload_n 3, 1) := by decide +kernel
theorem dX16_count_116 : decode cX16_count 116 = .ok (.ireturn, 1) := by decide +kernel
theorem dX16_count_117 : decode cX16_count 117 = .ok (.iconst 0, 1) := by decide +kernel
theorem dX16_count_118 : decode cX16_count 118 = .ok (.istore 4, 2) := by decide +kernel
theorem dX16_count_120 : decode cX16_count 120 = .ok (.iload 4, 2) := by decide +kernel
theorem dX16_count_122 : decode cX16_count 122 = .ok (.aload_n 0, 1) := by decide +kernel
theorem dX16_count_123 : decode cX16_count 123 = .ok (.getfield 10, 3) := by decide +kernel
theorem dX16_count_126 : decode cX16_count 126 = .ok (.getfield 64, 3) := by decide +kernel
theorem dX16_count_129 : decode cX16_count 129 = .ok (.invokevirtual 40, 3) := by decide +kernel
theorem dX16_count_132 : decode cX16_count 132 = .ok (.if_icmp .ge 20, 3) := by decide +kernel
theorem dX16_count_135 : decode cX16_count 135 = .ok (.iload_n 3, 1) := by decide +kernel
theorem dX16_count_136 : decode cX16_count 136 = .ok (.aload_n 0, 1) := by decide +kernel
theorem dX16_count_137 : decode cX16_count 137 = .ok (.aload_n 1, 1) := by decide +kernel
theorem dX16_count_138 : decode cX16_count 138 = .ok (.iload 4, 2) := by decide +kernel
theorem dX16_count_140 : decode cX16_count 140 = .ok (.iconst 5, 1) := by decide +kernel
theorem dX16_count_141 : decode cX16_count 141 = .ok (.invokevirtual 116, 3) := by decide +kernel
theorem dX16_count_144 : decode cX16_count 144 = .ok (.iadd, 1) := by decide +kernel
theorem dX16_count_145 : decode cX16_count 145 = .ok (.istore_n 3, 1) := by decide +kernel
theorem dX16_count_146 : decode cX16_count 146 = .ok (.iinc 4 1, 3) := by decide +kernel
theorem dX16_count_149 : decode cX16_count 149 = .ok (.goto (-29), 3) := by decide +kernel
theorem dX16_count_152 : decode cX16_count 152 = .ok (.iload_n 3, 1) := by decide +kernel
theorem dX16_count_153 : decode cX16_count 153 = .ok (.ireturn, 1) := by decide +kernel
theorem dX16_count_154 : decode cX16_count 154 = .ok (.iconst 0, 1) := by decide +kernel
theorem dX16_count_155 : decode cX16_count 155 = .ok (.istore 4, 2) := by decide +kernel
theorem dX16_count_157 : decode cX16_count 157 = .ok (.iload 4, 2) := by decide +kernel
theorem dX16_count_159 : decode cX16_count 159 = .ok (.aload_n 0, 1) := by decide +kernel
theorem dX16_count_160 : decode cX16_count 160 = .ok (.getfield 10, 3) := by decide +kernel
theorem dX16_count_163 : decode cX16_count 163 = .ok (.getfield 64, 3) := by decide +kernel
theorem dX16_count_166 : decode cX16_count 166 = .ok (.invokevirtual 40, 3) := by decide +kernel
theorem dX16_count_169 : decode cX16_count 169 = .ok (.if_icmp .ge 21, 3) := by decide +kernel
theorem dX16_count_172 : decode cX16_count 172 = .ok (.iload_n 3, 1) := by decide +kernel
theorem dX16_count_173 : decode cX16_count 173 = .ok (.aload_n 0, 1) := by decide +kernel
theorem dX16_count_174 : decode cX16_count 174 = .ok (.aload_n 1, 1) := by decide +kernel
theorem dX16_count_175 : decode cX16_count 175 = .ok (.iload 4, 2) := by decide +kernel
theorem dX16_count_177 : decode cX16_count 177 = .ok (.invokevirtual 242, 3) := by decide +kernel
theorem dX16_count_180 : decode cX16_count 180 = .ok (.invokestatic 245, 3) := by decide +kernel
theorem dX16_count_183 : decode cX16_count 183 = .ok (.istore_n 3, 1) := by decide +kernel
theorem dX16_count_184 : decode cX16_count 184 = .ok (.iinc 4 1, 3) := by decide +kernel
theorem dX16_count_187 : decode cX16_count 187 = .ok (.goto (-30), 3) := by decide +kernel
theorem dX16_count_190 : decode cX16_count 190 = .ok (.iload_n 3, 1) := by decide +kernel
theorem dX16_count_191 : decode cX16_count 191 = .ok (.ireturn, 1) := by decide +kernel
theorem dX16_many_0 : decode cX16_many 0 = .ok (.aload_n 0, 1) := by decide +kernel
theorem dX16_many_1 : decode cX16_many 1 = .ok (.iload_n 1, 1) := by decide +kernel
theorem dX16_many_2 : decode cX16_many 2 = .ok (.iconst 0, 1) := by decide +kernel
theorem dX16_many_3 : decode cX16_many 3 = .ok (.bipush 6, 2) := by decide +kernel
theorem dX16_many_5 : decode cX16_many 5 = .ok (.invokestatic 29, 3) := by decide +kernel
theorem dX16_many_8 : decode cX16_many 8 = .ok (.ifCond .ne 7, 3) := by decide +kernel
theorem dX16_many_11 : decode cX16_many 11 = .ok (.iconst 1, 1) := by decide +kernel
theorem dX16_many_12 : decode cX16_many 12 = .ok (.goto 4, 3) := by decide +kernel
theorem dX16_many_15 : decode cX16_many 15 = .ok (.iconst 0, 1) := by decide +kernel
theorem dX16_many_16 : decode cX16_many 16 = .ok (.iconst 1, 1) := by decide +kernel
theorem dX16_many_17 : decode cX16_many 17 = .ok (.invokevirtual 33, 3) := by decide +kernel
theorem dX16_many_20 : decode cX16_many 20 = .ok (.ifCond .eq 7, 3) := by decide +kernel
theorem dX16_many_23 : decode cX16_many 23 = .ok (.iconst 0, 1) := by decide +kernel
theorem dX16_many_24 : decode cX16_many 24 = .ok (.goto 12, 3) := by decide +kernel
theorem dX16_many_27 : decode cX16_many 27 = .ok (.aload_n 0, 1) := by decide +kernel
theorem dX16_many_28 : decode cX16_many 28 = .ok (.aload_n 0, 1) := by decide +kernel
theorem dX16_many_29 : decode cX16_many 29 = .ok (.invokevirtual 112, 3) := by decide +kernel
theorem dX16_many_32 : decode cX16_many 32 = .ok (.iload_n 1, 1) := by decide +kernel
theorem dX16_many_33 : decode cX16_many 33 = .ok (.invokevirtual 248, 3) := by decide +kernel
theorem dX16_many_36 : decode cX16_many 36 = .ok (.ireturn, 1) := by decide +kernel
theorem dX16_meanRead_0 : decode cX16_meanRead 0 = .ok (.aload_n 0, 1) := by decide +kernel
theorem dX16_meanRead_1 : decode cX16_meanRead 1 = .ok (.iconst 0, 1) := by decide +kernel
theorem dX16_meanRead_2 : decode cX16_meanRead 2 = .ok (.putfield 16, 3) := by decide +kernel
theorem dX16_meanRead_5 : decode cX16_meanRead 5 = .ok (.lconst 0, 1) := by decide +kernel
theorem dX16_meanRead_6 : decode cX16_meanRead 6 = .ok (.lstore_n 1, 1) := by decide +kernel
theorem dX16_meanRead_7 : decode cX16_meanRead 7 = .ok (.iconst 0, 1) := by decide +kernel
theorem dX16_meanRead_8 : decode cX16_meanRead 8 = .ok (.istore_n 3, 1) := by decide +kernel
theorem dX16_meanRead_9 : decode cX16_meanRead 9 = .ok (.iconst 0, 1) := by decide +kernel
theorem dX16_meanRead_10 : decode cX16_meanRead 10 = .ok (.istore 4, 2) := by decide +kernel
theorem dX16_meanRead_12 : decode cX16_meanRead 12 = .ok (.iload 4, 2) := by decide +kernel
theorem dX16_meanRead_14 : decode cX16_meanRead 14 = .ok (.aload_n 0, 1) := by decide +kernel
theorem dX16_meanRead_15 : decode cX16_meanRead 15 = .ok (.invokevirtual 236, 3) := by decide +kernel
theorem dX16_meanRead_18 : decode cX16_meanRead 18 = .ok (.if_icmp .ge 56, 3) := by decide +kernel
theorem dX16_meanRead_21 : decode cX16_meanRead 21 = .ok (.aload_n 0, 1) := by decide +kernel
theorem dX16_meanRead_22 : decode cX16_meanRead 22 = .ok (.getfield 214, 3) := by decide +kernel
theorem dX16_meanRead_25 : decode cX16_meanRead 25 = .ok (.getfield 229, 3) := by decide +kernel
theorem dX16_meanRead_28 : decode cX16_meanRead 28 = .ok (.iload 4, 2) := by decide +kernel
theorem dX16_meanRead_30 : decode cX16_meanRead 30 = .ok (.invokevirtual 78, 3) := by decide +kernel
theorem dX16_meanRead_33 : decode cX16_meanRead 33 = .ok (.checkcast 160, 3) := by decide +kernel
theorem dX16_meanRead_36 : decode cX16_meanRead 36 = .ok (.iconst 0, 1) := by decide +kernel
theorem dX16_meanRead_37 : decode cX16_meanRead 37 = .ok (.iaload, 1) := by decide +kernel
theorem dX16_meanRead_38 : decode cX16_meanRead 38 = .ok (.ifCond .eq 6, 3) := by decide +kernel
theorem dX16_meanRead_41 : decode cX16_meanRead 41 = .ok (.goto 27, 3) := by decide +kernel
theorem dX16_meanRead_44 : decode cX16_meanRead 44 = .ok (.lload_n 1, 1) := by decide +kernel
theorem dX16_meanRead_45 : decode cX16_meanRead 45 = .ok (.aload_n 0, 1) := by decide +kernel
theorem dX16_meanRead_46 : decode cX16_meanRead 46 = .ok (.getfield 214, 3) := by decide +kernel
theorem dX16_meanRead_49 : decode cX16_meanRead 49 = .ok (.getfield 229, 3) := by decide +kernel
theorem dX16_meanRead_52 : decode cX16_meanRead 52 = .ok (.iload 4, 2) := by decide +kernel
theorem dX16_meanRead_54 : decode cX16_meanRead 54 = .ok (.invokevirtual 78, 3) := by decide +kernel
theorem dX16_meanRead_57 : decode cX16_meanRead 57 = .ok (.checkcast 160, 3) := by decide +kernel
theorem dX16_meanRead_60 : decode cX16_meanRead 60 = .ok (.iconst 1, 1) := by decide +kernel
theorem dX16_meanRead_61 : decode cX16_meanRead 61 = .ok (.iaload, 1) := by decide +kernel
theorem dX16_meanRead_62 : decode cX16_meanRead 62 = .ok (.i2l, 1) := by decide +kernel
theorem dX16_meanRead_63 : decode cX16_meanRead 63 = .ok (.ladd, 1) := by decide +kernel
theorem dX16_meanRead_64 : decode cX16_meanRead 64 = .ok (.lstore_n 1, 1) := by decide +kernel
theorem dX16_meanRead_65 : decode cX16_meanRead 65 = .ok (.iinc 3 1, 3) := by decide +kernel
theorem dX16_meanRead_68 : decode cX16_meanRead 68 = .ok (.iinc 4 1, 3) := by decide +kernel
theorem dX16_meanRead_71 : decode cX16_meanRead 71 = .ok (.goto (-59), 3) := by decide +kernel
theorem dX16_meanRead_74 : decode cX16_meanRead 74 = .ok (.iload_n 3, 1) := by decide +kernel
theorem dX16_meanRead_75 : decode cX16_meanRead 75 = .ok (.ifCond .ne 7, 3) := by decide +kernel
theorem dX16_meanRead_78 : decode cX16_meanRead 78 = .ok (.dconst 0, 1) := by decide +kernel
theorem dX16_meanRead_79 : decode cX16_meanRead 79 = .ok (.goto 8, 3) := by decide +kernel
theorem dX16_meanRead_82 : decode cX16_meanRead 82 = .ok (.lload_n 1, 1) := by decide +kernel
theorem dX16_meanRead_83 : decode cX16_meanRead 83 = .ok (.l2d, 1) := by decide +kernel
theorem dX16_meanRead_84 : decode cX16_meanRead 84 = .ok (.iload_n 3, 1) := by decide +kernel
theorem dX16_meanRead_85 : decode cX16_meanRead 85 = .ok (.i2d, 1) := by decide +kernel
theorem dX16_meanRead_86 : decode cX16_meanRead 86 = .ok (.ddiv, 1) := by decide +kernel
theorem dX16_meanRead_87 : decode cX16_meanRead 87 = .ok (.dreturn, 1) := by decide +kernel
theorem dX16_faultsWithout_0 : decode cX16_faultsWithout 0 = .ok (.aload_n 0, 1) := by decide +kernel
theorem dX16_faultsWithout_1 : decode cX16_faultsWithout 1 = .ok (.aload_n 0, 1) := by decide +kernel
theorem dX16_faultsWithout_2 : decode cX16_faultsWithout 2 = .ok (.iload_n 1, 1) := by decide +kernel
theorem dX16_faultsWithout_3 : decode cX16_faultsWithout 3 = .ok (.invokevirtual 74, 3) := by decide +kernel
theorem dX16_faultsWithout_6 : decode cX16_faultsWithout 6 = .ok (.iconst 1, 1) := by decide +kernel
theorem dX16_faultsWithout_7 : decode cX16_faultsWithout 7 = .ok (.invokevirtual 33, 3) := by decide +kernel
theorem dX16_faultsWithout_10 : decode cX16_faultsWithout 10 = .ok (.ifCond .eq 7, 3) := by decide +kernel
theorem dX16_faultsWithout_13 : decode cX16_faultsWithout 13 = .ok (.iconst 0, 1) := by decide +kernel
theorem dX16_faultsWithout_14 : decode cX16_faultsWithout 14 = .ok (.goto 8, 3) := by decide +kernel
theorem dX16_faultsWithout_17 : decode cX16_faultsWithout 17 = .ok (.aload_n 0, 1) := by decide +kernel
theorem dX16_faultsWithout_18 : decode cX16_faultsWithout 18 = .ok (.iload_n 1, 1) := by decide +kernel
theorem dX16_faultsWithout_19 : decode cX16_faultsWithout 19 = .ok (.invokevirtual 251, 3) := by decide +kernel
theorem dX16_faultsWithout_22 : decode cX16_faultsWithout 22 = .ok (.ireturn, 1) := by decide +kernel
theorem dX16_couldDrop_0 : decode cX16_couldDrop 0 = .ok (.aload_n 0, 1) := by decide +kernel
theorem dX16_couldDrop_1 : decode cX16_couldDrop 1 = .ok (.aload_n 0, 1) := by decide +kernel
theorem dX16_couldDrop_2 : decode cX16_couldDrop 2 = .ok (.iload_n 1, 1) := by decide +kernel
theorem dX16_couldDrop_3 : decode cX16_couldDrop 3 = .ok (.invokevirtual 120, 3) := by decide +kernel
theorem dX16_couldDrop_6 : decode cX16_couldDrop 6 = .ok (.ifCond .ne 14, 3) := by decide +kernel
theorem dX16_couldDrop_9 : decode cX16_couldDrop 9 = .ok (.aload_n 0, 1) := by decide +kernel
theorem dX16_couldDrop_10 : decode cX16_couldDrop 10 = .ok (.getfield 10, 3) := by decide +kernel
theorem dX16_couldDrop_13 : decode cX16_couldDrop 13 = .ok (.iload_n 2, 1) := by decide +kernel
theorem dX16_couldDrop_14 : decode cX16_couldDrop 14 = .ok (.invokevirtual 166, 3) := by decide +kernel
theorem dX16_couldDrop_17 : decode cX16_couldDrop 17 = .ok (.ifCond .ne 7, 3) := by decide +kernel
theorem dX16_couldDrop_20 : decode cX16_couldDrop 20 = .ok (.iconst 1, 1) := by decide +kernel
theorem dX16_couldDrop_21 : decode cX16_couldDrop 21 = .ok (.goto 4, 3) := by decide +kernel
theorem dX16_couldDrop_24 : decode cX16_couldDrop 24 = .ok (.iconst 0, 1) := by decide +kernel
theorem dX16_couldDrop_25 : decode cX16_couldDrop 25 = .ok (.iconst 1, 1) := by decide +kernel
theorem dX16_couldDrop_26 : decode cX16_couldDrop 26 = .ok (.invokevirtual 33, 3) := by decide +kernel
theorem dX16_couldDrop_29 : decode cX16_couldDrop 29 = .ok (.ifCond .eq 5, 3) := by decide +kernel
theorem dX16_couldDrop_32 : decode cX16_couldDrop 32 = .ok (.iconst 0, 1) := by decide +kernel
theorem dX16_couldDrop_33 : decode cX16_couldDrop 33 = .ok (.ireturn, 1) := by decide +kernel
theorem dX16_couldDrop_34 : decode cX16_couldDrop 34 = .ok (.aload_n 0, 1) := by decide +kernel
theorem dX16_couldDrop_35 : decode cX16_couldDrop 35 = .ok (.getfield 10, 3) := by decide +kernel
theorem dX16_couldDrop_38 : decode cX16_couldDrop 38 = .ok (.invokevirtual 207, 3) := by decide +kernel
theorem dX16_couldDrop_41 : decode cX16_couldDrop 41 = .ok (.astore_n 3, 1) := by decide +kernel
theorem dX16_couldDrop_42 : decode cX16_couldDrop 42 = .ok (.aload_n 3, 1) := by decide +kernel
theorem dX16_couldDrop_43 : decode cX16_couldDrop 43 = .ok (.getfield 64, 3) := by decide +kernel
theorem dX16_couldDrop_46 : decode cX16_couldDrop 46 = .ok (.iload_n 1, 1) := by decide +kernel
theorem dX16_couldDrop_47 : decode cX16_couldDrop 47 = .ok (.new 59, 3) := by decide +kernel
theorem dX16_couldDrop_50 : decode cX16_couldDrop 50 = .ok (.dup, 1) := by decide +kernel
theorem dX16_couldDrop_51 : decode cX16_couldDrop 51 = .ok (.bipush 7, 2) := by decide +kernel
theorem dX16_couldDrop_53 : decode cX16_couldDrop 53 = .ok (.iload_n 2, 1) := by decide +kernel
theorem dX16_couldDrop_54 : decode cX16_couldDrop 54 = .ok (.iconst 0, 1) := by decide +kernel
theorem dX16_couldDrop_55 : decode cX16_couldDrop 55 = .ok (.invokespecial 61, 3) := by decide +kernel
theorem dX16_couldDrop_58 : decode cX16_couldDrop 58 = .ok (.invokevirtual 254, 3) := by decide +kernel
theorem dX16_couldDrop_61 : decode cX16_couldDrop 61 = .ok (.new 24, 3) := by decide +kernel
theorem dX16_couldDrop_64 : decode cX16_couldDrop 64 = .ok (.dup, 1) := by decide +kernel
theorem dX16_couldDrop_65 : decode cX16_couldDrop 65 = .ok (.aload_n 3, 1) := by decide +kernel
theorem dX16_couldDrop_66 : decode cX16_couldDrop 66 = .ok (.invokespecial 26, 3) := by decide +kernel
theorem dX16_couldDrop_69 : decode cX16_couldDrop 69 = .ok (.astore 4, 2) := by decide +kernel
theorem dX16_couldDrop_71 : decode cX16_couldDrop 71 = .ok (.aload 4, 2) := by decide +kernel
theorem dX16_couldDrop_73 : decode cX16_couldDrop 73 = .ok (.invokevirtual 101, 3) := by decide +kernel
theorem dX16_couldDrop_76 : decode cX16_couldDrop 76 = .ok (.ifCond .eq 51, 3) := by decide +kernel
theorem dX16_couldDrop_79 : decode cX16_couldDrop 79 = .ok (.aload 4, 2) := by decide +kernel
theorem dX16_couldDrop_81 : decode cX16_couldDrop 81 = .ok (.invokevirtual 156, 3) := by decide +kernel
theorem dX16_couldDrop_84 : decode cX16_couldDrop 84 = .ok (.invokevirtual 183, 3) := by decide +kernel
theorem dX16_couldDrop_87 : decode cX16_couldDrop 87 = .ok (.astore 5, 2) := by decide +kernel
theorem dX16_couldDrop_89 : decode cX16_couldDrop 89 = .ok (.aload 5, 2) := by decide +kernel
theorem dX16_couldDrop_91 : decode cX16_couldDrop 91 = .ok (.invokeinterface 187 1, 5) := by decide +kernel
theorem dX16_couldDrop_96 : decode cX16_couldDrop 96 = .ok (.ifCond .eq 31, 3) := by decide +kernel
theorem dX16_couldDrop_99 : decode cX16_couldDrop 99 = .ok (.aload 5, 2) := by decide +kernel
theorem dX16_couldDrop_101 : decode cX16_couldDrop 101 = .ok (.invokeinterface 192 1, 5) := by decide +kernel
theorem dX16_couldDrop_106 : decode cX16_couldDrop 106 = .ok (.checkcast 160, 3) := by decide +kernel
theorem dX16_couldDrop_109 : decode cX16_couldDrop 109 = .ok (.astore 6, 2) := by decide +kernel
theorem dX16_couldDrop_111 : decode cX16_couldDrop 111 = .ok (.aload 6, 2) := by decide +kernel
theorem dX16_couldDrop_113 : decode cX16_couldDrop 113 = .ok (.iconst 1, 1) := by decide +kernel
theorem dX16_couldDrop_114 : decode cX16_couldDrop 114 = .ok (.iaload, 1) := by decide +kernel
theorem dX16_couldDrop_115 : decode cX16_couldDrop 115 = .ok (.iload_n 1, 1) := by decide +kernel
theorem dX16_couldDrop_116 : decode cX16_couldDrop 116 = .ok (.if_icmp .ne 8, 3) := by decide +kernel
theorem dX16_couldDrop_119 : decode cX16_couldDrop 119 = .ok (.aload 6, 2) := by decide +kernel
theorem dX16_couldDrop_121 : decode cX16_couldDrop 121 = .ok (.iconst 0, 1) := by decide +kernel
theorem dX16_couldDrop_122 : decode cX16_couldDrop 122 = .ok (.iaload, 1) := by decide +kernel
theorem dX16_couldDrop_123 : decode cX16_couldDrop 123 = .ok (.ireturn, 1) := by decide +kernel
theorem dX16_couldDrop_124 : decode cX16_couldDrop 124 = .ok (.goto (-35), 3) := by decide +kernel
theorem dX16_couldDrop_127 : decode cX16_couldDrop 127 = .ok (.iconst 0, 1) := by decide +kernel
theorem dX16_couldDrop_128 : decode cX16_couldDrop 128 = .ok (.ireturn, 1) := by decide +kernel
theorem dX16_leakedBy_0 : decode cX16_leakedBy 0 = .ok (.aload_n 0, 1) := by decide +kernel
theorem dX16_leakedBy_1 : decode cX16_leakedBy 1 = .ok (.aload_n 0, 1) := by decide +kernel
theorem dX16_leakedBy_2 : decode cX16_leakedBy 2 = .ok (.iload_n 1, 1) := by decide +kernel
theorem dX16_leakedBy_3 : decode cX16_leakedBy 3 = .ok (.invokevirtual 74, 3) := by decide +kernel
theorem dX16_leakedBy_6 : decode cX16_leakedBy 6 = .ok (.iconst 1, 1) := by decide +kernel
theorem dX16_leakedBy_7 : decode cX16_leakedBy 7 = .ok (.invokevirtual 33, 3) := by decide +kernel
theorem dX16_leakedBy_10 : decode cX16_leakedBy 10 = .ok (.ifCond .eq 7, 3) := by decide +kernel
theorem dX16_leakedBy_13 : decode cX16_leakedBy 13 = .ok (.iconst 0, 1) := by decide +kernel
theorem dX16_leakedBy_14 : decode cX16_leakedBy 14 = .ok (.goto 8, 3) := by decide +kernel
theorem dX16_leakedBy_17 : decode cX16_leakedBy 17 = .ok (.aload_n 0, 1) := by decide +kernel
theorem dX16_leakedBy_18 : decode cX16_leakedBy 18 = .ok (.iload_n 1, 1) := by decide +kernel
theorem dX16_leakedBy_19 : decode cX16_leakedBy 19 = .ok (.invokevirtual 260, 3) := by decide +kernel
theorem dX16_leakedBy_22 : decode cX16_leakedBy 22 = .ok (.ireturn, 1) := by decide +kernel
theorem dX16_outcomeWith_0 : decode cX16_outcomeWith 0 = .ok (.aload_n 0, 1) := by decide +kernel
theorem dX16_outcomeWith_1 : decode cX16_outcomeWith 1 = .ok (.aload_n 0, 1) := by decide +kernel
theorem dX16_outcomeWith_2 : decode cX16_outcomeWith 2 = .ok (.iload_n 1, 1) := by decide +kernel
theorem dX16_outcomeWith_3 : decode cX16_outcomeWith 3 = .ok (.invokevirtual 74, 3) := by decide +kernel
theorem dX16_outcomeWith_6 : decode cX16_outcomeWith 6 = .ok (.ifCond .ne 45, 3) := by decide +kernel
theorem dX16_outcomeWith_9 : decode cX16_outcomeWith 9 = .ok (.aload_n 0, 1) := by decide +kernel
theorem dX16_outcomeWith_10 : decode cX16_outcomeWith 10 = .ok (.getfield 10, 3) := by decide +kernel
theorem dX16_outcomeWith_13 : decode cX16_outcomeWith 13 = .ok (.getfield 64, 3) := by decide +kernel
theorem dX16_outcomeWith_16 : decode cX16_outcomeWith 16 = .ok (.iload_n 1, 1) := by decide +kernel
theorem dX16_outcomeWith_17 : decode cX16_outcomeWith 17 = .ok (.invokevirtual 78, 3) := by decide +kernel
theorem dX16_outcomeWith_20 : decode cX16_outcomeWith 20 = .ok (.checkcast 59, 3) := by decide +kernel
theorem dX16_outcomeWith_23 : decode cX16_outcomeWith 23 = .ok (.getfield 86, 3) := by decide +kernel
theorem dX16_outcomeWith_26 : decode cX16_outcomeWith 26 = .ok (.ifCond .eq 29, 3) := by decide +kernel
theorem dX16_outcomeWith_29 : decode cX16_outcomeWith 29 = .ok (.aload_n 0, 1) := by decide +kernel
theorem dX16_outcomeWith_30 : decode cX16_outcomeWith 30 = .ok (.getfield 10, 3) := by decide +kernel
theorem dX16_outcomeWith_33 : decode cX16_outcomeWith 33 = .ok (.getfield 64, 3) := by decide +kernel
theorem dX16_outcomeWith_36 : decode cX16_outcomeWith 36 = .ok (.iload_n 1, 1) := by decide +kernel
theorem dX16_outcomeWith_37 : decode cX16_outcomeWith 37 = .ok (.invokevirtual 78, 3) := by decide +kernel
theorem dX16_outcomeWith_40 : decode cX16_outcomeWith 40 = .ok (.checkcast 59, 3) := by decide +kernel
theorem dX16_outcomeWith_43 : decode cX16_outcomeWith 43 = .ok (.getfield 86, 3) := by decide +kernel
theorem dX16_outcomeWith_46 : decode cX16_outcomeWith 46 = .ok (.bipush 6, 2) := by decide +kernel
theorem dX16_outcomeWith_48 : decode cX16_outcomeWith 48 = .ok (.if_icmp .eq 7, 3) := by decide +kernel
theorem dX16_outcomeWith_51 : decode cX16_outcomeWith 51 = .ok (.iconst 1, 1) := by decide +kernel
theorem dX16_outcomeWith_52 : decode cX16_outcomeWith 52 = .ok (.goto 4, 3) := by decide +kernel
theorem dX16_outcomeWith_55 : decode cX16_outcomeWith 55 = .ok (.iconst 0, 1) := by decide +kernel
theorem dX16_outcomeWith_56 : decode cX16_outcomeWith 56 = .ok (.iconst 1, 1) := by decide +kernel
theorem dX16_outcomeWith_57 : decode cX16_outcomeWith 57 = .ok (.invokevirtual 33, 3) := by decide +kernel
theorem dX16_outcomeWith_60 : decode cX16_outcomeWith 60 = .ok (.ifCond .ne 27, 3) := by decide +kernel
theorem dX16_outcomeWith_63 : decode cX16_outcomeWith 63 = .ok (.aload_n 0, 1) := by decide +kernel
theorem dX16_outcomeWith_64 : decode cX16_outcomeWith 64 = .ok (.iload_n 2, 1) := by decide +kernel
theorem dX16_outcomeWith_65 : decode cX16_outcomeWith 65 = .ok (.bipush (-99), 2) := by decide +kernel
theorem dX16_outcomeWith_67 : decode cX16_outcomeWith 67 = .ok (.bipush 99, 2) := by decide +kernel
theorem dX16_outcomeWith_69 : decode cX16_outcomeWith 69 = .ok (.invokestatic 29, 3) := by decide +kernel
theorem dX16_outcomeWith_72 : decode cX16_outcomeWith 72 = .ok (.ifCond .ne 7, 3) := by decide +kernel
theorem dX16_outcomeWith_75 : decode cX16_outcomeWith 75 = .ok (.iconst 1, 1) := by decide +kernel
theorem dX16_outcomeWith_76 : decode cX16_outcomeWith 76 = .ok (.goto 4, 3) := by decide +kernel
theorem dX16_outcomeWith_79 : decode cX16_outcomeWith 79 = .ok (.iconst 0, 1) := by decide +kernel
theorem dX16_outcomeWith_80 : decode cX16_outcomeWith 80 = .ok (.iconst 2, 1) := by decide +kernel
theorem dX16_outcomeWith_81 : decode cX16_outcomeWith 81 = .ok (.invokevirtual 20, 3) := by decide +kernel
theorem dX16_outcomeWith_84 : decode cX16_outcomeWith 84 = .ok (.ifCond .eq 5, 3) := by decide +kernel
theorem dX16_outcomeWith_87 : decode cX16_outcomeWith 87 = .ok (.iconst 0, 1) := by decide +kernel
theorem dX16_outcomeWith_88 : decode cX16_outcomeWith 88 = .ok (.ireturn, 1) := by decide +kernel
theorem dX16_outcomeWith_89 : decode cX16_outcomeWith 89 = .ok (.aload_n 0, 1) := by decide +kernel
theorem dX16_outcomeWith_90 : decode cX16_outcomeWith 90 = .ok (.getfield 10, 3) := by decide +kernel
theorem dX16_outcomeWith_93 : decode cX16_outcomeWith 93 = .ok (.invokevirtual 207, 3) := by decide +kernel
theorem dX16_outcomeWith_96 : decode cX16_outcomeWith 96 = .ok (.astore_n 3, 1) := by decide +kernel
theorem dX16_outcomeWith_97 : decode cX16_outcomeWith 97 = .ok (.aload_n 3, 1) := by decide +kernel
theorem dX16_outcomeWith_98 : decode cX16_outcomeWith 98 = .ok (.getfield 64, 3) := by decide +kernel
theorem dX16_outcomeWith_101 : decode cX16_outcomeWith 101 = .ok (.iload_n 1, 1) := by decide +kernel
theorem dX16_outcomeWith_102 : decode cX16_outcomeWith 102 = .ok (.new 59, 3) := by decide +kernel
theorem dX16_outcomeWith_105 : decode cX16_outcomeWith 105 = .ok (.dup, 1) := by decide +kernel
theorem dX16_outcomeWith_106 : decode cX16_outcomeWith 106 = .ok (.aload_n 0, 1) := by decide +kernel
theorem dX16_outcomeWith_107 : decode cX16_outcomeWith 107 = .ok (.getfield 10, 3) := by decide +kernel
theorem dX16_outcomeWith_110 : decode cX16_outcomeWith 110 = .ok (.getfield 64, 3) := by decide +kernel
theorem dX16_outcomeWith_113 : decode cX16_outcomeWith 113 = .ok (.iload_n 1, 1) := by decide +kernel
theorem dX16_outcomeWith_114 : decode cX16_outcomeWith 114 = .ok (.invokevirtual 78, 3) := by decide +kernel
theorem dX16_outcomeWith_117 : decode cX16_outcomeWith 117 = .ok (.checkcast 59, 3) := by decide +kernel
theorem dX16_outcomeWith_120 : decode cX16_outcomeWith 120 = .ok (.getfield 86, 3) := by decide +kernel
theorem dX16_outcomeWith_123 : decode cX16_outcomeWith 123 = .ok (.aload_n 0, 1) := by decide +kernel
theorem dX16_outcomeWith_124 : decode cX16_outcomeWith 124 = .ok (.getfield 10, 3) := by decide +kernel
theorem dX16_outcomeWith_127 : decode cX16_outcomeWith 127 = .ok (.getfield 64, 3) := by decide +kernel
theorem dX16_outcomeWith_130 : decode cX16_outcomeWith 130 = .ok (.iload_n 1, 1) := by decide +kernel
theorem dX16_outcomeWith_131 : decode cX16_outcomeWith 131 = .ok (.invokevirtual 78, 3) := by decide +kernel
theorem dX16_outcomeWith_134 : decode cX16_outcomeWith 134 = .ok (.checkcast 59, 3) := by decide +kernel
theorem dX16_outcomeWith_137 : decode cX16_outcomeWith 137 = .ok (.getfield 95, 3) := by decide +kernel
theorem dX16_outcomeWith_140 : decode cX16_outcomeWith 140 = .ok (.iload_n 2, 1) := by decide +kernel
theorem dX16_outcomeWith_141 : decode cX16_outcomeWith 141 = .ok (.invokespecial 61, 3) := by decide +kernel
theorem dX16_outcomeWith_144 : decode cX16_outcomeWith 144 = .ok (.invokevirtual 82, 3) := by decide +kernel
theorem dX16_outcomeWith_147 : decode cX16_outcomeWith 147 = .ok (.pop, 1) := by decide +kernel
theorem dX16_outcomeWith_148 : decode cX16_outcomeWith 148 = .ok (.new 24, 3) := by decide +kernel
theorem dX16_outcomeWith_151 : decode cX16_outcomeWith 151 = .ok (.dup, 1) := by decide +kernel
theorem dX16_outcomeWith_152 : decode cX16_outcomeWith 152 = .ok (.aload_n 3, 1) := by decide +kernel
theorem dX16_outcomeWith_153 : decode cX16_outcomeWith 153 = .ok (.invokespecial 26, 3) := by decide +kernel
theorem dX16_outcomeWith_156 : decode cX16_outcomeWith 156 = .ok (.astore 4, 2) := by decide +kernel
theorem dX16_outcomeWith_158 : decode cX16_outcomeWith 158 = .ok (.aload 4, 2) := by decide +kernel
theorem dX16_outcomeWith_160 : decode cX16_outcomeWith 160 = .ok (.invokevirtual 156, 3) := by decide +kernel
theorem dX16_outcomeWith_163 : decode cX16_outcomeWith 163 = .ok (.invokevirtual 89, 3) := by decide +kernel
theorem dX16_outcomeWith_166 : decode cX16_outcomeWith 166 = .ok (.ifCond .eq 19, 3) := by decide +kernel
theorem dX16_outcomeWith_169 : decode cX16_outcomeWith 169 = .ok (.new 205, 3) := by decide +kernel
theorem dX16_outcomeWith_172 : decode cX16_outcomeWith 172 = .ok (.dup, 1) := by decide +kernel
theorem dX16_outcomeWith_173 : decode cX16_outcomeWith 173 = .ok (.aload_n 3, 1) := by decide +kernel
theorem dX16_outcomeWith_174 : decode cX16_outcomeWith 174 = .ok (.aload 4, 2) := by decide +kernel
theorem dX16_outcomeWith_176 : decode cX16_outcomeWith 176 = .ok (.invokespecial 211, 3) := by decide +kernel
theorem dX16_outcomeWith_179 : decode cX16_outcomeWith 179 = .ok (.invokevirtual 221, 3) := by decide +kernel
theorem dX16_outcomeWith_182 : decode cX16_outcomeWith 182 = .ok (.goto 4, 3) := by decide +kernel
theorem dX16_outcomeWith_185 : decode cX16_outcomeWith 185 = .ok (.iconst (-1), 1) := by decide +kernel
theorem dX16_outcomeWith_186 : decode cX16_outcomeWith 186 = .ok (.ireturn, 1) := by decide +kernel
theorem dX16_add__0 : decode cX16_add_ 0 = .ok (.lload_n 0, 1) := by decide +kernel
theorem dX16_add__1 : decode cX16_add_ 1 = .ok (.ldc2_w 263, 3) := by decide +kernel
theorem dX16_add__4 : decode cX16_add_ 4 = .ok (.lmul, 1) := by decide +kernel
theorem dX16_add__5 : decode cX16_add_ 5 = .ok (.lload_n 2, 1) := by decide +kernel
theorem dX16_add__6 : decode cX16_add_ 6 = .ok (.ladd, 1) := by decide +kernel
theorem dX16_add__7 : decode cX16_add_ 7 = .ok (.lreturn, 1) := by decide +kernel
theorem dX16_digest_0 : decode cX16_digest 0 = .ok (.aload_n 0, 1) := by decide +kernel
theorem dX16_digest_1 : decode cX16_digest 1 = .ok (.iconst 0, 1) := by decide +kernel
theorem dX16_digest_2 : decode cX16_digest 2 = .ok (.putfield 16, 3) := by decide +kernel
theorem dX16_digest_5 : decode cX16_digest 5 = .ok (.aload_n 0, 1) := by decide +kernel
theorem dX16_digest_6 : decode cX16_digest 6 = .ok (.invokevirtual 112, 3) := by decide +kernel
theorem dX16_digest_9 : decode cX16_digest 9 = .ok (.astore_n 1, 1) := by decide +kernel
theorem dX16_digest_10 : decode cX16_digest 10 = .ok (.ldc2_w 265, 3) := by decide +kernel
theorem dX16_digest_13 : decode cX16_digest 13 = .ok (.lstore_n 2, 1) := by decide +kernel
theorem dX16_digest_14 : decode cX16_digest 14 = .ok (.iconst 0, 1) := by decide +kernel
theorem dX16_digest_15 : decode cX16_digest 15 = .ok (.istore 4, 2) := by decide +kernel
theorem dX16_digest_17 : decode cX16_digest 17 = .ok (.iload 4, 2) := by decide +kernel
theorem dX16_digest_19 : decode cX16_digest 19 = .ok (.bipush 7, 2) := by decide +kernel
theorem dX16_digest_21 : decode cX16_digest 21 = .ok (.if_icmp .ge 22, 3) := by decide +kernel
theorem dX16_digest_24 : decode cX16_digest 24 = .ok (.lload_n 2, 1) := by decide +kernel
theorem dX16_digest_25 : decode cX16_digest 25 = .ok (.aload_n 0, 1) := by decide +kernel
theorem dX16_digest_26 : decode cX16_digest 26 = .ok (.aload_n 1, 1) := by decide +kernel
theorem dX16_digest_27 : decode cX16_digest 27 = .ok (.iload 4, 2) := by decide +kernel
theorem dX16_digest_29 : decode cX16_digest 29 = .ok (.invokevirtual 248, 3) := by decide +kernel
theorem dX16_digest_32 : decode cX16_digest 32 = .ok (.i2l, 1) := by decide +kernel
theorem dX16_digest_33 : decode cX16_digest 33 = .ok (.invokestatic 267, 3) := by decide +kernel
theorem dX16_digest_36 : decode cX16_digest 36 = .ok (.lstore_n 2, 1) := by decide +kernel
theorem dX16_digest_37 : decode cX16_digest 37 = .ok (.iinc 4 1, 3) := by decide +kernel
theorem dX16_digest_40 : decode cX16_digest 40 = .ok (.goto (-23), 3) := by decide +kernel
theorem dX16_digest_43 : decode cX16_digest 43 = .ok (.iconst 0, 1) := by decide +kernel
theorem dX16_digest_44 : decode cX16_digest 44 = .ok (.istore 4, 2) := by decide +kernel
theorem dX16_digest_46 : decode cX16_digest 46 = .ok (.iload 4, 2) := by decide +kernel
theorem dX16_digest_48 : decode cX16_digest 48 = .ok (.aload_n 0, 1) := by decide +kernel
theorem dX16_digest_49 : decode cX16_digest 49 = .ok (.getfield 10, 3) := by decide +kernel
theorem dX16_digest_52 : decode cX16_digest 52 = .ok (.getfield 36, 3) := by decide +kernel
theorem dX16_digest_55 : decode cX16_digest 55 = .ok (.invokevirtual 40, 3) := by decide +kernel
theorem dX16_digest_58 : decode cX16_digest 58 = .ok (.if_icmp .ge 39, 3) := by decide +kernel
theorem dX16_digest_61 : decode cX16_digest 61 = .ok (.iconst 0, 1) := by decide +kernel
theorem dX16_digest_62 : decode cX16_digest 62 = .ok (.istore 5, 2) := by decide +kernel
theorem dX16_digest_64 : decode cX16_digest 64 = .ok (.iload 5, 2) := by decide +kernel
theorem dX16_digest_66 : decode cX16_digest 66 = .ok (.iconst 4, 1) := by decide +kernel
theorem dX16_digest_67 : decode cX16_digest 67 = .ok (.if_icmp .ge 24, 3) := by decide +kernel
theorem dX16_digest_70 : decode cX16_digest 70 = .ok (.lload_n 2, 1) := by decide +kernel
theorem dX16_digest_71 : decode cX16_digest 71 = .ok (.aload_n 0, 1) := by decide +kernel
theorem dX16_digest_72 : decode cX16_digest 72 = .ok (.aload_n 1, 1) := by decide +kernel
theorem dX16_digest_73 : decode cX16_digest 73 = .ok (.iload 4, 2) := by decide +kernel
theorem dX16_digest_75 : decode cX16_digest 75 = .ok (.iload 5, 2) := by decide +kernel
theorem dX16_digest_77 : decode cX16_digest 77 = .ok (.invokevirtual 202, 3) := by decide +kernel
theorem dX16_digest_80 : decode cX16_digest 80 = .ok (.i2l, 1) := by decide +kernel
theorem dX16_digest_81 : decode cX16_digest 81 = .ok (.invokestatic 267, 3) := by decide +kernel
theorem dX16_digest_84 : decode cX16_digest 84 = .ok (.lstore_n 2, 1) := by decide +kernel
theorem dX16_digest_85 : decode cX16_digest 85 = .ok (.iinc 5 1, 3) := by decide +kernel
theorem dX16_digest_88 : decode cX16_digest 88 = .ok (.goto (-24), 3) := by decide +kernel
theorem dX16_digest_91 : decode cX16_digest 91 = .ok (.iinc 4 1, 3) := by decide +kernel
theorem dX16_digest_94 : decode cX16_digest 94 = .ok (.goto (-48), 3) := by decide +kernel
theorem dX16_digest_97 : decode cX16_digest 97 = .ok (.iconst 0, 1) := by decide +kernel
theorem dX16_digest_98 : decode cX16_digest 98 = .ok (.istore 4, 2) := by decide +kernel
theorem dX16_digest_100 : decode cX16_digest 100 = .ok (.iload 4, 2) := by decide +kernel
theorem dX16_digest_102 : decode cX16_digest 102 = .ok (.aload_n 0, 1) := by decide +kernel
theorem dX16_digest_103 : decode cX16_digest 103 = .ok (.getfield 10, 3) := by decide +kernel
theorem dX16_digest_106 : decode cX16_digest 106 = .ok (.getfield 64, 3) := by decide +kernel
theorem dX16_digest_109 : decode cX16_digest 109 = .ok (.invokevirtual 40, 3) := by decide +kernel
theorem dX16_digest_112 : decode cX16_digest 112 = .ok (.if_icmp .ge 157, 3) := by decide +kernel
theorem dX16_digest_115 : decode cX16_digest 115 = .ok (.iconst 3, 1) := by decide +kernel
theorem dX16_digest_116 : decode cX16_digest 116 = .ok (.istore 5, 2) := by decide +kernel
theorem dX16_digest_118 : decode cX16_digest 118 = .ok (.iload 5, 2) := by decide +kernel
theorem dX16_digest_120 : decode cX16_digest 120 = .ok (.bipush 6, 2) := by decide +kernel
theorem dX16_digest_122 : decode cX16_digest 122 = .ok (.if_icmp .ge 24, 3) := by decide +kernel
theorem dX16_digest_125 : decode cX16_digest 125 = .ok (.lload_n 2, 1) := by decide +kernel
theorem dX16_digest_126 : decode cX16_digest 126 = .ok (.aload_n 0, 1) := by decide +kernel
theorem dX16_digest_127 : decode cX16_digest 127 = .ok (.aload_n 1, 1) := by decide +kernel
theorem dX16_digest_128 : decode cX16_digest 128 = .ok (.iload 4, 2) := by decide +kernel
theorem dX16_digest_130 : decode cX16_digest 130 = .ok (.iload 5, 2) := by decide +kernel
theorem dX16_digest_132 : decode cX16_digest 132 = .ok (.invokevirtual 116, 3) := by decide +kernel
theorem dX16_digest_135 : decode cX16_digest 135 = .ok (.i2l, 1) := by decide +kernel
theorem dX16_digest_136 : decode cX16_digest 136 = .ok (.invokestatic 267, 3) := by decide +kernel
theorem dX16_digest_139 : decode cX16_digest 139 = .ok (.lstore_n 2, 1) := by decide +kernel
theorem dX16_digest_140 : decode cX16_digest 140 = .ok (.iinc 5 1, 3) := by decide +kernel
theorem dX16_digest_143 : decode cX16_digest 143 = .ok (.goto (-25), 3) := by decide +kernel
theorem dX16_digest_146 : decode cX16_digest 146 = .ok (.iconst 0, 1) := by decide +kernel
theorem dX16_digest_147 : decode cX16_digest 147 = .ok (.istore 5, 2) := by decide +kernel
theorem dX16_digest_149 : decode cX16_digest 149 = .ok (.iload 5, 2) := by decide +kernel
theorem dX16_digest_151 : decode cX16_digest 151 = .ok (.aload_n 0, 1) := by decide +kernel
theorem dX16_digest_152 : decode cX16_digest 152 = .ok (.getfield 10, 3) := by decide +kernel
theorem dX16_digest_155 : decode cX16_digest 155 = .ok (.getfield 36, 3) := by decide +kernel
theorem dX16_digest_158 : decode cX16_digest 158 = .ok (.invokevirtual 40, 3) := by decide +kernel
theorem dX16_digest_161 : decode cX16_digest 161 = .ok (.if_icmp .ge 90, 3) := by decide +kernel
theorem dX16_digest_164 : decode cX16_digest 164 = .ok (.lload_n 2, 1) := by decide +kernel
theorem dX16_digest_165 : decode cX16_digest 165 = .ok (.aload_n 1, 1) := by decide +kernel
theorem dX16_digest_166 : decode cX16_digest 166 = .ok (.iload 4, 2) := by decide +kernel
theorem dX16_digest_168 : decode cX16_digest 168 = .ok (.iconst 3, 1) := by decide +kernel
theorem dX16_digest_169 : decode cX16_digest 169 = .ok (.iload 5, 2) := by decide +kernel
theorem dX16_digest_171 : decode cX16_digest 171 = .ok (.imul, 1) := by decide +kernel
theorem dX16_digest_172 : decode cX16_digest 172 = .ok (.invokevirtual 127, 3) := by decide +kernel
theorem dX16_digest_175 : decode cX16_digest 175 = .ok (.i2l, 1) := by decide +kernel
theorem dX16_digest_176 : decode cX16_digest 176 = .ok (.invokestatic 267, 3) := by decide +kernel
theorem dX16_digest_179 : decode cX16_digest 179 = .ok (.aload_n 1, 1) := by decide +kernel
theorem dX16_digest_180 : decode cX16_digest 180 = .ok (.iload 4, 2) := by decide +kernel
theorem dX16_digest_182 : decode cX16_digest 182 = .ok (.iconst 3, 1) := by decide +kernel
theorem dX16_digest_183 : decode cX16_digest 183 = .ok (.iload 5, 2) := by decide +kernel
theorem dX16_digest_185 : decode cX16_digest 185 = .ok (.imul, 1) := by decide +kernel
theorem dX16_digest_186 : decode cX16_digest 186 = .ok (.invokevirtual 144, 3) := by decide +kernel
theorem dX16_digest_189 : decode cX16_digest 189 = .ok (.i2l, 1) := by decide +kernel
theorem dX16_digest_190 : decode cX16_digest 190 = .ok (.invokestatic 267, 3) := by decide +kernel
theorem dX16_digest_193 : decode cX16_digest 193 = .ok (.lstore_n 2, 1) := by decide +kernel
theorem dX16_digest_194 : decode cX16_digest 194 = .ok (.aload_n 0, 1) := by decide +kernel
theorem dX16_digest_195 : decode cX16_digest 195 = .ok (.getfield 10, 3) := by decide +kernel
theorem dX16_digest_198 : decode cX16_digest 198 = .ok (.iconst 3, 1) := by decide +kernel
theorem dX16_digest_199 : decode cX16_digest 199 = .ok (.iload 5, 2) := by decide +kernel
theorem dX16_digest_201 : decode cX16_digest 201 = .ok (.imul, 1) := by decide +kernel
theorem dX16_digest_202 : decode cX16_digest 202 = .ok (.invokevirtual 131, 3) := by decide +kernel
theorem dX16_digest_205 : decode cX16_digest 205 = .ok (.ifCond .eq 40, 3) := by decide +kernel
theorem dX16_digest_208 : decode cX16_digest 208 = .ok (.lload_n 2, 1) := by decide +kernel
theorem dX16_digest_209 : decode cX16_digest 209 = .ok (.aload_n 1, 1) := by decide +kernel
theorem dX16_digest_210 : decode cX16_digest 210 = .ok (.getfield 137, 3) := by decide +kernel
theorem dX16_digest_213 : decode cX16_digest 213 = .ok (.iload 4, 2) := by decide +kernel
theorem dX16_digest_215 : decode cX16_digest 215 = .ok (.aaload, 1) := by decide +kernel
theorem dX16_digest_216 : decode cX16_digest 216 = .ok (.iload 5, 2) := by decide +kernel
theorem dX16_digest_218 : decode cX16_digest 218 = .ok (.iaload, 1) := by decide +kernel
theorem dX16_digest_219 : decode cX16_digest 219 = .ok (.i2l, 1) := by decide +kernel
theorem dX16_digest_220 : decode cX16_digest 220 = .ok (.invokestatic 267, 3) := by decide +kernel
theorem dX16_digest_223 : decode cX16_digest 223 = .ok (.aload_n 1, 1) := by decide +kernel
theorem dX16_digest_224 : decode cX16_digest 224 = .ok (.getfield 140, 3) := by decide +kernel
theorem dX16_digest_227 : decode cX16_digest 227 = .ok (.iload 4, 2) := by decide +kernel
theorem dX16_digest_229 : decode cX16_digest 229 = .ok (.aaload, 1) := by decide +kernel
theorem dX16_digest_230 : decode cX16_digest 230 = .ok (.iload 5, 2) := by decide +kernel
theorem dX16_digest_232 : decode cX16_digest 232 = .ok (.baload, 1) := by decide +kernel
theorem dX16_digest_233 : decode cX16_digest 233 = .ok (.ifCond .eq 7, 3) := by decide +kernel
theorem dX16_digest_236 : decode cX16_digest 236 = .ok (.lconst 1, 1) := by decide +kernel
theorem dX16_digest_237 : decode cX16_digest 237 = .ok (.goto 4, 3) := by decide +kernel
theorem dX16_digest_240 : decode cX16_digest 240 = .ok (.lconst 0, 1) := by decide +kernel
theorem dX16_digest_241 : decode cX16_digest 241 = .ok (.invokestatic 267, 3) := by decide +kernel
theorem dX16_digest_244 : decode cX16_digest 244 = .ok (.lstore_n 2, 1) := by decide +kernel
theorem dX16_digest_245 : decode cX16_digest 245 = .ok (.iinc 5 1, 3) := by decide +kernel
theorem dX16_digest_248 : decode cX16_digest 248 = .ok (.goto (-99), 3) := by decide +kernel
theorem dX16_digest_251 : decode cX16_digest 251 = .ok (.lload_n 2, 1) := by decide +kernel
theorem dX16_digest_252 : decode cX16_digest 252 = .ok (.aload_n 0, 1) := by decide +kernel
theorem dX16_digest_253 : decode cX16_digest 253 = .ok (.iload 4, 2) := by decide +kernel
theorem dX16_digest_255 : decode cX16_digest 255 = .ok (.invokevirtual 251, 3) := by decide +kernel
theorem dX16_digest_258 : decode cX16_digest 258 = .ok (.i2l, 1) := by decide +kernel
theorem dX16_digest_259 : decode cX16_digest 259 = .ok (.invokestatic 267, 3) := by decide +kernel
theorem dX16_digest_262 : decode cX16_digest 262 = .ok (.lstore_n 2, 1) := by decide +kernel
theorem dX16_digest_263 : decode cX16_digest 263 = .ok (.iinc 4 1, 3) := by decide +kernel
theorem dX16_digest_266 : decode cX16_digest 266 = .ok (.goto (-166), 3) := by decide +kernel
theorem dX16_digest_269 : decode cX16_digest 269 = .ok (.iconst 0, 1) := by decide +kernel
theorem dX16_digest_270 : decode cX16_digest 270 = .ok (.istore 4, 2) := by decide +kernel
theorem dX16_digest_272 : decode cX16_digest 272 = .ok (.iload 4, 2) := by decide +kernel
theorem dX16_digest_274 : decode cX16_digest 274 = .ok (.aload_n 0, 1) := by decide +kernel
theorem dX16_digest_275 : decode cX16_digest 275 = .ok (.getfield 10, 3) := by decide +kernel
theorem dX16_digest_278 : decode cX16_digest 278 = .ok (.invokevirtual 71, 3) := by decide +kernel
theorem dX16_digest_281 : decode cX16_digest 281 = .ok (.if_icmp .ge 39, 3) := by decide +kernel
theorem dX16_digest_284 : decode cX16_digest 284 = .ok (.iconst 0, 1) := by decide +kernel
theorem dX16_digest_285 : decode cX16_digest 285 = .ok (.istore 5, 2) := by decide +kernel
theorem dX16_digest_287 : decode cX16_digest 287 = .ok (.iload 5, 2) := by decide +kernel
theorem dX16_digest_289 : decode cX16_digest 289 = .ok (.iconst 4, 1) := by decide +kernel
theorem dX16_digest_290 : decode cX16_digest 290 = .ok (.if_icmp .ge 24, 3) := by decide +kernel
theorem dX16_digest_293 : decode cX16_digest 293 = .ok (.lload_n 2, 1) := by decide +kernel
theorem dX16_digest_294 : decode cX16_digest 294 = .ok (.aload_n 0, 1) := by decide +kernel
theorem dX16_digest_295 : decode cX16_digest 295 = .ok (.aload_n 1, 1) := by decide +kernel
theorem dX16_digest_296 : decode cX16_digest 296 = .ok (.iload 4, 2) := by decide +kernel
theorem dX16_digest_298 : decode cX16_digest 298 = .ok (.iload 5, 2) := by decide +kernel
theorem dX16_digest_300 : decode cX16_digest 300 = .ok (.invokevirtual 153, 3) := by decide +kernel
theorem dX16_digest_303 : decode cX16_digest 303 = .ok (.i2l, 1) := by decide +kernel
theorem dX16_digest_304 : decode cX16_digest 304 = .ok (.invokestatic 267, 3) := by decide +kernel
theorem dX16_digest_307 : decode cX16_digest 307 = .ok (.lstore_n 2, 1) := by decide +kernel
theorem dX16_digest_308 : decode cX16_digest 308 = .ok (.iinc 5 1, 3) := by decide +kernel
theorem dX16_digest_311 : decode cX16_digest 311 = .ok (.goto (-24), 3) := by decide +kernel
theorem dX16_digest_314 : decode cX16_digest 314 = .ok (.iinc 4 1, 3) := by decide +kernel
theorem dX16_digest_317 : decode cX16_digest 317 = .ok (.goto (-45), 3) := by decide +kernel
theorem dX16_digest_320 : decode cX16_digest 320 = .ok (.aload_n 1, 1) := by decide +kernel
theorem dX16_digest_321 : decode cX16_digest 321 = .ok (.invokevirtual 156, 3) := by decide +kernel
theorem dX16_digest_324 : decode cX16_digest 324 = .ok (.invokevirtual 183, 3) := by decide +kernel
theorem dX16_digest_327 : decode cX16_digest 327 = .ok (.astore 4, 2) := by decide +kernel
theorem dX16_digest_329 : decode cX16_digest 329 = .ok (.aload 4, 2) := by decide +kernel
theorem dX16_digest_331 : decode cX16_digest 331 = .ok (.invokeinterface 187 1, 5) := by decide +kernel
theorem dX16_digest_336 : decode cX16_digest 336 = .ok (.ifCond .eq 47, 3) := by decide +kernel
theorem dX16_digest_339 : decode cX16_digest 339 = .ok (.aload 4, 2) := by decide +kernel
theorem dX16_digest_341 : decode cX16_digest 341 = .ok (.invokeinterface 192 1, 5) := by decide +kernel
theorem dX16_digest_346 : decode cX16_digest 346 = .ok (.checkcast 160, 3) := by decide +kernel
theorem dX16_digest_349 : decode cX16_digest 349 = .ok (.astore 5, 2) := by decide +kernel
theorem dX16_digest_351 : decode cX16_digest 351 = .ok (.iconst 0, 1) := by decide +kernel
theorem dX16_digest_352 : decode cX16_digest 352 = .ok (.istore 6, 2) := by decide +kernel
theorem dX16_digest_354 : decode cX16_digest 354 = .ok (.iload 6, 2) := by decide +kernel
theorem dX16_digest_356 : decode cX16_digest 356 = .ok (.iconst 5, 1) := by decide +kernel
theorem dX16_digest_357 : decode cX16_digest 357 = .ok (.if_icmp .ge 23, 3) := by decide +kernel
theorem dX16_digest_360 : decode cX16_digest 360 = .ok (.lload_n 2, 1) := by decide +kernel
theorem dX16_digest_361 : decode cX16_digest 361 = .ok (.aload_n 1, 1) := by decide +kernel
theorem dX16_digest_362 : decode cX16_digest 362 = .ok (.aload 5, 2) := by decide +kernel
theorem dX16_digest_364 : decode cX16_digest 364 = .ok (.iload 6, 2) := by decide +kernel
theorem dX16_digest_366 : decode cX16_digest 366 = .ok (.invokestatic 162, 3) := by decide +kernel
theorem dX16_digest_369 : decode cX16_digest 369 = .ok (.i2l, 1) := by decide +kernel
theorem dX16_digest_370 : decode cX16_digest 370 = .ok (.invokestatic 267, 3) := by decide +kernel
theorem dX16_digest_373 : decode cX16_digest 373 = .ok (.lstore_n 2, 1) := by decide +kernel
theorem dX16_digest_374 : decode cX16_digest 374 = .ok (.iinc 6 1, 3) := by decide +kernel
theorem dX16_digest_377 : decode cX16_digest 377 = .ok (.goto (-23), 3) := by decide +kernel
theorem dX16_digest_380 : decode cX16_digest 380 = .ok (.goto (-51), 3) := by decide +kernel
theorem dX16_digest_383 : decode cX16_digest 383 = .ok (.iconst 0, 1) := by decide +kernel
theorem dX16_digest_384 : decode cX16_digest 384 = .ok (.istore 4, 2) := by decide +kernel
theorem dX16_digest_386 : decode cX16_digest 386 = .ok (.iload 4, 2) := by decide +kernel
theorem dX16_digest_388 : decode cX16_digest 388 = .ok (.bipush 10, 2) := by decide +kernel
theorem dX16_digest_390 : decode cX16_digest 390 = .ok (.if_icmp .ge 21, 3) := by decide +kernel
theorem dX16_digest_393 : decode cX16_digest 393 = .ok (.lload_n 2, 1) := by decide +kernel
theorem dX16_digest_394 : decode cX16_digest 394 = .ok (.aload_n 0, 1) := by decide +kernel
theorem dX16_digest_395 : decode cX16_digest 395 = .ok (.iload 4, 2) := by decide +kernel
theorem dX16_digest_397 : decode cX16_digest 397 = .ok (.invokevirtual 226, 3) := by decide +kernel
theorem dX16_digest_400 : decode cX16_digest 400 = .ok (.i2l, 1) := by decide +kernel
theorem dX16_digest_401 : decode cX16_digest 401 = .ok (.invokestatic 267, 3) := by decide +kernel
theorem dX16_digest_404 : decode cX16_digest 404 = .ok (.lstore_n 2, 1) := by decide +kernel
theorem dX16_digest_405 : decode cX16_digest 405 = .ok (.iinc 4 1, 3) := by decide +kernel
theorem dX16_digest_408 : decode cX16_digest 408 = .ok (.goto (-22), 3) := by decide +kernel
theorem dX16_digest_411 : decode cX16_digest 411 = .ok (.iconst 0, 1) := by decide +kernel
theorem dX16_digest_412 : decode cX16_digest 412 = .ok (.istore 4, 2) := by decide +kernel
theorem dX16_digest_414 : decode cX16_digest 414 = .ok (.iload 4, 2) := by decide +kernel
theorem dX16_digest_416 : decode cX16_digest 416 = .ok (.aload_n 0, 1) := by decide +kernel
theorem dX16_digest_417 : decode cX16_digest 417 = .ok (.invokevirtual 236, 3) := by decide +kernel
theorem dX16_digest_420 : decode cX16_digest 420 = .ok (.if_icmp .ge 62, 3) := by decide +kernel
theorem dX16_digest_423 : decode cX16_digest 423 = .ok (.aload_n 0, 1) := by decide +kernel
theorem dX16_digest_424 : decode cX16_digest 424 = .ok (.getfield 214, 3) := by decide +kernel
theorem dX16_digest_427 : decode cX16_digest 427 = .ok (.getfield 229, 3) := by decide +kernel
theorem dX16_digest_430 : decode cX16_digest 430 = .ok (.iload 4, 2) := by decide +kernel
theorem dX16_digest_432 : decode cX16_digest 432 = .ok (.invokevirtual 78, 3) := by decide +kernel
theorem dX16_digest_435 : decode cX16_digest 435 = .ok (.checkcast 160, 3) := by decide +kernel
theorem dX16_digest_438 : decode cX16_digest 438 = .ok (.astore 5, 2) := by decide +kernel
theorem dX16_digest_440 : decode cX16_digest 440 = .ok (.aload 5, 2) := by decide +kernel
theorem dX16_digest_442 : decode cX16_digest 442 = .ok (.arraylength, 1) := by decide +kernel
theorem dX16_digest_443 : decode cX16_digest 443 = .ok (.istore 6, 2) := by decide +kernel
theorem dX16_digest_445 : decode cX16_digest 445 = .ok (.iconst 0, 1) := by decide +kernel
theorem dX16_digest_446 : decode cX16_digest 446 = .ok (.istore 7, 2) := by decide +kernel
theorem dX16_digest_448 : decode cX16_digest 448 = .ok (.iload 7, 2) := by decide +kernel
theorem dX16_digest_450 : decode cX16_digest 450 = .ok (.iload 6, 2) := by decide +kernel
theorem dX16_digest_452 : decode cX16_digest 452 = .ok (.if_icmp .ge 24, 3) := by decide +kernel
theorem dX16_digest_455 : decode cX16_digest 455 = .ok (.aload 5, 2) := by decide +kernel
theorem dX16_digest_457 : decode cX16_digest 457 = .ok (.iload 7, 2) := by decide +kernel
theorem dX16_digest_459 : decode cX16_digest 459 = .ok (.iaload, 1) := by decide +kernel
theorem dX16_digest_460 : decode cX16_digest 460 = .ok (.istore 8, 2) := by decide +kernel
theorem dX16_digest_462 : decode cX16_digest 462 = .ok (.lload_n 2, 1) := by decide +kernel
theorem dX16_digest_463 : decode cX16_digest 463 = .ok (.iload 8, 2) := by decide +kernel
theorem dX16_digest_465 : decode cX16_digest 465 = .ok (.i2l, 1) := by decide +kernel
theorem dX16_digest_466 : decode cX16_digest 466 = .ok (.invokestatic 267, 3) := by decide +kernel
theorem dX16_digest_469 : decode cX16_digest 469 = .ok (.lstore_n 2, 1) := by decide +kernel
theorem dX16_digest_470 : decode cX16_digest 470 = .ok (.iinc 7 1, 3) := by decide +kernel
theorem dX16_digest_473 : decode cX16_digest 473 = .ok (.goto (-25), 3) := by decide +kernel
theorem dX16_digest_476 : decode cX16_digest 476 = .ok (.iinc 4 1, 3) := by decide +kernel
theorem dX16_digest_479 : decode cX16_digest 479 = .ok (.goto (-65), 3) := by decide +kernel
theorem dX16_digest_482 : decode cX16_digest 482 = .ok (.aload_n 0, 1) := by decide +kernel
theorem dX16_digest_483 : decode cX16_digest 483 = .ok (.getfield 10, 3) := by decide +kernel
theorem dX16_digest_486 : decode cX16_digest 486 = .ok (.getfield 64, 3) := by decide +kernel
theorem dX16_digest_489 : decode cX16_digest 489 = .ok (.invokevirtual 89, 3) := by decide +kernel
theorem dX16_digest_492 : decode cX16_digest 492 = .ok (.ifCond .eq 7, 3) := by decide +kernel
theorem dX16_digest_495 : decode cX16_digest 495 = .ok (.lload_n 2, 1) := by decide +kernel
theorem dX16_digest_496 : decode cX16_digest 496 = .ok (.goto 24, 3) := by decide +kernel
theorem dX16_digest_499 : decode cX16_digest 499 = .ok (.lload_n 2, 1) := by decide +kernel
theorem dX16_digest_500 : decode cX16_digest 500 = .ok (.aload_n 0, 1) := by decide +kernel
theorem dX16_digest_501 : decode cX16_digest 501 = .ok (.aload_n 0, 1) := by decide +kernel
theorem dX16_digest_502 : decode cX16_digest 502 = .ok (.getfield 10, 3) := by decide +kernel
theorem dX16_digest_505 : decode cX16_digest 505 = .ok (.getfield 64, 3) := by decide +kernel
theorem dX16_digest_508 : decode cX16_digest 508 = .ok (.invokevirtual 40, 3) := by decide +kernel
theorem dX16_digest_511 : decode cX16_digest 511 = .ok (.iconst 1, 1) := by decide +kernel
theorem dX16_digest_512 : decode cX16_digest 512 = .ok (.isub, 1) := by decide +kernel
theorem dX16_digest_513 : decode cX16_digest 513 = .ok (.invokevirtual 260, 3) := by decide +kernel
theorem dX16_digest_516 : decode cX16_digest 516 = .ok (.i2l, 1) := by decide +kernel
theorem dX16_digest_517 : decode cX16_digest 517 = .ok (.invokestatic 267, 3) := by decide +kernel
theorem dX16_digest_520 : decode cX16_digest 520 = .ok (.lreturn, 1) := by decide +kernel
theorem dJ6_valueOf_2dffe_0 : decode cJ6_valueOf_2dffe 0 = .ok (.iload_n 0, 1) := by decide +kernel
theorem dJ6_valueOf_2dffe_1 : decode cJ6_valueOf_2dffe 1 = .ok (.bipush (-128), 2) := by decide +kernel
theorem dJ6_valueOf_2dffe_3 : decode cJ6_valueOf_2dffe 3 = .ok (.if_icmp .lt 20, 3) := by decide +kernel
theorem dJ6_valueOf_2dffe_6 : decode cJ6_valueOf_2dffe 6 = .ok (.iload_n 0, 1) := by decide +kernel
theorem dJ6_valueOf_2dffe_7 : decode cJ6_valueOf_2dffe 7 = .ok (.getstatic 191, 3) := by decide +kernel
theorem dJ6_valueOf_2dffe_10 : decode cJ6_valueOf_2dffe 10 = .ok (.if_icmp .gt 13, 3) := by decide +kernel
theorem dJ6_valueOf_2dffe_13 : decode cJ6_valueOf_2dffe 13 = .ok (.getstatic 195, 3) := by decide +kernel
theorem dJ6_valueOf_2dffe_16 : decode cJ6_valueOf_2dffe 16 = .ok (.iload_n 0, 1) := by decide +kernel
theorem dJ6_valueOf_2dffe_17 : decode cJ6_valueOf_2dffe 17 = .ok (.sipush 128, 3) := by decide +kernel
theorem dJ6_valueOf_2dffe_20 : decode cJ6_valueOf_2dffe 20 = .ok (.iadd, 1) := by decide +kernel
theorem dJ6_valueOf_2dffe_21 : decode cJ6_valueOf_2dffe 21 = .ok (.aaload, 1) := by decide +kernel
theorem dJ6_valueOf_2dffe_22 : decode cJ6_valueOf_2dffe 22 = .ok (.areturn, 1) := by decide +kernel
theorem dJ6_valueOf_2dffe_23 : decode cJ6_valueOf_2dffe 23 = .ok (.new 1, 3) := by decide +kernel
theorem dJ6_valueOf_2dffe_26 : decode cJ6_valueOf_2dffe 26 = .ok (.dup, 1) := by decide +kernel
theorem dJ6_valueOf_2dffe_27 : decode cJ6_valueOf_2dffe 27 = .ok (.iload_n 0, 1) := by decide +kernel
theorem dJ6_valueOf_2dffe_28 : decode cJ6_valueOf_2dffe 28 = .ok (.invokespecial 199, 3) := by decide +kernel
theorem dJ6_valueOf_2dffe_31 : decode cJ6_valueOf_2dffe 31 = .ok (.areturn, 1) := by decide +kernel
theorem dJxa1e45_init_da8c8_0 : decode cJxa1e45_init_da8c8 0 = .ok (.aload_n 0, 1) := by decide +kernel
theorem dJxa1e45_init_da8c8_1 : decode cJxa1e45_init_da8c8 1 = .ok (.invokespecial 1, 3) := by decide +kernel
theorem dJxa1e45_init_da8c8_4 : decode cJxa1e45_init_da8c8 4 = .ok (.return_, 1) := by decide +kernel
theorem dJxc12de_init_da8c8_0 : decode cJxc12de_init_da8c8 0 = .ok (.aload_n 0, 1) := by decide +kernel
theorem dJxc12de_init_da8c8_1 : decode cJxc12de_init_da8c8 1 = .ok (.invokespecial 1, 3) := by decide +kernel
theorem dJxc12de_init_da8c8_4 : decode cJxc12de_init_da8c8 4 = .ok (.aload_n 0, 1) := by decide +kernel
theorem dJxc12de_init_da8c8_5 : decode cJxc12de_init_da8c8 5 = .ok (.iconst 0, 1) := by decide +kernel
theorem dJxc12de_init_da8c8_6 : decode cJxc12de_init_da8c8 6 = .ok (.putfield 7, 3) := by decide +kernel
theorem dJxc12de_init_da8c8_9 : decode cJxc12de_init_da8c8 9 = .ok (.return_, 1) := by decide +kernel
theorem dJx35411_init_45d68_0 : decode cJx35411_init_45d68 0 = .ok (.aload_n 0, 1) := by decide +kernel
theorem dJx35411_init_45d68_1 : decode cJx35411_init_45d68 1 = .ok (.aload_n 1, 1) := by decide +kernel
theorem dJx35411_init_45d68_2 : decode cJx35411_init_45d68 2 = .ok (.putfield 1, 3) := by decide +kernel
theorem dJx35411_init_45d68_5 : decode cJx35411_init_45d68 5 = .ok (.aload_n 0, 1) := by decide +kernel
theorem dJx35411_init_45d68_6 : decode cJx35411_init_45d68 6 = .ok (.invokespecial 7, 3) := by decide +kernel
theorem dJx35411_init_45d68_9 : decode cJx35411_init_45d68 9 = .ok (.aload_n 0, 1) := by decide +kernel
theorem dJx35411_init_45d68_10 : decode cJx35411_init_45d68 10 = .ok (.iconst (-1), 1) := by decide +kernel
theorem dJx35411_init_45d68_11 : decode cJx35411_init_45d68 11 = .ok (.putfield 13, 3) := by decide +kernel
theorem dJx35411_init_45d68_14 : decode cJx35411_init_45d68 14 = .ok (.aload_n 0, 1) := by decide +kernel
theorem dJx35411_init_45d68_15 : decode cJx35411_init_45d68 15 = .ok (.aload_n 0, 1) := by decide +kernel
theorem dJx35411_init_45d68_16 : decode cJx35411_init_45d68 16 = .ok (.getfield 1, 3) := by decide +kernel
theorem dJx35411_init_45d68_19 : decode cJx35411_init_45d68 19 = .ok (.getfield 17, 3) := by decide +kernel
theorem dJx35411_init_45d68_22 : decode cJx35411_init_45d68 22 = .ok (.putfield 22, 3) := by decide +kernel
theorem dJx35411_init_45d68_25 : decode cJx35411_init_45d68 25 = .ok (.return_, 1) := by decide +kernel
theorem dJx35411_hasNext_aae02_0 : decode cJx35411_hasNext_aae02 0 = .ok (.aload_n 0, 1) := by decide +kernel
theorem dJx35411_hasNext_aae02_1 : decode cJx35411_hasNext_aae02 1 = .ok (.getfield 25, 3) := by decide +kernel
theorem dJx35411_hasNext_aae02_4 : decode cJx35411_hasNext_aae02 4 = .ok (.aload_n 0, 1) := by decide +kernel
theorem dJx35411_hasNext_aae02_5 : decode cJx35411_hasNext_aae02 5 = .ok (.getfield 1, 3) := by decide +kernel
theorem dJx35411_hasNext_aae02_8 : decode cJx35411_hasNext_aae02 8 = .ok (.getfield 28, 3) := by decide +kernel
theorem dJx35411_hasNext_aae02_11 : decode cJx35411_hasNext_aae02 11 = .ok (.if_icmp .eq 7, 3) := by decide +kernel
theorem dJx35411_hasNext_aae02_14 : decode cJx35411_hasNext_aae02 14 = .ok (.iconst 1, 1) := by decide +kernel
theorem dJx35411_hasNext_aae02_15 : decode cJx35411_hasNext_aae02 15 = .ok (.goto 4, 3) := by decide +kernel
theorem dJx35411_hasNext_aae02_18 : decode cJx35411_hasNext_aae02 18 = .ok (.iconst 0, 1) := by decide +kernel
theorem dJx35411_hasNext_aae02_19 : decode cJx35411_hasNext_aae02 19 = .ok (.ireturn, 1) := by decide +kernel
theorem dJx4a65c_init_da8c8_0 : decode cJx4a65c_init_da8c8 0 = .ok (.aload_n 0, 1) := by decide +kernel
theorem dJx4a65c_init_da8c8_1 : decode cJx4a65c_init_da8c8 1 = .ok (.invokespecial 1, 3) := by decide +kernel
theorem dJx4a65c_init_da8c8_4 : decode cJx4a65c_init_da8c8 4 = .ok (.aload_n 0, 1) := by decide +kernel
theorem dJx4a65c_init_da8c8_5 : decode cJx4a65c_init_da8c8 5 = .ok (.getstatic 39, 3) := by decide +kernel
theorem dJx4a65c_init_da8c8_8 : decode cJx4a65c_init_da8c8 8 = .ok (.putfield 9, 3) := by decide +kernel
theorem dJx4a65c_init_da8c8_11 : decode cJx4a65c_init_da8c8 11 = .ok (.return_, 1) := by decide +kernel
theorem dJx4a65c_grow_92f84_0 : decode cJx4a65c_grow_92f84 0 = .ok (.aload_n 0, 1) := by decide +kernel
theorem dJx4a65c_grow_92f84_1 : decode cJx4a65c_grow_92f84 1 = .ok (.getfield 9, 3) := by decide +kernel
theorem dJx4a65c_grow_92f84_4 : decode cJx4a65c_grow_92f84 4 = .ok (.arraylength, 1) := by decide +kernel
theorem dJx4a65c_grow_92f84_5 : decode cJx4a65c_grow_92f84 5 = .ok (.istore_n 2, 1) := by decide +kernel
theorem dJx4a65c_grow_92f84_6 : decode cJx4a65c_grow_92f84 6 = .ok (.iload_n 2, 1) := by decide +kernel
theorem dJx4a65c_grow_92f84_7 : decode cJx4a65c_grow_92f84 7 = .ok (.ifCond .gt 13, 3) := by decide +kernel
theorem dJx4a65c_grow_92f84_10 : decode cJx4a65c_grow_92f84 10 = .ok (.aload_n 0, 1) := by decide +kernel
theorem dJx4a65c_grow_92f84_11 : decode cJx4a65c_grow_92f84 11 = .ok (.getfield 9, 3) := by decide +kernel
theorem dJx4a65c_grow_92f84_14 : decode cJx4a65c_grow_92f84 14 = .ok (.getstatic 39, 3) := by decide +kernel
theorem dJx4a65c_grow_92f84_17 : decode cJx4a65c_grow_92f84 17 = .ok (.if_acmp .eq 28, 3) := by decide +kernel
theorem dJx4a65c_grow_92f84_20 : decode cJx4a65c_grow_92f84 20 = .ok (.iload_n 2, 1) := by decide +kernel
theorem dJx4a65c_grow_92f84_21 : decode cJx4a65c_grow_92f84 21 = .ok (.iload_n 1, 1) := by decide +kernel
theorem dJx4a65c_grow_92f84_22 : decode cJx4a65c_grow_92f84 22 = .ok (.iload_n 2, 1) := by decide +kernel
theorem dJx4a65c_grow_92f84_23 : decode cJx4a65c_grow_92f84 23 = .ok (.isub, 1) := by decide +kernel
theorem dJx4a65c_grow_92f84_24 : decode cJx4a65c_grow_92f84 24 = .ok (.iload_n 2, 1) := by decide +kernel
theorem dJx4a65c_grow_92f84_25 : decode cJx4a65c_grow_92f84 25 = .ok (.iconst 1, 1) := by decide +kernel
theorem dJx4a65c_grow_92f84_26 : decode cJx4a65c_grow_92f84 26 = .ok (.ishr, 1) := by decide +kernel
theorem dJx4a65c_grow_92f84_27 : decode cJx4a65c_grow_92f84 27 = .ok (.invokestatic 73, 3) := by decide +kernel
theorem dJx4a65c_grow_92f84_30 : decode cJx4a65c_grow_92f84 30 = .ok (.istore_n 3, 1) := by decide +kernel
theorem dJx4a65c_grow_92f84_31 : decode cJx4a65c_grow_92f84 31 = .ok (.aload_n 0, 1) := by decide +kernel
theorem dJx4a65c_grow_92f84_32 : decode cJx4a65c_grow_92f84 32 = .ok (.aload_n 0, 1) := by decide +kernel
theorem dJx4a65c_grow_92f84_33 : decode cJx4a65c_grow_92f84 33 = .ok (.getfield 9, 3) := by decide +kernel
theorem dJx4a65c_grow_92f84_36 : decode cJx4a65c_grow_92f84 36 = .ok (.iload_n 3, 1) := by decide +kernel
theorem dJx4a65c_grow_92f84_37 : decode cJx4a65c_grow_92f84 37 = .ok (.invokestatic 66, 3) := by decide +kernel
theorem dJx4a65c_grow_92f84_40 : decode cJx4a65c_grow_92f84 40 = .ok (.dup_x1, 1) := by decide +kernel
theorem dJx4a65c_grow_92f84_41 : decode cJx4a65c_grow_92f84 41 = .ok (.putfield 9, 3) := by decide +kernel
theorem dJx4a65c_grow_92f84_44 : decode cJx4a65c_grow_92f84 44 = .ok (.areturn, 1) := by decide +kernel
theorem dJx4a65c_grow_92f84_45 : decode cJx4a65c_grow_92f84 45 = .ok (.aload_n 0, 1) := by decide +kernel
theorem dJx4a65c_grow_92f84_46 : decode cJx4a65c_grow_92f84 46 = .ok (.bipush 10, 2) := by decide +kernel
theorem dJx4a65c_grow_92f84_48 : decode cJx4a65c_grow_92f84 48 = .ok (.iload_n 1, 1) := by decide +kernel
theorem dJx4a65c_grow_92f84_49 : decode cJx4a65c_grow_92f84 49 = .ok (.invokestatic 79, 3) := by decide +kernel
theorem dJx4a65c_grow_92f84_52 : decode cJx4a65c_grow_92f84 52 = .ok (.anewarray 7, 3) := by decide +kernel
theorem dJx4a65c_grow_92f84_55 : decode cJx4a65c_grow_92f84 55 = .ok (.dup_x1, 1) := by decide +kernel
theorem dJx4a65c_grow_92f84_56 : decode cJx4a65c_grow_92f84 56 = .ok (.putfield 9, 3) := by decide +kernel
theorem dJx4a65c_grow_92f84_59 : decode cJx4a65c_grow_92f84 59 = .ok (.areturn, 1) := by decide +kernel
theorem dJx4a65c_grow_d5877_0 : decode cJx4a65c_grow_d5877 0 = .ok (.aload_n 0, 1) := by decide +kernel
theorem dJx4a65c_grow_d5877_1 : decode cJx4a65c_grow_d5877 1 = .ok (.aload_n 0, 1) := by decide +kernel
theorem dJx4a65c_grow_d5877_2 : decode cJx4a65c_grow_d5877 2 = .ok (.getfield 48, 3) := by decide +kernel
theorem dJx4a65c_grow_d5877_5 : decode cJx4a65c_grow_d5877 5 = .ok (.iconst 1, 1) := by decide +kernel
theorem dJx4a65c_grow_d5877_6 : decode cJx4a65c_grow_d5877 6 = .ok (.iadd, 1) := by decide +kernel
theorem dJx4a65c_grow_d5877_7 : decode cJx4a65c_grow_d5877 7 = .ok (.invokevirtual 69, 3) := by decide +kernel
theorem dJx4a65c_grow_d5877_10 : decode cJx4a65c_grow_d5877 10 = .ok (.areturn, 1) := by decide +kernel
theorem dJx4a65c_size_8abf5_0 : decode cJx4a65c_size_8abf5 0 = .ok (.aload_n 0, 1) := by decide +kernel
theorem dJx4a65c_size_8abf5_1 : decode cJx4a65c_size_8abf5 1 = .ok (.getfield 48, 3) := by decide +kernel
theorem dJx4a65c_size_8abf5_4 : decode cJx4a65c_size_8abf5 4 = .ok (.ireturn, 1) := by decide +kernel
theorem dJx4a65c_isEmpty_aae02_0 : decode cJx4a65c_isEmpty_aae02 0 = .ok (.aload_n 0, 1) := by decide +kernel
theorem dJx4a65c_isEmpty_aae02_1 : decode cJx4a65c_isEmpty_aae02 1 = .ok (.getfield 48, 3) := by decide +kernel
theorem dJx4a65c_isEmpty_aae02_4 : decode cJx4a65c_isEmpty_aae02 4 = .ok (.ifCond .ne 7, 3) := by decide +kernel
theorem dJx4a65c_isEmpty_aae02_7 : decode cJx4a65c_isEmpty_aae02 7 = .ok (.iconst 1, 1) := by decide +kernel
theorem dJx4a65c_isEmpty_aae02_8 : decode cJx4a65c_isEmpty_aae02 8 = .ok (.goto 4, 3) := by decide +kernel
theorem dJx4a65c_isEmpty_aae02_11 : decode cJx4a65c_isEmpty_aae02 11 = .ok (.iconst 0, 1) := by decide +kernel
theorem dJx4a65c_isEmpty_aae02_12 : decode cJx4a65c_isEmpty_aae02 12 = .ok (.ireturn, 1) := by decide +kernel
theorem dJx4a65c_toArray_d5877_0 : decode cJx4a65c_toArray_d5877 0 = .ok (.aload_n 0, 1) := by decide +kernel
theorem dJx4a65c_toArray_d5877_1 : decode cJx4a65c_toArray_d5877 1 = .ok (.getfield 9, 3) := by decide +kernel
theorem dJx4a65c_toArray_d5877_4 : decode cJx4a65c_toArray_d5877 4 = .ok (.aload_n 0, 1) := by decide +kernel
theorem dJx4a65c_toArray_d5877_5 : decode cJx4a65c_toArray_d5877 5 = .ok (.getfield 48, 3) := by decide +kernel
theorem dJx4a65c_toArray_d5877_8 : decode cJx4a65c_toArray_d5877 8 = .ok (.invokestatic 66, 3) := by decide +kernel
theorem dJx4a65c_toArray_d5877_11 : decode cJx4a65c_toArray_d5877 11 = .ok (.areturn, 1) := by decide +kernel
theorem dJx4a65c_add_72be8_0 : decode cJx4a65c_add_72be8 0 = .ok (.iload_n 3, 1) := by decide +kernel
theorem dJx4a65c_add_72be8_1 : decode cJx4a65c_add_72be8 1 = .ok (.aload_n 2, 1) := by decide +kernel
theorem dJx4a65c_add_72be8_2 : decode cJx4a65c_add_72be8 2 = .ok (.arraylength, 1) := by decide +kernel
theorem dJx4a65c_add_72be8_3 : decode cJx4a65c_add_72be8 3 = .ok (.if_icmp .ne 8, 3) := by decide +kernel
theorem dJx4a65c_add_72be8_6 : decode cJx4a65c_add_72be8 6 = .ok (.aload_n 0, 1) := by decide +kernel
theorem dJx4a65c_add_72be8_7 : decode cJx4a65c_add_72be8 7 = .ok (.invokevirtual 129, 3) := by decide +kernel
theorem dJx4a65c_add_72be8_10 : decode cJx4a65c_add_72be8 10 = .ok (.astore_n 2, 1) := by decide +kernel
theorem dJx4a65c_add_72be8_11 : decode cJx4a65c_add_72be8 11 = .ok (.aload_n 2, 1) := by decide +kernel
theorem dJx4a65c_add_72be8_12 : decode cJx4a65c_add_72be8 12 = .ok (.iload_n 3, 1) := by decide +kernel
theorem dJx4a65c_add_72be8_13 : decode cJx4a65c_add_72be8 13 = .ok (.aload_n 1, 1) := by decide +kernel
theorem dJx4a65c_add_72be8_14 : decode cJx4a65c_add_72be8 14 = .ok (.aastore, 1) := by decide +kernel
theorem dJx4a65c_add_72be8_15 : decode cJx4a65c_add_72be8 15 = .ok (.aload_n 0, 1) := by decide +kernel
theorem dJx4a65c_add_72be8_16 : decode cJx4a65c_add_72be8 16 = .ok (.iload_n 3, 1) := by decide +kernel
theorem dJx4a65c_add_72be8_17 : decode cJx4a65c_add_72be8 17 = .ok (.iconst 1, 1) := by decide +kernel
theorem dJx4a65c_add_72be8_18 : decode cJx4a65c_add_72be8 18 = .ok (.iadd, 1) := by decide +kernel
theorem dJx4a65c_add_72be8_19 : decode cJx4a65c_add_72be8 19 = .ok (.putfield 48, 3) := by decide +kernel
theorem dJx4a65c_add_72be8_22 : decode cJx4a65c_add_72be8 22 = .ok (.return_, 1) := by decide +kernel
theorem dJx4a65c_add_9ea2d_0 : decode cJx4a65c_add_9ea2d 0 = .ok (.aload_n 0, 1) := by decide +kernel
theorem dJx4a65c_add_9ea2d_1 : decode cJx4a65c_add_9ea2d 1 = .ok (.dup, 1) := by decide +kernel
theorem dJx4a65c_add_9ea2d_2 : decode cJx4a65c_add_9ea2d 2 = .ok (.getfield 63, 3) := by decide +kernel
theorem dJx4a65c_add_9ea2d_5 : decode cJx4a65c_add_9ea2d 5 = .ok (.iconst 1, 1) := by decide +kernel
theorem dJx4a65c_add_9ea2d_6 : decode cJx4a65c_add_9ea2d 6 = .ok (.iadd, 1) := by decide +kernel
theorem dJx4a65c_add_9ea2d_7 : decode cJx4a65c_add_9ea2d 7 = .ok (.putfield 63, 3) := by decide +kernel
theorem dJx4a65c_add_9ea2d_10 : decode cJx4a65c_add_9ea2d 10 = .ok (.aload_n 0, 1) := by decide +kernel
theorem dJx4a65c_add_9ea2d_11 : decode cJx4a65c_add_9ea2d 11 = .ok (.aload_n 1, 1) := by decide +kernel
theorem dJx4a65c_add_9ea2d_12 : decode cJx4a65c_add_9ea2d 12 = .ok (.aload_n 0, 1) := by decide +kernel
theorem dJx4a65c_add_9ea2d_13 : decode cJx4a65c_add_9ea2d 13 = .ok (.getfield 9, 3) := by decide +kernel
theorem dJx4a65c_add_9ea2d_16 : decode cJx4a65c_add_9ea2d 16 = .ok (.aload_n 0, 1) := by decide +kernel
theorem dJx4a65c_add_9ea2d_17 : decode cJx4a65c_add_9ea2d 17 = .ok (.getfield 48, 3) := by decide +kernel
theorem dJx4a65c_add_9ea2d_20 : decode cJx4a65c_add_9ea2d 20 = .ok (.invokevirtual 131, 3) := by decide +kernel
theorem dJx4a65c_add_9ea2d_23 : decode cJx4a65c_add_9ea2d 23 = .ok (.iconst 1, 1) := by decide +kernel
theorem dJx4a65c_add_9ea2d_24 : decode cJx4a65c_add_9ea2d 24 = .ok (.ireturn, 1) := by decide +kernel
theorem dJx4a65c_addAll_f0b43_0 : decode cJx4a65c_addAll_f0b43 0 = .ok (.aload_n 1, 1) := by decide +kernel
theorem dJx4a65c_addAll_f0b43_1 : decode cJx4a65c_addAll_f0b43 1 = .ok (.invokeinterface 42 1, 5) := by decide +kernel
theorem dJx4a65c_addAll_f0b43_6 : decode cJx4a65c_addAll_f0b43 6 = .ok (.astore_n 2, 1) := by decide +kernel
theorem dJx4a65c_addAll_f0b43_7 : decode cJx4a65c_addAll_f0b43 7 = .ok (.aload_n 0, 1) := by decide +kernel
theorem dJx4a65c_addAll_f0b43_8 : decode cJx4a65c_addAll_f0b43 8 = .ok (.dup, 1) := by decide +kernel
theorem dJx4a65c_addAll_f0b43_9 : decode cJx4a65c_addAll_f0b43 9 = .ok (.getfield 63, 3) := by decide +kernel
theorem dJx4a65c_addAll_f0b43_12 : decode cJx4a65c_addAll_f0b43 12 = .ok (.iconst 1, 1) := by decide +kernel
theorem dJx4a65c_addAll_f0b43_13 : decode cJx4a65c_addAll_f0b43 13 = .ok (.iadd, 1) := by decide +kernel
theorem dJx4a65c_addAll_f0b43_14 : decode cJx4a65c_addAll_f0b43 14 = .ok (.putfield 63, 3) := by decide +kernel
theorem dJx4a65c_addAll_f0b43_17 : decode cJx4a65c_addAll_f0b43 17 = .ok (.aload_n 2, 1) := by decide +kernel
theorem dJx4a65c_addAll_f0b43_18 : decode cJx4a65c_addAll_f0b43 18 = .ok (.arraylength, 1) := by decide +kernel
theorem dJx4a65c_addAll_f0b43_19 : decode cJx4a65c_addAll_f0b43 19 = .ok (.istore_n 3, 1) := by decide +kernel
theorem dJx4a65c_addAll_f0b43_20 : decode cJx4a65c_addAll_f0b43 20 = .ok (.iload_n 3, 1) := by decide +kernel
theorem dJx4a65c_addAll_f0b43_21 : decode cJx4a65c_addAll_f0b43 21 = .ok (.ifCond .ne 5, 3) := by decide +kernel
theorem dJx4a65c_addAll_f0b43_24 : decode cJx4a65c_addAll_f0b43 24 = .ok (.iconst 0, 1) := by decide +kernel
theorem dJx4a65c_addAll_f0b43_25 : decode cJx4a65c_addAll_f0b43 25 = .ok (.ireturn, 1) := by decide +kernel
theorem dJx4a65c_addAll_f0b43_26 : decode cJx4a65c_addAll_f0b43 26 = .ok (.iload_n 3, 1) := by decide +kernel
theorem dJx4a65c_addAll_f0b43_27 : decode cJx4a65c_addAll_f0b43 27 = .ok (.aload_n 0, 1) := by decide +kernel
theorem dJx4a65c_addAll_f0b43_28 : decode cJx4a65c_addAll_f0b43 28 = .ok (.getfield 9, 3) := by decide +kernel
theorem dJx4a65c_addAll_f0b43_31 : decode cJx4a65c_addAll_f0b43 31 = .ok (.dup, 1) := by decide +kernel
theorem dJx4a65c_addAll_f0b43_32 : decode cJx4a65c_addAll_f0b43 32 = .ok (.astore 4, 2) := by decide +kernel
theorem dJx4a65c_addAll_f0b43_34 : decode cJx4a65c_addAll_f0b43 34 = .ok (.arraylength, 1) := by decide +kernel
theorem dJx4a65c_addAll_f0b43_35 : decode cJx4a65c_addAll_f0b43 35 = .ok (.aload_n 0, 1) := by decide +kernel
theorem dJx4a65c_addAll_f0b43_36 : decode cJx4a65c_addAll_f0b43 36 = .ok (.getfield 48, 3) := by decide +kernel
theorem dJx4a65c_addAll_f0b43_39 : decode cJx4a65c_addAll_f0b43 39 = .ok (.dup, 1) := by decide +kernel
theorem dJx4a65c_addAll_f0b43_40 : decode cJx4a65c_addAll_f0b43 40 = .ok (.istore 5, 2) := by decide +kernel
theorem dJx4a65c_addAll_f0b43_42 : decode cJx4a65c_addAll_f0b43 42 = .ok (.isub, 1) := by decide +kernel
theorem dJx4a65c_addAll_f0b43_43 : decode cJx4a65c_addAll_f0b43 43 = .ok (.if_icmp .le 13, 3) := by decide +kernel
theorem dJx4a65c_addAll_f0b43_46 : decode cJx4a65c_addAll_f0b43 46 = .ok (.aload_n 0, 1) := by decide +kernel
theorem dJx4a65c_addAll_f0b43_47 : decode cJx4a65c_addAll_f0b43 47 = .ok (.iload 5, 2) := by decide +kernel
theorem dJx4a65c_addAll_f0b43_49 : decode cJx4a65c_addAll_f0b43 49 = .ok (.iload_n 3, 1) := by decide +kernel
theorem dJx4a65c_addAll_f0b43_50 : decode cJx4a65c_addAll_f0b43 50 = .ok (.iadd, 1) := by decide +kernel
theorem dJx4a65c_addAll_f0b43_51 : decode cJx4a65c_addAll_f0b43 51 = .ok (.invokevirtual 69, 3) := by decide +kernel
theorem dJx4a65c_addAll_f0b43_54 : decode cJx4a65c_addAll_f0b43 54 = .ok (.astore 4, 2) := by decide +kernel
theorem dJx4a65c_addAll_f0b43_56 : decode cJx4a65c_addAll_f0b43 56 = .ok (.aload_n 2, 1) := by decide +kernel
theorem dJx4a65c_addAll_f0b43_57 : decode cJx4a65c_addAll_f0b43 57 = .ok (.iconst 0, 1) := by decide +kernel
theorem dJx4a65c_addAll_f0b43_58 : decode cJx4a65c_addAll_f0b43 58 = .ok (.aload 4, 2) := by decide +kernel
theorem dJx4a65c_addAll_f0b43_60 : decode cJx4a65c_addAll_f0b43 60 = .ok (.iload 5, 2) := by decide +kernel
theorem dJx4a65c_addAll_f0b43_62 : decode cJx4a65c_addAll_f0b43 62 = .ok (.iload_n 3, 1) := by decide +kernel
theorem dJx4a65c_addAll_f0b43_63 : decode cJx4a65c_addAll_f0b43 63 = .ok (.invokestatic 112, 3) := by decide +kernel
theorem dJx4a65c_addAll_f0b43_66 : decode cJx4a65c_addAll_f0b43 66 = .ok (.aload_n 0, 1) := by decide +kernel
theorem dJx4a65c_addAll_f0b43_67 : decode cJx4a65c_addAll_f0b43 67 = .ok (.iload 5, 2) := by decide +kernel
theorem dJx4a65c_addAll_f0b43_69 : decode cJx4a65c_addAll_f0b43 69 = .ok (.iload_n 3, 1) := by decide +kernel
theorem dJx4a65c_addAll_f0b43_70 : decode cJx4a65c_addAll_f0b43 70 = .ok (.iadd, 1) := by decide +kernel
theorem dJx4a65c_addAll_f0b43_71 : decode cJx4a65c_addAll_f0b43 71 = .ok (.putfield 48, 3) := by decide +kernel
theorem dJx4a65c_addAll_f0b43_74 : decode cJx4a65c_addAll_f0b43 74 = .ok (.iconst 1, 1) := by decide +kernel
theorem dJx4a65c_addAll_f0b43_75 : decode cJx4a65c_addAll_f0b43 75 = .ok (.ireturn, 1) := by decide +kernel
theorem dJx4a65c_iterator_32c93_0 : decode cJx4a65c_iterator_32c93 0 = .ok (.new 267, 3) := by decide +kernel
theorem dJx4a65c_iterator_32c93_3 : decode cJx4a65c_iterator_32c93 3 = .ok (.dup, 1) := by decide +kernel
theorem dJx4a65c_iterator_32c93_4 : decode cJx4a65c_iterator_32c93 4 = .ok (.aload_n 0, 1) := by decide +kernel
theorem dJx4a65c_iterator_32c93_5 : decode cJx4a65c_iterator_32c93 5 = .ok (.invokespecial 269, 3) := by decide +kernel
theorem dJx4a65c_iterator_32c93_8 : decode cJx4a65c_iterator_32c93 8 = .ok (.areturn, 1) := by decide +kernel
theorem dJ7_copyOf_1904c_0 : decode cJ7_copyOf_1904c 0 = .ok (.aload_n 0, 1) := by decide +kernel
theorem dJ7_copyOf_1904c_1 : decode cJ7_copyOf_1904c 1 = .ok (.iload_n 1, 1) := by decide +kernel
theorem dJ7_copyOf_1904c_2 : decode cJ7_copyOf_1904c 2 = .ok (.aload_n 0, 1) := by decide +kernel
theorem dJ7_copyOf_1904c_3 : decode cJ7_copyOf_1904c 3 = .ok (.invokevirtual 86, 3) := by decide +kernel
theorem dJ7_copyOf_1904c_6 : decode cJ7_copyOf_1904c 6 = .ok (.invokestatic 300, 3) := by decide +kernel
theorem dJ7_copyOf_1904c_9 : decode cJ7_copyOf_1904c 9 = .ok (.areturn, 1) := by decide +kernel
theorem dJ7_copyOf_6403c_0 : decode cJ7_copyOf_6403c 0 = .ok (.aload_n 2, 1) := by decide +kernel
theorem dJ7_copyOf_6403c_1 : decode cJ7_copyOf_6403c 1 = .ok (.ldc 110, 2) := by decide +kernel
theorem dJ7_copyOf_6403c_3 : decode cJ7_copyOf_6403c 3 = .ok (.if_acmp .ne 10, 3) := by decide +kernel
theorem dJ7_copyOf_6403c_6 : decode cJ7_copyOf_6403c 6 = .ok (.iload_n 1, 1) := by decide +kernel
theorem dJ7_copyOf_6403c_7 : decode cJ7_copyOf_6403c 7 = .ok (.anewarray 2, 3) := by decide +kernel
theorem dJ7_copyOf_6403c_10 : decode cJ7_copyOf_6403c 10 = .ok (.goto 14, 3) := by decide +kernel
theorem dJ7_copyOf_6403c_13 : decode cJ7_copyOf_6403c 13 = .ok (.aload_n 2, 1) := by decide +kernel
theorem dJ7_copyOf_6403c_14 : decode cJ7_copyOf_6403c 14 = .ok (.invokevirtual 90, 3) := by decide +kernel
theorem dJ7_copyOf_6403c_17 : decode cJ7_copyOf_6403c 17 = .ok (.iload_n 1, 1) := by decide +kernel
theorem dJ7_copyOf_6403c_18 : decode cJ7_copyOf_6403c 18 = .ok (.invokestatic 95, 3) := by decide +kernel
theorem dJ7_copyOf_6403c_21 : decode cJ7_copyOf_6403c 21 = .ok (.checkcast 110, 3) := by decide +kernel
theorem dJ7_copyOf_6403c_24 : decode cJ7_copyOf_6403c 24 = .ok (.astore_n 3, 1) := by decide +kernel
theorem dJ7_copyOf_6403c_25 : decode cJ7_copyOf_6403c 25 = .ok (.aload_n 0, 1) := by decide +kernel
theorem dJ7_copyOf_6403c_26 : decode cJ7_copyOf_6403c 26 = .ok (.iconst 0, 1) := by decide +kernel
theorem dJ7_copyOf_6403c_27 : decode cJ7_copyOf_6403c 27 = .ok (.aload_n 3, 1) := by decide +kernel
theorem dJ7_copyOf_6403c_28 : decode cJ7_copyOf_6403c 28 = .ok (.iconst 0, 1) := by decide +kernel
theorem dJ7_copyOf_6403c_29 : decode cJ7_copyOf_6403c 29 = .ok (.aload_n 0, 1) := by decide +kernel
theorem dJ7_copyOf_6403c_30 : decode cJ7_copyOf_6403c 30 = .ok (.arraylength, 1) := by decide +kernel
theorem dJ7_copyOf_6403c_31 : decode cJ7_copyOf_6403c 31 = .ok (.iload_n 1, 1) := by decide +kernel
theorem dJ7_copyOf_6403c_32 : decode cJ7_copyOf_6403c 32 = .ok (.invokestatic 304, 3) := by decide +kernel
theorem dJ7_copyOf_6403c_35 : decode cJ7_copyOf_6403c 35 = .ok (.invokestatic 150, 3) := by decide +kernel
theorem dJ7_copyOf_6403c_38 : decode cJ7_copyOf_6403c 38 = .ok (.aload_n 3, 1) := by decide +kernel
theorem dJ7_copyOf_6403c_39 : decode cJ7_copyOf_6403c 39 = .ok (.areturn, 1) := by decide +kernel
