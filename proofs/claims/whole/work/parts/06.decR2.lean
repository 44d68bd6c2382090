theorem d_R_take_89 : decode b_R_take 89 = .ok (.istore_n 3, 1) := by decide +kernel
theorem d_R_take_90 : decode b_R_take 90 = .ok (.iinc 5 1, 3) := by decide +kernel
theorem d_R_take_93 : decode b_R_take 93 = .ok (.goto (-71), 3) := by decide +kernel
theorem d_R_take_96 : decode b_R_take 96 = .ok (.iload_n 3, 1) := by decide +kernel
theorem d_R_take_97 : decode b_R_take 97 = .ok (.ifCond .eq 45, 3) := by decide +kernel
theorem d_R_take_100 : decode b_R_take 100 = .ok (.aload_n 0, 1) := by decide +kernel
theorem d_R_take_101 : decode b_R_take 101 = .ok (.iconst 1, 1) := by decide +kernel
theorem d_R_take_102 : decode b_R_take 102 = .ok (.putfield 86, 3) := by decide +kernel
theorem d_R_take_105 : decode b_R_take 105 = .ok (.aload_n 0, 1) := by decide +kernel
theorem d_R_take_106 : decode b_R_take 106 = .ok (.lload_n 1, 1) := by decide +kernel
theorem d_R_take_107 : decode b_R_take 107 = .ok (.putfield 90, 3) := by decide +kernel
theorem d_R_take_110 : decode b_R_take 110 = .ok (.iconst 0, 1) := by decide +kernel
theorem d_R_take_111 : decode b_R_take 111 = .ok (.istore 5, 2) := by decide +kernel
theorem d_R_take_113 : decode b_R_take 113 = .ok (.iload 5, 2) := by decide +kernel
theorem d_R_take_115 : decode b_R_take 115 = .ok (.aload_n 0, 1) := by decide +kernel
theorem d_R_take_116 : decode b_R_take 116 = .ok (.getfield 83, 3) := by decide +kernel
theorem d_R_take_119 : decode b_R_take 119 = .ok (.if_icmp .ge 23, 3) := by decide +kernel
theorem d_R_take_122 : decode b_R_take 122 = .ok (.aload_n 0, 1) := by decide +kernel
theorem d_R_take_123 : decode b_R_take 123 = .ok (.getfield 45, 3) := by decide +kernel
theorem d_R_take_126 : decode b_R_take 126 = .ok (.iload 5, 2) := by decide +kernel
theorem d_R_take_128 : decode b_R_take 128 = .ok (.aload_n 0, 1) := by decide +kernel
theorem d_R_take_129 : decode b_R_take 129 = .ok (.getfield 48, 3) := by decide +kernel
theorem d_R_take_132 : decode b_R_take 132 = .ok (.iload 5, 2) := by decide +kernel
theorem d_R_take_134 : decode b_R_take 134 = .ok (.laload, 1) := by decide +kernel
theorem d_R_take_135 : decode b_R_take 135 = .ok (.lastore, 1) := by decide +kernel
theorem d_R_take_136 : decode b_R_take 136 = .ok (.iinc 5 1, 3) := by decide +kernel
theorem d_R_take_139 : decode b_R_take 139 = .ok (.goto (-26), 3) := by decide +kernel
theorem d_R_take_142 : decode b_R_take 142 = .ok (.return_, 1) := by decide +kernel
theorem d_R_between_0 : decode b_R_between 0 = .ok (.aload_n 0, 1) := by decide +kernel
theorem d_R_between_1 : decode b_R_between 1 = .ok (.getfield 13, 3) := by decide +kernel
theorem d_R_between_4 : decode b_R_between 4 = .ok (.aload_n 0, 1) := by decide +kernel
theorem d_R_between_5 : decode b_R_between 5 = .ok (.getfield 26, 3) := by decide +kernel
theorem d_R_between_8 : decode b_R_between 8 = .ok (.iload_n 2, 1) := by decide +kernel
theorem d_R_between_9 : decode b_R_between 9 = .ok (.iaload, 1) := by decide +kernel
theorem d_R_between_10 : decode b_R_between 10 = .ok (.laload, 1) := by decide +kernel
theorem d_R_between_11 : decode b_R_between 11 = .ok (.aload_n 0, 1) := by decide +kernel
theorem d_R_between_12 : decode b_R_between 12 = .ok (.getfield 13, 3) := by decide +kernel
theorem d_R_between_15 : decode b_R_between 15 = .ok (.aload_n 0, 1) := by decide +kernel
theorem d_R_between_16 : decode b_R_between 16 = .ok (.getfield 26, 3) := by decide +kernel
theorem d_R_between_19 : decode b_R_between 19 = .ok (.iload_n 1, 1) := by decide +kernel
theorem d_R_between_20 : decode b_R_between 20 = .ok (.iaload, 1) := by decide +kernel
theorem d_R_between_21 : decode b_R_between 21 = .ok (.laload, 1) := by decide +kernel
theorem d_R_between_22 : decode b_R_between 22 = .ok (.lsub, 1) := by decide +kernel
theorem d_R_between_23 : decode b_R_between 23 = .ok (.lstore 7, 2) := by decide +kernel
theorem d_R_between_25 : decode b_R_between 25 = .ok (.aload_n 0, 1) := by decide +kernel
theorem d_R_between_26 : decode b_R_between 26 = .ok (.getfield 16, 3) := by decide +kernel
theorem d_R_between_29 : decode b_R_between 29 = .ok (.aload_n 0, 1) := by decide +kernel
theorem d_R_between_30 : decode b_R_between 30 = .ok (.getfield 26, 3) := by decide +kernel
theorem d_R_between_33 : decode b_R_between 33 = .ok (.iload_n 2, 1) := by decide +kernel
theorem d_R_between_34 : decode b_R_between 34 = .ok (.iaload, 1) := by decide +kernel
theorem d_R_between_35 : decode b_R_between 35 = .ok (.laload, 1) := by decide +kernel
theorem d_R_between_36 : decode b_R_between 36 = .ok (.aload_n 0, 1) := by decide +kernel
theorem d_R_between_37 : decode b_R_between 37 = .ok (.getfield 16, 3) := by decide +kernel
theorem d_R_between_40 : decode b_R_between 40 = .ok (.aload_n 0, 1) := by decide +kernel
theorem d_R_between_41 : decode b_R_between 41 = .ok (.getfield 26, 3) := by decide +kernel
theorem d_R_between_44 : decode b_R_between 44 = .ok (.iload_n 1, 1) := by decide +kernel
theorem d_R_between_45 : decode b_R_between 45 = .ok (.iaload, 1) := by decide +kernel
theorem d_R_between_46 : decode b_R_between 46 = .ok (.laload, 1) := by decide +kernel
theorem d_R_between_47 : decode b_R_between 47 = .ok (.lsub, 1) := by decide +kernel
theorem d_R_between_48 : decode b_R_between 48 = .ok (.lstore 9, 2) := by decide +kernel
theorem d_R_between_50 : decode b_R_between 50 = .ok (.lload_n 3, 1) := by decide +kernel
theorem d_R_between_51 : decode b_R_between 51 = .ok (.aload_n 0, 1) := by decide +kernel
theorem d_R_between_52 : decode b_R_between 52 = .ok (.getfield 13, 3) := by decide +kernel
theorem d_R_between_55 : decode b_R_between 55 = .ok (.aload_n 0, 1) := by decide +kernel
theorem d_R_between_56 : decode b_R_between 56 = .ok (.getfield 26, 3) := by decide +kernel
theorem d_R_between_59 : decode b_R_between 59 = .ok (.iload_n 1, 1) := by decide +kernel
theorem d_R_between_60 : decode b_R_between 60 = .ok (.iaload, 1) := by decide +kernel
theorem d_R_between_61 : decode b_R_between 61 = .ok (.laload, 1) := by decide +kernel
theorem d_R_between_62 : decode b_R_between 62 = .ok (.lsub, 1) := by decide +kernel
theorem d_R_between_63 : decode b_R_between 63 = .ok (.lstore 11, 2) := by decide +kernel
theorem d_R_between_65 : decode b_R_between 65 = .ok (.lload 5, 2) := by decide +kernel
theorem d_R_between_67 : decode b_R_between 67 = .ok (.aload_n 0, 1) := by decide +kernel
theorem d_R_between_68 : decode b_R_between 68 = .ok (.getfield 16, 3) := by decide +kernel
theorem d_R_between_71 : decode b_R_between 71 = .ok (.aload_n 0, 1) := by decide +kernel
theorem d_R_between_72 : decode b_R_between 72 = .ok (.getfield 26, 3) := by decide +kernel
theorem d_R_between_75 : decode b_R_between 75 = .ok (.iload_n 1, 1) := by decide +kernel
theorem d_R_between_76 : decode b_R_between 76 = .ok (.iaload, 1) := by decide +kernel
theorem d_R_between_77 : decode b_R_between 77 = .ok (.laload, 1) := by decide +kernel
theorem d_R_between_78 : decode b_R_between 78 = .ok (.lsub, 1) := by decide +kernel
theorem d_R_between_79 : decode b_R_between 79 = .ok (.lstore 13, 2) := by decide +kernel
theorem d_R_between_81 : decode b_R_between 81 = .ok (.lload 7, 2) := by decide +kernel
theorem d_R_between_83 : decode b_R_between 83 = .ok (.lconst 0, 1) := by decide +kernel
theorem d_R_between_84 : decode b_R_between 84 = .ok (.lcmp, 1) := by decide +kernel
theorem d_R_between_85 : decode b_R_between 85 = .ok (.ifCond .eq 8, 3) := by decide +kernel
theorem d_R_between_88 : decode b_R_between 88 = .ok (.lload 11, 2) := by decide +kernel
theorem d_R_between_90 : decode b_R_between 90 = .ok (.goto 5, 3) := by decide +kernel
theorem d_R_between_93 : decode b_R_between 93 = .ok (.lload 13, 2) := by decide +kernel
theorem d_R_between_95 : decode b_R_between 95 = .ok (.lstore 15, 2) := by decide +kernel
theorem d_R_between_97 : decode b_R_between 97 = .ok (.lload 7, 2) := by decide +kernel
theorem d_R_between_99 : decode b_R_between 99 = .ok (.lconst 0, 1) := by decide +kernel
theorem d_R_between_100 : decode b_R_between 100 = .ok (.lcmp, 1) := by decide +kernel
theorem d_R_between_101 : decode b_R_between 101 = .ok (.ifCond .eq 8, 3) := by decide +kernel
theorem d_R_between_104 : decode b_R_between 104 = .ok (.lload 7, 2) := by decide +kernel
theorem d_R_between_106 : decode b_R_between 106 = .ok (.goto 5, 3) := by decide +kernel
theorem d_R_between_109 : decode b_R_between 109 = .ok (.lload 9, 2) := by decide +kernel
theorem d_R_between_111 : decode b_R_between 111 = .ok (.lstore 17, 2) := by decide +kernel
theorem d_R_between_113 : decode b_R_between 113 = .ok (.lload 17, 2) := by decide +kernel
theorem d_R_between_115 : decode b_R_between 115 = .ok (.lconst 0, 1) := by decide +kernel
theorem d_R_between_116 : decode b_R_between 116 = .ok (.lcmp, 1) := by decide +kernel
theorem d_R_between_117 : decode b_R_between 117 = .ok (.ifCond .ge 9, 3) := by decide +kernel
theorem d_R_between_120 : decode b_R_between 120 = .ok (.lload 15, 2) := by decide +kernel
theorem d_R_between_122 : decode b_R_between 122 = .ok (.lneg, 1) := by decide +kernel
theorem d_R_between_123 : decode b_R_between 123 = .ok (.goto 5, 3) := by decide +kernel
theorem d_R_between_126 : decode b_R_between 126 = .ok (.lload 15, 2) := by decide +kernel
theorem d_R_between_128 : decode b_R_between 128 = .ok (.lstore 15, 2) := by decide +kernel
theorem d_R_between_130 : decode b_R_between 130 = .ok (.lload 17, 2) := by decide +kernel
theorem d_R_between_132 : decode b_R_between 132 = .ok (.lconst 0, 1) := by decide +kernel
theorem d_R_between_133 : decode b_R_between 133 = .ok (.lcmp, 1) := by decide +kernel
theorem d_R_between_134 : decode b_R_between 134 = .ok (.ifCond .ge 9, 3) := by decide +kernel
theorem d_R_between_137 : decode b_R_between 137 = .ok (.lload 17, 2) := by decide +kernel
theorem d_R_between_139 : decode b_R_between 139 = .ok (.lneg, 1) := by decide +kernel
theorem d_R_between_140 : decode b_R_between 140 = .ok (.goto 5, 3) := by decide +kernel
theorem d_R_between_143 : decode b_R_between 143 = .ok (.lload 17, 2) := by decide +kernel
theorem d_R_between_145 : decode b_R_between 145 = .ok (.lstore 17, 2) := by decide +kernel
theorem d_R_between_147 : decode b_R_between 147 = .ok (.lload 17, 2) := by decide +kernel
theorem d_R_between_149 : decode b_R_between 149 = .ok (.lconst 0, 1) := by decide +kernel
theorem d_R_between_150 : decode b_R_between 150 = .ok (.lcmp, 1) := by decide +kernel
theorem d_R_between_151 : decode b_R_between 151 = .ok (.ifCond .eq 34, 3) := by decide +kernel
theorem d_R_between_154 : decode b_R_between 154 = .ok (.lload 7, 2) := by decide +kernel
theorem d_R_between_156 : decode b_R_between 156 = .ok (.lload 9, 2) := by decide +kernel
theorem d_R_between_158 : decode b_R_between 158 = .ok (.lload 11, 2) := by decide +kernel
theorem d_R_between_160 : decode b_R_between 160 = .ok (.lload 13, 2) := by decide +kernel
theorem d_R_between_162 : decode b_R_between 162 = .ok (.invokestatic 94, 3) := by decide +kernel
theorem d_R_between_165 : decode b_R_between 165 = .ok (.lconst 0, 1) := by decide +kernel
theorem d_R_between_166 : decode b_R_between 166 = .ok (.lcmp, 1) := by decide +kernel
theorem d_R_between_167 : decode b_R_between 167 = .ok (.ifCond .ne 18, 3) := by decide +kernel
theorem d_R_between_170 : decode b_R_between 170 = .ok (.lload 15, 2) := by decide +kernel
theorem d_R_between_172 : decode b_R_between 172 = .ok (.lconst 0, 1) := by decide +kernel
theorem d_R_between_173 : decode b_R_between 173 = .ok (.lcmp, 1) := by decide +kernel
theorem d_R_between_174 : decode b_R_between 174 = .ok (.ifCond .le 11, 3) := by decide +kernel
theorem d_R_between_177 : decode b_R_between 177 = .ok (.lload 15, 2) := by decide +kernel
theorem d_R_between_179 : decode b_R_between 179 = .ok (.lload 17, 2) := by decide +kernel
theorem d_R_between_181 : decode b_R_between 181 = .ok (.lcmp, 1) := by decide +kernel
theorem d_R_between_182 : decode b_R_between 182 = .ok (.ifCond .lt 4, 3) := by decide +kernel
theorem d_R_between_185 : decode b_R_between 185 = .ok (.return_, 1) := by decide +kernel
theorem d_R_between_186 : decode b_R_between 186 = .ok (.aload_n 0, 1) := by decide +kernel
theorem d_R_between_187 : decode b_R_between 187 = .ok (.invokevirtual 98, 3) := by decide +kernel
theorem d_R_between_190 : decode b_R_between 190 = .ok (.aload_n 0, 1) := by decide +kernel
theorem d_R_between_191 : decode b_R_between 191 = .ok (.getfield 48, 3) := by decide +kernel
theorem d_R_between_194 : decode b_R_between 194 = .ok (.iload_n 2, 1) := by decide +kernel
theorem d_R_between_195 : decode b_R_between 195 = .ok (.lload 15, 2) := by decide +kernel
theorem d_R_between_197 : decode b_R_between 197 = .ok (.lastore, 1) := by decide +kernel
theorem d_R_between_198 : decode b_R_between 198 = .ok (.aload_n 0, 1) := by decide +kernel
theorem d_R_between_199 : decode b_R_between 199 = .ok (.getfield 48, 3) := by decide +kernel
theorem d_R_between_202 : decode b_R_between 202 = .ok (.iload_n 1, 1) := by decide +kernel
theorem d_R_between_203 : decode b_R_between 203 = .ok (.lload 17, 2) := by decide +kernel
theorem d_R_between_205 : decode b_R_between 205 = .ok (.lload 15, 2) := by decide +kernel
theorem d_R_between_207 : decode b_R_between 207 = .ok (.lsub, 1) := by decide +kernel
theorem d_R_between_208 : decode b_R_between 208 = .ok (.lastore, 1) := by decide +kernel
theorem d_R_between_209 : decode b_R_between 209 = .ok (.aload_n 0, 1) := by decide +kernel
theorem d_R_between_210 : decode b_R_between 210 = .ok (.lload 17, 2) := by decide +kernel
theorem d_R_between_212 : decode b_R_between 212 = .ok (.invokevirtual 101, 3) := by decide +kernel
theorem d_R_between_215 : decode b_R_between 215 = .ok (.return_, 1) := by decide +kernel
theorem d_R_cross_0 : decode b_R_cross 0 = .ok (.lload_n 0, 1) := by decide +kernel
theorem d_R_cross_1 : decode b_R_cross 1 = .ok (.lload 6, 2) := by decide +kernel
theorem d_R_cross_3 : decode b_R_cross 3 = .ok (.lmul, 1) := by decide +kernel
theorem d_R_cross_4 : decode b_R_cross 4 = .ok (.lload_n 2, 1) := by decide +kernel
theorem d_R_cross_5 : decode b_R_cross 5 = .ok (.lload 4, 2) := by decide +kernel
theorem d_R_cross_7 : decode b_R_cross 7 = .ok (.lmul, 1) := by decide +kernel
theorem d_R_cross_8 : decode b_R_cross 8 = .ok (.lsub, 1) := by decide +kernel
theorem d_R_cross_9 : decode b_R_cross 9 = .ok (.lreturn, 1) := by decide +kernel
theorem d_R_inside_0 : decode b_R_inside 0 = .ok (.aload_n 0, 1) := by decide +kernel
theorem d_R_inside_1 : decode b_R_inside 1 = .ok (.getfield 13, 3) := by decide +kernel
theorem d_R_inside_4 : decode b_R_inside 4 = .ok (.aload_n 0, 1) := by decide +kernel
theorem d_R_inside_5 : decode b_R_inside 5 = .ok (.getfield 26, 3) := by decide +kernel
theorem d_R_inside_8 : decode b_R_inside 8 = .ok (.iload_n 2, 1) := by decide +kernel
theorem d_R_inside_9 : decode b_R_inside 9 = .ok (.iaload, 1) := by decide +kernel
theorem d_R_inside_10 : decode b_R_inside 10 = .ok (.laload, 1) := by decide +kernel
theorem d_R_inside_11 : decode b_R_inside 11 = .ok (.aload_n 0, 1) := by decide +kernel
theorem d_R_inside_12 : decode b_R_inside 12 = .ok (.getfield 13, 3) := by decide +kernel
theorem d_R_inside_15 : decode b_R_inside 15 = .ok (.aload_n 0, 1) := by decide +kernel
theorem d_R_inside_16 : decode b_R_inside 16 = .ok (.getfield 26, 3) := by decide +kernel
theorem d_R_inside_19 : decode b_R_inside 19 = .ok (.iload_n 1, 1) := by decide +kernel
theorem d_R_inside_20 : decode b_R_inside 20 = .ok (.iaload, 1) := by decide +kernel
theorem d_R_inside_21 : decode b_R_inside 21 = .ok (.laload, 1) := by decide +kernel
theorem d_R_inside_22 : decode b_R_inside 22 = .ok (.lsub, 1) := by decide +kernel
theorem d_R_inside_23 : decode b_R_inside 23 = .ok (.lstore 8, 2) := by decide +kernel
theorem d_R_inside_25 : decode b_R_inside 25 = .ok (.aload_n 0, 1) := by decide +kernel
theorem d_R_inside_26 : decode b_R_inside 26 = .ok (.getfield 16, 3) := by decide +kernel
theorem d_R_inside_29 : decode b_R_inside 29 = .ok (.aload_n 0, 1) := by decide +kernel
theorem d_R_inside_30 : decode b_R_inside 30 = .ok (.getfield 26, 3) := by decide +kernel
theorem d_R_inside_33 : decode b_R_inside 33 = .ok (.iload_n 2, 1) := by decide +kernel
theorem d_R_inside_34 : decode b_R_inside 34 = .ok (.iaload, 1) := by decide +kernel
theorem d_R_inside_35 : decode b_R_inside 35 = .ok (.laload, 1) := by decide +kernel
theorem d_R_inside_36 : decode b_R_inside 36 = .ok (.aload_n 0, 1) := by decide +kernel
theorem d_R_inside_37 : decode b_R_inside 37 = .ok (.getfield 16, 3) := by decide +kernel
theorem d_R_inside_40 : decode b_R_inside 40 = .ok (.aload_n 0, 1) := by decide +kernel
theorem d_R_inside_41 : decode b_R_inside 41 = .ok (.getfield 26, 3) := by decide +kernel
theorem d_R_inside_44 : decode b_R_inside 44 = .ok (.iload_n 1, 1) := by decide +kernel
theorem d_R_inside_45 : decode b_R_inside 45 = .ok (.iaload, 1) := by decide +kernel
theorem d_R_inside_46 : decode b_R_inside 46 = .ok (.laload, 1) := by decide +kernel
theorem d_R_inside_47 : decode b_R_inside 47 = .ok (.lsub, 1) := by decide +kernel
theorem d_R_inside_48 : decode b_R_inside 48 = .ok (.lstore 10, 2) := by decide +kernel
theorem d_R_inside_50 : decode b_R_inside 50 = .ok (.aload_n 0, 1) := by decide +kernel
theorem d_R_inside_51 : decode b_R_inside 51 = .ok (.getfield 13, 3) := by decide +kernel
theorem d_R_inside_54 : decode b_R_inside 54 = .ok (.aload_n 0, 1) := by decide +kernel
theorem d_R_inside_55 : decode b_R_inside 55 = .ok (.getfield 26, 3) := by decide +kernel
theorem d_R_inside_58 : decode b_R_inside 58 = .ok (.iload_n 3, 1) := by decide +kernel
theorem d_R_inside_59 : decode b_R_inside 59 = .ok (.iaload, 1) := by decide +kernel
theorem d_R_inside_60 : decode b_R_inside 60 = .ok (.laload, 1) := by decide +kernel
theorem d_R_inside_61 : decode b_R_inside 61 = .ok (.aload_n 0, 1) := by decide +kernel
theorem d_R_inside_62 : decode b_R_inside 62 = .ok (.getfield 13, 3) := by decide +kernel
theorem d_R_inside_65 : decode b_R_inside 65 = .ok (.aload_n 0, 1) := by decide +kernel
theorem d_R_inside_66 : decode b_R_inside 66 = .ok (.getfield 26, 3) := by decide +kernel
theorem d_R_inside_69 : decode b_R_inside 69 = .ok (.iload_n 1, 1) := by decide +kernel
theorem d_R_inside_70 : decode b_R_inside 70 = .ok (.iaload, 1) := by decide +kernel
theorem d_R_inside_71 : decode b_R_inside 71 = .ok (.laload, 1) := by decide +kernel
theorem d_R_inside_72 : decode b_R_inside 72 = .ok (.lsub, 1) := by decide +kernel
theorem d_R_inside_73 : decode b_R_inside 73 = .ok (.lstore 12, 2) := by decide +kernel
theorem d_R_inside_75 : decode b_R_inside 75 = .ok (.aload_n 0, 1) := by decide +kernel
theorem d_R_inside_76 : decode b_R_inside 76 = .ok (.getfield 16, 3) := by decide +kernel
theorem d_R_inside_79 : decode b_R_inside 79 = .ok (.aload_n 0, 1) := by decide +kernel
theorem d_R_inside_80 : decode b_R_inside 80 = .ok (.getfield 26, 3) := by decide +kernel
theorem d_R_inside_83 : decode b_R_inside 83 = .ok (.iload_n 3, 1) := by decide +kernel
theorem d_R_inside_84 : decode b_R_inside 84 = .ok (.iaload, 1) := by decide +kernel
theorem d_R_inside_85 : decode b_R_inside 85 = .ok (.laload, 1) := by decide +kernel
theorem d_R_inside_86 : decode b_R_inside 86 = .ok (.aload_n 0, 1) := by decide +kernel
theorem d_R_inside_87 : decode b_R_inside 87 = .ok (.getfield 16, 3) := by decide +kernel
theorem d_R_inside_90 : decode b_R_inside 90 = .ok (.aload_n 0, 1) := by decide +kernel
theorem d_R_inside_91 : decode b_R_inside 91 = .ok (.getfield 26, 3) := by decide +kernel
theorem d_R_inside_94 : decode b_R_inside 94 = .ok (.iload_n 1, 1) := by decide +kernel
theorem d_R_inside_95 : decode b_R_inside 95 = .ok (.iaload, 1) := by decide +kernel
theorem d_R_inside_96 : decode b_R_inside 96 = .ok (.laload, 1) := by decide +kernel
theorem d_R_inside_97 : decode b_R_inside 97 = .ok (.lsub, 1) := by decide +kernel
theorem d_R_inside_98 : decode b_R_inside 98 = .ok (.lstore 14, 2) := by decide +kernel
theorem d_R_inside_100 : decode b_R_inside 100 = .ok (.lload 4, 2) := by decide +kernel
theorem d_R_inside_102 : decode b_R_inside 102 = .ok (.aload_n 0, 1) := by decide +kernel
theorem d_R_inside_103 : decode b_R_inside 103 = .ok (.getfield 13, 3) := by decide +kernel
theorem d_R_inside_106 : decode b_R_inside 106 = .ok (.aload_n 0, 1) := by decide +kernel
theorem d_R_inside_107 : decode b_R_inside 107 = .ok (.getfield 26, 3) := by decide +kernel
theorem d_R_inside_110 : decode b_R_inside 110 = .ok (.iload_n 1, 1) := by decide +kernel
theorem d_R_inside_111 : decode b_R_inside 111 = .ok (.iaload, 1) := by decide +kernel
theorem d_R_inside_112 : decode b_R_inside 112 = .ok (.laload, 1) := by decide +kernel
theorem d_R_inside_113 : decode b_R_inside 113 = .ok (.lsub, 1) := by decide +kernel
theorem d_R_inside_114 : decode b_R_inside 114 = .ok (.lstore 16, 2) := by decide +kernel
theorem d_R_inside_116 : decode b_R_inside 116 = .ok (.lload 6, 2) := by decide +kernel
theorem d_R_inside_118 : decode b_R_inside 118 = .ok (.aload_n 0, 1) := by decide +kernel
theorem d_R_inside_119 : decode b_R_inside 119 = .ok (.getfield 16, 3) := by decide +kernel
theorem d_R_inside_122 : decode b_R_inside 122 = .ok (.aload_n 0, 1) := by decide +kernel
theorem d_R_inside_123 : decode b_R_inside 123 = .ok (.getfield 26, 3) := by decide +kernel
theorem d_R_inside_126 : decode b_R_inside 126 = .ok (.iload_n 1, 1) := by decide +kernel
theorem d_R_inside_127 : decode b_R_inside 127 = .ok (.iaload, 1) := by decide +kernel
theorem d_R_inside_128 : decode b_R_inside 128 = .ok (.laload, 1) := by decide +kernel
theorem d_R_inside_129 : decode b_R_inside 129 = .ok (.lsub, 1) := by decide +kernel
theorem d_R_inside_130 : decode b_R_inside 130 = .ok (.lstore 18, 2) := by decide +kernel
theorem d_R_inside_132 : decode b_R_inside 132 = .ok (.lload 8, 2) := by decide +kernel
theorem d_R_inside_134 : decode b_R_inside 134 = .ok (.lload 10, 2) := by decide +kernel
theorem d_R_inside_136 : decode b_R_inside 136 = .ok (.lload 12, 2) := by decide +kernel
theorem d_R_inside_138 : decode b_R_inside 138 = .ok (.lload 14, 2) := by decide +kernel
theorem d_R_inside_140 : decode b_R_inside 140 = .ok (.invokestatic 94, 3) := by decide +kernel
theorem d_R_inside_143 : decode b_R_inside 143 = .ok (.lstore 20, 2) := by decide +kernel
theorem d_R_inside_145 : decode b_R_inside 145 = .ok (.lload 16, 2) := by decide +kernel
theorem d_R_inside_147 : decode b_R_inside 147 = .ok (.lload 18, 2) := by decide +kernel
theorem d_R_inside_149 : decode b_R_inside 149 = .ok (.lload 12, 2) := by decide +kernel
theorem d_R_inside_151 : decode b_R_inside 151 = .ok (.lload 14, 2) := by decide +kernel
theorem d_R_inside_153 : decode b_R_inside 153 = .ok (.invokestatic 94, 3) := by decide +kernel
theorem d_R_inside_156 : decode b_R_inside 156 = .ok (.lstore 22, 2) := by decide +kernel
theorem d_R_inside_158 : decode b_R_inside 158 = .ok (.lload 8, 2) := by decide +kernel
theorem d_R_inside_160 : decode b_R_inside 160 = .ok (.lload 10, 2) := by decide +kernel
theorem d_R_inside_162 : decode b_R_inside 162 = .ok (.lload 16, 2) := by decide +kernel
theorem d_R_inside_164 : decode b_R_inside 164 = .ok (.lload 18, 2) := by decide +kernel
theorem d_R_inside_166 : decode b_R_inside 166 = .ok (.invokestatic 94, 3) := by decide +kernel
theorem d_R_inside_169 : decode b_R_inside 169 = .ok (.lstore 24, 2) := by decide +kernel
theorem d_R_inside_171 : decode b_R_inside 171 = .ok (.lload 20, 2) := by decide +kernel
theorem d_R_inside_173 : decode b_R_inside 173 = .ok (.lconst 0, 1) := by decide +kernel
theorem d_R_inside_174 : decode b_R_inside 174 = .ok (.lcmp, 1) := by decide +kernel
theorem d_R_inside_175 : decode b_R_inside 175 = .ok (.ifCond .ge 9, 3) := by decide +kernel
theorem d_R_inside_178 : decode b_R_inside 178 = .ok (.lload 22, 2) := by decide +kernel
theorem d_R_inside_180 : decode b_R_inside 180 = .ok (.lneg, 1) := by decide +kernel
theorem d_R_inside_181 : decode b_R_inside 181 = .ok (.goto 5, 3) := by decide +kernel
theorem d_R_inside_184 : decode b_R_inside 184 = .ok (.lload 22, 2) := by decide +kernel
theorem d_R_inside_186 : decode b_R_inside 186 = .ok (.lstore 22, 2) := by decide +kernel
theorem d_R_inside_188 : decode b_R_inside 188 = .ok (.lload 20, 2) := by decide +kernel
theorem d_R_inside_190 : decode b_R_inside 190 = .ok (.lconst 0, 1) := by decide +kernel
theorem d_R_inside_191 : decode b_R_inside 191 = .ok (.lcmp, 1) := by decide +kernel
theorem d_R_inside_192 : decode b_R_inside 192 = .ok (.ifCond .ge 9, 3) := by decide +kernel
theorem d_R_inside_195 : decode b_R_inside 195 = .ok (.lload 24, 2) := by decide +kernel
theorem d_R_inside_197 : decode b_R_inside 197 = .ok (.lneg, 1) := by decide +kernel
theorem d_R_inside_198 : decode b_R_inside 198 = .ok (.goto 5, 3) := by decide +kernel
theorem d_R_inside_201 : decode b_R_inside 201 = .ok (.lload 24, 2) := by decide +kernel
theorem d_R_inside_203 : decode b_R_inside 203 = .ok (.lstore 24, 2) := by decide +kernel
theorem d_R_inside_205 : decode b_R_inside 205 = .ok (.lload 20, 2) := by decide +kernel
theorem d_R_inside_207 : decode b_R_inside 207 = .ok (.lconst 0, 1) := by decide +kernel
theorem d_R_inside_208 : decode b_R_inside 208 = .ok (.lcmp, 1) := by decide +kernel
theorem d_R_inside_209 : decode b_R_inside 209 = .ok (.ifCond .ge 9, 3) := by decide +kernel
theorem d_R_inside_212 : decode b_R_inside 212 = .ok (.lload 20, 2) := by decide +kernel
theorem d_R_inside_214 : decode b_R_inside 214 = .ok (.lneg, 1) := by decide +kernel
theorem d_R_inside_215 : decode b_R_inside 215 = .ok (.goto 5, 3) := by decide +kernel
theorem d_R_inside_218 : decode b_R_inside 218 = .ok (.lload 20, 2) := by decide +kernel
theorem d_R_inside_220 : decode b_R_inside 220 = .ok (.lstore 20, 2) := by decide +kernel
theorem d_R_inside_222 : decode b_R_inside 222 = .ok (.lload 20, 2) := by decide +kernel
theorem d_R_inside_224 : decode b_R_inside 224 = .ok (.lconst 0, 1) := by decide +kernel
theorem d_R_inside_225 : decode b_R_inside 225 = .ok (.lcmp, 1) := by decide +kernel
theorem d_R_inside_226 : decode b_R_inside 226 = .ok (.ifCond .eq 28, 3) := by decide +kernel
theorem d_R_inside_229 : decode b_R_inside 229 = .ok (.lload 22, 2) := by decide +kernel
theorem d_R_inside_231 : decode b_R_inside 231 = .ok (.lconst 0, 1) := by decide +kernel
theorem d_R_inside_232 : decode b_R_inside 232 = .ok (.lcmp, 1) := by decide +kernel
theorem d_R_inside_233 : decode b_R_inside 233 = .ok (.ifCond .le 21, 3) := by decide +kernel
theorem d_R_inside_236 : decode b_R_inside 236 = .ok (.lload 24, 2) := by decide +kernel
theorem d_R_inside_238 : decode b_R_inside 238 = .ok (.lconst 0, 1) := by decide +kernel
theorem d_R_inside_239 : decode b_R_inside 239 = .ok (.lcmp, 1) := by decide +kernel
theorem d_R_inside_240 : decode b_R_inside 240 = .ok (.ifCond .le 14, 3) := by decide +kernel
theorem d_R_inside_243 : decode b_R_inside 243 = .ok (.lload 22, 2) := by decide +kernel
theorem d_R_inside_245 : decode b_R_inside 245 = .ok (.lload 24, 2) := by decide +kernel
theorem d_R_inside_247 : decode b_R_inside 247 = .ok (.ladd, 1) := by decide +kernel
theorem d_R_inside_248 : decode b_R_inside 248 = .ok (.lload 20, 2) := by decide +kernel
theorem d_R_inside_250 : decode b_R_inside 250 = .ok (.lcmp, 1) := by decide +kernel
theorem d_R_inside_251 : decode b_R_inside 251 = .ok (.ifCond .lt 4, 3) := by decide +kernel
theorem d_R_inside_254 : decode b_R_inside 254 = .ok (.return_, 1) := by decide +kernel
theorem d_R_inside_255 : decode b_R_inside 255 = .ok (.aload_n 0, 1) := by decide +kernel
theorem d_R_inside_256 : decode b_R_inside 256 = .ok (.invokevirtual 98, 3) := by decide +kernel
theorem d_R_inside_259 : decode b_R_inside 259 = .ok (.aload_n 0, 1) := by decide +kernel
theorem d_R_inside_260 : decode b_R_inside 260 = .ok (.getfield 48, 3) := by decide +kernel
theorem d_R_inside_263 : decode b_R_inside 263 = .ok (.iload_n 2, 1) := by decide +kernel
theorem d_R_inside_264 : decode b_R_inside 264 = .ok (.lload 22, 2) := by decide +kernel
theorem d_R_inside_266 : decode b_R_inside 266 = .ok (.lastore, 1) := by decide +kernel
theorem d_R_inside_267 : decode b_R_inside 267 = .ok (.aload_n 0, 1) := by decide +kernel
theorem d_R_inside_268 : decode b_R_inside 268 = .ok (.getfield 48, 3) := by decide +kernel
theorem d_R_inside_271 : decode b_R_inside 271 = .ok (.iload_n 3, 1) := by decide +kernel
theorem d_R_inside_272 : decode b_R_inside 272 = .ok (.lload 24, 2) := by decide +kernel
theorem d_R_inside_274 : decode b_R_inside 274 = .ok (.lastore, 1) := by decide +kernel
theorem d_R_inside_275 : decode b_R_inside 275 = .ok (.aload_n 0, 1) := by decide +kernel
theorem d_R_inside_276 : decode b_R_inside 276 = .ok (.getfield 48, 3) := by decide +kernel
theorem d_R_inside_279 : decode b_R_inside 279 = .ok (.iload_n 1, 1) := by decide +kernel
theorem d_R_inside_280 : decode b_R_inside 280 = .ok (.lload 20, 2) := by decide +kernel
theorem d_R_inside_282 : decode b_R_inside 282 = .ok (.lload 22, 2) := by decide +kernel
theorem d_R_inside_284 : decode b_R_inside 284 = .ok (.lsub, 1) := by decide +kernel
theorem d_R_inside_285 : decode b_R_inside 285 = .ok (.lload 24, 2) := by decide +kernel
theorem d_R_inside_287 : decode b_R_inside 287 = .ok (.lsub, 1) := by decide +kernel
theorem d_R_inside_288 : decode b_R_inside 288 = .ok (.lastore, 1) := by decide +kernel
theorem d_R_inside_289 : decode b_R_inside 289 = .ok (.aload_n 0, 1) := by decide +kernel
theorem d_R_inside_290 : decode b_R_inside 290 = .ok (.lload 20, 2) := by decide +kernel
theorem d_R_inside_292 : decode b_R_inside 292 = .ok (.invokevirtual 101, 3) := by decide +kernel
theorem d_R_inside_295 : decode b_R_inside 295 = .ok (.return_, 1) := by decide +kernel
theorem d_R_share_0 : decode b_R_share 0 = .ok (.aload_n 0, 1) := by decide +kernel
theorem d_R_share_1 : decode b_R_share 1 = .ok (.getfield 86, 3) := by decide +kernel
theorem d_R_share_4 : decode b_R_share 4 = .ok (.ifCond .eq 20, 3) := by decide +kernel
theorem d_R_share_7 : decode b_R_share 7 = .ok (.aload_n 0, 1) := by decide +kernel
theorem d_R_share_8 : decode b_R_share 8 = .ok (.iload_n 1, 1) := by decide +kernel
theorem d_R_share_9 : decode b_R_share 9 = .ok (.invokevirtual 69, 3) := by decide +kernel
theorem d_R_share_12 : decode b_R_share 12 = .ok (.ifCond .eq 12, 3) := by decide +kernel
theorem d_R_share_15 : decode b_R_share 15 = .ok (.iload_n 2, 1) := by decide +kernel
theorem d_R_share_16 : decode b_R_share 16 = .ok (.ifCond .lt 8, 3) := by decide +kernel
theorem d_R_share_19 : decode b_R_share 19 = .ok (.iload_n 2, 1) := by decide +kernel
theorem d_R_share_20 : decode b_R_share 20 = .ok (.iconst 1, 1) := by decide +kernel
theorem d_R_share_21 : decode b_R_share 21 = .ok (.if_icmp .le 7, 3) := by decide +kernel
theorem d_R_share_24 : decode b_R_share 24 = .ok (.ldc2_w 57, 3) := by decide +kernel
theorem d_R_share_27 : decode b_R_share 27 = .ok (.lreturn, 1) := by decide +kernel
theorem d_R_share_28 : decode b_R_share 28 = .ok (.iconst 0, 1) := by decide +kernel
theorem d_R_share_29 : decode b_R_share 29 = .ok (.istore_n 3, 1) := by decide +kernel
theorem d_R_share_30 : decode b_R_share 30 = .ok (.iload_n 3, 1) := by decide +kernel
theorem d_R_share_31 : decode b_R_share 31 = .ok (.aload_n 0, 1) := by decide +kernel
theorem d_R_share_32 : decode b_R_share 32 = .ok (.getfield 113, 3) := by decide +kernel
theorem d_R_share_35 : decode b_R_share 35 = .ok (.if_icmp .ge 34, 3) := by decide +kernel
theorem d_R_share_38 : decode b_R_share 38 = .ok (.aload_n 0, 1) := by decide +kernel
theorem d_R_share_39 : decode b_R_share 39 = .ok (.getfield 42, 3) := by decide +kernel
theorem d_R_share_42 : decode b_R_share 42 = .ok (.iload_n 3, 1) := by decide +kernel
theorem d_R_share_43 : decode b_R_share 43 = .ok (.iaload, 1) := by decide +kernel
theorem d_R_share_44 : decode b_R_share 44 = .ok (.iload_n 1, 1) := by decide +kernel
theorem d_R_share_45 : decode b_R_share 45 = .ok (.if_icmp .ne 18, 3) := by decide +kernel
theorem d_R_share_48 : decode b_R_share 48 = .ok (.aload_n 0, 1) := by decide +kernel
theorem d_R_share_49 : decode b_R_share 49 = .ok (.getfield 45, 3) := by decide +kernel
theorem d_R_share_52 : decode b_R_share 52 = .ok (.iload_n 3, 1) := by decide +kernel
theorem d_R_share_53 : decode b_R_share 53 = .ok (.laload, 1) := by decide +kernel
theorem d_R_share_54 : decode b_R_share 54 = .ok (.aload_n 0, 1) := by decide +kernel
theorem d_R_share_55 : decode b_R_share 55 = .ok (.getfield 90, 3) := by decide +kernel
theorem d_R_share_58 : decode b_R_share 58 = .ok (.iload_n 2, 1) := by decide +kernel
theorem d_R_share_59 : decode b_R_share 59 = .ok (.invokestatic 116, 3) := by decide +kernel
theorem d_R_share_62 : decode b_R_share 62 = .ok (.lreturn, 1) := by decide +kernel
theorem d_R_share_63 : decode b_R_share 63 = .ok (.iinc 3 1, 3) := by decide +kernel
theorem d_R_share_66 : decode b_R_share 66 = .ok (.goto (-36), 3) := by decide +kernel
theorem d_R_share_69 : decode b_R_share 69 = .ok (.iload_n 2, 1) := by decide +kernel
theorem d_R_share_70 : decode b_R_share 70 = .ok (.i2l, 1) := by decide +kernel
theorem d_R_share_71 : decode b_R_share 71 = .ok (.lreturn, 1) := by decide +kernel
theorem d_R_reduced_0 : decode b_R_reduced 0 = .ok (.lload_n 2, 1) := by decide +kernel
theorem d_R_reduced_1 : decode b_R_reduced 1 = .ok (.lstore 5, 2) := by decide +kernel
theorem d_R_reduced_3 : decode b_R_reduced 3 = .ok (.lload_n 0, 1) := by decide +kernel
theorem d_R_reduced_4 : decode b_R_reduced 4 = .ok (.lstore 7, 2) := by decide +kernel
theorem d_R_reduced_6 : decode b_R_reduced 6 = .ok (.lload 7, 2) := by decide +kernel
theorem d_R_reduced_8 : decode b_R_reduced 8 = .ok (.lconst 0, 1) := by decide +kernel
theorem d_R_reduced_9 : decode b_R_reduced 9 = .ok (.lcmp, 1) := by decide +kernel
theorem d_R_reduced_10 : decode b_R_reduced 10 = .ok (.ifCond .le 21, 3) := by decide +kernel
theorem d_R_reduced_13 : decode b_R_reduced 13 = .ok (.lload 5, 2) := by decide +kernel
theorem d_R_reduced_15 : decode b_R_reduced 15 = .ok (.lload 7, 2) := by decide +kernel
theorem d_R_reduced_17 : decode b_R_reduced 17 = .ok (.lrem, 1) := by decide +kernel
theorem d_R_reduced_18 : decode b_R_reduced 18 = .ok (.lstore 9, 2) := by decide +kernel
theorem d_R_reduced_20 : decode b_R_reduced 20 = .ok (.lload 7, 2) := by decide +kernel
theorem d_R_reduced_22 : decode b_R_reduced 22 = .ok (.lstore 5, 2) := by decide +kernel
theorem d_R_reduced_24 : decode b_R_reduced 24 = .ok (.lload 9, 2) := by decide +kernel
theorem d_R_reduced_26 : decode b_R_reduced 26 = .ok (.lstore 7, 2) := by decide +kernel
theorem d_R_reduced_28 : decode b_R_reduced 28 = .ok (.goto (-22), 3) := by decide +kernel
theorem d_R_reduced_31 : decode b_R_reduced 31 = .ok (.iload 4, 2) := by decide +kernel
theorem d_R_reduced_33 : decode b_R_reduced 33 = .ok (.ifCond .ne 10, 3) := by decide +kernel
theorem d_R_reduced_36 : decode b_R_reduced 36 = .ok (.lload_n 0, 1) := by decide +kernel
theorem d_R_reduced_37 : decode b_R_reduced 37 = .ok (.lload 5, 2) := by decide +kernel
theorem d_R_reduced_39 : decode b_R_reduced 39 = .ok (.ldiv, 1) := by decide +kernel
theorem d_R_reduced_40 : decode b_R_reduced 40 = .ok (.goto 7, 3) := by decide +kernel
theorem d_R_reduced_43 : decode b_R_reduced 43 = .ok (.lload_n 2, 1) := by decide +kernel
theorem d_R_reduced_44 : decode b_R_reduced 44 = .ok (.lload 5, 2) := by decide +kernel
theorem d_R_reduced_46 : decode b_R_reduced 46 = .ok (.ldiv, 1) := by decide +kernel
theorem d_R_reduced_47 : decode b_R_reduced 47 = .ok (.lreturn, 1) := by decide +kernel
theorem d_R_yieldOf_0 : decode b_R_yieldOf 0 = .ok (.aload_n 0, 1) := by decide +kernel
theorem d_R_yieldOf_1 : decode b_R_yieldOf 1 = .ok (.iload_n 1, 1) := by decide +kernel
theorem d_R_yieldOf_2 : decode b_R_yieldOf 2 = .ok (.invokevirtual 69, 3) := by decide +kernel
theorem d_R_yieldOf_5 : decode b_R_yieldOf 5 = .ok (.ifCond .eq 21, 3) := by decide +kernel
theorem d_R_yieldOf_8 : decode b_R_yieldOf 8 = .ok (.iload_n 2, 1) := by decide +kernel
theorem d_R_yieldOf_9 : decode b_R_yieldOf 9 = .ok (.ifCond .lt 17, 3) := by decide +kernel
theorem d_R_yieldOf_12 : decode b_R_yieldOf 12 = .ok (.iload_n 2, 1) := by decide +kernel
theorem d_R_yieldOf_13 : decode b_R_yieldOf 13 = .ok (.iconst 2, 1) := by decide +kernel
theorem d_R_yieldOf_14 : decode b_R_yieldOf 14 = .ok (.if_icmp .gt 12, 3) := by decide +kernel
theorem d_R_yieldOf_17 : decode b_R_yieldOf 17 = .ok (.iload_n 3, 1) := by decide +kernel
theorem d_R_yieldOf_18 : decode b_R_yieldOf 18 = .ok (.ifCond .lt 8, 3) := by decide +kernel
theorem d_R_yieldOf_21 : decode b_R_yieldOf 21 = .ok (.iload_n 3, 1) := by decide +kernel
theorem d_R_yieldOf_22 : decode b_R_yieldOf 22 = .ok (.iconst 2, 1) := by decide +kernel
theorem d_R_yieldOf_23 : decode b_R_yieldOf 23 = .ok (.if_icmp .le 7, 3) := by decide +kernel
theorem d_R_yieldOf_26 : decode b_R_yieldOf 26 = .ok (.ldc2_w 57, 3) := by decide +kernel
theorem d_R_yieldOf_29 : decode b_R_yieldOf 29 = .ok (.lreturn, 1) := by decide +kernel
theorem d_R_yieldOf_30 : decode b_R_yieldOf 30 = .ok (.aload_n 0, 1) := by decide +kernel
theorem d_R_yieldOf_31 : decode b_R_yieldOf 31 = .ok (.getfield 9, 3) := by decide +kernel
theorem d_R_yieldOf_34 : decode b_R_yieldOf 34 = .ok (.iload_n 1, 1) := by decide +kernel
theorem d_R_yieldOf_35 : decode b_R_yieldOf 35 = .ok (.laload, 1) := by decide +kernel
theorem d_R_yieldOf_36 : decode b_R_yieldOf 36 = .ok (.lstore 4, 2) := by decide +kernel
theorem d_R_yieldOf_38 : decode b_R_yieldOf 38 = .ok (.aload_n 0, 1) := by decide +kernel
theorem d_R_yieldOf_39 : decode b_R_yieldOf 39 = .ok (.getfield 13, 3) := by decide +kernel
theorem d_R_yieldOf_42 : decode b_R_yieldOf 42 = .ok (.iload_n 1, 1) := by decide +kernel
theorem d_R_yieldOf_43 : decode b_R_yieldOf 43 = .ok (.laload, 1) := by decide +kernel
theorem d_R_yieldOf_44 : decode b_R_yieldOf 44 = .ok (.lstore 6, 2) := by decide +kernel
theorem d_R_yieldOf_46 : decode b_R_yieldOf 46 = .ok (.aload_n 0, 1) := by decide +kernel
theorem d_R_yieldOf_47 : decode b_R_yieldOf 47 = .ok (.getfield 16, 3) := by decide +kernel
theorem d_R_yieldOf_50 : decode b_R_yieldOf 50 = .ok (.iload_n 1, 1) := by decide +kernel
theorem d_R_yieldOf_51 : decode b_R_yieldOf 51 = .ok (.laload, 1) := by decide +kernel
theorem d_R_yieldOf_52 : decode b_R_yieldOf 52 = .ok (.lstore 8, 2) := by decide +kernel
theorem d_R_yieldOf_54 : decode b_R_yieldOf 54 = .ok (.iload_n 2, 1) := by decide +kernel
theorem d_R_yieldOf_55 : decode b_R_yieldOf 55 = .ok (.ifCond .ne 26, 3) := by decide +kernel
theorem d_R_yieldOf_58 : decode b_R_yieldOf 58 = .ok (.lload 4, 2) := by decide +kernel
theorem d_R_yieldOf_60 : decode b_R_yieldOf 60 = .ok (.ldc2_w 120, 3) := by decide +kernel
theorem d_R_yieldOf_63 : decode b_R_yieldOf 63 = .ok (.lload 6, 2) := by decide +kernel
theorem d_R_yieldOf_65 : decode b_R_yieldOf 65 = .ok (.lmul, 1) := by decide +kernel
theorem d_R_yieldOf_66 : decode b_R_yieldOf 66 = .ok (.ldc2_w 122, 3) := by decide +kernel
theorem d_R_yieldOf_69 : decode b_R_yieldOf 69 = .ok (.lload 8, 2) := by decide +kernel
theorem d_R_yieldOf_71 : decode b_R_yieldOf 71 = .ok (.lmul, 1) := by decide +kernel
theorem d_R_yieldOf_72 : decode b_R_yieldOf 72 = .ok (.ladd, 1) := by decide +kernel
theorem d_R_yieldOf_73 : decode b_R_yieldOf 73 = .ok (.lmul, 1) := by decide +kernel
theorem d_R_yieldOf_74 : decode b_R_yieldOf 74 = .ok (.ldc2_w 124, 3) := by decide +kernel
theorem d_R_yieldOf_77 : decode b_R_yieldOf 77 = .ok (.lmul, 1) := by decide +kernel
theorem d_R_yieldOf_78 : decode b_R_yieldOf 78 = .ok (.goto 24, 3) := by decide +kernel
theorem d_R_yieldOf_81 : decode b_R_yieldOf 81 = .ok (.iload_n 2, 1) := by decide +kernel
theorem d_R_yieldOf_82 : decode b_R_yieldOf 82 = .ok (.iconst 1, 1) := by decide +kernel
theorem d_R_yieldOf_83 : decode b_R_yieldOf 83 = .ok (.if_icmp .ne 11, 3) := by decide +kernel
theorem d_R_yieldOf_86 : decode b_R_yieldOf 86 = .ok (.lload 4, 2) := by decide +kernel
theorem d_R_yieldOf_88 : decode b_R_yieldOf 88 = .ok (.lload 6, 2) := by decide +kernel
theorem d_R_yieldOf_90 : decode b_R_yieldOf 90 = .ok (.lmul, 1) := by decide +kernel
theorem d_R_yieldOf_91 : decode b_R_yieldOf 91 = .ok (.goto 11, 3) := by decide +kernel
theorem d_R_yieldOf_94 : decode b_R_yieldOf 94 = .ok (.lload 4, 2) := by decide +kernel
theorem d_R_yieldOf_96 : decode b_R_yieldOf 96 = .ok (.lload 6, 2) := by decide +kernel
theorem d_R_yieldOf_98 : decode b_R_yieldOf 98 = .ok (.lload 8, 2) := by decide +kernel
theorem d_R_yieldOf_100 : decode b_R_yieldOf 100 = .ok (.ladd, 1) := by decide +kernel
theorem d_R_yieldOf_101 : decode b_R_yieldOf 101 = .ok (.lmul, 1) := by decide +kernel
theorem d_R_yieldOf_102 : decode b_R_yieldOf 102 = .ok (.lstore 10, 2) := by decide +kernel
theorem d_R_yieldOf_104 : decode b_R_yieldOf 104 = .ok (.iload_n 2, 1) := by decide +kernel
theorem d_R_yieldOf_105 : decode b_R_yieldOf 105 = .ok (.ifCond .ne 9, 3) := by decide +kernel
theorem d_R_yieldOf_108 : decode b_R_yieldOf 108 = .ok (.ldc2_w 126, 3) := by decide +kernel
theorem d_R_yieldOf_111 : decode b_R_yieldOf 111 = .ok (.goto 17, 3) := by decide +kernel
theorem d_R_yieldOf_114 : decode b_R_yieldOf 114 = .ok (.iload_n 2, 1) := by decide +kernel
theorem d_R_yieldOf_115 : decode b_R_yieldOf 115 = .ok (.iconst 1, 1) := by decide +kernel
theorem d_R_yieldOf_116 : decode b_R_yieldOf 116 = .ok (.if_icmp .ne 9, 3) := by decide +kernel
theorem d_R_yieldOf_119 : decode b_R_yieldOf 119 = .ok (.ldc2_w 128, 3) := by decide +kernel
theorem d_R_yieldOf_122 : decode b_R_yieldOf 122 = .ok (.goto 6, 3) := by decide +kernel
theorem d_R_yieldOf_125 : decode b_R_yieldOf 125 = .ok (.ldc2_w 130, 3) := by decide +kernel
theorem d_R_yieldOf_128 : decode b_R_yieldOf 128 = .ok (.lstore 12, 2) := by decide +kernel
theorem d_R_yieldOf_130 : decode b_R_yieldOf 130 = .ok (.iload_n 3, 1) := by decide +kernel
theorem d_R_yieldOf_131 : decode b_R_yieldOf 131 = .ok (.iconst 2, 1) := by decide +kernel
theorem d_R_yieldOf_132 : decode b_R_yieldOf 132 = .ok (.if_icmp .ge 14, 3) := by decide +kernel
theorem d_R_yieldOf_135 : decode b_R_yieldOf 135 = .ok (.lload 10, 2) := by decide +kernel
theorem d_R_yieldOf_137 : decode b_R_yieldOf 137 = .ok (.lload 12, 2) := by decide +kernel
theorem d_R_yieldOf_139 : decode b_R_yieldOf 139 = .ok (.iload_n 3, 1) := by decide +kernel
theorem d_R_yieldOf_140 : decode b_R_yieldOf 140 = .ok (.invokestatic 116, 3) := by decide +kernel
theorem d_R_yieldOf_143 : decode b_R_yieldOf 143 = .ok (.goto 19, 3) := by decide +kernel
theorem d_R_yieldOf_146 : decode b_R_yieldOf 146 = .ok (.ldc2_w 132, 3) := by decide +kernel
theorem d_R_yieldOf_149 : decode b_R_yieldOf 149 = .ok (.lload 10, 2) := by decide +kernel
theorem d_R_yieldOf_151 : decode b_R_yieldOf 151 = .ok (.lmul, 1) := by decide +kernel
theorem d_R_yieldOf_152 : decode b_R_yieldOf 152 = .ok (.lload 12, 2) := by decide +kernel
theorem d_R_yieldOf_154 : decode b_R_yieldOf 154 = .ok (.ladd, 1) := by decide +kernel
theorem d_R_yieldOf_155 : decode b_R_yieldOf 155 = .ok (.ldc2_w 134, 3) := by decide +kernel
theorem d_R_yieldOf_158 : decode b_R_yieldOf 158 = .ok (.lload 12, 2) := by decide +kernel
theorem d_R_yieldOf_160 : decode b_R_yieldOf 160 = .ok (.lmul, 1) := by decide +kernel
theorem d_R_yieldOf_161 : decode b_R_yieldOf 161 = .ok (.ldiv, 1) := by decide +kernel
theorem d_R_yieldOf_162 : decode b_R_yieldOf 162 = .ok (.lreturn, 1) := by decide +kernel
theorem d_R_loss_0 : decode b_R_loss 0 = .ok (.iload_n 1, 1) := by decide +kernel
theorem d_R_loss_1 : decode b_R_loss 1 = .ok (.ifCond .lt 11, 3) := by decide +kernel
theorem d_R_loss_4 : decode b_R_loss 4 = .ok (.iload_n 1, 1) := by decide +kernel
theorem d_R_loss_5 : decode b_R_loss 5 = .ok (.aload_n 0, 1) := by decide +kernel
theorem d_R_loss_6 : decode b_R_loss 6 = .ok (.getfield 80, 3) := by decide +kernel
theorem d_R_loss_9 : decode b_R_loss 9 = .ok (.if_icmp .lt 9, 3) := by decide +kernel
theorem d_R_loss_12 : decode b_R_loss 12 = .ok (.ldc2_w 57, 3) := by decide +kernel
theorem d_R_loss_15 : decode b_R_loss 15 = .ok (.goto 9, 3) := by decide +kernel
theorem d_R_loss_18 : decode b_R_loss 18 = .ok (.aload_n 0, 1) := by decide +kernel
theorem d_R_loss_19 : decode b_R_loss 19 = .ok (.getfield 23, 3) := by decide +kernel
theorem d_R_loss_22 : decode b_R_loss 22 = .ok (.iload_n 1, 1) := by decide +kernel
theorem d_R_loss_23 : decode b_R_loss 23 = .ok (.laload, 1) := by decide +kernel
theorem d_R_loss_24 : decode b_R_loss 24 = .ok (.lreturn, 1) := by decide +kernel
theorem d_R_penalty_0 : decode b_R_penalty 0 = .ok (.lload_n 1, 1) := by decide +kernel
theorem d_R_penalty_1 : decode b_R_penalty 1 = .ok (.lconst 1, 1) := by decide +kernel
theorem d_R_penalty_2 : decode b_R_penalty 2 = .ok (.lcmp, 1) := by decide +kernel
theorem d_R_penalty_3 : decode b_R_penalty 3 = .ok (.ifCond .lt 34, 3) := by decide +kernel
theorem d_R_penalty_6 : decode b_R_penalty 6 = .ok (.lload_n 1, 1) := by decide +kernel
theorem d_R_penalty_7 : decode b_R_penalty 7 = .ok (.ldc2_w 55, 3) := by decide +kernel
theorem d_R_penalty_10 : decode b_R_penalty 10 = .ok (.lcmp, 1) := by decide +kernel
theorem d_R_penalty_11 : decode b_R_penalty 11 = .ok (.ifCond .gt 26, 3) := by decide +kernel
theorem d_R_penalty_14 : decode b_R_penalty 14 = .ok (.lload_n 3, 1) := by decide +kernel
theorem d_R_penalty_15 : decode b_R_penalty 15 = .ok (.lconst 1, 1) := by decide +kernel
theorem d_R_penalty_16 : decode b_R_penalty 16 = .ok (.lcmp, 1) := by decide +kernel
theorem d_R_penalty_17 : decode b_R_penalty 17 = .ok (.ifCond .lt 20, 3) := by decide +kernel
theorem d_R_penalty_20 : decode b_R_penalty 20 = .ok (.lload_n 3, 1) := by decide +kernel
theorem d_R_penalty_21 : decode b_R_penalty 21 = .ok (.ldc2_w 55, 3) := by decide +kernel
theorem d_R_penalty_24 : decode b_R_penalty 24 = .ok (.lcmp, 1) := by decide +kernel
theorem d_R_penalty_25 : decode b_R_penalty 25 = .ok (.ifCond .gt 12, 3) := by decide +kernel
theorem d_R_penalty_28 : decode b_R_penalty 28 = .ok (.aload_n 0, 1) := by decide +kernel
theorem d_R_penalty_29 : decode b_R_penalty 29 = .ok (.getfield 136, 3) := by decide +kernel
theorem d_R_penalty_32 : decode b_R_penalty 32 = .ok (.bipush 10, 2) := by decide +kernel
theorem d_R_penalty_34 : decode b_R_penalty 34 = .ok (.if_icmp .ne 5, 3) := by decide +kernel
theorem d_R_penalty_37 : decode b_R_penalty 37 = .ok (.iconst 0, 1) := by decide +kernel
theorem d_R_penalty_38 : decode b_R_penalty 38 = .ok (.ireturn, 1) := by decide +kernel
theorem d_R_penalty_39 : decode b_R_penalty 39 = .ok (.aload_n 0, 1) := by decide +kernel
theorem d_R_penalty_40 : decode b_R_penalty 40 = .ok (.getfield 36, 3) := by decide +kernel
theorem d_R_penalty_43 : decode b_R_penalty 43 = .ok (.aload_n 0, 1) := by decide +kernel
theorem d_R_penalty_44 : decode b_R_penalty 44 = .ok (.getfield 136, 3) := by decide +kernel
theorem d_R_penalty_47 : decode b_R_penalty 47 = .ok (.lload_n 1, 1) := by decide +kernel
theorem d_R_penalty_48 : decode b_R_penalty 48 = .ok (.lastore, 1) := by decide +kernel
theorem d_R_penalty_49 : decode b_R_penalty 49 = .ok (.aload_n 0, 1) := by decide +kernel
theorem d_R_penalty_50 : decode b_R_penalty 50 = .ok (.getfield 39, 3) := by decide +kernel
theorem d_R_penalty_53 : decode b_R_penalty 53 = .ok (.aload_n 0, 1) := by decide +kernel
theorem d_R_penalty_54 : decode b_R_penalty 54 = .ok (.getfield 136, 3) := by decide +kernel
theorem d_R_penalty_57 : decode b_R_penalty 57 = .ok (.lload_n 3, 1) := by decide +kernel
theorem d_R_penalty_58 : decode b_R_penalty 58 = .ok (.lastore, 1) := by decide +kernel
theorem d_R_penalty_59 : decode b_R_penalty 59 = .ok (.aload_n 0, 1) := by decide +kernel
theorem d_R_penalty_60 : decode b_R_penalty 60 = .ok (.dup, 1) := by decide +kernel
theorem d_R_penalty_61 : decode b_R_penalty 61 = .ok (.getfield 136, 3) := by decide +kernel
theorem d_R_penalty_64 : decode b_R_penalty 64 = .ok (.iconst 1, 1) := by decide +kernel
theorem d_R_penalty_65 : decode b_R_penalty 65 = .ok (.iadd, 1) := by decide +kernel
theorem d_R_penalty_66 : decode b_R_penalty 66 = .ok (.putfield 136, 3) := by decide +kernel
theorem d_R_penalty_69 : decode b_R_penalty 69 = .ok (.iconst 1, 1) := by decide +kernel
theorem d_R_penalty_70 : decode b_R_penalty 70 = .ok (.ireturn, 1) := by decide +kernel
theorem d_R_pay_0 : decode b_R_pay 0 = .ok (.aload_n 0, 1) := by decide +kernel
theorem d_R_pay_1 : decode b_R_pay 1 = .ok (.iload_n 1, 1) := by decide +kernel
theorem d_R_pay_2 : decode b_R_pay 2 = .ok (.invokevirtual 69, 3) := by decide +kernel
theorem d_R_pay_5 : decode b_R_pay 5 = .ok (.ifCond .ne 7, 3) := by decide +kernel
theorem d_R_pay_8 : decode b_R_pay 8 = .ok (.ldc2_w 57, 3) := by decide +kernel
theorem d_R_pay_11 : decode b_R_pay 11 = .ok (.lreturn, 1) := by decide +kernel
theorem d_R_pay_12 : decode b_R_pay 12 = .ok (.aload_n 0, 1) := by decide +kernel
theorem d_R_pay_13 : decode b_R_pay 13 = .ok (.getfield 9, 3) := by decide +kernel
theorem d_R_pay_16 : decode b_R_pay 16 = .ok (.iload_n 1, 1) := by decide +kernel
theorem d_R_pay_17 : decode b_R_pay 17 = .ok (.laload, 1) := by decide +kernel
theorem d_R_pay_18 : decode b_R_pay 18 = .ok (.ldc2_w 139, 3) := by decide +kernel
theorem d_R_pay_21 : decode b_R_pay 21 = .ok (.aload_n 0, 1) := by decide +kernel
theorem d_R_pay_22 : decode b_R_pay 22 = .ok (.getfield 13, 3) := by decide +kernel
theorem d_R_pay_25 : decode b_R_pay 25 = .ok (.iload_n 1, 1) := by decide +kernel
theorem d_R_pay_26 : decode b_R_pay 26 = .ok (.laload, 1) := by decide +kernel
theorem d_R_pay_27 : decode b_R_pay 27 = .ok (.lmul, 1) := by decide +kernel
theorem d_R_pay_28 : decode b_R_pay 28 = .ok (.ldc2_w 141, 3) := by decide +kernel
theorem d_R_pay_31 : decode b_R_pay 31 = .ok (.aload_n 0, 1) := by decide +kernel
theorem d_R_pay_32 : decode b_R_pay 32 = .ok (.getfield 16, 3) := by decide +kernel
theorem d_R_pay_35 : decode b_R_pay 35 = .ok (.iload_n 1, 1) := by decide +kernel
theorem d_R_pay_36 : decode b_R_pay 36 = .ok (.laload, 1) := by decide +kernel
theorem d_R_pay_37 : decode b_R_pay 37 = .ok (.lmul, 1) := by decide +kernel
theorem d_R_pay_38 : decode b_R_pay 38 = .ok (.ladd, 1) := by decide +kernel
theorem d_R_pay_39 : decode b_R_pay 39 = .ok (.lmul, 1) := by decide +kernel
theorem d_R_pay_40 : decode b_R_pay 40 = .ok (.ldc2_w 143, 3) := by decide +kernel
theorem d_R_pay_43 : decode b_R_pay 43 = .ok (.ldiv, 1) := by decide +kernel
theorem d_R_pay_44 : decode b_R_pay 44 = .ok (.lstore_n 2, 1) := by decide +kernel
theorem d_R_pay_45 : decode b_R_pay 45 = .ok (.iconst 0, 1) := by decide +kernel
theorem d_R_pay_46 : decode b_R_pay 46 = .ok (.istore 4, 2) := by decide +kernel
theorem d_R_pay_48 : decode b_R_pay 48 = .ok (.iload 4, 2) := by decide +kernel
theorem d_R_pay_50 : decode b_R_pay 50 = .ok (.aload_n 0, 1) := by decide +kernel
theorem d_R_pay_51 : decode b_R_pay 51 = .ok (.getfield 136, 3) := by decide +kernel
theorem d_R_pay_54 : decode b_R_pay 54 = .ok (.if_icmp .ge 71, 3) := by decide +kernel
theorem d_R_pay_57 : decode b_R_pay 57 = .ok (.aload_n 0, 1) := by decide +kernel
theorem d_R_pay_58 : decode b_R_pay 58 = .ok (.getfield 39, 3) := by decide +kernel
theorem d_R_pay_61 : decode b_R_pay 61 = .ok (.iload 4, 2) := by decide +kernel
theorem d_R_pay_63 : decode b_R_pay 63 = .ok (.laload, 1) := by decide +kernel
theorem d_R_pay_64 : decode b_R_pay 64 = .ok (.aload_n 0, 1) := by decide +kernel
theorem d_R_pay_65 : decode b_R_pay 65 = .ok (.getfield 9, 3) := by decide +kernel
theorem d_R_pay_68 : decode b_R_pay 68 = .ok (.iload_n 1, 1) := by decide +kernel
theorem d_R_pay_69 : decode b_R_pay 69 = .ok (.laload, 1) := by decide +kernel
theorem d_R_pay_70 : decode b_R_pay 70 = .ok (.lmul, 1) := by decide +kernel
theorem d_R_pay_71 : decode b_R_pay 71 = .ok (.ldc2_w 145, 3) := by decide +kernel
theorem d_R_pay_74 : decode b_R_pay 74 = .ok (.ladd, 1) := by decide +kernel
theorem d_R_pay_75 : decode b_R_pay 75 = .ok (.ldc2_w 147, 3) := by decide +kernel
theorem d_R_pay_78 : decode b_R_pay 78 = .ok (.ldiv, 1) := by decide +kernel
theorem d_R_pay_79 : decode b_R_pay 79 = .ok (.lstore 5, 2) := by decide +kernel
theorem d_R_pay_81 : decode b_R_pay 81 = .ok (.lload_n 2, 1) := by decide +kernel
theorem d_R_pay_82 : decode b_R_pay 82 = .ok (.aload_n 0, 1) := by decide +kernel
theorem d_R_pay_83 : decode b_R_pay 83 = .ok (.getfield 13, 3) := by decide +kernel
theorem d_R_pay_86 : decode b_R_pay 86 = .ok (.iload_n 1, 1) := by decide +kernel
theorem d_R_pay_87 : decode b_R_pay 87 = .ok (.laload, 1) := by decide +kernel
theorem d_R_pay_88 : decode b_R_pay 88 = .ok (.aload_n 0, 1) := by decide +kernel
theorem d_R_pay_89 : decode b_R_pay 89 = .ok (.getfield 36, 3) := by decide +kernel
theorem d_R_pay_92 : decode b_R_pay 92 = .ok (.iload 4, 2) := by decide +kernel
theorem d_R_pay_94 : decode b_R_pay 94 = .ok (.laload, 1) := by decide +kernel
theorem d_R_pay_95 : decode b_R_pay 95 = .ok (.lcmp, 1) := by decide +kernel
theorem d_R_pay_96 : decode b_R_pay 96 = .ok (.ifCond .ge 8, 3) := by decide +kernel
theorem d_R_pay_99 : decode b_R_pay 99 = .ok (.lload 5, 2) := by decide +kernel
theorem d_R_pay_101 : decode b_R_pay 101 = .ok (.goto 4, 3) := by decide +kernel
theorem d_R_pay_104 : decode b_R_pay 104 = .ok (.lconst 0, 1) := by decide +kernel
theorem d_R_pay_105 : decode b_R_pay 105 = .ok (.lsub, 1) := by decide +kernel
theorem d_R_pay_106 : decode b_R_pay 106 = .ok (.lstore_n 2, 1) := by decide +kernel
theorem d_R_pay_107 : decode b_R_pay 107 = .ok (.lload_n 2, 1) := by decide +kernel
theorem d_R_pay_108 : decode b_R_pay 108 = .ok (.lconst 0, 1) := by decide +kernel
theorem d_R_pay_109 : decode b_R_pay 109 = .ok (.lcmp, 1) := by decide +kernel
theorem d_R_pay_110 : decode b_R_pay 110 = .ok (.ifCond .ge 7, 3) := by decide +kernel
theorem d_R_pay_113 : decode b_R_pay 113 = .ok (.lconst 0, 1) := by decide +kernel
theorem d_R_pay_114 : decode b_R_pay 114 = .ok (.goto 4, 3) := by decide +kernel
theorem d_R_pay_117 : decode b_R_pay 117 = .ok (.lload_n 2, 1) := by decide +kernel
theorem d_R_pay_118 : decode b_R_pay 118 = .ok (.lstore_n 2, 1) := by decide +kernel
theorem d_R_pay_119 : decode b_R_pay 119 = .ok (.iinc 4 1, 3) := by decide +kernel
theorem d_R_pay_122 : decode b_R_pay 122 = .ok (.goto (-74), 3) := by decide +kernel
theorem d_R_pay_125 : decode b_R_pay 125 = .ok (.lload_n 2, 1) := by decide +kernel
theorem d_R_pay_126 : decode b_R_pay 126 = .ok (.lreturn, 1) := by decide +kernel
theorem d_R_efficiency_0 : decode b_R_efficiency 0 = .ok (.lload_n 3, 1) := by decide +kernel
theorem d_R_efficiency_1 : decode b_R_efficiency 1 = .ok (.lload 5, 2) := by decide +kernel
theorem d_R_efficiency_3 : decode b_R_efficiency 3 = .ok (.invokestatic 61, 3) := by decide +kernel
theorem d_R_efficiency_6 : decode b_R_efficiency 6 = .ok (.lstore 7, 2) := by decide +kernel
theorem d_R_efficiency_8 : decode b_R_efficiency 8 = .ok (.lload_n 1, 1) := by decide +kernel
theorem d_R_efficiency_9 : decode b_R_efficiency 9 = .ok (.lconst 1, 1) := by decide +kernel
theorem d_R_efficiency_10 : decode b_R_efficiency 10 = .ok (.lcmp, 1) := by decide +kernel
theorem d_R_efficiency_11 : decode b_R_efficiency 11 = .ok (.ifCond .lt 18, 3) := by decide +kernel
theorem d_R_efficiency_14 : decode b_R_efficiency 14 = .ok (.lload_n 1, 1) := by decide +kernel
theorem d_R_efficiency_15 : decode b_R_efficiency 15 = .ok (.ldc2_w 59, 3) := by decide +kernel
theorem d_R_efficiency_18 : decode b_R_efficiency 18 = .ok (.lcmp, 1) := by decide +kernel
theorem d_R_efficiency_19 : decode b_R_efficiency 19 = .ok (.ifCond .gt 10, 3) := by decide +kernel
theorem d_R_efficiency_22 : decode b_R_efficiency 22 = .ok (.lload 7, 2) := by decide +kernel
theorem d_R_efficiency_24 : decode b_R_efficiency 24 = .ok (.lconst 0, 1) := by decide +kernel
theorem d_R_efficiency_25 : decode b_R_efficiency 25 = .ok (.lcmp, 1) := by decide +kernel
theorem d_R_efficiency_26 : decode b_R_efficiency 26 = .ok (.ifCond .ge 5, 3) := by decide +kernel
theorem d_R_efficiency_29 : decode b_R_efficiency 29 = .ok (.iconst 0, 1) := by decide +kernel
theorem d_R_efficiency_30 : decode b_R_efficiency 30 = .ok (.ireturn, 1) := by decide +kernel
theorem d_R_efficiency_31 : decode b_R_efficiency 31 = .ok (.iconst 0, 1) := by decide +kernel
theorem d_R_efficiency_32 : decode b_R_efficiency 32 = .ok (.istore 9, 2) := by decide +kernel
theorem d_R_efficiency_34 : decode b_R_efficiency 34 = .ok (.iload 9, 2) := by decide +kernel
theorem d_R_efficiency_36 : decode b_R_efficiency 36 = .ok (.aload_n 0, 1) := by decide +kernel
theorem d_R_efficiency_37 : decode b_R_efficiency 37 = .ok (.getfield 73, 3) := by decide +kernel
theorem d_R_efficiency_40 : decode b_R_efficiency 40 = .ok (.if_icmp .ge 21, 3) := by decide +kernel
theorem d_R_efficiency_43 : decode b_R_efficiency 43 = .ok (.aload_n 0, 1) := by decide +kernel
theorem d_R_efficiency_44 : decode b_R_efficiency 44 = .ok (.getfield 30, 3) := by decide +kernel
theorem d_R_efficiency_47 : decode b_R_efficiency 47 = .ok (.iload 9, 2) := by decide +kernel
theorem d_R_efficiency_49 : decode b_R_efficiency 49 = .ok (.laload, 1) := by decide +kernel
theorem d_R_efficiency_50 : decode b_R_efficiency 50 = .ok (.lload_n 1, 1) := by decide +kernel
theorem d_R_efficiency_51 : decode b_R_efficiency 51 = .ok (.lcmp, 1) := by decide +kernel
theorem d_R_efficiency_52 : decode b_R_efficiency 52 = .ok (.ifCond .ge 9, 3) := by decide +kernel
theorem d_R_efficiency_55 : decode b_R_efficiency 55 = .ok (.iinc 9 1, 3) := by decide +kernel
theorem d_R_efficiency_58 : decode b_R_efficiency 58 = .ok (.goto (-24), 3) := by decide +kernel
theorem d_R_efficiency_61 : decode b_R_efficiency 61 = .ok (.iload 9, 2) := by decide +kernel
theorem d_R_efficiency_63 : decode b_R_efficiency 63 = .ok (.aload_n 0, 1) := by decide +kernel
theorem d_R_efficiency_64 : decode b_R_efficiency 64 = .ok (.getfield 73, 3) := by decide +kernel
theorem d_R_efficiency_67 : decode b_R_efficiency 67 = .ok (.if_icmp .ge 19, 3) := by decide +kernel
theorem d_R_efficiency_70 : decode b_R_efficiency 70 = .ok (.aload_n 0, 1) := by decide +kernel
theorem d_R_efficiency_71 : decode b_R_efficiency 71 = .ok (.getfield 30, 3) := by decide +kernel
theorem d_R_efficiency_74 : decode b_R_efficiency 74 = .ok (.iload 9, 2) := by decide +kernel
theorem d_R_efficiency_76 : decode b_R_efficiency 76 = .ok (.laload, 1) := by decide +kernel
theorem d_R_efficiency_77 : decode b_R_efficiency 77 = .ok (.lload_n 1, 1) := by decide +kernel
theorem d_R_efficiency_78 : decode b_R_efficiency 78 = .ok (.lcmp, 1) := by decide +kernel
theorem d_R_efficiency_79 : decode b_R_efficiency 79 = .ok (.ifCond .ne 7, 3) := by decide +kernel
theorem d_R_efficiency_82 : decode b_R_efficiency 82 = .ok (.iconst 1, 1) := by decide +kernel
theorem d_R_efficiency_83 : decode b_R_efficiency 83 = .ok (.goto 4, 3) := by decide +kernel
theorem d_R_efficiency_86 : decode b_R_efficiency 86 = .ok (.iconst 0, 1) := by decide +kernel
theorem d_R_efficiency_87 : decode b_R_efficiency 87 = .ok (.istore 10, 2) := by decide +kernel
theorem d_R_efficiency_89 : decode b_R_efficiency 89 = .ok (.iload 10, 2) := by decide +kernel
theorem d_R_efficiency_91 : decode b_R_efficiency 91 = .ok (.ifCond .ne 14, 3) := by decide +kernel
theorem d_R_efficiency_94 : decode b_R_efficiency 94 = .ok (.aload_n 0, 1) := by decide +kernel
theorem d_R_efficiency_95 : decode b_R_efficiency 95 = .ok (.getfield 73, 3) := by decide +kernel
theorem d_R_efficiency_98 : decode b_R_efficiency 98 = .ok (.bipush 20, 2) := by decide +kernel
theorem d_R_efficiency_100 : decode b_R_efficiency 100 = .ok (.if_icmp .ne 5, 3) := by decide +kernel
theorem d_R_efficiency_103 : decode b_R_efficiency 103 = .ok (.iconst 0, 1) := by decide +kernel
theorem d_R_efficiency_104 : decode b_R_efficiency 104 = .ok (.ireturn, 1) := by decide +kernel
theorem d_R_efficiency_105 : decode b_R_efficiency 105 = .ok (.aload_n 0, 1) := by decide +kernel
theorem d_R_efficiency_106 : decode b_R_efficiency 106 = .ok (.getfield 73, 3) := by decide +kernel
theorem d_R_efficiency_109 : decode b_R_efficiency 109 = .ok (.istore 11, 2) := by decide +kernel
theorem d_R_efficiency_111 : decode b_R_efficiency 111 = .ok (.iload 11, 2) := by decide +kernel
theorem d_R_efficiency_113 : decode b_R_efficiency 113 = .ok (.iload 9, 2) := by decide +kernel
theorem d_R_efficiency_115 : decode b_R_efficiency 115 = .ok (.if_icmp .le 46, 3) := by decide +kernel
theorem d_R_efficiency_118 : decode b_R_efficiency 118 = .ok (.iload 10, 2) := by decide +kernel
theorem d_R_efficiency_120 : decode b_R_efficiency 120 = .ok (.ifCond .ne 41, 3) := by decide +kernel
theorem d_R_efficiency_123 : decode b_R_efficiency 123 = .ok (.aload_n 0, 1) := by decide +kernel
theorem d_R_efficiency_124 : decode b_R_efficiency 124 = .ok (.getfield 30, 3) := by decide +kernel
theorem d_R_efficiency_127 : decode b_R_efficiency 127 = .ok (.iload 11, 2) := by decide +kernel
theorem d_R_efficiency_129 : decode b_R_efficiency 129 = .ok (.aload_n 0, 1) := by decide +kernel
theorem d_R_efficiency_130 : decode b_R_efficiency 130 = .ok (.getfield 30, 3) := by decide +kernel
theorem d_R_efficiency_133 : decode b_R_efficiency 133 = .ok (.iload 11, 2) := by decide +kernel
theorem d_R_efficiency_135 : decode b_R_efficiency 135 = .ok (.iconst 1, 1) := by decide +kernel
theorem d_R_efficiency_136 : decode b_R_efficiency 136 = .ok (.isub, 1) := by decide +kernel
theorem d_R_efficiency_137 : decode b_R_efficiency 137 = .ok (.laload, 1) := by decide +kernel
theorem d_R_efficiency_138 : decode b_R_efficiency 138 = .ok (.lastore, 1) := by decide +kernel
theorem d_R_efficiency_139 : decode b_R_efficiency 139 = .ok (.aload_n 0, 1) := by decide +kernel
theorem d_R_efficiency_140 : decode b_R_efficiency 140 = .ok (.getfield 33, 3) := by decide +kernel
theorem d_R_efficiency_143 : decode b_R_efficiency 143 = .ok (.iload 11, 2) := by decide +kernel
theorem d_R_efficiency_145 : decode b_R_efficiency 145 = .ok (.aload_n 0, 1) := by decide +kernel
theorem d_R_efficiency_146 : decode b_R_efficiency 146 = .ok (.getfield 33, 3) := by decide +kernel
theorem d_R_efficiency_149 : decode b_R_efficiency 149 = .ok (.iload 11, 2) := by decide +kernel
theorem d_R_efficiency_151 : decode b_R_efficiency 151 = .ok (.iconst 1, 1) := by decide +kernel
theorem d_R_efficiency_152 : decode b_R_efficiency 152 = .ok (.isub, 1) := by decide +kernel
theorem d_R_efficiency_153 : decode b_R_efficiency 153 = .ok (.laload, 1) := by decide +kernel
theorem d_R_efficiency_154 : decode b_R_efficiency 154 = .ok (.lastore, 1) := by decide +kernel
theorem d_R_efficiency_155 : decode b_R_efficiency 155 = .ok (.iinc 11 (-1), 3) := by decide +kernel
theorem d_R_efficiency_158 : decode b_R_efficiency 158 = .ok (.goto (-47), 3) := by decide +kernel
theorem d_R_efficiency_161 : decode b_R_efficiency 161 = .ok (.aload_n 0, 1) := by decide +kernel
theorem d_R_efficiency_162 : decode b_R_efficiency 162 = .ok (.dup, 1) := by decide +kernel
theorem d_R_efficiency_163 : decode b_R_efficiency 163 = .ok (.getfield 73, 3) := by decide +kernel
theorem d_R_efficiency_166 : decode b_R_efficiency 166 = .ok (.iload 10, 2) := by decide +kernel
theorem d_R_efficiency_168 : decode b_R_efficiency 168 = .ok (.ifCond .eq 7, 3) := by decide +kernel
theorem d_R_efficiency_171 : decode b_R_efficiency 171 = .ok (.iconst 0, 1) := by decide +kernel
theorem d_R_efficiency_172 : decode b_R_efficiency 172 = .ok (.goto 4, 3) := by decide +kernel
theorem d_R_efficiency_175 : decode b_R_efficiency 175 = .ok (.iconst 1, 1) := by decide +kernel
theorem d_R_efficiency_176 : decode b_R_efficiency 176 = .ok (.iadd, 1) := by decide +kernel
theorem d_R_efficiency_177 : decode b_R_efficiency 177 = .ok (.putfield 73, 3) := by decide +kernel
theorem d_R_efficiency_180 : decode b_R_efficiency 180 = .ok (.aload_n 0, 1) := by decide +kernel
theorem d_R_efficiency_181 : decode b_R_efficiency 181 = .ok (.getfield 30, 3) := by decide +kernel
theorem d_R_efficiency_184 : decode b_R_efficiency 184 = .ok (.iload 9, 2) := by decide +kernel
theorem d_R_efficiency_186 : decode b_R_efficiency 186 = .ok (.lload_n 1, 1) := by decide +kernel
theorem d_R_efficiency_187 : decode b_R_efficiency 187 = .ok (.lastore, 1) := by decide +kernel
theorem d_R_efficiency_188 : decode b_R_efficiency 188 = .ok (.aload_n 0, 1) := by decide +kernel
theorem d_R_efficiency_189 : decode b_R_efficiency 189 = .ok (.getfield 33, 3) := by decide +kernel
theorem d_R_efficiency_192 : decode b_R_efficiency 192 = .ok (.iload 9, 2) := by decide +kernel
theorem d_R_efficiency_194 : decode b_R_efficiency 194 = .ok (.lload 7, 2) := by decide +kernel
theorem d_R_efficiency_196 : decode b_R_efficiency 196 = .ok (.lastore, 1) := by decide +kernel
theorem d_R_efficiency_197 : decode b_R_efficiency 197 = .ok (.iconst 1, 1) := by decide +kernel
theorem d_R_efficiency_198 : decode b_R_efficiency 198 = .ok (.ireturn, 1) := by decide +kernel
