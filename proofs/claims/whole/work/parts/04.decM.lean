theorem dX7_init_0 : decode cX7_init 0 = .ok (.aload_n 0, 1) := by decide +kernel
theorem dX7_init_1 : decode cX7_init 1 = .ok (.invokespecial 1, 3) := by decide +kernel
theorem dX7_init_4 : decode cX7_init 4 = .ok (.aload_n 0, 1) := by decide +kernel
theorem dX7_init_5 : decode cX7_init 5 = .ok (.bipush 17, 2) := by decide +kernel
theorem dX7_init_7 : decode cX7_init 7 = .ok (.newarray .int, 2) := by decide +kernel
theorem dX7_init_9 : decode cX7_init 9 = .ok (.putfield 7, 3) := by decide +kernel
theorem dX7_init_12 : decode cX7_init 12 = .ok (.aload_n 0, 1) := by decide +kernel
theorem dX7_init_13 : decode cX7_init 13 = .ok (.bipush 16, 2) := by decide +kernel
theorem dX7_init_15 : decode cX7_init 15 = .ok (.newarray .int, 2) := by decide +kernel
theorem dX7_init_17 : decode cX7_init 17 = .ok (.putfield 13, 3) := by decide +kernel
theorem dX7_init_20 : decode cX7_init 20 = .ok (.aload_n 0, 1) := by decide +kernel
theorem dX7_init_21 : decode cX7_init 21 = .ok (.bipush 16, 2) := by decide +kernel
theorem dX7_init_23 : decode cX7_init 23 = .ok (.newarray .int, 2) := by decide +kernel
theorem dX7_init_25 : decode cX7_init 25 = .ok (.putfield 16, 3) := by decide +kernel
theorem dX7_init_28 : decode cX7_init 28 = .ok (.aload_n 0, 1) := by decide +kernel
theorem dX7_init_29 : decode cX7_init 29 = .ok (.bipush 16, 2) := by decide +kernel
theorem dX7_init_31 : decode cX7_init 31 = .ok (.newarray .float, 2) := by decide +kernel
theorem dX7_init_33 : decode cX7_init 33 = .ok (.putfield 19, 3) := by decide +kernel
theorem dX7_init_36 : decode cX7_init 36 = .ok (.aload_n 0, 1) := by decide +kernel
theorem dX7_init_37 : decode cX7_init 37 = .ok (.bipush 16, 2) := by decide +kernel
theorem dX7_init_39 : decode cX7_init 39 = .ok (.newarray .float, 2) := by decide +kernel
theorem dX7_init_41 : decode cX7_init 41 = .ok (.putfield 23, 3) := by decide +kernel
theorem dX7_init_44 : decode cX7_init 44 = .ok (.aload_n 0, 1) := by decide +kernel
theorem dX7_init_45 : decode cX7_init 45 = .ok (.bipush 16, 2) := by decide +kernel
theorem dX7_init_47 : decode cX7_init 47 = .ok (.newarray .float, 2) := by decide +kernel
theorem dX7_init_49 : decode cX7_init 49 = .ok (.putfield 26, 3) := by decide +kernel
theorem dX7_init_52 : decode cX7_init 52 = .ok (.aload_n 0, 1) := by decide +kernel
theorem dX7_init_53 : decode cX7_init 53 = .ok (.bipush 16, 2) := by decide +kernel
theorem dX7_init_55 : decode cX7_init 55 = .ok (.newarray .float, 2) := by decide +kernel
theorem dX7_init_57 : decode cX7_init 57 = .ok (.putfield 29, 3) := by decide +kernel
theorem dX7_init_60 : decode cX7_init 60 = .ok (.aload_n 0, 1) := by decide +kernel
theorem dX7_init_61 : decode cX7_init 61 = .ok (.bipush 16, 2) := by decide +kernel
theorem dX7_init_63 : decode cX7_init 63 = .ok (.newarray .int, 2) := by decide +kernel
theorem dX7_init_65 : decode cX7_init 65 = .ok (.putfield 32, 3) := by decide +kernel
theorem dX7_init_68 : decode cX7_init 68 = .ok (.aload_n 0, 1) := by decide +kernel
theorem dX7_init_69 : decode cX7_init 69 = .ok (.bipush 16, 2) := by decide +kernel
theorem dX7_init_71 : decode cX7_init 71 = .ok (.newarray .boolean, 2) := by decide +kernel
theorem dX7_init_73 : decode cX7_init 73 = .ok (.putfield 35, 3) := by decide +kernel
theorem dX7_init_76 : decode cX7_init 76 = .ok (.aload_n 0, 1) := by decide +kernel
theorem dX7_init_77 : decode cX7_init 77 = .ok (.bipush 16, 2) := by decide +kernel
theorem dX7_init_79 : decode cX7_init 79 = .ok (.newarray .int, 2) := by decide +kernel
theorem dX7_init_81 : decode cX7_init 81 = .ok (.putfield 39, 3) := by decide +kernel
theorem dX7_init_84 : decode cX7_init 84 = .ok (.aload_n 0, 1) := by decide +kernel
theorem dX7_init_85 : decode cX7_init 85 = .ok (.bipush 16, 2) := by decide +kernel
theorem dX7_init_87 : decode cX7_init 87 = .ok (.newarray .boolean, 2) := by decide +kernel
theorem dX7_init_89 : decode cX7_init 89 = .ok (.putfield 42, 3) := by decide +kernel
theorem dX7_init_92 : decode cX7_init 92 = .ok (.aload_n 0, 1) := by decide +kernel
theorem dX7_init_93 : decode cX7_init 93 = .ok (.bipush 16, 2) := by decide +kernel
theorem dX7_init_95 : decode cX7_init 95 = .ok (.newarray .boolean, 2) := by decide +kernel
theorem dX7_init_97 : decode cX7_init 97 = .ok (.putfield 45, 3) := by decide +kernel
theorem dX7_init_100 : decode cX7_init 100 = .ok (.aload_n 0, 1) := by decide +kernel
theorem dX7_init_101 : decode cX7_init 101 = .ok (.iconst 4, 1) := by decide +kernel
theorem dX7_init_102 : decode cX7_init 102 = .ok (.newarray .boolean, 2) := by decide +kernel
theorem dX7_init_104 : decode cX7_init 104 = .ok (.putfield 48, 3) := by decide +kernel
theorem dX7_init_107 : decode cX7_init 107 = .ok (.aload_n 0, 1) := by decide +kernel
theorem dX7_init_108 : decode cX7_init 108 = .ok (.iconst 4, 1) := by decide +kernel
theorem dX7_init_109 : decode cX7_init 109 = .ok (.newarray .int, 2) := by decide +kernel
theorem dX7_init_111 : decode cX7_init 111 = .ok (.putfield 51, 3) := by decide +kernel
theorem dX7_init_114 : decode cX7_init 114 = .ok (.aload_n 0, 1) := by decide +kernel
theorem dX7_init_115 : decode cX7_init 115 = .ok (.iconst 4, 1) := by decide +kernel
theorem dX7_init_116 : decode cX7_init 116 = .ok (.newarray .boolean, 2) := by decide +kernel
theorem dX7_init_118 : decode cX7_init 118 = .ok (.putfield 54, 3) := by decide +kernel
theorem dX7_init_121 : decode cX7_init 121 = .ok (.aload_n 0, 1) := by decide +kernel
theorem dX7_init_122 : decode cX7_init 122 = .ok (.bipush 120, 2) := by decide +kernel
theorem dX7_init_124 : decode cX7_init 124 = .ok (.newarray .int, 2) := by decide +kernel
theorem dX7_init_126 : decode cX7_init 126 = .ok (.putfield 57, 3) := by decide +kernel
theorem dX7_init_129 : decode cX7_init 129 = .ok (.aload_n 0, 1) := by decide +kernel
theorem dX7_init_130 : decode cX7_init 130 = .ok (.bipush 6, 2) := by decide +kernel
theorem dX7_init_132 : decode cX7_init 132 = .ok (.newarray .int, 2) := by decide +kernel
theorem dX7_init_134 : decode cX7_init 134 = .ok (.putfield 60, 3) := by decide +kernel
theorem dX7_init_137 : decode cX7_init 137 = .ok (.aload_n 0, 1) := by decide +kernel
theorem dX7_init_138 : decode cX7_init 138 = .ok (.bipush 6, 2) := by decide +kernel
theorem dX7_init_140 : decode cX7_init 140 = .ok (.newarray .int, 2) := by decide +kernel
theorem dX7_init_142 : decode cX7_init 142 = .ok (.putfield 63, 3) := by decide +kernel
theorem dX7_init_145 : decode cX7_init 145 = .ok (.aload_n 0, 1) := by decide +kernel
theorem dX7_init_146 : decode cX7_init 146 = .ok (.bipush 6, 2) := by decide +kernel
theorem dX7_init_148 : decode cX7_init 148 = .ok (.newarray .int, 2) := by decide +kernel
theorem dX7_init_150 : decode cX7_init 150 = .ok (.putfield 66, 3) := by decide +kernel
theorem dX7_init_153 : decode cX7_init 153 = .ok (.aload_n 0, 1) := by decide +kernel
theorem dX7_init_154 : decode cX7_init 154 = .ok (.bipush 6, 2) := by decide +kernel
theorem dX7_init_156 : decode cX7_init 156 = .ok (.newarray .int, 2) := by decide +kernel
theorem dX7_init_158 : decode cX7_init 158 = .ok (.putfield 69, 3) := by decide +kernel
theorem dX7_init_161 : decode cX7_init 161 = .ok (.aload_n 0, 1) := by decide +kernel
theorem dX7_init_162 : decode cX7_init 162 = .ok (.bipush 6, 2) := by decide +kernel
theorem dX7_init_164 : decode cX7_init 164 = .ok (.newarray .boolean, 2) := by decide +kernel
theorem dX7_init_166 : decode cX7_init 166 = .ok (.putfield 72, 3) := by decide +kernel
theorem dX7_init_169 : decode cX7_init 169 = .ok (.aload_n 0, 1) := by decide +kernel
theorem dX7_init_170 : decode cX7_init 170 = .ok (.bipush 20, 2) := by decide +kernel
theorem dX7_init_172 : decode cX7_init 172 = .ok (.newarray .char, 2) := by decide +kernel
theorem dX7_init_174 : decode cX7_init 174 = .ok (.putfield 75, 3) := by decide +kernel
theorem dX7_init_177 : decode cX7_init 177 = .ok (.aload_n 0, 1) := by decide +kernel
theorem dX7_init_178 : decode cX7_init 178 = .ok (.bipush 48, 2) := by decide +kernel
theorem dX7_init_180 : decode cX7_init 180 = .ok (.newarray .int, 2) := by decide +kernel
theorem dX7_init_182 : decode cX7_init 182 = .ok (.putfield 79, 3) := by decide +kernel
theorem dX7_init_185 : decode cX7_init 185 = .ok (.aload_n 0, 1) := by decide +kernel
theorem dX7_init_186 : decode cX7_init 186 = .ok (.bipush 24, 2) := by decide +kernel
theorem dX7_init_188 : decode cX7_init 188 = .ok (.newarray .char, 2) := by decide +kernel
theorem dX7_init_190 : decode cX7_init 190 = .ok (.putfield 82, 3) := by decide +kernel
theorem dX7_init_193 : decode cX7_init 193 = .ok (.aload_n 0, 1) := by decide +kernel
theorem dX7_init_194 : decode cX7_init 194 = .ok (.bipush 24, 2) := by decide +kernel
theorem dX7_init_196 : decode cX7_init 196 = .ok (.newarray .int, 2) := by decide +kernel
theorem dX7_init_198 : decode cX7_init 198 = .ok (.putfield 85, 3) := by decide +kernel
theorem dX7_init_201 : decode cX7_init 201 = .ok (.iconst 0, 1) := by decide +kernel
theorem dX7_init_202 : decode cX7_init 202 = .ok (.istore_n 1, 1) := by decide +kernel
theorem dX7_init_203 : decode cX7_init 203 = .ok (.iload_n 1, 1) := by decide +kernel
theorem dX7_init_204 : decode cX7_init 204 = .ok (.iconst 4, 1) := by decide +kernel
theorem dX7_init_205 : decode cX7_init 205 = .ok (.if_icmp .ge 16, 3) := by decide +kernel
theorem dX7_init_208 : decode cX7_init 208 = .ok (.aload_n 0, 1) := by decide +kernel
theorem dX7_init_209 : decode cX7_init 209 = .ok (.getfield 51, 3) := by decide +kernel
theorem dX7_init_212 : decode cX7_init 212 = .ok (.iload_n 1, 1) := by decide +kernel
theorem dX7_init_213 : decode cX7_init 213 = .ok (.iconst 1, 1) := by decide +kernel
theorem dX7_init_214 : decode cX7_init 214 = .ok (.iastore, 1) := by decide +kernel
theorem dX7_init_215 : decode cX7_init 215 = .ok (.iinc 1 1, 3) := by decide +kernel
theorem dX7_init_218 : decode cX7_init 218 = .ok (.goto (-15), 3) := by decide +kernel
theorem dX7_init_221 : decode cX7_init 221 = .ok (.return_, 1) := by decide +kernel
theorem dX7_thrown_0 : decode cX7_thrown 0 = .ok (.aload_n 0, 1) := by decide +kernel
theorem dX7_thrown_1 : decode cX7_thrown 1 = .ok (.getfield 88, 3) := by decide +kernel
theorem dX7_thrown_4 : decode cX7_thrown 4 = .ok (.ireturn, 1) := by decide +kernel
theorem dX7_in_0 : decode cX7_in 0 = .ok (.iload_n 0, 1) := by decide +kernel
theorem dX7_in_1 : decode cX7_in 1 = .ok (.iload_n 1, 1) := by decide +kernel
theorem dX7_in_2 : decode cX7_in 2 = .ok (.if_icmp .lt 12, 3) := by decide +kernel
theorem dX7_in_5 : decode cX7_in 5 = .ok (.iload_n 0, 1) := by decide +kernel
theorem dX7_in_6 : decode cX7_in 6 = .ok (.iload_n 2, 1) := by decide +kernel
theorem dX7_in_7 : decode cX7_in 7 = .ok (.if_icmp .gt 7, 3) := by decide +kernel
theorem dX7_in_10 : decode cX7_in 10 = .ok (.iconst 1, 1) := by decide +kernel
theorem dX7_in_11 : decode cX7_in 11 = .ok (.goto 4, 3) := by decide +kernel
theorem dX7_in_14 : decode cX7_in 14 = .ok (.iconst 0, 1) := by decide +kernel
theorem dX7_in_15 : decode cX7_in 15 = .ok (.ireturn, 1) := by decide +kernel
theorem dX7_stretchShort_0 : decode cX7_stretchShort 0 = .ok (.aload_n 0, 1) := by decide +kernel
theorem dX7_stretchShort_1 : decode cX7_stretchShort 1 = .ok (.getfield 7, 3) := by decide +kernel
theorem dX7_stretchShort_4 : decode cX7_stretchShort 4 = .ok (.iload_n 1, 1) := by decide +kernel
theorem dX7_stretchShort_5 : decode cX7_stretchShort 5 = .ok (.iaload, 1) := by decide +kernel
theorem dX7_stretchShort_6 : decode cX7_stretchShort 6 = .ok (.iconst 2, 1) := by decide +kernel
theorem dX7_stretchShort_7 : decode cX7_stretchShort 7 = .ok (.if_icmp .ne 7, 3) := by decide +kernel
theorem dX7_stretchShort_10 : decode cX7_stretchShort 10 = .ok (.iconst 1, 1) := by decide +kernel
theorem dX7_stretchShort_11 : decode cX7_stretchShort 11 = .ok (.goto 4, 3) := by decide +kernel
theorem dX7_stretchShort_14 : decode cX7_stretchShort 14 = .ok (.iconst 0, 1) := by decide +kernel
theorem dX7_stretchShort_15 : decode cX7_stretchShort 15 = .ok (.istore_n 2, 1) := by decide +kernel
theorem dX7_stretchShort_16 : decode cX7_stretchShort 16 = .ok (.iload_n 1, 1) := by decide +kernel
theorem dX7_stretchShort_17 : decode cX7_stretchShort 17 = .ok (.istore_n 3, 1) := by decide +kernel
theorem dX7_stretchShort_18 : decode cX7_stretchShort 18 = .ok (.iload_n 3, 1) := by decide +kernel
theorem dX7_stretchShort_19 : decode cX7_stretchShort 19 = .ok (.ifCond .le 43, 3) := by decide +kernel
theorem dX7_stretchShort_22 : decode cX7_stretchShort 22 = .ok (.aload_n 0, 1) := by decide +kernel
theorem dX7_stretchShort_23 : decode cX7_stretchShort 23 = .ok (.getfield 13, 3) := by decide +kernel
theorem dX7_stretchShort_26 : decode cX7_stretchShort 26 = .ok (.iload_n 3, 1) := by decide +kernel
theorem dX7_stretchShort_27 : decode cX7_stretchShort 27 = .ok (.iconst 1, 1) := by decide +kernel
theorem dX7_stretchShort_28 : decode cX7_stretchShort 28 = .ok (.isub, 1) := by decide +kernel
theorem dX7_stretchShort_29 : decode cX7_stretchShort 29 = .ok (.iaload, 1) := by decide +kernel
theorem dX7_stretchShort_30 : decode cX7_stretchShort 30 = .ok (.iconst 4, 1) := by decide +kernel
theorem dX7_stretchShort_31 : decode cX7_stretchShort 31 = .ok (.if_icmp .eq 31, 3) := by decide +kernel
theorem dX7_stretchShort_34 : decode cX7_stretchShort 34 = .ok (.iload_n 2, 1) := by decide +kernel
theorem dX7_stretchShort_35 : decode cX7_stretchShort 35 = .ok (.ifCond .ne 15, 3) := by decide +kernel
theorem dX7_stretchShort_38 : decode cX7_stretchShort 38 = .ok (.aload_n 0, 1) := by decide +kernel
theorem dX7_stretchShort_39 : decode cX7_stretchShort 39 = .ok (.getfield 7, 3) := by decide +kernel
theorem dX7_stretchShort_42 : decode cX7_stretchShort 42 = .ok (.iload_n 3, 1) := by decide +kernel
theorem dX7_stretchShort_43 : decode cX7_stretchShort 43 = .ok (.iconst 1, 1) := by decide +kernel
theorem dX7_stretchShort_44 : decode cX7_stretchShort 44 = .ok (.isub, 1) := by decide +kernel
theorem dX7_stretchShort_45 : decode cX7_stretchShort 45 = .ok (.iaload, 1) := by decide +kernel
theorem dX7_stretchShort_46 : decode cX7_stretchShort 46 = .ok (.iconst 2, 1) := by decide +kernel
theorem dX7_stretchShort_47 : decode cX7_stretchShort 47 = .ok (.if_icmp .ne 7, 3) := by decide +kernel
theorem dX7_stretchShort_50 : decode cX7_stretchShort 50 = .ok (.iconst 1, 1) := by decide +kernel
theorem dX7_stretchShort_51 : decode cX7_stretchShort 51 = .ok (.goto 4, 3) := by decide +kernel
theorem dX7_stretchShort_54 : decode cX7_stretchShort 54 = .ok (.iconst 0, 1) := by decide +kernel
theorem dX7_stretchShort_55 : decode cX7_stretchShort 55 = .ok (.istore_n 2, 1) := by decide +kernel
theorem dX7_stretchShort_56 : decode cX7_stretchShort 56 = .ok (.iinc 3 (-1), 3) := by decide +kernel
theorem dX7_stretchShort_59 : decode cX7_stretchShort 59 = .ok (.goto (-41), 3) := by decide +kernel
theorem dX7_stretchShort_62 : decode cX7_stretchShort 62 = .ok (.iload_n 1, 1) := by decide +kernel
theorem dX7_stretchShort_63 : decode cX7_stretchShort 63 = .ok (.istore_n 3, 1) := by decide +kernel
theorem dX7_stretchShort_64 : decode cX7_stretchShort 64 = .ok (.iload_n 3, 1) := by decide +kernel
theorem dX7_stretchShort_65 : decode cX7_stretchShort 65 = .ok (.bipush 16, 2) := by decide +kernel
theorem dX7_stretchShort_67 : decode cX7_stretchShort 67 = .ok (.if_icmp .ge 41, 3) := by decide +kernel
theorem dX7_stretchShort_70 : decode cX7_stretchShort 70 = .ok (.aload_n 0, 1) := by decide +kernel
theorem dX7_stretchShort_71 : decode cX7_stretchShort 71 = .ok (.getfield 13, 3) := by decide +kernel
theorem dX7_stretchShort_74 : decode cX7_stretchShort 74 = .ok (.iload_n 3, 1) := by decide +kernel
theorem dX7_stretchShort_75 : decode cX7_stretchShort 75 = .ok (.iaload, 1) := by decide +kernel
theorem dX7_stretchShort_76 : decode cX7_stretchShort 76 = .ok (.iconst 4, 1) := by decide +kernel
theorem dX7_stretchShort_77 : decode cX7_stretchShort 77 = .ok (.if_icmp .eq 31, 3) := by decide +kernel
theorem dX7_stretchShort_80 : decode cX7_stretchShort 80 = .ok (.iload_n 2, 1) := by decide +kernel
theorem dX7_stretchShort_81 : decode cX7_stretchShort 81 = .ok (.ifCond .ne 15, 3) := by decide +kernel
theorem dX7_stretchShort_84 : decode cX7_stretchShort 84 = .ok (.aload_n 0, 1) := by decide +kernel
theorem dX7_stretchShort_85 : decode cX7_stretchShort 85 = .ok (.getfield 7, 3) := by decide +kernel
theorem dX7_stretchShort_88 : decode cX7_stretchShort 88 = .ok (.iload_n 3, 1) := by decide +kernel
theorem dX7_stretchShort_89 : decode cX7_stretchShort 89 = .ok (.iconst 1, 1) := by decide +kernel
theorem dX7_stretchShort_90 : decode cX7_stretchShort 90 = .ok (.iadd, 1) := by decide +kernel
theorem dX7_stretchShort_91 : decode cX7_stretchShort 91 = .ok (.iaload, 1) := by decide +kernel
theorem dX7_stretchShort_92 : decode cX7_stretchShort 92 = .ok (.iconst 2, 1) := by decide +kernel
theorem dX7_stretchShort_93 : decode cX7_stretchShort 93 = .ok (.if_icmp .ne 7, 3) := by decide +kernel
theorem dX7_stretchShort_96 : decode cX7_stretchShort 96 = .ok (.iconst 1, 1) := by decide +kernel
theorem dX7_stretchShort_97 : decode cX7_stretchShort 97 = .ok (.goto 4, 3) := by decide +kernel
theorem dX7_stretchShort_100 : decode cX7_stretchShort 100 = .ok (.iconst 0, 1) := by decide +kernel
theorem dX7_stretchShort_101 : decode cX7_stretchShort 101 = .ok (.istore_n 2, 1) := by decide +kernel
theorem dX7_stretchShort_102 : decode cX7_stretchShort 102 = .ok (.iinc 3 1, 3) := by decide +kernel
theorem dX7_stretchShort_105 : decode cX7_stretchShort 105 = .ok (.goto (-41), 3) := by decide +kernel
theorem dX7_stretchShort_108 : decode cX7_stretchShort 108 = .ok (.iload_n 2, 1) := by decide +kernel
theorem dX7_stretchShort_109 : decode cX7_stretchShort 109 = .ok (.ireturn, 1) := by decide +kernel
set_option maxRecDepth 20000 in
theorem ggX7_goes_X7_stretchShort : GoodIn wsX7_goes wsX7_stretchShort := goodIn_r _ [6, 1, 7, 8, 9, 10, 11, 12, 13, 14, 15, 16, 17, 18, 19, 20, 21, 22, 23, 24, 25, 26, 27, 28, 29, 30, 31, 32, 33, 34, 35, 36, 37, 38, 39, 40, 41] (by decide +kernel) (by decide +kernel)
set_option maxRecDepth 20000 in
theorem gX7_goes_X7_stretchShort : GoodIn wsX7_goes (wsV RX7 92 RX7 yX7_stretchShort wsX7_stretchShort) := goodIn_app (goodIn_of _ (by decide +kernel)) ggX7_goes_X7_stretchShort
theorem dX7_goes_0 : decode cX7_goes 0 = .ok (.aload_n 0, 1) := by decide +kernel
theorem dX7_goes_1 : decode cX7_goes 1 = .ok (.getfield 7, 3) := by decide +kernel
theorem dX7_goes_4 : decode cX7_goes 4 = .ok (.iload_n 1, 1) := by decide +kernel
theorem dX7_goes_5 : decode cX7_goes 5 = .ok (.iaload, 1) := by decide +kernel
theorem dX7_goes_6 : decode cX7_goes 6 = .ok (.iconst 1, 1) := by decide +kernel
theorem dX7_goes_7 : decode cX7_goes 7 = .ok (.if_icmp .eq 15, 3) := by decide +kernel
theorem dX7_goes_10 : decode cX7_goes 10 = .ok (.aload_n 0, 1) := by decide +kernel
theorem dX7_goes_11 : decode cX7_goes 11 = .ok (.iload_n 1, 1) := by decide +kernel
theorem dX7_goes_12 : decode cX7_goes 12 = .ok (.invokevirtual 92, 3) := by decide +kernel
theorem dX7_goes_15 : decode cX7_goes 15 = .ok (.ifCond .ne 7, 3) := by decide +kernel
theorem dX7_goes_18 : decode cX7_goes 18 = .ok (.iconst 1, 1) := by decide +kernel
theorem dX7_goes_19 : decode cX7_goes 19 = .ok (.goto 4, 3) := by decide +kernel
theorem dX7_goes_22 : decode cX7_goes 22 = .ok (.iconst 0, 1) := by decide +kernel
theorem dX7_goes_23 : decode cX7_goes 23 = .ok (.ireturn, 1) := by decide +kernel
set_option maxRecDepth 20000 in
theorem ggX7_reached_X7_goes : GoodIn wsX7_reached wsX7_goes := goodIn_r _ [5, 6, 7, 8, 9, 4, 10, 11, 12, 13, 14, 15, 16, 17, 18, 19, 20, 21, 22, 23, 24, 25, 26, 27, 28, 29, 30, 31, 32, 33, 34, 35, 36, 37, 38, 39, 40, 41, 42, 43, 44, 45] (by decide +kernel) (by decide +kernel)
set_option maxRecDepth 20000 in
theorem gX7_reached_X7_goes : GoodIn wsX7_reached (wsV RX7 96 RX7 yX7_goes wsX7_goes) := goodIn_app (goodIn_of _ (by decide +kernel)) ggX7_reached_X7_goes
theorem dX7_reached_0 : decode cX7_reached 0 = .ok (.iconst 1, 1) := by decide +kernel
theorem dX7_reached_1 : decode cX7_reached 1 = .ok (.istore_n 2, 1) := by decide +kernel
theorem dX7_reached_2 : decode cX7_reached 2 = .ok (.iconst 0, 1) := by decide +kernel
theorem dX7_reached_3 : decode cX7_reached 3 = .ok (.istore_n 3, 1) := by decide +kernel
theorem dX7_reached_4 : decode cX7_reached 4 = .ok (.iload_n 3, 1) := by decide +kernel
theorem dX7_reached_5 : decode cX7_reached 5 = .ok (.iload_n 1, 1) := by decide +kernel
theorem dX7_reached_6 : decode cX7_reached 6 = .ok (.if_icmp .gt 27, 3) := by decide +kernel
theorem dX7_reached_9 : decode cX7_reached 9 = .ok (.iload_n 2, 1) := by decide +kernel
theorem dX7_reached_10 : decode cX7_reached 10 = .ok (.ifCond .eq 15, 3) := by decide +kernel
theorem dX7_reached_13 : decode cX7_reached 13 = .ok (.aload_n 0, 1) := by decide +kernel
theorem dX7_reached_14 : decode cX7_reached 14 = .ok (.iload_n 3, 1) := by decide +kernel
theorem dX7_reached_15 : decode cX7_reached 15 = .ok (.invokevirtual 96, 3) := by decide +kernel
theorem dX7_reached_18 : decode cX7_reached 18 = .ok (.ifCond .eq 7, 3) := by decide +kernel
theorem dX7_reached_21 : decode cX7_reached 21 = .ok (.iconst 1, 1) := by decide +kernel
theorem dX7_reached_22 : decode cX7_reached 22 = .ok (.goto 4, 3) := by decide +kernel
theorem dX7_reached_25 : decode cX7_reached 25 = .ok (.iconst 0, 1) := by decide +kernel
theorem dX7_reached_26 : decode cX7_reached 26 = .ok (.istore_n 2, 1) := by decide +kernel
theorem dX7_reached_27 : decode cX7_reached 27 = .ok (.iinc 3 1, 3) := by decide +kernel
theorem dX7_reached_30 : decode cX7_reached 30 = .ok (.goto (-26), 3) := by decide +kernel
theorem dX7_reached_33 : decode cX7_reached 33 = .ok (.iconst 1, 1) := by decide +kernel
theorem dX7_reached_34 : decode cX7_reached 34 = .ok (.istore_n 3, 1) := by decide +kernel
theorem dX7_reached_35 : decode cX7_reached 35 = .ok (.iload_n 1, 1) := by decide +kernel
theorem dX7_reached_36 : decode cX7_reached 36 = .ok (.iconst 1, 1) := by decide +kernel
theorem dX7_reached_37 : decode cX7_reached 37 = .ok (.iadd, 1) := by decide +kernel
theorem dX7_reached_38 : decode cX7_reached 38 = .ok (.istore 4, 2) := by decide +kernel
theorem dX7_reached_40 : decode cX7_reached 40 = .ok (.iload 4, 2) := by decide +kernel
theorem dX7_reached_42 : decode cX7_reached 42 = .ok (.bipush 17, 2) := by decide +kernel
theorem dX7_reached_44 : decode cX7_reached 44 = .ok (.if_icmp .ge 28, 3) := by decide +kernel
theorem dX7_reached_47 : decode cX7_reached 47 = .ok (.iload_n 3, 1) := by decide +kernel
theorem dX7_reached_48 : decode cX7_reached 48 = .ok (.ifCond .eq 16, 3) := by decide +kernel
theorem dX7_reached_51 : decode cX7_reached 51 = .ok (.aload_n 0, 1) := by decide +kernel
theorem dX7_reached_52 : decode cX7_reached 52 = .ok (.iload 4, 2) := by decide +kernel
theorem dX7_reached_54 : decode cX7_reached 54 = .ok (.invokevirtual 96, 3) := by decide +kernel
theorem dX7_reached_57 : decode cX7_reached 57 = .ok (.ifCond .eq 7, 3) := by decide +kernel
theorem dX7_reached_60 : decode cX7_reached 60 = .ok (.iconst 1, 1) := by decide +kernel
theorem dX7_reached_61 : decode cX7_reached 61 = .ok (.goto 4, 3) := by decide +kernel
theorem dX7_reached_64 : decode cX7_reached 64 = .ok (.iconst 0, 1) := by decide +kernel
theorem dX7_reached_65 : decode cX7_reached 65 = .ok (.istore_n 3, 1) := by decide +kernel
theorem dX7_reached_66 : decode cX7_reached 66 = .ok (.iinc 4 1, 3) := by decide +kernel
theorem dX7_reached_69 : decode cX7_reached 69 = .ok (.goto (-29), 3) := by decide +kernel
theorem dX7_reached_72 : decode cX7_reached 72 = .ok (.iload_n 2, 1) := by decide +kernel
theorem dX7_reached_73 : decode cX7_reached 73 = .ok (.ifCond .ne 7, 3) := by decide +kernel
theorem dX7_reached_76 : decode cX7_reached 76 = .ok (.iload_n 3, 1) := by decide +kernel
theorem dX7_reached_77 : decode cX7_reached 77 = .ok (.ifCond .eq 7, 3) := by decide +kernel
theorem dX7_reached_80 : decode cX7_reached 80 = .ok (.iconst 1, 1) := by decide +kernel
theorem dX7_reached_81 : decode cX7_reached 81 = .ok (.goto 4, 3) := by decide +kernel
theorem dX7_reached_84 : decode cX7_reached 84 = .ok (.iconst 0, 1) := by decide +kernel
theorem dX7_reached_85 : decode cX7_reached 85 = .ok (.ireturn, 1) := by decide +kernel
set_option maxRecDepth 20000 in
theorem ggX7_isSensor_X7_in : GoodIn wsX7_isSensor wsX7_in := goodIn_r _ [5] (by decide +kernel) (by decide +kernel)
set_option maxRecDepth 20000 in
theorem gX7_isSensor_X7_in : GoodIn wsX7_isSensor (va_wsS RX7 99 yX7_in wsX7_in) := goodIn_app (goodIn_of _ (by decide +kernel)) ggX7_isSensor_X7_in
theorem dX7_isSensor_0 : decode cX7_isSensor 0 = .ok (.aload_n 0, 1) := by decide +kernel
theorem dX7_isSensor_1 : decode cX7_isSensor 1 = .ok (.getfield 13, 3) := by decide +kernel
theorem dX7_isSensor_4 : decode cX7_isSensor 4 = .ok (.iload_n 1, 1) := by decide +kernel
theorem dX7_isSensor_5 : decode cX7_isSensor 5 = .ok (.iaload, 1) := by decide +kernel
theorem dX7_isSensor_6 : decode cX7_isSensor 6 = .ok (.iconst 1, 1) := by decide +kernel
theorem dX7_isSensor_7 : decode cX7_isSensor 7 = .ok (.iconst 3, 1) := by decide +kernel
theorem dX7_isSensor_8 : decode cX7_isSensor 8 = .ok (.invokestatic 99, 3) := by decide +kernel
theorem dX7_isSensor_11 : decode cX7_isSensor 11 = .ok (.ireturn, 1) := by decide +kernel
set_option maxRecDepth 20000 in
theorem ggX7_fit_X7_in : GoodIn wsX7_fit wsX7_in := goodIn_r _ [17] (by decide +kernel) (by decide +kernel)
set_option maxRecDepth 20000 in
theorem gX7_fit_X7_in : GoodIn wsX7_fit (va_wsS RX7 99 yX7_in wsX7_in) := goodIn_app (goodIn_of _ (by decide +kernel)) ggX7_fit_X7_in
theorem dX7_fit_0 : decode cX7_fit 0 = .ok (.aload_n 0, 1) := by decide +kernel
theorem dX7_fit_1 : decode cX7_fit 1 = .ok (.iload_n 1, 1) := by decide +kernel
theorem dX7_fit_2 : decode cX7_fit 2 = .ok (.iconst 0, 1) := by decide +kernel
theorem dX7_fit_3 : decode cX7_fit 3 = .ok (.bipush 15, 2) := by decide +kernel
theorem dX7_fit_5 : decode cX7_fit 5 = .ok (.invokestatic 99, 3) := by decide +kernel
theorem dX7_fit_8 : decode cX7_fit 8 = .ok (.ifCond .eq 12, 3) := by decide +kernel
theorem dX7_fit_11 : decode cX7_fit 11 = .ok (.iload_n 3, 1) := by decide +kernel
theorem dX7_fit_12 : decode cX7_fit 12 = .ok (.iconst 0, 1) := by decide +kernel
theorem dX7_fit_13 : decode cX7_fit 13 = .ok (.iconst 3, 1) := by decide +kernel
theorem dX7_fit_14 : decode cX7_fit 14 = .ok (.invokestatic 99, 3) := by decide +kernel
theorem dX7_fit_17 : decode cX7_fit 17 = .ok (.ifCond .ne 7, 3) := by decide +kernel
theorem dX7_fit_20 : decode cX7_fit 20 = .ok (.iconst 1, 1) := by decide +kernel
theorem dX7_fit_21 : decode cX7_fit 21 = .ok (.goto 45, 3) := by decide +kernel
theorem dX7_fit_24 : decode cX7_fit 24 = .ok (.iload_n 2, 1) := by decide +kernel
theorem dX7_fit_25 : decode cX7_fit 25 = .ok (.iconst 0, 1) := by decide +kernel
theorem dX7_fit_26 : decode cX7_fit 26 = .ok (.iconst 4, 1) := by decide +kernel
theorem dX7_fit_27 : decode cX7_fit 27 = .ok (.invokestatic 99, 3) := by decide +kernel
theorem dX7_fit_30 : decode cX7_fit 30 = .ok (.ifCond .eq 19, 3) := by decide +kernel
theorem dX7_fit_33 : decode cX7_fit 33 = .ok (.fload 4, 2) := by decide +kernel
theorem dX7_fit_35 : decode cX7_fit 35 = .ok (.ldc 103, 2) := by decide +kernel
theorem dX7_fit_37 : decode cX7_fit 37 = .ok (.fcmp .l, 1) := by decide +kernel
theorem dX7_fit_38 : decode cX7_fit 38 = .ok (.ifCond .lt 11, 3) := by decide +kernel
theorem dX7_fit_41 : decode cX7_fit 41 = .ok (.fload 4, 2) := by decide +kernel
theorem dX7_fit_43 : decode cX7_fit 43 = .ok (.ldc 104, 2) := by decide +kernel
theorem dX7_fit_45 : decode cX7_fit 45 = .ok (.fcmp .g, 1) := by decide +kernel
theorem dX7_fit_46 : decode cX7_fit 46 = .ok (.ifCond .le 7, 3) := by decide +kernel
theorem dX7_fit_49 : decode cX7_fit 49 = .ok (.iconst 2, 1) := by decide +kernel
theorem dX7_fit_50 : decode cX7_fit 50 = .ok (.goto 16, 3) := by decide +kernel
theorem dX7_fit_53 : decode cX7_fit 53 = .ok (.aload_n 0, 1) := by decide +kernel
theorem dX7_fit_54 : decode cX7_fit 54 = .ok (.getfield 105, 3) := by decide +kernel
theorem dX7_fit_57 : decode cX7_fit 57 = .ok (.iconst 2, 1) := by decide +kernel
theorem dX7_fit_58 : decode cX7_fit 58 = .ok (.if_icmp .ge 7, 3) := by decide +kernel
theorem dX7_fit_61 : decode cX7_fit 61 = .ok (.iconst 3, 1) := by decide +kernel
theorem dX7_fit_62 : decode cX7_fit 62 = .ok (.goto 4, 3) := by decide +kernel
theorem dX7_fit_65 : decode cX7_fit 65 = .ok (.iconst 0, 1) := by decide +kernel
theorem dX7_fit_66 : decode cX7_fit 66 = .ok (.putfield 88, 3) := by decide +kernel
theorem dX7_fit_69 : decode cX7_fit 69 = .ok (.aload_n 0, 1) := by decide +kernel
theorem dX7_fit_70 : decode cX7_fit 70 = .ok (.getfield 88, 3) := by decide +kernel
theorem dX7_fit_73 : decode cX7_fit 73 = .ok (.ifCond .le 4, 3) := by decide +kernel
theorem dX7_fit_76 : decode cX7_fit 76 = .ok (.return_, 1) := by decide +kernel
theorem dX7_fit_77 : decode cX7_fit 77 = .ok (.aload_n 0, 1) := by decide +kernel
theorem dX7_fit_78 : decode cX7_fit 78 = .ok (.getfield 13, 3) := by decide +kernel
theorem dX7_fit_81 : decode cX7_fit 81 = .ok (.iload_n 1, 1) := by decide +kernel
theorem dX7_fit_82 : decode cX7_fit 82 = .ok (.iload_n 2, 1) := by decide +kernel
theorem dX7_fit_83 : decode cX7_fit 83 = .ok (.iastore, 1) := by decide +kernel
theorem dX7_fit_84 : decode cX7_fit 84 = .ok (.aload_n 0, 1) := by decide +kernel
theorem dX7_fit_85 : decode cX7_fit 85 = .ok (.getfield 16, 3) := by decide +kernel
theorem dX7_fit_88 : decode cX7_fit 88 = .ok (.iload_n 1, 1) := by decide +kernel
theorem dX7_fit_89 : decode cX7_fit 89 = .ok (.iload_n 3, 1) := by decide +kernel
theorem dX7_fit_90 : decode cX7_fit 90 = .ok (.iastore, 1) := by decide +kernel
theorem dX7_fit_91 : decode cX7_fit 91 = .ok (.aload_n 0, 1) := by decide +kernel
theorem dX7_fit_92 : decode cX7_fit 92 = .ok (.getfield 19, 3) := by decide +kernel
theorem dX7_fit_95 : decode cX7_fit 95 = .ok (.iload_n 1, 1) := by decide +kernel
theorem dX7_fit_96 : decode cX7_fit 96 = .ok (.fload 4, 2) := by decide +kernel
theorem dX7_fit_98 : decode cX7_fit 98 = .ok (.fastore, 1) := by decide +kernel
theorem dX7_fit_99 : decode cX7_fit 99 = .ok (.aload_n 0, 1) := by decide +kernel
theorem dX7_fit_100 : decode cX7_fit 100 = .ok (.getfield 26, 3) := by decide +kernel
theorem dX7_fit_103 : decode cX7_fit 103 = .ok (.iload_n 1, 1) := by decide +kernel
theorem dX7_fit_104 : decode cX7_fit 104 = .ok (.fconst 0, 1) := by decide +kernel
theorem dX7_fit_105 : decode cX7_fit 105 = .ok (.fastore, 1) := by decide +kernel
theorem dX7_fit_106 : decode cX7_fit 106 = .ok (.aload_n 0, 1) := by decide +kernel
theorem dX7_fit_107 : decode cX7_fit 107 = .ok (.getfield 29, 3) := by decide +kernel
theorem dX7_fit_110 : decode cX7_fit 110 = .ok (.iload_n 1, 1) := by decide +kernel
theorem dX7_fit_111 : decode cX7_fit 111 = .ok (.fconst 0, 1) := by decide +kernel
theorem dX7_fit_112 : decode cX7_fit 112 = .ok (.fastore, 1) := by decide +kernel
theorem dX7_fit_113 : decode cX7_fit 113 = .ok (.aload_n 0, 1) := by decide +kernel
theorem dX7_fit_114 : decode cX7_fit 114 = .ok (.getfield 32, 3) := by decide +kernel
theorem dX7_fit_117 : decode cX7_fit 117 = .ok (.iload_n 1, 1) := by decide +kernel
theorem dX7_fit_118 : decode cX7_fit 118 = .ok (.iconst 0, 1) := by decide +kernel
theorem dX7_fit_119 : decode cX7_fit 119 = .ok (.iastore, 1) := by decide +kernel
theorem dX7_fit_120 : decode cX7_fit 120 = .ok (.aload_n 0, 1) := by decide +kernel
theorem dX7_fit_121 : decode cX7_fit 121 = .ok (.getfield 35, 3) := by decide +kernel
theorem dX7_fit_124 : decode cX7_fit 124 = .ok (.iload_n 1, 1) := by decide +kernel
theorem dX7_fit_125 : decode cX7_fit 125 = .ok (.iconst 0, 1) := by decide +kernel
theorem dX7_fit_126 : decode cX7_fit 126 = .ok (.bastore, 1) := by decide +kernel
theorem dX7_fit_127 : decode cX7_fit 127 = .ok (.aload_n 0, 1) := by decide +kernel
theorem dX7_fit_128 : decode cX7_fit 128 = .ok (.getfield 39, 3) := by decide +kernel
theorem dX7_fit_131 : decode cX7_fit 131 = .ok (.iload_n 1, 1) := by decide +kernel
theorem dX7_fit_132 : decode cX7_fit 132 = .ok (.iconst 0, 1) := by decide +kernel
theorem dX7_fit_133 : decode cX7_fit 133 = .ok (.iastore, 1) := by decide +kernel
theorem dX7_fit_134 : decode cX7_fit 134 = .ok (.aload_n 0, 1) := by decide +kernel
theorem dX7_fit_135 : decode cX7_fit 135 = .ok (.getfield 42, 3) := by decide +kernel
theorem dX7_fit_138 : decode cX7_fit 138 = .ok (.iload_n 1, 1) := by decide +kernel
theorem dX7_fit_139 : decode cX7_fit 139 = .ok (.iconst 0, 1) := by decide +kernel
theorem dX7_fit_140 : decode cX7_fit 140 = .ok (.bastore, 1) := by decide +kernel
theorem dX7_fit_141 : decode cX7_fit 141 = .ok (.return_, 1) := by decide +kernel
set_option maxRecDepth 20000 in
theorem ggX7_need_X7_in : GoodIn wsX7_need wsX7_in := goodIn_r _ [7] (by decide +kernel) (by decide +kernel)
set_option maxRecDepth 20000 in
theorem gX7_need_X7_in : GoodIn wsX7_need (va_wsS RX7 99 yX7_in wsX7_in) := goodIn_app (goodIn_of _ (by decide +kernel)) ggX7_need_X7_in
theorem dX7_need_0 : decode cX7_need 0 = .ok (.aload_n 0, 1) := by decide +kernel
theorem dX7_need_1 : decode cX7_need 1 = .ok (.iload_n 1, 1) := by decide +kernel
theorem dX7_need_2 : decode cX7_need 2 = .ok (.iconst 0, 1) := by decide +kernel
theorem dX7_need_3 : decode cX7_need 3 = .ok (.iconst 3, 1) := by decide +kernel
theorem dX7_need_4 : decode cX7_need 4 = .ok (.invokestatic 99, 3) := by decide +kernel
theorem dX7_need_7 : decode cX7_need 7 = .ok (.ifCond .ne 7, 3) := by decide +kernel
theorem dX7_need_10 : decode cX7_need 10 = .ok (.iconst 1, 1) := by decide +kernel
theorem dX7_need_11 : decode cX7_need 11 = .ok (.goto 29, 3) := by decide +kernel
theorem dX7_need_14 : decode cX7_need 14 = .ok (.iload_n 2, 1) := by decide +kernel
theorem dX7_need_15 : decode cX7_need 15 = .ok (.iconst 1, 1) := by decide +kernel
theorem dX7_need_16 : decode cX7_need 16 = .ok (.iconst 4, 1) := by decide +kernel
theorem dX7_need_17 : decode cX7_need 17 = .ok (.invokestatic 99, 3) := by decide +kernel
theorem dX7_need_20 : decode cX7_need 20 = .ok (.ifCond .ne 7, 3) := by decide +kernel
theorem dX7_need_23 : decode cX7_need 23 = .ok (.iconst 2, 1) := by decide +kernel
theorem dX7_need_24 : decode cX7_need 24 = .ok (.goto 16, 3) := by decide +kernel
theorem dX7_need_27 : decode cX7_need 27 = .ok (.aload_n 0, 1) := by decide +kernel
theorem dX7_need_28 : decode cX7_need 28 = .ok (.getfield 105, 3) := by decide +kernel
theorem dX7_need_31 : decode cX7_need 31 = .ok (.iconst 2, 1) := by decide +kernel
theorem dX7_need_32 : decode cX7_need 32 = .ok (.if_icmp .ge 7, 3) := by decide +kernel
theorem dX7_need_35 : decode cX7_need 35 = .ok (.iconst 3, 1) := by decide +kernel
theorem dX7_need_36 : decode cX7_need 36 = .ok (.goto 4, 3) := by decide +kernel
theorem dX7_need_39 : decode cX7_need 39 = .ok (.iconst 0, 1) := by decide +kernel
theorem dX7_need_40 : decode cX7_need 40 = .ok (.putfield 88, 3) := by decide +kernel
theorem dX7_need_43 : decode cX7_need 43 = .ok (.aload_n 0, 1) := by decide +kernel
theorem dX7_need_44 : decode cX7_need 44 = .ok (.getfield 88, 3) := by decide +kernel
theorem dX7_need_47 : decode cX7_need 47 = .ok (.ifCond .ne 10, 3) := by decide +kernel
theorem dX7_need_50 : decode cX7_need 50 = .ok (.aload_n 0, 1) := by decide +kernel
theorem dX7_need_51 : decode cX7_need 51 = .ok (.getfield 51, 3) := by decide +kernel
theorem dX7_need_54 : decode cX7_need 54 = .ok (.iload_n 1, 1) := by decide +kernel
theorem dX7_need_55 : decode cX7_need 55 = .ok (.iload_n 2, 1) := by decide +kernel
theorem dX7_need_56 : decode cX7_need 56 = .ok (.iastore, 1) := by decide +kernel
theorem dX7_need_57 : decode cX7_need 57 = .ok (.return_, 1) := by decide +kernel
set_option maxRecDepth 20000 in
theorem ggX7_wire_X7_in : GoodIn wsX7_wire wsX7_in := goodIn_r _ [6] (by decide +kernel) (by decide +kernel)
set_option maxRecDepth 20000 in
theorem gX7_wire_X7_in : GoodIn wsX7_wire (va_wsS RX7 99 yX7_in wsX7_in) := goodIn_app (goodIn_of _ (by decide +kernel)) ggX7_wire_X7_in
theorem dX7_wire_0 : decode cX7_wire 0 = .ok (.aload_n 0, 1) := by decide +kernel
theorem dX7_wire_1 : decode cX7_wire 1 = .ok (.iload_n 1, 1) := by decide +kernel
theorem dX7_wire_2 : decode cX7_wire 2 = .ok (.iconst 0, 1) := by decide +kernel
theorem dX7_wire_3 : decode cX7_wire 3 = .ok (.bipush 16, 2) := by decide +kernel
theorem dX7_wire_5 : decode cX7_wire 5 = .ok (.invokestatic 99, 3) := by decide +kernel
theorem dX7_wire_8 : decode cX7_wire 8 = .ok (.ifCond .ne 7, 3) := by decide +kernel
theorem dX7_wire_11 : decode cX7_wire 11 = .ok (.iconst 1, 1) := by decide +kernel
theorem dX7_wire_12 : decode cX7_wire 12 = .ok (.goto 17, 3) := by decide +kernel
theorem dX7_wire_15 : decode cX7_wire 15 = .ok (.iload_n 2, 1) := by decide +kernel
theorem dX7_wire_16 : decode cX7_wire 16 = .ok (.iconst 0, 1) := by decide +kernel
theorem dX7_wire_17 : decode cX7_wire 17 = .ok (.iconst 2, 1) := by decide +kernel
theorem dX7_wire_18 : decode cX7_wire 18 = .ok (.invokestatic 99, 3) := by decide +kernel
theorem dX7_wire_21 : decode cX7_wire 21 = .ok (.ifCond .ne 7, 3) := by decide +kernel
theorem dX7_wire_24 : decode cX7_wire 24 = .ok (.iconst 2, 1) := by decide +kernel
theorem dX7_wire_25 : decode cX7_wire 25 = .ok (.goto 4, 3) := by decide +kernel
theorem dX7_wire_28 : decode cX7_wire 28 = .ok (.iconst 0, 1) := by decide +kernel
theorem dX7_wire_29 : decode cX7_wire 29 = .ok (.putfield 88, 3) := by decide +kernel
theorem dX7_wire_32 : decode cX7_wire 32 = .ok (.aload_n 0, 1) := by decide +kernel
theorem dX7_wire_33 : decode cX7_wire 33 = .ok (.getfield 88, 3) := by decide +kernel
theorem dX7_wire_36 : decode cX7_wire 36 = .ok (.ifCond .ne 10, 3) := by decide +kernel
theorem dX7_wire_39 : decode cX7_wire 39 = .ok (.aload_n 0, 1) := by decide +kernel
theorem dX7_wire_40 : decode cX7_wire 40 = .ok (.getfield 7, 3) := by decide +kernel
theorem dX7_wire_43 : decode cX7_wire 43 = .ok (.iload_n 1, 1) := by decide +kernel
theorem dX7_wire_44 : decode cX7_wire 44 = .ok (.iload_n 2, 1) := by decide +kernel
theorem dX7_wire_45 : decode cX7_wire 45 = .ok (.iastore, 1) := by decide +kernel
theorem dX7_wire_46 : decode cX7_wire 46 = .ok (.return_, 1) := by decide +kernel
set_option maxRecDepth 20000 in
theorem ggX7_reading_X7_in : GoodIn wsX7_reading wsX7_in := goodIn_r _ [8] (by decide +kernel) (by decide +kernel)
set_option maxRecDepth 20000 in
theorem gX7_reading_X7_in : GoodIn wsX7_reading (va_wsS RX7 99 yX7_in wsX7_in) := goodIn_app (goodIn_of _ (by decide +kernel)) ggX7_reading_X7_in
theorem dX7_reading_0 : decode cX7_reading 0 = .ok (.aload_n 0, 1) := by decide +kernel
theorem dX7_reading_1 : decode cX7_reading 1 = .ok (.iload_n 1, 1) := by decide +kernel
theorem dX7_reading_2 : decode cX7_reading 2 = .ok (.iconst 0, 1) := by decide +kernel
theorem dX7_reading_3 : decode cX7_reading 3 = .ok (.bipush 15, 2) := by decide +kernel
theorem dX7_reading_5 : decode cX7_reading 5 = .ok (.invokestatic 99, 3) := by decide +kernel
theorem dX7_reading_8 : decode cX7_reading 8 = .ok (.ifCond .ne 7, 3) := by decide +kernel
theorem dX7_reading_11 : decode cX7_reading 11 = .ok (.iconst 1, 1) := by decide +kernel
theorem dX7_reading_12 : decode cX7_reading 12 = .ok (.goto 22, 3) := by decide +kernel
theorem dX7_reading_15 : decode cX7_reading 15 = .ok (.fload_n 2, 1) := by decide +kernel
theorem dX7_reading_16 : decode cX7_reading 16 = .ok (.ldc 108, 2) := by decide +kernel
theorem dX7_reading_18 : decode cX7_reading 18 = .ok (.fcmp .l, 1) := by decide +kernel
theorem dX7_reading_19 : decode cX7_reading 19 = .ok (.ifCond .lt 10, 3) := by decide +kernel
theorem dX7_reading_22 : decode cX7_reading 22 = .ok (.fload_n 2, 1) := by decide +kernel
theorem dX7_reading_23 : decode cX7_reading 23 = .ok (.ldc 109, 2) := by decide +kernel
theorem dX7_reading_25 : decode cX7_reading 25 = .ok (.fcmp .g, 1) := by decide +kernel
theorem dX7_reading_26 : decode cX7_reading 26 = .ok (.ifCond .le 7, 3) := by decide +kernel
theorem dX7_reading_29 : decode cX7_reading 29 = .ok (.iconst 2, 1) := by decide +kernel
theorem dX7_reading_30 : decode cX7_reading 30 = .ok (.goto 4, 3) := by decide +kernel
theorem dX7_reading_33 : decode cX7_reading 33 = .ok (.iconst 0, 1) := by decide +kernel
theorem dX7_reading_34 : decode cX7_reading 34 = .ok (.putfield 88, 3) := by decide +kernel
theorem dX7_reading_37 : decode cX7_reading 37 = .ok (.aload_n 0, 1) := by decide +kernel
theorem dX7_reading_38 : decode cX7_reading 38 = .ok (.getfield 88, 3) := by decide +kernel
theorem dX7_reading_41 : decode cX7_reading 41 = .ok (.ifCond .ne 10, 3) := by decide +kernel
theorem dX7_reading_44 : decode cX7_reading 44 = .ok (.aload_n 0, 1) := by decide +kernel
theorem dX7_reading_45 : decode cX7_reading 45 = .ok (.getfield 23, 3) := by decide +kernel
theorem dX7_reading_48 : decode cX7_reading 48 = .ok (.iload_n 1, 1) := by decide +kernel
theorem dX7_reading_49 : decode cX7_reading 49 = .ok (.fload_n 2, 1) := by decide +kernel
theorem dX7_reading_50 : decode cX7_reading 50 = .ok (.fastore, 1) := by decide +kernel
theorem dX7_reading_51 : decode cX7_reading 51 = .ok (.return_, 1) := by decide +kernel
theorem dX7_type_0 : decode cX7_type 0 = .ok (.aload_n 0, 1) := by decide +kernel
theorem dX7_type_1 : decode cX7_type 1 = .ok (.iconst 0, 1) := by decide +kernel
theorem dX7_type_2 : decode cX7_type 2 = .ok (.putfield 88, 3) := by decide +kernel
theorem dX7_type_5 : decode cX7_type 5 = .ok (.iload_n 1, 1) := by decide +kernel
theorem dX7_type_6 : decode cX7_type 6 = .ok (.bipush 122, 2) := by decide +kernel
theorem dX7_type_8 : decode cX7_type 8 = .ok (.if_icmp .eq 69, 3) := by decide +kernel
theorem dX7_type_11 : decode cX7_type 11 = .ok (.iload_n 1, 1) := by decide +kernel
theorem dX7_type_12 : decode cX7_type 12 = .ok (.bipush 119, 2) := by decide +kernel
theorem dX7_type_14 : decode cX7_type 14 = .ok (.if_icmp .eq 63, 3) := by decide +kernel
theorem dX7_type_17 : decode cX7_type 17 = .ok (.iload_n 1, 1) := by decide +kernel
theorem dX7_type_18 : decode cX7_type 18 = .ok (.bipush 102, 2) := by decide +kernel
theorem dX7_type_20 : decode cX7_type 20 = .ok (.if_icmp .eq 57, 3) := by decide +kernel
theorem dX7_type_23 : decode cX7_type 23 = .ok (.iload_n 1, 1) := by decide +kernel
theorem dX7_type_24 : decode cX7_type 24 = .ok (.bipush 33, 2) := by decide +kernel
theorem dX7_type_26 : decode cX7_type 26 = .ok (.if_icmp .eq 51, 3) := by decide +kernel
theorem dX7_type_29 : decode cX7_type 29 = .ok (.iload_n 1, 1) := by decide +kernel
theorem dX7_type_30 : decode cX7_type 30 = .ok (.bipush 40, 2) := by decide +kernel
theorem dX7_type_32 : decode cX7_type 32 = .ok (.if_icmp .eq 45, 3) := by decide +kernel
theorem dX7_type_35 : decode cX7_type 35 = .ok (.iload_n 1, 1) := by decide +kernel
theorem dX7_type_36 : decode cX7_type 36 = .ok (.bipush 41, 2) := by decide +kernel
theorem dX7_type_38 : decode cX7_type 38 = .ok (.if_icmp .eq 39, 3) := by decide +kernel
theorem dX7_type_41 : decode cX7_type 41 = .ok (.iload_n 1, 1) := by decide +kernel
theorem dX7_type_42 : decode cX7_type 42 = .ok (.bipush 38, 2) := by decide +kernel
theorem dX7_type_44 : decode cX7_type 44 = .ok (.if_icmp .eq 33, 3) := by decide +kernel
theorem dX7_type_47 : decode cX7_type 47 = .ok (.iload_n 1, 1) := by decide +kernel
theorem dX7_type_48 : decode cX7_type 48 = .ok (.bipush 124, 2) := by decide +kernel
theorem dX7_type_50 : decode cX7_type 50 = .ok (.if_icmp .eq 27, 3) := by decide +kernel
theorem dX7_type_53 : decode cX7_type 53 = .ok (.iload_n 1, 1) := by decide +kernel
theorem dX7_type_54 : decode cX7_type 54 = .ok (.bipush 62, 2) := by decide +kernel
theorem dX7_type_56 : decode cX7_type 56 = .ok (.if_icmp .eq 21, 3) := by decide +kernel
theorem dX7_type_59 : decode cX7_type 59 = .ok (.iload_n 1, 1) := by decide +kernel
theorem dX7_type_60 : decode cX7_type 60 = .ok (.bipush 58, 2) := by decide +kernel
theorem dX7_type_62 : decode cX7_type 62 = .ok (.if_icmp .eq 15, 3) := by decide +kernel
theorem dX7_type_65 : decode cX7_type 65 = .ok (.iload_n 1, 1) := by decide +kernel
theorem dX7_type_66 : decode cX7_type 66 = .ok (.bipush 48, 2) := by decide +kernel
theorem dX7_type_68 : decode cX7_type 68 = .ok (.if_icmp .lt 13, 3) := by decide +kernel
theorem dX7_type_71 : decode cX7_type 71 = .ok (.iload_n 1, 1) := by decide +kernel
theorem dX7_type_72 : decode cX7_type 72 = .ok (.bipush 57, 2) := by decide +kernel
theorem dX7_type_74 : decode cX7_type 74 = .ok (.if_icmp .gt 7, 3) := by decide +kernel
theorem dX7_type_77 : decode cX7_type 77 = .ok (.iconst 1, 1) := by decide +kernel
theorem dX7_type_78 : decode cX7_type 78 = .ok (.goto 4, 3) := by decide +kernel
theorem dX7_type_81 : decode cX7_type 81 = .ok (.iconst 0, 1) := by decide +kernel
theorem dX7_type_82 : decode cX7_type 82 = .ok (.istore_n 2, 1) := by decide +kernel
theorem dX7_type_83 : decode cX7_type 83 = .ok (.iload_n 2, 1) := by decide +kernel
theorem dX7_type_84 : decode cX7_type 84 = .ok (.ifCond .eq 12, 3) := by decide +kernel
theorem dX7_type_87 : decode cX7_type 87 = .ok (.aload_n 0, 1) := by decide +kernel
theorem dX7_type_88 : decode cX7_type 88 = .ok (.getfield 110, 3) := by decide +kernel
theorem dX7_type_91 : decode cX7_type 91 = .ok (.bipush 20, 2) := by decide +kernel
theorem dX7_type_93 : decode cX7_type 93 = .ok (.if_icmp .ne 5, 3) := by decide +kernel
theorem dX7_type_96 : decode cX7_type 96 = .ok (.iconst 0, 1) := by decide +kernel
theorem dX7_type_97 : decode cX7_type 97 = .ok (.ireturn, 1) := by decide +kernel
theorem dX7_type_98 : decode cX7_type 98 = .ok (.aload_n 0, 1) := by decide +kernel
theorem dX7_type_99 : decode cX7_type 99 = .ok (.getfield 75, 3) := by decide +kernel
theorem dX7_type_102 : decode cX7_type 102 = .ok (.aload_n 0, 1) := by decide +kernel
theorem dX7_type_103 : decode cX7_type 103 = .ok (.getfield 110, 3) := by decide +kernel
theorem dX7_type_106 : decode cX7_type 106 = .ok (.iload_n 1, 1) := by decide +kernel
theorem dX7_type_107 : decode cX7_type 107 = .ok (.castore, 1) := by decide +kernel
theorem dX7_type_108 : decode cX7_type 108 = .ok (.aload_n 0, 1) := by decide +kernel
theorem dX7_type_109 : decode cX7_type 109 = .ok (.dup, 1) := by decide +kernel
theorem dX7_type_110 : decode cX7_type 110 = .ok (.getfield 110, 3) := by decide +kernel
theorem dX7_type_113 : decode cX7_type 113 = .ok (.iconst 1, 1) := by decide +kernel
theorem dX7_type_114 : decode cX7_type 114 = .ok (.iadd, 1) := by decide +kernel
theorem dX7_type_115 : decode cX7_type 115 = .ok (.putfield 110, 3) := by decide +kernel
theorem dX7_type_118 : decode cX7_type 118 = .ok (.iconst 1, 1) := by decide +kernel
theorem dX7_type_119 : decode cX7_type 119 = .ok (.ireturn, 1) := by decide +kernel
theorem dX7_look_0 : decode cX7_look 0 = .ok (.iload_n 1, 1) := by decide +kernel
theorem dX7_look_1 : decode cX7_look 1 = .ok (.aload_n 0, 1) := by decide +kernel
theorem dX7_look_2 : decode cX7_look 2 = .ok (.getfield 110, 3) := by decide +kernel
theorem dX7_look_5 : decode cX7_look 5 = .ok (.if_icmp .ge 12, 3) := by decide +kernel
theorem dX7_look_8 : decode cX7_look 8 = .ok (.aload_n 0, 1) := by decide +kernel
theorem dX7_look_9 : decode cX7_look 9 = .ok (.getfield 75, 3) := by decide +kernel
theorem dX7_look_12 : decode cX7_look 12 = .ok (.iload_n 1, 1) := by decide +kernel
theorem dX7_look_13 : decode cX7_look 13 = .ok (.caload, 1) := by decide +kernel
theorem dX7_look_14 : decode cX7_look 14 = .ok (.goto 4, 3) := by decide +kernel
theorem dX7_look_17 : decode cX7_look 17 = .ok (.iconst 0, 1) := by decide +kernel
theorem dX7_look_18 : decode cX7_look 18 = .ok (.ireturn, 1) := by decide +kernel
theorem dX7_word_0 : decode cX7_word 0 = .ok (.aload_n 0, 1) := by decide +kernel
theorem dX7_word_1 : decode cX7_word 1 = .ok (.getfield 85, 3) := by decide +kernel
theorem dX7_word_4 : decode cX7_word 4 = .ok (.aload_n 0, 1) := by decide +kernel
theorem dX7_word_5 : decode cX7_word 5 = .ok (.getfield 113, 3) := by decide +kernel
theorem dX7_word_8 : decode cX7_word 8 = .ok (.iload_n 1, 1) := by decide +kernel
theorem dX7_word_9 : decode cX7_word 9 = .ok (.iastore, 1) := by decide +kernel
theorem dX7_word_10 : decode cX7_word 10 = .ok (.aload_n 0, 1) := by decide +kernel
theorem dX7_word_11 : decode cX7_word 11 = .ok (.dup, 1) := by decide +kernel
theorem dX7_word_12 : decode cX7_word 12 = .ok (.getfield 113, 3) := by decide +kernel
theorem dX7_word_15 : decode cX7_word 15 = .ok (.iconst 1, 1) := by decide +kernel
theorem dX7_word_16 : decode cX7_word 16 = .ok (.iadd, 1) := by decide +kernel
theorem dX7_word_17 : decode cX7_word 17 = .ok (.putfield 113, 3) := by decide +kernel
theorem dX7_word_20 : decode cX7_word 20 = .ok (.return_, 1) := by decide +kernel
theorem dX7_deepness_0 : decode cX7_deepness 0 = .ok (.iconst 0, 1) := by decide +kernel
theorem dX7_deepness_1 : decode cX7_deepness 1 = .ok (.istore_n 1, 1) := by decide +kernel
theorem dX7_deepness_2 : decode cX7_deepness 2 = .ok (.iconst 0, 1) := by decide +kernel
theorem dX7_deepness_3 : decode cX7_deepness 3 = .ok (.istore_n 2, 1) := by decide +kernel
theorem dX7_deepness_4 : decode cX7_deepness 4 = .ok (.iload_n 2, 1) := by decide +kernel
theorem dX7_deepness_5 : decode cX7_deepness 5 = .ok (.aload_n 0, 1) := by decide +kernel
theorem dX7_deepness_6 : decode cX7_deepness 6 = .ok (.getfield 116, 3) := by decide +kernel
theorem dX7_deepness_9 : decode cX7_deepness 9 = .ok (.if_icmp .ge 39, 3) := by decide +kernel
theorem dX7_deepness_12 : decode cX7_deepness 12 = .ok (.aload_n 0, 1) := by decide +kernel
theorem dX7_deepness_13 : decode cX7_deepness 13 = .ok (.getfield 82, 3) := by decide +kernel
theorem dX7_deepness_16 : decode cX7_deepness 16 = .ok (.iload_n 2, 1) := by decide +kernel
theorem dX7_deepness_17 : decode cX7_deepness 17 = .ok (.caload, 1) := by decide +kernel
theorem dX7_deepness_18 : decode cX7_deepness 18 = .ok (.bipush 33, 2) := by decide +kernel
theorem dX7_deepness_20 : decode cX7_deepness 20 = .ok (.if_icmp .eq 14, 3) := by decide +kernel
theorem dX7_deepness_23 : decode cX7_deepness 23 = .ok (.aload_n 0, 1) := by decide +kernel
theorem dX7_deepness_24 : decode cX7_deepness 24 = .ok (.getfield 82, 3) := by decide +kernel
theorem dX7_deepness_27 : decode cX7_deepness 27 = .ok (.iload_n 2, 1) := by decide +kernel
theorem dX7_deepness_28 : decode cX7_deepness 28 = .ok (.caload, 1) := by decide +kernel
theorem dX7_deepness_29 : decode cX7_deepness 29 = .ok (.bipush 40, 2) := by decide +kernel
theorem dX7_deepness_31 : decode cX7_deepness 31 = .ok (.if_icmp .ne 9, 3) := by decide +kernel
theorem dX7_deepness_34 : decode cX7_deepness 34 = .ok (.iload_n 1, 1) := by decide +kernel
theorem dX7_deepness_35 : decode cX7_deepness 35 = .ok (.iconst 1, 1) := by decide +kernel
theorem dX7_deepness_36 : decode cX7_deepness 36 = .ok (.iadd, 1) := by decide +kernel
theorem dX7_deepness_37 : decode cX7_deepness 37 = .ok (.goto 4, 3) := by decide +kernel
theorem dX7_deepness_40 : decode cX7_deepness 40 = .ok (.iload_n 1, 1) := by decide +kernel
theorem dX7_deepness_41 : decode cX7_deepness 41 = .ok (.istore_n 1, 1) := by decide +kernel
theorem dX7_deepness_42 : decode cX7_deepness 42 = .ok (.iinc 2 1, 3) := by decide +kernel
theorem dX7_deepness_45 : decode cX7_deepness 45 = .ok (.goto (-41), 3) := by decide +kernel
theorem dX7_deepness_48 : decode cX7_deepness 48 = .ok (.iload_n 1, 1) := by decide +kernel
theorem dX7_deepness_49 : decode cX7_deepness 49 = .ok (.ireturn, 1) := by decide +kernel
set_option maxRecDepth 20000 in
theorem ggX7_termDone_X7_word : GoodIn wsX7_termDone wsX7_word := goodIn_r _ [7, 8, 9, 10, 11, 12, 13, 14, 15, 16, 17, 18, 19, 20, 21, 22, 23, 24, 25, 26, 27, 28, 29, 30, 31, 32, 33, 34, 35, 36, 37, 38, 39, 40, 41, 42, 43] (by decide +kernel) (by decide +kernel)
set_option maxRecDepth 20000 in
theorem gX7_termDone_X7_word : GoodIn wsX7_termDone (wsV RX7 119 RX7 yX7_word wsX7_word) := goodIn_app (goodIn_of _ (by decide +kernel)) ggX7_termDone_X7_word
theorem dX7_termDone_0 : decode cX7_termDone 0 = .ok (.aload_n 0, 1) := by decide +kernel
theorem dX7_termDone_1 : decode cX7_termDone 1 = .ok (.getfield 116, 3) := by decide +kernel
theorem dX7_termDone_4 : decode cX7_termDone 4 = .ok (.ifCond .le 76, 3) := by decide +kernel
theorem dX7_termDone_7 : decode cX7_termDone 7 = .ok (.aload_n 0, 1) := by decide +kernel
theorem dX7_termDone_8 : decode cX7_termDone 8 = .ok (.getfield 82, 3) := by decide +kernel
theorem dX7_termDone_11 : decode cX7_termDone 11 = .ok (.aload_n 0, 1) := by decide +kernel
theorem dX7_termDone_12 : decode cX7_termDone 12 = .ok (.getfield 116, 3) := by decide +kernel
theorem dX7_termDone_15 : decode cX7_termDone 15 = .ok (.iconst 1, 1) := by decide +kernel
theorem dX7_termDone_16 : decode cX7_termDone 16 = .ok (.isub, 1) := by decide +kernel
theorem dX7_termDone_17 : decode cX7_termDone 17 = .ok (.caload, 1) := by decide +kernel
theorem dX7_termDone_18 : decode cX7_termDone 18 = .ok (.bipush 40, 2) := by decide +kernel
theorem dX7_termDone_20 : decode cX7_termDone 20 = .ok (.if_icmp .eq 60, 3) := by decide +kernel
theorem dX7_termDone_23 : decode cX7_termDone 23 = .ok (.aload_n 0, 1) := by decide +kernel
theorem dX7_termDone_24 : decode cX7_termDone 24 = .ok (.dup, 1) := by decide +kernel
theorem dX7_termDone_25 : decode cX7_termDone 25 = .ok (.getfield 116, 3) := by decide +kernel
theorem dX7_termDone_28 : decode cX7_termDone 28 = .ok (.iconst 1, 1) := by decide +kernel
theorem dX7_termDone_29 : decode cX7_termDone 29 = .ok (.isub, 1) := by decide +kernel
theorem dX7_termDone_30 : decode cX7_termDone 30 = .ok (.putfield 116, 3) := by decide +kernel
theorem dX7_termDone_33 : decode cX7_termDone 33 = .ok (.aload_n 0, 1) := by decide +kernel
theorem dX7_termDone_34 : decode cX7_termDone 34 = .ok (.aload_n 0, 1) := by decide +kernel
theorem dX7_termDone_35 : decode cX7_termDone 35 = .ok (.getfield 82, 3) := by decide +kernel
theorem dX7_termDone_38 : decode cX7_termDone 38 = .ok (.aload_n 0, 1) := by decide +kernel
theorem dX7_termDone_39 : decode cX7_termDone 39 = .ok (.getfield 116, 3) := by decide +kernel
theorem dX7_termDone_42 : decode cX7_termDone 42 = .ok (.caload, 1) := by decide +kernel
theorem dX7_termDone_43 : decode cX7_termDone 43 = .ok (.bipush 33, 2) := by decide +kernel
theorem dX7_termDone_45 : decode cX7_termDone 45 = .ok (.if_icmp .ne 8, 3) := by decide +kernel
theorem dX7_termDone_48 : decode cX7_termDone 48 = .ok (.bipush 9, 2) := by decide +kernel
theorem dX7_termDone_50 : decode cX7_termDone 50 = .ok (.goto 24, 3) := by decide +kernel
theorem dX7_termDone_53 : decode cX7_termDone 53 = .ok (.aload_n 0, 1) := by decide +kernel
theorem dX7_termDone_54 : decode cX7_termDone 54 = .ok (.getfield 82, 3) := by decide +kernel
theorem dX7_termDone_57 : decode cX7_termDone 57 = .ok (.aload_n 0, 1) := by decide +kernel
theorem dX7_termDone_58 : decode cX7_termDone 58 = .ok (.getfield 116, 3) := by decide +kernel
theorem dX7_termDone_61 : decode cX7_termDone 61 = .ok (.caload, 1) := by decide +kernel
theorem dX7_termDone_62 : decode cX7_termDone 62 = .ok (.bipush 38, 2) := by decide +kernel
theorem dX7_termDone_64 : decode cX7_termDone 64 = .ok (.if_icmp .ne 8, 3) := by decide +kernel
theorem dX7_termDone_67 : decode cX7_termDone 67 = .ok (.bipush 10, 2) := by decide +kernel
theorem dX7_termDone_69 : decode cX7_termDone 69 = .ok (.goto 5, 3) := by decide +kernel
theorem dX7_termDone_72 : decode cX7_termDone 72 = .ok (.bipush 11, 2) := by decide +kernel
theorem dX7_termDone_74 : decode cX7_termDone 74 = .ok (.invokevirtual 119, 3) := by decide +kernel
theorem dX7_termDone_77 : decode cX7_termDone 77 = .ok (.goto (-77), 3) := by decide +kernel
theorem dX7_termDone_80 : decode cX7_termDone 80 = .ok (.return_, 1) := by decide +kernel
theorem dX7_put_0 : decode cX7_put 0 = .ok (.aload_n 0, 1) := by decide +kernel
theorem dX7_put_1 : decode cX7_put 1 = .ok (.getfield 82, 3) := by decide +kernel
theorem dX7_put_4 : decode cX7_put 4 = .ok (.aload_n 0, 1) := by decide +kernel
theorem dX7_put_5 : decode cX7_put 5 = .ok (.getfield 116, 3) := by decide +kernel
theorem dX7_put_8 : decode cX7_put 8 = .ok (.iload_n 1, 1) := by decide +kernel
theorem dX7_put_9 : decode cX7_put 9 = .ok (.castore, 1) := by decide +kernel
theorem dX7_put_10 : decode cX7_put 10 = .ok (.aload_n 0, 1) := by decide +kernel
theorem dX7_put_11 : decode cX7_put 11 = .ok (.dup, 1) := by decide +kernel
theorem dX7_put_12 : decode cX7_put 12 = .ok (.getfield 116, 3) := by decide +kernel
theorem dX7_put_15 : decode cX7_put 15 = .ok (.iconst 1, 1) := by decide +kernel
theorem dX7_put_16 : decode cX7_put 16 = .ok (.iadd, 1) := by decide +kernel
theorem dX7_put_17 : decode cX7_put 17 = .ok (.putfield 116, 3) := by decide +kernel
theorem dX7_put_20 : decode cX7_put 20 = .ok (.return_, 1) := by decide +kernel
set_option maxRecDepth 20000 in
theorem ggX7_condition_X7_look : GoodIn wsX7_condition wsX7_look := goodIn_r _ [8, 3, 9, 28, 29, 30, 31, 32, 33, 34, 35, 36, 37, 38, 39, 40, 41, 42, 43, 44, 45, 46, 47, 48, 49, 50, 51, 52, 53, 54, 55, 56, 57, 58, 59, 60, 61] (by decide +kernel) (by decide +kernel)
set_option maxRecDepth 20000 in
theorem gX7_condition_X7_look : GoodIn wsX7_condition (wsV RX7 123 RX7 yX7_look wsX7_look) := goodIn_app (goodIn_of _ (by decide +kernel)) ggX7_condition_X7_look
set_option maxRecDepth 20000 in
theorem ggX7_condition_X7_deepness : GoodIn wsX7_condition wsX7_deepness := goodIn_r _ [13, 1, 14, 28, 29, 30, 31, 32, 33, 34, 35, 36, 37, 38, 39, 40, 41, 42, 43, 44, 45, 46, 47, 48, 49, 50, 51, 52, 53, 54, 55, 56, 57, 58, 59, 60, 61] (by decide +kernel) (by decide +kernel)
set_option maxRecDepth 20000 in
theorem gX7_condition_X7_deepness : GoodIn wsX7_condition (wsV RX7 127 RX7 yX7_deepness wsX7_deepness) := goodIn_app (goodIn_of _ (by decide +kernel)) ggX7_condition_X7_deepness
set_option maxRecDepth 20000 in
theorem ggX7_condition_X7_put : GoodIn wsX7_condition wsX7_put := goodIn_r _ [18, 14, 1, 28, 29, 30, 31, 32, 33, 34, 35, 36, 37, 38, 39, 40, 41, 42, 43, 44, 45, 46, 47, 48, 49, 50, 51, 52, 53, 54, 55, 56, 57, 58, 59, 60, 61] (by decide +kernel) (by decide +kernel)
set_option maxRecDepth 20000 in
theorem gX7_condition_X7_put : GoodIn wsX7_condition (wsV RX7 131 RX7 yX7_put wsX7_put) := goodIn_app (goodIn_of _ (by decide +kernel)) ggX7_condition_X7_put
set_option maxRecDepth 20000 in
theorem ggX7_condition_X7_word : GoodIn wsX7_condition wsX7_word := goodIn_r _ [22, 23, 2, 28, 29, 30, 31, 32, 33, 34, 35, 36, 37, 38, 39, 40, 41, 42, 43, 44, 45, 46, 47, 48, 49, 50, 51, 52, 53, 54, 55, 56, 57, 58, 59, 60, 61] (by decide +kernel) (by decide +kernel)
set_option maxRecDepth 20000 in
theorem gX7_condition_X7_word : GoodIn wsX7_condition (wsV RX7 119 RX7 yX7_word wsX7_word) := goodIn_app (goodIn_of _ (by decide +kernel)) ggX7_condition_X7_word
set_option maxRecDepth 20000 in
theorem ggX7_condition_X7_termDone : GoodIn wsX7_condition wsX7_termDone := goodIn_r _ [27, 1, 14, 19, 20, 21, 7, 22, 23, 2, 28, 29, 30, 31, 32, 33, 34, 35, 36, 37, 38, 39, 40, 41, 42, 43, 44, 45, 46, 47, 48, 49, 50, 51, 52, 53, 54, 55, 56, 57, 58, 59, 60, 61] (by decide +kernel) (by decide +kernel)
set_option maxRecDepth 20000 in
theorem gX7_condition_X7_termDone : GoodIn wsX7_condition (wsV RX7 135 RX7 yX7_termDone wsX7_termDone) := goodIn_app (goodIn_of _ (by decide +kernel)) ggX7_condition_X7_termDone
theorem dX7_condition_0 : decode cX7_condition 0 = .ok (.aload_n 0, 1) := by decide +kernel
theorem dX7_condition_1 : decode cX7_condition 1 = .ok (.iconst 0, 1) := by decide +kernel
theorem dX7_condition_2 : decode cX7_condition 2 = .ok (.putfield 116, 3) := by decide +kernel
theorem dX7_condition_5 : decode cX7_condition 5 = .ok (.aload_n 0, 1) := by decide +kernel
theorem dX7_condition_6 : decode cX7_condition 6 = .ok (.iconst 0, 1) := by decide +kernel
theorem dX7_condition_7 : decode cX7_condition 7 = .ok (.putfield 113, 3) := by decide +kernel
theorem dX7_condition_10 : decode cX7_condition 10 = .ok (.iconst 1, 1) := by decide +kernel
theorem dX7_condition_11 : decode cX7_condition 11 = .ok (.istore_n 1, 1) := by decide +kernel
theorem dX7_condition_12 : decode cX7_condition 12 = .ok (.iconst 0, 1) := by decide +kernel
theorem dX7_condition_13 : decode cX7_condition 13 = .ok (.istore_n 2, 1) := by decide +kernel
theorem dX7_condition_14 : decode cX7_condition 14 = .ok (.iload_n 2, 1) := by decide +kernel
theorem dX7_condition_15 : decode cX7_condition 15 = .ok (.aload_n 0, 1) := by decide +kernel
theorem dX7_condition_16 : decode cX7_condition 16 = .ok (.getfield 110, 3) := by decide +kernel
theorem dX7_condition_19 : decode cX7_condition 19 = .ok (.if_icmp .ge 221, 3) := by decide +kernel
theorem dX7_condition_22 : decode cX7_condition 22 = .ok (.aload_n 0, 1) := by decide +kernel
theorem dX7_condition_23 : decode cX7_condition 23 = .ok (.iload_n 2, 1) := by decide +kernel
theorem dX7_condition_24 : decode cX7_condition 24 = .ok (.invokevirtual 123, 3) := by decide +kernel
theorem dX7_condition_27 : decode cX7_condition 27 = .ok (.istore_n 3, 1) := by decide +kernel
theorem dX7_condition_28 : decode cX7_condition 28 = .ok (.iload_n 1, 1) := by decide +kernel
theorem dX7_condition_29 : decode cX7_condition 29 = .ok (.ifCond .eq 134, 3) := by decide +kernel
theorem dX7_condition_32 : decode cX7_condition 32 = .ok (.iload_n 3, 1) := by decide +kernel
theorem dX7_condition_33 : decode cX7_condition 33 = .ok (.bipush 33, 2) := by decide +kernel
theorem dX7_condition_35 : decode cX7_condition 35 = .ok (.if_icmp .eq 9, 3) := by decide +kernel
theorem dX7_condition_38 : decode cX7_condition 38 = .ok (.iload_n 3, 1) := by decide +kernel
theorem dX7_condition_39 : decode cX7_condition 39 = .ok (.bipush 40, 2) := by decide +kernel
theorem dX7_condition_41 : decode cX7_condition 41 = .ok (.if_icmp .ne 23, 3) := by decide +kernel
theorem dX7_condition_44 : decode cX7_condition 44 = .ok (.aload_n 0, 1) := by decide +kernel
theorem dX7_condition_45 : decode cX7_condition 45 = .ok (.invokevirtual 127, 3) := by decide +kernel
theorem dX7_condition_48 : decode cX7_condition 48 = .ok (.iconst 4, 1) := by decide +kernel
theorem dX7_condition_49 : decode cX7_condition 49 = .ok (.if_icmp .ne 7, 3) := by decide +kernel
theorem dX7_condition_52 : decode cX7_condition 52 = .ok (.iconst (-1), 1) := by decide +kernel
theorem dX7_condition_53 : decode cX7_condition 53 = .ok (.iload_n 2, 1) := by decide +kernel
theorem dX7_condition_54 : decode cX7_condition 54 = .ok (.isub, 1) := by decide +kernel
theorem dX7_condition_55 : decode cX7_condition 55 = .ok (.ireturn, 1) := by decide +kernel
theorem dX7_condition_56 : decode cX7_condition 56 = .ok (.aload_n 0, 1) := by decide +kernel
theorem dX7_condition_57 : decode cX7_condition 57 = .ok (.iload_n 3, 1) := by decide +kernel
theorem dX7_condition_58 : decode cX7_condition 58 = .ok (.invokevirtual 131, 3) := by decide +kernel
theorem dX7_condition_61 : decode cX7_condition 61 = .ok (.goto 173, 3) := by decide +kernel
theorem dX7_condition_64 : decode cX7_condition 64 = .ok (.iload_n 3, 1) := by decide +kernel
theorem dX7_condition_65 : decode cX7_condition 65 = .ok (.bipush 102, 2) := by decide +kernel
theorem dX7_condition_67 : decode cX7_condition 67 = .ok (.if_icmp .ne 18, 3) := by decide +kernel
theorem dX7_condition_70 : decode cX7_condition 70 = .ok (.aload_n 0, 1) := by decide +kernel
theorem dX7_condition_71 : decode cX7_condition 71 = .ok (.bipush 8, 2) := by decide +kernel
theorem dX7_condition_73 : decode cX7_condition 73 = .ok (.invokevirtual 119, 3) := by decide +kernel
theorem dX7_condition_76 : decode cX7_condition 76 = .ok (.aload_n 0, 1) := by decide +kernel
theorem dX7_condition_77 : decode cX7_condition 77 = .ok (.invokevirtual 135, 3) := by decide +kernel
theorem dX7_condition_80 : decode cX7_condition 80 = .ok (.iconst 0, 1) := by decide +kernel
theorem dX7_condition_81 : decode cX7_condition 81 = .ok (.istore_n 1, 1) := by decide +kernel
theorem dX7_condition_82 : decode cX7_condition 82 = .ok (.goto 152, 3) := by decide +kernel
theorem dX7_condition_85 : decode cX7_condition 85 = .ok (.iload_n 3, 1) := by decide +kernel
theorem dX7_condition_86 : decode cX7_condition 86 = .ok (.bipush 122, 2) := by decide +kernel
theorem dX7_condition_88 : decode cX7_condition 88 = .ok (.if_icmp .eq 9, 3) := by decide +kernel
theorem dX7_condition_91 : decode cX7_condition 91 = .ok (.iload_n 3, 1) := by decide +kernel
theorem dX7_condition_92 : decode cX7_condition 92 = .ok (.bipush 119, 2) := by decide +kernel
theorem dX7_condition_94 : decode cX7_condition 94 = .ok (.if_icmp .ne 65, 3) := by decide +kernel
theorem dX7_condition_97 : decode cX7_condition 97 = .ok (.aload_n 0, 1) := by decide +kernel
theorem dX7_condition_98 : decode cX7_condition 98 = .ok (.iload_n 2, 1) := by decide +kernel
theorem dX7_condition_99 : decode cX7_condition 99 = .ok (.iconst 1, 1) := by decide +kernel
theorem dX7_condition_100 : decode cX7_condition 100 = .ok (.iadd, 1) := by decide +kernel
theorem dX7_condition_101 : decode cX7_condition 101 = .ok (.invokevirtual 123, 3) := by decide +kernel
theorem dX7_condition_104 : decode cX7_condition 104 = .ok (.istore 4, 2) := by decide +kernel
theorem dX7_condition_106 : decode cX7_condition 106 = .ok (.iload 4, 2) := by decide +kernel
theorem dX7_condition_108 : decode cX7_condition 108 = .ok (.bipush 48, 2) := by decide +kernel
theorem dX7_condition_110 : decode cX7_condition 110 = .ok (.if_icmp .lt 10, 3) := by decide +kernel
theorem dX7_condition_113 : decode cX7_condition 113 = .ok (.iload 4, 2) := by decide +kernel
theorem dX7_condition_115 : decode cX7_condition 115 = .ok (.bipush 51, 2) := by decide +kernel
theorem dX7_condition_117 : decode cX7_condition 117 = .ok (.if_icmp .le 9, 3) := by decide +kernel
theorem dX7_condition_120 : decode cX7_condition 120 = .ok (.iconst (-1), 1) := by decide +kernel
theorem dX7_condition_121 : decode cX7_condition 121 = .ok (.iload_n 2, 1) := by decide +kernel
theorem dX7_condition_122 : decode cX7_condition 122 = .ok (.iconst 1, 1) := by decide +kernel
theorem dX7_condition_123 : decode cX7_condition 123 = .ok (.iadd, 1) := by decide +kernel
theorem dX7_condition_124 : decode cX7_condition 124 = .ok (.isub, 1) := by decide +kernel
theorem dX7_condition_125 : decode cX7_condition 125 = .ok (.ireturn, 1) := by decide +kernel
theorem dX7_condition_126 : decode cX7_condition 126 = .ok (.iinc 2 1, 3) := by decide +kernel
theorem dX7_condition_129 : decode cX7_condition 129 = .ok (.aload_n 0, 1) := by decide +kernel
theorem dX7_condition_130 : decode cX7_condition 130 = .ok (.iload 4, 2) := by decide +kernel
theorem dX7_condition_132 : decode cX7_condition 132 = .ok (.bipush 48, 2) := by decide +kernel
theorem dX7_condition_134 : decode cX7_condition 134 = .ok (.isub, 1) := by decide +kernel
theorem dX7_condition_135 : decode cX7_condition 135 = .ok (.iload_n 3, 1) := by decide +kernel
theorem dX7_condition_136 : decode cX7_condition 136 = .ok (.bipush 119, 2) := by decide +kernel
theorem dX7_condition_138 : decode cX7_condition 138 = .ok (.if_icmp .ne 7, 3) := by decide +kernel
theorem dX7_condition_141 : decode cX7_condition 141 = .ok (.iconst 4, 1) := by decide +kernel
theorem dX7_condition_142 : decode cX7_condition 142 = .ok (.goto 4, 3) := by decide +kernel
theorem dX7_condition_145 : decode cX7_condition 145 = .ok (.iconst 0, 1) := by decide +kernel
theorem dX7_condition_146 : decode cX7_condition 146 = .ok (.iadd, 1) := by decide +kernel
theorem dX7_condition_147 : decode cX7_condition 147 = .ok (.invokevirtual 119, 3) := by decide +kernel
theorem dX7_condition_150 : decode cX7_condition 150 = .ok (.aload_n 0, 1) := by decide +kernel
theorem dX7_condition_151 : decode cX7_condition 151 = .ok (.invokevirtual 135, 3) := by decide +kernel
theorem dX7_condition_154 : decode cX7_condition 154 = .ok (.iconst 0, 1) := by decide +kernel
theorem dX7_condition_155 : decode cX7_condition 155 = .ok (.istore_n 1, 1) := by decide +kernel
theorem dX7_condition_156 : decode cX7_condition 156 = .ok (.goto 78, 3) := by decide +kernel
theorem dX7_condition_159 : decode cX7_condition 159 = .ok (.iconst (-1), 1) := by decide +kernel
theorem dX7_condition_160 : decode cX7_condition 160 = .ok (.iload_n 2, 1) := by decide +kernel
theorem dX7_condition_161 : decode cX7_condition 161 = .ok (.isub, 1) := by decide +kernel
theorem dX7_condition_162 : decode cX7_condition 162 = .ok (.ireturn, 1) := by decide +kernel
theorem dX7_condition_163 : decode cX7_condition 163 = .ok (.iload_n 3, 1) := by decide +kernel
theorem dX7_condition_164 : decode cX7_condition 164 = .ok (.bipush 38, 2) := by decide +kernel
theorem dX7_condition_166 : decode cX7_condition 166 = .ok (.if_icmp .eq 9, 3) := by decide +kernel
theorem dX7_condition_169 : decode cX7_condition 169 = .ok (.iload_n 3, 1) := by decide +kernel
theorem dX7_condition_170 : decode cX7_condition 170 = .ok (.bipush 124, 2) := by decide +kernel
theorem dX7_condition_172 : decode cX7_condition 172 = .ok (.if_icmp .ne 13, 3) := by decide +kernel
theorem dX7_condition_175 : decode cX7_condition 175 = .ok (.aload_n 0, 1) := by decide +kernel
theorem dX7_condition_176 : decode cX7_condition 176 = .ok (.iload_n 3, 1) := by decide +kernel
theorem dX7_condition_177 : decode cX7_condition 177 = .ok (.invokevirtual 131, 3) := by decide +kernel
theorem dX7_condition_180 : decode cX7_condition 180 = .ok (.iconst 1, 1) := by decide +kernel
theorem dX7_condition_181 : decode cX7_condition 181 = .ok (.istore_n 1, 1) := by decide +kernel
theorem dX7_condition_182 : decode cX7_condition 182 = .ok (.goto 52, 3) := by decide +kernel
theorem dX7_condition_185 : decode cX7_condition 185 = .ok (.iload_n 3, 1) := by decide +kernel
theorem dX7_condition_186 : decode cX7_condition 186 = .ok (.bipush 41, 2) := by decide +kernel
theorem dX7_condition_188 : decode cX7_condition 188 = .ok (.if_icmp .ne 27, 3) := by decide +kernel
theorem dX7_condition_191 : decode cX7_condition 191 = .ok (.aload_n 0, 1) := by decide +kernel
theorem dX7_condition_192 : decode cX7_condition 192 = .ok (.getfield 116, 3) := by decide +kernel
theorem dX7_condition_195 : decode cX7_condition 195 = .ok (.ifCond .le 20, 3) := by decide +kernel
theorem dX7_condition_198 : decode cX7_condition 198 = .ok (.aload_n 0, 1) := by decide +kernel
theorem dX7_condition_199 : decode cX7_condition 199 = .ok (.dup, 1) := by decide +kernel
theorem dX7_condition_200 : decode cX7_condition 200 = .ok (.getfield 116, 3) := by decide +kernel
theorem dX7_condition_203 : decode cX7_condition 203 = .ok (.iconst 1, 1) := by decide +kernel
theorem dX7_condition_204 : decode cX7_condition 204 = .ok (.isub, 1) := by decide +kernel
theorem dX7_condition_205 : decode cX7_condition 205 = .ok (.putfield 116, 3) := by decide +kernel
theorem dX7_condition_208 : decode cX7_condition 208 = .ok (.aload_n 0, 1) := by decide +kernel
theorem dX7_condition_209 : decode cX7_condition 209 = .ok (.invokevirtual 135, 3) := by decide +kernel
theorem dX7_condition_212 : decode cX7_condition 212 = .ok (.goto 22, 3) := by decide +kernel
theorem dX7_condition_215 : decode cX7_condition 215 = .ok (.iload_n 3, 1) := by decide +kernel
theorem dX7_condition_216 : decode cX7_condition 216 = .ok (.bipush 62, 2) := by decide +kernel
theorem dX7_condition_218 : decode cX7_condition 218 = .ok (.if_icmp .ne 12, 3) := by decide +kernel
theorem dX7_condition_221 : decode cX7_condition 221 = .ok (.aload_n 0, 1) := by decide +kernel
theorem dX7_condition_222 : decode cX7_condition 222 = .ok (.getfield 116, 3) := by decide +kernel
theorem dX7_condition_225 : decode cX7_condition 225 = .ok (.ifCond .ne 5, 3) := by decide +kernel
theorem dX7_condition_228 : decode cX7_condition 228 = .ok (.iload_n 2, 1) := by decide +kernel
theorem dX7_condition_229 : decode cX7_condition 229 = .ok (.ireturn, 1) := by decide +kernel
theorem dX7_condition_230 : decode cX7_condition 230 = .ok (.iconst (-1), 1) := by decide +kernel
theorem dX7_condition_231 : decode cX7_condition 231 = .ok (.iload_n 2, 1) := by decide +kernel
theorem dX7_condition_232 : decode cX7_condition 232 = .ok (.isub, 1) := by decide +kernel
theorem dX7_condition_233 : decode cX7_condition 233 = .ok (.ireturn, 1) := by decide +kernel
theorem dX7_condition_234 : decode cX7_condition 234 = .ok (.iinc 2 1, 3) := by decide +kernel
theorem dX7_condition_237 : decode cX7_condition 237 = .ok (.goto (-223), 3) := by decide +kernel
theorem dX7_condition_240 : decode cX7_condition 240 = .ok (.iconst (-1), 1) := by decide +kernel
theorem dX7_condition_241 : decode cX7_condition 241 = .ok (.aload_n 0, 1) := by decide +kernel
theorem dX7_condition_242 : decode cX7_condition 242 = .ok (.getfield 110, 3) := by decide +kernel
theorem dX7_condition_245 : decode cX7_condition 245 = .ok (.isub, 1) := by decide +kernel
theorem dX7_condition_246 : decode cX7_condition 246 = .ok (.ireturn, 1) := by decide +kernel
set_option maxRecDepth 20000 in
theorem ggX7_read_X7_condition : GoodIn wsX7_read wsX7_condition := goodIn_r _ [13, 14, 2, 1, 15, 16, 17, 12, 18, 19, 20, 21, 22, 23, 24, 25, 26, 27, 28, 29, 30, 31, 32, 4, 33, 34, 35, 36, 37, 38, 39, 40, 41, 42, 43, 44, 45, 46, 47, 48, 49, 50, 51, 52, 53, 54, 55, 56, 57, 58, 59, 60, 61, 62, 63, 64, 65, 66, 67, 68, 69, 70] (by decide +kernel) (by decide +kernel)
set_option maxRecDepth 20000 in
theorem gX7_read_X7_condition : GoodIn wsX7_read (wsV RX7 138 RX7 yX7_condition wsX7_condition) := goodIn_app (goodIn_of _ (by decide +kernel)) ggX7_read_X7_condition
set_option maxRecDepth 20000 in
theorem ggX7_read_X7_look : GoodIn wsX7_read wsX7_look := goodIn_r _ [18, 1, 19, 37, 38, 39, 40, 41, 42, 43, 44, 45, 46, 47, 48, 49, 50, 51, 52, 53, 54, 55, 56, 57, 58, 59, 60, 61, 62, 63, 64, 65, 66, 67, 68, 69, 70] (by decide +kernel) (by decide +kernel)
set_option maxRecDepth 20000 in
theorem gX7_read_X7_look : GoodIn wsX7_read (wsV RX7 123 RX7 yX7_look wsX7_look) := goodIn_app (goodIn_of _ (by decide +kernel)) ggX7_read_X7_look
theorem dX7_read_0 : decode cX7_read 0 = .ok (.aload_n 0, 1) := by decide +kernel
theorem dX7_read_1 : decode cX7_read 1 = .ok (.invokevirtual 138, 3) := by decide +kernel
theorem dX7_read_4 : decode cX7_read 4 = .ok (.istore_n 2, 1) := by decide +kernel
theorem dX7_read_5 : decode cX7_read 5 = .ok (.iload_n 2, 1) := by decide +kernel
theorem dX7_read_6 : decode cX7_read 6 = .ok (.ifCond .ge 7, 3) := by decide +kernel
theorem dX7_read_9 : decode cX7_read 9 = .ok (.iconst (-1), 1) := by decide +kernel
theorem dX7_read_10 : decode cX7_read 10 = .ok (.iload_n 2, 1) := by decide +kernel
theorem dX7_read_11 : decode cX7_read 11 = .ok (.isub, 1) := by decide +kernel
theorem dX7_read_12 : decode cX7_read 12 = .ok (.ireturn, 1) := by decide +kernel
theorem dX7_read_13 : decode cX7_read 13 = .ok (.aload_n 0, 1) := by decide +kernel
theorem dX7_read_14 : decode cX7_read 14 = .ok (.iload_n 2, 1) := by decide +kernel
theorem dX7_read_15 : decode cX7_read 15 = .ok (.iconst 1, 1) := by decide +kernel
theorem dX7_read_16 : decode cX7_read 16 = .ok (.iadd, 1) := by decide +kernel
theorem dX7_read_17 : decode cX7_read 17 = .ok (.invokevirtual 123, 3) := by decide +kernel
theorem dX7_read_20 : decode cX7_read 20 = .ok (.bipush 48, 2) := by decide +kernel
theorem dX7_read_22 : decode cX7_read 22 = .ok (.if_icmp .lt 15, 3) := by decide +kernel
theorem dX7_read_25 : decode cX7_read 25 = .ok (.aload_n 0, 1) := by decide +kernel
theorem dX7_read_26 : decode cX7_read 26 = .ok (.iload_n 2, 1) := by decide +kernel
theorem dX7_read_27 : decode cX7_read 27 = .ok (.iconst 1, 1) := by decide +kernel
theorem dX7_read_28 : decode cX7_read 28 = .ok (.iadd, 1) := by decide +kernel
theorem dX7_read_29 : decode cX7_read 29 = .ok (.invokevirtual 123, 3) := by decide +kernel
theorem dX7_read_32 : decode cX7_read 32 = .ok (.bipush 53, 2) := by decide +kernel
theorem dX7_read_34 : decode cX7_read 34 = .ok (.if_icmp .le 7, 3) := by decide +kernel
theorem dX7_read_37 : decode cX7_read 37 = .ok (.iload_n 2, 1) := by decide +kernel
theorem dX7_read_38 : decode cX7_read 38 = .ok (.iconst 1, 1) := by decide +kernel
theorem dX7_read_39 : decode cX7_read 39 = .ok (.iadd, 1) := by decide +kernel
theorem dX7_read_40 : decode cX7_read 40 = .ok (.ireturn, 1) := by decide +kernel
theorem dX7_read_41 : decode cX7_read 41 = .ok (.aload_n 0, 1) := by decide +kernel
theorem dX7_read_42 : decode cX7_read 42 = .ok (.iload_n 2, 1) := by decide +kernel
theorem dX7_read_43 : decode cX7_read 43 = .ok (.iconst 2, 1) := by decide +kernel
theorem dX7_read_44 : decode cX7_read 44 = .ok (.iadd, 1) := by decide +kernel
theorem dX7_read_45 : decode cX7_read 45 = .ok (.invokevirtual 123, 3) := by decide +kernel
theorem dX7_read_48 : decode cX7_read 48 = .ok (.bipush 58, 2) := by decide +kernel
theorem dX7_read_50 : decode cX7_read 50 = .ok (.if_icmp .ne 7, 3) := by decide +kernel
theorem dX7_read_53 : decode cX7_read 53 = .ok (.iconst 1, 1) := by decide +kernel
theorem dX7_read_54 : decode cX7_read 54 = .ok (.goto 4, 3) := by decide +kernel
theorem dX7_read_57 : decode cX7_read 57 = .ok (.iconst 0, 1) := by decide +kernel
theorem dX7_read_58 : decode cX7_read 58 = .ok (.istore_n 3, 1) := by decide +kernel
theorem dX7_read_59 : decode cX7_read 59 = .ok (.iload_n 2, 1) := by decide +kernel
theorem dX7_read_60 : decode cX7_read 60 = .ok (.iconst 2, 1) := by decide +kernel
theorem dX7_read_61 : decode cX7_read 61 = .ok (.iadd, 1) := by decide +kernel
theorem dX7_read_62 : decode cX7_read 62 = .ok (.aload_n 0, 1) := by decide +kernel
theorem dX7_read_63 : decode cX7_read 63 = .ok (.getfield 110, 3) := by decide +kernel
theorem dX7_read_66 : decode cX7_read 66 = .ok (.if_icmp .ge 11, 3) := by decide +kernel
theorem dX7_read_69 : decode cX7_read 69 = .ok (.iload_n 3, 1) := by decide +kernel
theorem dX7_read_70 : decode cX7_read 70 = .ok (.ifCond .ne 7, 3) := by decide +kernel
theorem dX7_read_73 : decode cX7_read 73 = .ok (.iload_n 2, 1) := by decide +kernel
theorem dX7_read_74 : decode cX7_read 74 = .ok (.iconst 2, 1) := by decide +kernel
theorem dX7_read_75 : decode cX7_read 75 = .ok (.iadd, 1) := by decide +kernel
theorem dX7_read_76 : decode cX7_read 76 = .ok (.ireturn, 1) := by decide +kernel
theorem dX7_read_77 : decode cX7_read 77 = .ok (.iload_n 3, 1) := by decide +kernel
theorem dX7_read_78 : decode cX7_read 78 = .ok (.ifCond .eq 31, 3) := by decide +kernel
theorem dX7_read_81 : decode cX7_read 81 = .ok (.aload_n 0, 1) := by decide +kernel
theorem dX7_read_82 : decode cX7_read 82 = .ok (.iload_n 2, 1) := by decide +kernel
theorem dX7_read_83 : decode cX7_read 83 = .ok (.iconst 3, 1) := by decide +kernel
theorem dX7_read_84 : decode cX7_read 84 = .ok (.iadd, 1) := by decide +kernel
theorem dX7_read_85 : decode cX7_read 85 = .ok (.invokevirtual 123, 3) := by decide +kernel
theorem dX7_read_88 : decode cX7_read 88 = .ok (.bipush 48, 2) := by decide +kernel
theorem dX7_read_90 : decode cX7_read 90 = .ok (.if_icmp .lt 15, 3) := by decide +kernel
theorem dX7_read_93 : decode cX7_read 93 = .ok (.aload_n 0, 1) := by decide +kernel
theorem dX7_read_94 : decode cX7_read 94 = .ok (.iload_n 2, 1) := by decide +kernel
theorem dX7_read_95 : decode cX7_read 95 = .ok (.iconst 3, 1) := by decide +kernel
theorem dX7_read_96 : decode cX7_read 96 = .ok (.iadd, 1) := by decide +kernel
theorem dX7_read_97 : decode cX7_read 97 = .ok (.invokevirtual 123, 3) := by decide +kernel
theorem dX7_read_100 : decode cX7_read 100 = .ok (.bipush 57, 2) := by decide +kernel
theorem dX7_read_102 : decode cX7_read 102 = .ok (.if_icmp .le 7, 3) := by decide +kernel
theorem dX7_read_105 : decode cX7_read 105 = .ok (.iload_n 2, 1) := by decide +kernel
theorem dX7_read_106 : decode cX7_read 106 = .ok (.iconst 3, 1) := by decide +kernel
theorem dX7_read_107 : decode cX7_read 107 = .ok (.iadd, 1) := by decide +kernel
theorem dX7_read_108 : decode cX7_read 108 = .ok (.ireturn, 1) := by decide +kernel
theorem dX7_read_109 : decode cX7_read 109 = .ok (.iload_n 2, 1) := by decide +kernel
theorem dX7_read_110 : decode cX7_read 110 = .ok (.iconst 4, 1) := by decide +kernel
theorem dX7_read_111 : decode cX7_read 111 = .ok (.iadd, 1) := by decide +kernel
theorem dX7_read_112 : decode cX7_read 112 = .ok (.aload_n 0, 1) := by decide +kernel
theorem dX7_read_113 : decode cX7_read 113 = .ok (.getfield 110, 3) := by decide +kernel
theorem dX7_read_116 : decode cX7_read 116 = .ok (.if_icmp .ge 7, 3) := by decide +kernel
theorem dX7_read_119 : decode cX7_read 119 = .ok (.iload_n 2, 1) := by decide +kernel
theorem dX7_read_120 : decode cX7_read 120 = .ok (.iconst 4, 1) := by decide +kernel
theorem dX7_read_121 : decode cX7_read 121 = .ok (.iadd, 1) := by decide +kernel
theorem dX7_read_122 : decode cX7_read 122 = .ok (.ireturn, 1) := by decide +kernel
theorem dX7_read_123 : decode cX7_read 123 = .ok (.iconst 0, 1) := by decide +kernel
theorem dX7_read_124 : decode cX7_read 124 = .ok (.istore 4, 2) := by decide +kernel
theorem dX7_read_126 : decode cX7_read 126 = .ok (.iload 4, 2) := by decide +kernel
theorem dX7_read_128 : decode cX7_read 128 = .ok (.aload_n 0, 1) := by decide +kernel
theorem dX7_read_129 : decode cX7_read 129 = .ok (.getfield 113, 3) := by decide +kernel
theorem dX7_read_132 : decode cX7_read 132 = .ok (.if_icmp .ge 28, 3) := by decide +kernel
theorem dX7_read_135 : decode cX7_read 135 = .ok (.aload_n 0, 1) := by decide +kernel
theorem dX7_read_136 : decode cX7_read 136 = .ok (.getfield 57, 3) := by decide +kernel
theorem dX7_read_139 : decode cX7_read 139 = .ok (.bipush 20, 2) := by decide +kernel
theorem dX7_read_141 : decode cX7_read 141 = .ok (.iload_n 1, 1) := by decide +kernel
theorem dX7_read_142 : decode cX7_read 142 = .ok (.imul, 1) := by decide +kernel
theorem dX7_read_143 : decode cX7_read 143 = .ok (.iload 4, 2) := by decide +kernel
theorem dX7_read_145 : decode cX7_read 145 = .ok (.iadd, 1) := by decide +kernel
theorem dX7_read_146 : decode cX7_read 146 = .ok (.aload_n 0, 1) := by decide +kernel
theorem dX7_read_147 : decode cX7_read 147 = .ok (.getfield 85, 3) := by decide +kernel
theorem dX7_read_150 : decode cX7_read 150 = .ok (.iload 4, 2) := by decide +kernel
theorem dX7_read_152 : decode cX7_read 152 = .ok (.iaload, 1) := by decide +kernel
theorem dX7_read_153 : decode cX7_read 153 = .ok (.iastore, 1) := by decide +kernel
theorem dX7_read_154 : decode cX7_read 154 = .ok (.iinc 4 1, 3) := by decide +kernel
theorem dX7_read_157 : decode cX7_read 157 = .ok (.goto (-31), 3) := by decide +kernel
theorem dX7_read_160 : decode cX7_read 160 = .ok (.aload_n 0, 1) := by decide +kernel
theorem dX7_read_161 : decode cX7_read 161 = .ok (.getfield 60, 3) := by decide +kernel
theorem dX7_read_164 : decode cX7_read 164 = .ok (.iload_n 1, 1) := by decide +kernel
theorem dX7_read_165 : decode cX7_read 165 = .ok (.aload_n 0, 1) := by decide +kernel
theorem dX7_read_166 : decode cX7_read 166 = .ok (.getfield 113, 3) := by decide +kernel
theorem dX7_read_169 : decode cX7_read 169 = .ok (.iastore, 1) := by decide +kernel
theorem dX7_read_170 : decode cX7_read 170 = .ok (.aload_n 0, 1) := by decide +kernel
theorem dX7_read_171 : decode cX7_read 171 = .ok (.getfield 63, 3) := by decide +kernel
theorem dX7_read_174 : decode cX7_read 174 = .ok (.iload_n 1, 1) := by decide +kernel
theorem dX7_read_175 : decode cX7_read 175 = .ok (.aload_n 0, 1) := by decide +kernel
theorem dX7_read_176 : decode cX7_read 176 = .ok (.iload_n 2, 1) := by decide +kernel
theorem dX7_read_177 : decode cX7_read 177 = .ok (.iconst 1, 1) := by decide +kernel
theorem dX7_read_178 : decode cX7_read 178 = .ok (.iadd, 1) := by decide +kernel
theorem dX7_read_179 : decode cX7_read 179 = .ok (.invokevirtual 123, 3) := by decide +kernel
theorem dX7_read_182 : decode cX7_read 182 = .ok (.bipush 48, 2) := by decide +kernel
theorem dX7_read_184 : decode cX7_read 184 = .ok (.isub, 1) := by decide +kernel
theorem dX7_read_185 : decode cX7_read 185 = .ok (.iastore, 1) := by decide +kernel
theorem dX7_read_186 : decode cX7_read 186 = .ok (.aload_n 0, 1) := by decide +kernel
theorem dX7_read_187 : decode cX7_read 187 = .ok (.getfield 66, 3) := by decide +kernel
theorem dX7_read_190 : decode cX7_read 190 = .ok (.iload_n 1, 1) := by decide +kernel
theorem dX7_read_191 : decode cX7_read 191 = .ok (.iload_n 3, 1) := by decide +kernel
theorem dX7_read_192 : decode cX7_read 192 = .ok (.ifCond .eq 16, 3) := by decide +kernel
theorem dX7_read_195 : decode cX7_read 195 = .ok (.aload_n 0, 1) := by decide +kernel
theorem dX7_read_196 : decode cX7_read 196 = .ok (.iload_n 2, 1) := by decide +kernel
theorem dX7_read_197 : decode cX7_read 197 = .ok (.iconst 3, 1) := by decide +kernel
theorem dX7_read_198 : decode cX7_read 198 = .ok (.iadd, 1) := by decide +kernel
theorem dX7_read_199 : decode cX7_read 199 = .ok (.invokevirtual 123, 3) := by decide +kernel
theorem dX7_read_202 : decode cX7_read 202 = .ok (.bipush 48, 2) := by decide +kernel
theorem dX7_read_204 : decode cX7_read 204 = .ok (.isub, 1) := by decide +kernel
theorem dX7_read_205 : decode cX7_read 205 = .ok (.goto 4, 3) := by decide +kernel
theorem dX7_read_208 : decode cX7_read 208 = .ok (.iconst 0, 1) := by decide +kernel
theorem dX7_read_209 : decode cX7_read 209 = .ok (.iastore, 1) := by decide +kernel
theorem dX7_read_210 : decode cX7_read 210 = .ok (.aload_n 0, 1) := by decide +kernel
theorem dX7_read_211 : decode cX7_read 211 = .ok (.getfield 69, 3) := by decide +kernel
theorem dX7_read_214 : decode cX7_read 214 = .ok (.iload_n 1, 1) := by decide +kernel
theorem dX7_read_215 : decode cX7_read 215 = .ok (.iconst 0, 1) := by decide +kernel
theorem dX7_read_216 : decode cX7_read 216 = .ok (.iastore, 1) := by decide +kernel
theorem dX7_read_217 : decode cX7_read 217 = .ok (.iconst (-1), 1) := by decide +kernel
theorem dX7_read_218 : decode cX7_read 218 = .ok (.ireturn, 1) := by decide +kernel
set_option maxRecDepth 20000 in
theorem ggX7_rule_X7_read : GoodIn wsX7_rule wsX7_read := goodIn_r _ [9, 4, 10, 11, 12, 13, 14, 15, 16, 17, 18, 19, 8, 20, 21, 22, 23, 24, 25, 26, 27, 28, 29, 30, 31, 32, 33, 34, 35, 36, 37, 38, 39, 40, 41, 42, 43, 44, 45, 46, 47, 48, 49, 50, 51, 52, 53, 54, 55, 56, 57, 58, 59, 60, 61, 62, 63, 64, 65, 66, 67, 68, 69, 70, 71, 72, 73, 74, 75, 76, 77] (by decide +kernel) (by decide +kernel)
set_option maxRecDepth 20000 in
theorem gX7_rule_X7_read : GoodIn wsX7_rule (wsV RX7 144 RX7 yX7_read wsX7_read) := goodIn_app (goodIn_of _ (by decide +kernel)) ggX7_rule_X7_read
theorem dX7_rule_0 : decode cX7_rule 0 = .ok (.aload_n 0, 1) := by decide +kernel
theorem dX7_rule_1 : decode cX7_rule 1 = .ok (.aload_n 0, 1) := by decide +kernel
theorem dX7_rule_2 : decode cX7_rule 2 = .ok (.getfield 105, 3) := by decide +kernel
theorem dX7_rule_5 : decode cX7_rule 5 = .ok (.iconst 2, 1) := by decide +kernel
theorem dX7_rule_6 : decode cX7_rule 6 = .ok (.if_icmp .lt 12, 3) := by decide +kernel
theorem dX7_rule_9 : decode cX7_rule 9 = .ok (.aload_n 0, 1) := by decide +kernel
theorem dX7_rule_10 : decode cX7_rule 10 = .ok (.getfield 141, 3) := by decide +kernel
theorem dX7_rule_13 : decode cX7_rule 13 = .ok (.bipush 6, 2) := by decide +kernel
theorem dX7_rule_15 : decode cX7_rule 15 = .ok (.if_icmp .ne 7, 3) := by decide +kernel
theorem dX7_rule_18 : decode cX7_rule 18 = .ok (.iconst 1, 1) := by decide +kernel
theorem dX7_rule_19 : decode cX7_rule 19 = .ok (.goto 4, 3) := by decide +kernel
theorem dX7_rule_22 : decode cX7_rule 22 = .ok (.iconst 0, 1) := by decide +kernel
theorem dX7_rule_23 : decode cX7_rule 23 = .ok (.putfield 88, 3) := by decide +kernel
theorem dX7_rule_26 : decode cX7_rule 26 = .ok (.aload_n 0, 1) := by decide +kernel
theorem dX7_rule_27 : decode cX7_rule 27 = .ok (.getfield 88, 3) := by decide +kernel
theorem dX7_rule_30 : decode cX7_rule 30 = .ok (.ifCond .le 5, 3) := by decide +kernel
theorem dX7_rule_33 : decode cX7_rule 33 = .ok (.iconst 0, 1) := by decide +kernel
theorem dX7_rule_34 : decode cX7_rule 34 = .ok (.ireturn, 1) := by decide +kernel
theorem dX7_rule_35 : decode cX7_rule 35 = .ok (.aload_n 0, 1) := by decide +kernel
theorem dX7_rule_36 : decode cX7_rule 36 = .ok (.aload_n 0, 1) := by decide +kernel
theorem dX7_rule_37 : decode cX7_rule 37 = .ok (.getfield 141, 3) := by decide +kernel
theorem dX7_rule_40 : decode cX7_rule 40 = .ok (.invokevirtual 144, 3) := by decide +kernel
theorem dX7_rule_43 : decode cX7_rule 43 = .ok (.istore_n 1, 1) := by decide +kernel
theorem dX7_rule_44 : decode cX7_rule 44 = .ok (.aload_n 0, 1) := by decide +kernel
theorem dX7_rule_45 : decode cX7_rule 45 = .ok (.iconst 0, 1) := by decide +kernel
theorem dX7_rule_46 : decode cX7_rule 46 = .ok (.putfield 110, 3) := by decide +kernel
theorem dX7_rule_49 : decode cX7_rule 49 = .ok (.iload_n 1, 1) := by decide +kernel
theorem dX7_rule_50 : decode cX7_rule 50 = .ok (.ifCond .lt 7, 3) := by decide +kernel
theorem dX7_rule_53 : decode cX7_rule 53 = .ok (.iconst 1, 1) := by decide +kernel
theorem dX7_rule_54 : decode cX7_rule 54 = .ok (.iload_n 1, 1) := by decide +kernel
theorem dX7_rule_55 : decode cX7_rule 55 = .ok (.iadd, 1) := by decide +kernel
theorem dX7_rule_56 : decode cX7_rule 56 = .ok (.ireturn, 1) := by decide +kernel
theorem dX7_rule_57 : decode cX7_rule 57 = .ok (.aload_n 0, 1) := by decide +kernel
theorem dX7_rule_58 : decode cX7_rule 58 = .ok (.dup, 1) := by decide +kernel
theorem dX7_rule_59 : decode cX7_rule 59 = .ok (.getfield 141, 3) := by decide +kernel
theorem dX7_rule_62 : decode cX7_rule 62 = .ok (.iconst 1, 1) := by decide +kernel
theorem dX7_rule_63 : decode cX7_rule 63 = .ok (.iadd, 1) := by decide +kernel
theorem dX7_rule_64 : decode cX7_rule 64 = .ok (.putfield 141, 3) := by decide +kernel
theorem dX7_rule_67 : decode cX7_rule 67 = .ok (.iconst 0, 1) := by decide +kernel
theorem dX7_rule_68 : decode cX7_rule 68 = .ok (.ireturn, 1) := by decide +kernel
theorem dX7_forget_0 : decode cX7_forget 0 = .ok (.aload_n 0, 1) := by decide +kernel
theorem dX7_forget_1 : decode cX7_forget 1 = .ok (.aload_n 0, 1) := by decide +kernel
theorem dX7_forget_2 : decode cX7_forget 2 = .ok (.getfield 105, 3) := by decide +kernel
theorem dX7_forget_5 : decode cX7_forget 5 = .ok (.iconst 2, 1) := by decide +kernel
theorem dX7_forget_6 : decode cX7_forget 6 = .ok (.if_icmp .ge 7, 3) := by decide +kernel
theorem dX7_forget_9 : decode cX7_forget 9 = .ok (.iconst 1, 1) := by decide +kernel
theorem dX7_forget_10 : decode cX7_forget 10 = .ok (.goto 4, 3) := by decide +kernel
theorem dX7_forget_13 : decode cX7_forget 13 = .ok (.iconst 0, 1) := by decide +kernel
theorem dX7_forget_14 : decode cX7_forget 14 = .ok (.putfield 88, 3) := by decide +kernel
theorem dX7_forget_17 : decode cX7_forget 17 = .ok (.aload_n 0, 1) := by decide +kernel
theorem dX7_forget_18 : decode cX7_forget 18 = .ok (.getfield 88, 3) := by decide +kernel
theorem dX7_forget_21 : decode cX7_forget 21 = .ok (.ifCond .le 5, 3) := by decide +kernel
theorem dX7_forget_24 : decode cX7_forget 24 = .ok (.iconst 0, 1) := by decide +kernel
theorem dX7_forget_25 : decode cX7_forget 25 = .ok (.ireturn, 1) := by decide +kernel
theorem dX7_forget_26 : decode cX7_forget 26 = .ok (.aload_n 0, 1) := by decide +kernel
theorem dX7_forget_27 : decode cX7_forget 27 = .ok (.getfield 141, 3) := by decide +kernel
theorem dX7_forget_30 : decode cX7_forget 30 = .ok (.istore_n 1, 1) := by decide +kernel
theorem dX7_forget_31 : decode cX7_forget 31 = .ok (.aload_n 0, 1) := by decide +kernel
theorem dX7_forget_32 : decode cX7_forget 32 = .ok (.iconst 0, 1) := by decide +kernel
theorem dX7_forget_33 : decode cX7_forget 33 = .ok (.putfield 141, 3) := by decide +kernel
theorem dX7_forget_36 : decode cX7_forget 36 = .ok (.iconst 0, 1) := by decide +kernel
theorem dX7_forget_37 : decode cX7_forget 37 = .ok (.istore_n 2, 1) := by decide +kernel
theorem dX7_forget_38 : decode cX7_forget 38 = .ok (.iload_n 2, 1) := by decide +kernel
theorem dX7_forget_39 : decode cX7_forget 39 = .ok (.bipush 6, 2) := by decide +kernel
theorem dX7_forget_41 : decode cX7_forget 41 = .ok (.if_icmp .ge 16, 3) := by decide +kernel
theorem dX7_forget_44 : decode cX7_forget 44 = .ok (.aload_n 0, 1) := by decide +kernel
theorem dX7_forget_45 : decode cX7_forget 45 = .ok (.getfield 72, 3) := by decide +kernel
theorem dX7_forget_48 : decode cX7_forget 48 = .ok (.iload_n 2, 1) := by decide +kernel
theorem dX7_forget_49 : decode cX7_forget 49 = .ok (.iconst 0, 1) := by decide +kernel
theorem dX7_forget_50 : decode cX7_forget 50 = .ok (.bastore, 1) := by decide +kernel
theorem dX7_forget_51 : decode cX7_forget 51 = .ok (.iinc 2 1, 3) := by decide +kernel
theorem dX7_forget_54 : decode cX7_forget 54 = .ok (.goto (-16), 3) := by decide +kernel
theorem dX7_forget_57 : decode cX7_forget 57 = .ok (.iload_n 1, 1) := by decide +kernel
theorem dX7_forget_58 : decode cX7_forget 58 = .ok (.ireturn, 1) := by decide +kernel
theorem dX7_note_0 : decode cX7_note 0 = .ok (.bipush 47, 2) := by decide +kernel
theorem dX7_note_2 : decode cX7_note 2 = .ok (.istore_n 3, 1) := by decide +kernel
theorem dX7_note_3 : decode cX7_note 3 = .ok (.iload_n 3, 1) := by decide +kernel
theorem dX7_note_4 : decode cX7_note 4 = .ok (.iconst 2, 1) := by decide +kernel
theorem dX7_note_5 : decode cX7_note 5 = .ok (.if_icmp .le 23, 3) := by decide +kernel
theorem dX7_note_8 : decode cX7_note 8 = .ok (.aload_n 0, 1) := by decide +kernel
theorem dX7_note_9 : decode cX7_note 9 = .ok (.getfield 79, 3) := by decide +kernel
theorem dX7_note_12 : decode cX7_note 12 = .ok (.iload_n 3, 1) := by decide +kernel
theorem dX7_note_13 : decode cX7_note 13 = .ok (.aload_n 0, 1) := by decide +kernel
theorem dX7_note_14 : decode cX7_note 14 = .ok (.getfield 79, 3) := by decide +kernel
theorem dX7_note_17 : decode cX7_note 17 = .ok (.iload_n 3, 1) := by decide +kernel
theorem dX7_note_18 : decode cX7_note 18 = .ok (.iconst 3, 1) := by decide +kernel
theorem dX7_note_19 : decode cX7_note 19 = .ok (.isub, 1) := by decide +kernel
theorem dX7_note_20 : decode cX7_note 20 = .ok (.iaload, 1) := by decide +kernel
theorem dX7_note_21 : decode cX7_note 21 = .ok (.iastore, 1) := by decide +kernel
theorem dX7_note_22 : decode cX7_note 22 = .ok (.iinc 3 (-1), 3) := by decide +kernel
theorem dX7_note_25 : decode cX7_note 25 = .ok (.goto (-22), 3) := by decide +kernel
theorem dX7_note_28 : decode cX7_note 28 = .ok (.aload_n 0, 1) := by decide +kernel
theorem dX7_note_29 : decode cX7_note 29 = .ok (.getfield 79, 3) := by decide +kernel
theorem dX7_note_32 : decode cX7_note 32 = .ok (.iconst 0, 1) := by decide +kernel
theorem dX7_note_33 : decode cX7_note 33 = .ok (.iload_n 1, 1) := by decide +kernel
theorem dX7_note_34 : decode cX7_note 34 = .ok (.iastore, 1) := by decide +kernel
theorem dX7_note_35 : decode cX7_note 35 = .ok (.aload_n 0, 1) := by decide +kernel
theorem dX7_note_36 : decode cX7_note 36 = .ok (.getfield 79, 3) := by decide +kernel
theorem dX7_note_39 : decode cX7_note 39 = .ok (.iconst 1, 1) := by decide +kernel
theorem dX7_note_40 : decode cX7_note 40 = .ok (.iload_n 2, 1) := by decide +kernel
theorem dX7_note_41 : decode cX7_note 41 = .ok (.iastore, 1) := by decide +kernel
theorem dX7_note_42 : decode cX7_note 42 = .ok (.aload_n 0, 1) := by decide +kernel
theorem dX7_note_43 : decode cX7_note 43 = .ok (.getfield 79, 3) := by decide +kernel
theorem dX7_note_46 : decode cX7_note 46 = .ok (.iconst 2, 1) := by decide +kernel
theorem dX7_note_47 : decode cX7_note 47 = .ok (.aload_n 0, 1) := by decide +kernel
theorem dX7_note_48 : decode cX7_note 48 = .ok (.getfield 148, 3) := by decide +kernel
theorem dX7_note_51 : decode cX7_note 51 = .ok (.iastore, 1) := by decide +kernel
theorem dX7_note_52 : decode cX7_note 52 = .ok (.aload_n 0, 1) := by decide +kernel
theorem dX7_note_53 : decode cX7_note 53 = .ok (.aload_n 0, 1) := by decide +kernel
theorem dX7_note_54 : decode cX7_note 54 = .ok (.getfield 151, 3) := by decide +kernel
theorem dX7_note_57 : decode cX7_note 57 = .ok (.bipush 16, 2) := by decide +kernel
theorem dX7_note_59 : decode cX7_note 59 = .ok (.if_icmp .ge 12, 3) := by decide +kernel
theorem dX7_note_62 : decode cX7_note 62 = .ok (.aload_n 0, 1) := by decide +kernel
theorem dX7_note_63 : decode cX7_note 63 = .ok (.getfield 151, 3) := by decide +kernel
theorem dX7_note_66 : decode cX7_note 66 = .ok (.iconst 1, 1) := by decide +kernel
theorem dX7_note_67 : decode cX7_note 67 = .ok (.iadd, 1) := by decide +kernel
theorem dX7_note_68 : decode cX7_note 68 = .ok (.goto 5, 3) := by decide +kernel
theorem dX7_note_71 : decode cX7_note 71 = .ok (.bipush 16, 2) := by decide +kernel
theorem dX7_note_73 : decode cX7_note 73 = .ok (.putfield 151, 3) := by decide +kernel
theorem dX7_note_76 : decode cX7_note 76 = .ok (.return_, 1) := by decide +kernel
set_option maxRecDepth 20000 in
theorem ggX7_warns_X7_isSensor : GoodIn wsX7_warns wsX7_isSensor := goodIn_r _ [12, 4, 13, 14, 11, 15, 16, 17, 18, 19, 20, 21, 22, 23, 24, 25, 26, 27, 28, 29, 30, 31, 32, 33, 34, 35, 36, 37, 38, 39, 40, 41, 42, 43, 44, 45, 46, 47, 48, 49] (by decide +kernel) (by decide +kernel)
set_option maxRecDepth 20000 in
theorem gX7_warns_X7_isSensor : GoodIn wsX7_warns (wsV RX7 154 RX7 yX7_isSensor wsX7_isSensor) := goodIn_app (goodIn_of _ (by decide +kernel)) ggX7_warns_X7_isSensor
theorem dX7_warns_0 : decode cX7_warns 0 = .ok (.iconst 0, 1) := by decide +kernel
theorem dX7_warns_1 : decode cX7_warns 1 = .ok (.istore_n 2, 1) := by decide +kernel
theorem dX7_warns_2 : decode cX7_warns 2 = .ok (.iconst 0, 1) := by decide +kernel
theorem dX7_warns_3 : decode cX7_warns 3 = .ok (.istore_n 3, 1) := by decide +kernel
theorem dX7_warns_4 : decode cX7_warns 4 = .ok (.iload_n 3, 1) := by decide +kernel
theorem dX7_warns_5 : decode cX7_warns 5 = .ok (.bipush 16, 2) := by decide +kernel
theorem dX7_warns_7 : decode cX7_warns 7 = .ok (.if_icmp .ge 96, 3) := by decide +kernel
theorem dX7_warns_10 : decode cX7_warns 10 = .ok (.aload_n 0, 1) := by decide +kernel
theorem dX7_warns_11 : decode cX7_warns 11 = .ok (.iload_n 3, 1) := by decide +kernel
theorem dX7_warns_12 : decode cX7_warns 12 = .ok (.invokevirtual 154, 3) := by decide +kernel
theorem dX7_warns_15 : decode cX7_warns 15 = .ok (.ifCond .eq 26, 3) := by decide +kernel
theorem dX7_warns_18 : decode cX7_warns 18 = .ok (.aload_n 0, 1) := by decide +kernel
theorem dX7_warns_19 : decode cX7_warns 19 = .ok (.getfield 16, 3) := by decide +kernel
theorem dX7_warns_22 : decode cX7_warns 22 = .ok (.iload_n 3, 1) := by decide +kernel
theorem dX7_warns_23 : decode cX7_warns 23 = .ok (.iaload, 1) := by decide +kernel
theorem dX7_warns_24 : decode cX7_warns 24 = .ok (.iload_n 1, 1) := by decide +kernel
theorem dX7_warns_25 : decode cX7_warns 25 = .ok (.if_icmp .ne 16, 3) := by decide +kernel
theorem dX7_warns_28 : decode cX7_warns 28 = .ok (.aload_n 0, 1) := by decide +kernel
theorem dX7_warns_29 : decode cX7_warns 29 = .ok (.getfield 45, 3) := by decide +kernel
theorem dX7_warns_32 : decode cX7_warns 32 = .ok (.iload_n 3, 1) := by decide +kernel
theorem dX7_warns_33 : decode cX7_warns 33 = .ok (.baload, 1) := by decide +kernel
theorem dX7_warns_34 : decode cX7_warns 34 = .ok (.ifCond .ne 7, 3) := by decide +kernel
theorem dX7_warns_37 : decode cX7_warns 37 = .ok (.iconst 1, 1) := by decide +kernel
theorem dX7_warns_38 : decode cX7_warns 38 = .ok (.goto 4, 3) := by decide +kernel
theorem dX7_warns_41 : decode cX7_warns 41 = .ok (.iconst 0, 1) := by decide +kernel
theorem dX7_warns_42 : decode cX7_warns 42 = .ok (.istore 4, 2) := by decide +kernel
theorem dX7_warns_44 : decode cX7_warns 44 = .ok (.iload_n 2, 1) := by decide +kernel
theorem dX7_warns_45 : decode cX7_warns 45 = .ok (.ifCond .ne 46, 3) := by decide +kernel
theorem dX7_warns_48 : decode cX7_warns 48 = .ok (.iload 4, 2) := by decide +kernel
theorem dX7_warns_50 : decode cX7_warns 50 = .ok (.ifCond .eq 45, 3) := by decide +kernel
theorem dX7_warns_53 : decode cX7_warns 53 = .ok (.aload_n 0, 1) := by decide +kernel
theorem dX7_warns_54 : decode cX7_warns 54 = .ok (.getfield 35, 3) := by decide +kernel
theorem dX7_warns_57 : decode cX7_warns 57 = .ok (.iload_n 3, 1) := by decide +kernel
theorem dX7_warns_58 : decode cX7_warns 58 = .ok (.baload, 1) := by decide +kernel
theorem dX7_warns_59 : decode cX7_warns 59 = .ok (.ifCond .ne 32, 3) := by decide +kernel
theorem dX7_warns_62 : decode cX7_warns 62 = .ok (.aload_n 0, 1) := by decide +kernel
theorem dX7_warns_63 : decode cX7_warns 63 = .ok (.getfield 13, 3) := by decide +kernel
theorem dX7_warns_66 : decode cX7_warns 66 = .ok (.iload_n 3, 1) := by decide +kernel
theorem dX7_warns_67 : decode cX7_warns 67 = .ok (.iaload, 1) := by decide +kernel
theorem dX7_warns_68 : decode cX7_warns 68 = .ok (.iconst 1, 1) := by decide +kernel
theorem dX7_warns_69 : decode cX7_warns 69 = .ok (.if_icmp .ne 26, 3) := by decide +kernel
theorem dX7_warns_72 : decode cX7_warns 72 = .ok (.aload_n 0, 1) := by decide +kernel
theorem dX7_warns_73 : decode cX7_warns 73 = .ok (.getfield 29, 3) := by decide +kernel
theorem dX7_warns_76 : decode cX7_warns 76 = .ok (.iload_n 3, 1) := by decide +kernel
theorem dX7_warns_77 : decode cX7_warns 77 = .ok (.faload, 1) := by decide +kernel
theorem dX7_warns_78 : decode cX7_warns 78 = .ok (.aload_n 0, 1) := by decide +kernel
theorem dX7_warns_79 : decode cX7_warns 79 = .ok (.getfield 19, 3) := by decide +kernel
theorem dX7_warns_82 : decode cX7_warns 82 = .ok (.iload_n 3, 1) := by decide +kernel
theorem dX7_warns_83 : decode cX7_warns 83 = .ok (.faload, 1) := by decide +kernel
theorem dX7_warns_84 : decode cX7_warns 84 = .ok (.ldc 157, 2) := by decide +kernel
theorem dX7_warns_86 : decode cX7_warns 86 = .ok (.fmul, 1) := by decide +kernel
theorem dX7_warns_87 : decode cX7_warns 87 = .ok (.fcmp .l, 1) := by decide +kernel
theorem dX7_warns_88 : decode cX7_warns 88 = .ok (.ifCond .lt 7, 3) := by decide +kernel
theorem dX7_warns_91 : decode cX7_warns 91 = .ok (.iconst 1, 1) := by decide +kernel
theorem dX7_warns_92 : decode cX7_warns 92 = .ok (.goto 4, 3) := by decide +kernel
theorem dX7_warns_95 : decode cX7_warns 95 = .ok (.iconst 0, 1) := by decide +kernel
theorem dX7_warns_96 : decode cX7_warns 96 = .ok (.istore_n 2, 1) := by decide +kernel
theorem dX7_warns_97 : decode cX7_warns 97 = .ok (.iinc 3 1, 3) := by decide +kernel
theorem dX7_warns_100 : decode cX7_warns 100 = .ok (.goto (-96), 3) := by decide +kernel
theorem dX7_warns_103 : decode cX7_warns 103 = .ok (.iload_n 2, 1) := by decide +kernel
theorem dX7_warns_104 : decode cX7_warns 104 = .ok (.ireturn, 1) := by decide +kernel
theorem dX7_faults_0 : decode cX7_faults 0 = .ok (.iconst 0, 1) := by decide +kernel
theorem dX7_faults_1 : decode cX7_faults 1 = .ok (.istore_n 1, 1) := by decide +kernel
theorem dX7_faults_2 : decode cX7_faults 2 = .ok (.iconst 0, 1) := by decide +kernel
theorem dX7_faults_3 : decode cX7_faults 3 = .ok (.istore_n 2, 1) := by decide +kernel
theorem dX7_faults_4 : decode cX7_faults 4 = .ok (.iload_n 2, 1) := by decide +kernel
theorem dX7_faults_5 : decode cX7_faults 5 = .ok (.bipush 16, 2) := by decide +kernel
theorem dX7_faults_7 : decode cX7_faults 7 = .ok (.if_icmp .ge 26, 3) := by decide +kernel
theorem dX7_faults_10 : decode cX7_faults 10 = .ok (.aload_n 0, 1) := by decide +kernel
theorem dX7_faults_11 : decode cX7_faults 11 = .ok (.getfield 42, 3) := by decide +kernel
theorem dX7_faults_14 : decode cX7_faults 14 = .ok (.iload_n 2, 1) := by decide +kernel
theorem dX7_faults_15 : decode cX7_faults 15 = .ok (.baload, 1) := by decide +kernel
theorem dX7_faults_16 : decode cX7_faults 16 = .ok (.ifCond .eq 9, 3) := by decide +kernel
theorem dX7_faults_19 : decode cX7_faults 19 = .ok (.iload_n 1, 1) := by decide +kernel
theorem dX7_faults_20 : decode cX7_faults 20 = .ok (.iconst 1, 1) := by decide +kernel
theorem dX7_faults_21 : decode cX7_faults 21 = .ok (.iadd, 1) := by decide +kernel
theorem dX7_faults_22 : decode cX7_faults 22 = .ok (.goto 4, 3) := by decide +kernel
theorem dX7_faults_25 : decode cX7_faults 25 = .ok (.iload_n 1, 1) := by decide +kernel
theorem dX7_faults_26 : decode cX7_faults 26 = .ok (.istore_n 1, 1) := by decide +kernel
theorem dX7_faults_27 : decode cX7_faults 27 = .ok (.iinc 2 1, 3) := by decide +kernel
theorem dX7_faults_30 : decode cX7_faults 30 = .ok (.goto (-26), 3) := by decide +kernel
theorem dX7_faults_33 : decode cX7_faults 33 = .ok (.iload_n 1, 1) := by decide +kernel
theorem dX7_faults_34 : decode cX7_faults 34 = .ok (.ireturn, 1) := by decide +kernel
theorem dX7_sense_0 : decode cX7_sense 0 = .ok (.aload_n 0, 1) := by decide +kernel
theorem dX7_sense_1 : decode cX7_sense 1 = .ok (.getfield 23, 3) := by decide +kernel
theorem dX7_sense_4 : decode cX7_sense 4 = .ok (.iload_n 1, 1) := by decide +kernel
theorem dX7_sense_5 : decode cX7_sense 5 = .ok (.faload, 1) := by decide +kernel
theorem dX7_sense_6 : decode cX7_sense 6 = .ok (.fstore_n 2, 1) := by decide +kernel
theorem dX7_sense_7 : decode cX7_sense 7 = .ok (.aload_n 0, 1) := by decide +kernel
theorem dX7_sense_8 : decode cX7_sense 8 = .ok (.getfield 13, 3) := by decide +kernel
theorem dX7_sense_11 : decode cX7_sense 11 = .ok (.iload_n 1, 1) := by decide +kernel
theorem dX7_sense_12 : decode cX7_sense 12 = .ok (.iaload, 1) := by decide +kernel
theorem dX7_sense_13 : decode cX7_sense 13 = .ok (.iconst 3, 1) := by decide +kernel
theorem dX7_sense_14 : decode cX7_sense 14 = .ok (.if_icmp .ne 35, 3) := by decide +kernel
theorem dX7_sense_17 : decode cX7_sense 17 = .ok (.aload_n 0, 1) := by decide +kernel
theorem dX7_sense_18 : decode cX7_sense 18 = .ok (.getfield 32, 3) := by decide +kernel
theorem dX7_sense_21 : decode cX7_sense 21 = .ok (.iload_n 1, 1) := by decide +kernel
theorem dX7_sense_22 : decode cX7_sense 22 = .ok (.fload_n 2, 1) := by decide +kernel
theorem dX7_sense_23 : decode cX7_sense 23 = .ok (.fconst 0, 1) := by decide +kernel
theorem dX7_sense_24 : decode cX7_sense 24 = .ok (.fcmp .l, 1) := by decide +kernel
theorem dX7_sense_25 : decode cX7_sense 25 = .ok (.ifCond .le 7, 3) := by decide +kernel
theorem dX7_sense_28 : decode cX7_sense 28 = .ok (.iconst 3, 1) := by decide +kernel
theorem dX7_sense_29 : decode cX7_sense 29 = .ok (.goto 9, 3) := by decide +kernel
theorem dX7_sense_32 : decode cX7_sense 32 = .ok (.aload_n 0, 1) := by decide +kernel
theorem dX7_sense_33 : decode cX7_sense 33 = .ok (.getfield 32, 3) := by decide +kernel
theorem dX7_sense_36 : decode cX7_sense 36 = .ok (.iload_n 1, 1) := by decide +kernel
theorem dX7_sense_37 : decode cX7_sense 37 = .ok (.iaload, 1) := by decide +kernel
theorem dX7_sense_38 : decode cX7_sense 38 = .ok (.iastore, 1) := by decide +kernel
theorem dX7_sense_39 : decode cX7_sense 39 = .ok (.aload_n 0, 1) := by decide +kernel
theorem dX7_sense_40 : decode cX7_sense 40 = .ok (.getfield 29, 3) := by decide +kernel
theorem dX7_sense_43 : decode cX7_sense 43 = .ok (.iload_n 1, 1) := by decide +kernel
theorem dX7_sense_44 : decode cX7_sense 44 = .ok (.fload_n 2, 1) := by decide +kernel
theorem dX7_sense_45 : decode cX7_sense 45 = .ok (.fastore, 1) := by decide +kernel
theorem dX7_sense_46 : decode cX7_sense 46 = .ok (.goto 138, 3) := by decide +kernel
theorem dX7_sense_49 : decode cX7_sense 49 = .ok (.fload_n 2, 1) := by decide +kernel
theorem dX7_sense_50 : decode cX7_sense 50 = .ok (.aload_n 0, 1) := by decide +kernel
theorem dX7_sense_51 : decode cX7_sense 51 = .ok (.getfield 26, 3) := by decide +kernel
theorem dX7_sense_54 : decode cX7_sense 54 = .ok (.iload_n 1, 1) := by decide +kernel
theorem dX7_sense_55 : decode cX7_sense 55 = .ok (.faload, 1) := by decide +kernel
theorem dX7_sense_56 : decode cX7_sense 56 = .ok (.fsub, 1) := by decide +kernel
theorem dX7_sense_57 : decode cX7_sense 57 = .ok (.fstore_n 3, 1) := by decide +kernel
theorem dX7_sense_58 : decode cX7_sense 58 = .ok (.aload_n 0, 1) := by decide +kernel
theorem dX7_sense_59 : decode cX7_sense 59 = .ok (.getfield 29, 3) := by decide +kernel
theorem dX7_sense_62 : decode cX7_sense 62 = .ok (.iload_n 1, 1) := by decide +kernel
theorem dX7_sense_63 : decode cX7_sense 63 = .ok (.aload_n 0, 1) := by decide +kernel
theorem dX7_sense_64 : decode cX7_sense 64 = .ok (.getfield 13, 3) := by decide +kernel
theorem dX7_sense_67 : decode cX7_sense 67 = .ok (.iload_n 1, 1) := by decide +kernel
theorem dX7_sense_68 : decode cX7_sense 68 = .ok (.iaload, 1) := by decide +kernel
theorem dX7_sense_69 : decode cX7_sense 69 = .ok (.iconst 1, 1) := by decide +kernel
theorem dX7_sense_70 : decode cX7_sense 70 = .ok (.if_icmp .ne 24, 3) := by decide +kernel
theorem dX7_sense_73 : decode cX7_sense 73 = .ok (.aload_n 0, 1) := by decide +kernel
theorem dX7_sense_74 : decode cX7_sense 74 = .ok (.getfield 29, 3) := by decide +kernel
theorem dX7_sense_77 : decode cX7_sense 77 = .ok (.iload_n 1, 1) := by decide +kernel
theorem dX7_sense_78 : decode cX7_sense 78 = .ok (.faload, 1) := by decide +kernel
theorem dX7_sense_79 : decode cX7_sense 79 = .ok (.fload_n 3, 1) := by decide +kernel
theorem dX7_sense_80 : decode cX7_sense 80 = .ok (.aload_n 0, 1) := by decide +kernel
theorem dX7_sense_81 : decode cX7_sense 81 = .ok (.getfield 29, 3) := by decide +kernel
theorem dX7_sense_84 : decode cX7_sense 84 = .ok (.iload_n 1, 1) := by decide +kernel
theorem dX7_sense_85 : decode cX7_sense 85 = .ok (.faload, 1) := by decide +kernel
theorem dX7_sense_86 : decode cX7_sense 86 = .ok (.fsub, 1) := by decide +kernel
theorem dX7_sense_87 : decode cX7_sense 87 = .ok (.ldc 103, 2) := by decide +kernel
theorem dX7_sense_89 : decode cX7_sense 89 = .ok (.fmul, 1) := by decide +kernel
theorem dX7_sense_90 : decode cX7_sense 90 = .ok (.fadd, 1) := by decide +kernel
theorem dX7_sense_91 : decode cX7_sense 91 = .ok (.goto 12, 3) := by decide +kernel
theorem dX7_sense_94 : decode cX7_sense 94 = .ok (.fload_n 3, 1) := by decide +kernel
theorem dX7_sense_95 : decode cX7_sense 95 = .ok (.ldc 158, 2) := by decide +kernel
theorem dX7_sense_97 : decode cX7_sense 97 = .ok (.fmul, 1) := by decide +kernel
theorem dX7_sense_98 : decode cX7_sense 98 = .ok (.fload_n 2, 1) := by decide +kernel
theorem dX7_sense_99 : decode cX7_sense 99 = .ok (.ldc 159, 2) := by decide +kernel
theorem dX7_sense_101 : decode cX7_sense 101 = .ok (.fmul, 1) := by decide +kernel
theorem dX7_sense_102 : decode cX7_sense 102 = .ok (.fadd, 1) := by decide +kernel
theorem dX7_sense_103 : decode cX7_sense 103 = .ok (.fastore, 1) := by decide +kernel
theorem dX7_sense_104 : decode cX7_sense 104 = .ok (.aload_n 0, 1) := by decide +kernel
theorem dX7_sense_105 : decode cX7_sense 105 = .ok (.getfield 32, 3) := by decide +kernel
theorem dX7_sense_108 : decode cX7_sense 108 = .ok (.iload_n 1, 1) := by decide +kernel
theorem dX7_sense_109 : decode cX7_sense 109 = .ok (.aload_n 0, 1) := by decide +kernel
theorem dX7_sense_110 : decode cX7_sense 110 = .ok (.getfield 29, 3) := by decide +kernel
theorem dX7_sense_113 : decode cX7_sense 113 = .ok (.iload_n 1, 1) := by decide +kernel
theorem dX7_sense_114 : decode cX7_sense 114 = .ok (.faload, 1) := by decide +kernel
theorem dX7_sense_115 : decode cX7_sense 115 = .ok (.aload_n 0, 1) := by decide +kernel
theorem dX7_sense_116 : decode cX7_sense 116 = .ok (.getfield 19, 3) := by decide +kernel
theorem dX7_sense_119 : decode cX7_sense 119 = .ok (.iload_n 1, 1) := by decide +kernel
theorem dX7_sense_120 : decode cX7_sense 120 = .ok (.faload, 1) := by decide +kernel
theorem dX7_sense_121 : decode cX7_sense 121 = .ok (.fcmp .l, 1) := by decide +kernel
theorem dX7_sense_122 : decode cX7_sense 122 = .ok (.ifCond .lt 14, 3) := by decide +kernel
theorem dX7_sense_125 : decode cX7_sense 125 = .ok (.aload_n 0, 1) := by decide +kernel
theorem dX7_sense_126 : decode cX7_sense 126 = .ok (.getfield 32, 3) := by decide +kernel
theorem dX7_sense_129 : decode cX7_sense 129 = .ok (.iload_n 1, 1) := by decide +kernel
theorem dX7_sense_130 : decode cX7_sense 130 = .ok (.iaload, 1) := by decide +kernel
theorem dX7_sense_131 : decode cX7_sense 131 = .ok (.iconst 1, 1) := by decide +kernel
theorem dX7_sense_132 : decode cX7_sense 132 = .ok (.iadd, 1) := by decide +kernel
theorem dX7_sense_133 : decode cX7_sense 133 = .ok (.goto 4, 3) := by decide +kernel
theorem dX7_sense_136 : decode cX7_sense 136 = .ok (.iconst 0, 1) := by decide +kernel
theorem dX7_sense_137 : decode cX7_sense 137 = .ok (.iastore, 1) := by decide +kernel
theorem dX7_sense_138 : decode cX7_sense 138 = .ok (.aload_n 0, 1) := by decide +kernel
theorem dX7_sense_139 : decode cX7_sense 139 = .ok (.getfield 13, 3) := by decide +kernel
theorem dX7_sense_142 : decode cX7_sense 142 = .ok (.iload_n 1, 1) := by decide +kernel
theorem dX7_sense_143 : decode cX7_sense 143 = .ok (.iaload, 1) := by decide +kernel
theorem dX7_sense_144 : decode cX7_sense 144 = .ok (.iconst 2, 1) := by decide +kernel
theorem dX7_sense_145 : decode cX7_sense 145 = .ok (.if_icmp .ne 13, 3) := by decide +kernel
theorem dX7_sense_148 : decode cX7_sense 148 = .ok (.aload_n 0, 1) := by decide +kernel
theorem dX7_sense_149 : decode cX7_sense 149 = .ok (.getfield 26, 3) := by decide +kernel
theorem dX7_sense_152 : decode cX7_sense 152 = .ok (.iload_n 1, 1) := by decide +kernel
theorem dX7_sense_153 : decode cX7_sense 153 = .ok (.fload_n 2, 1) := by decide +kernel
theorem dX7_sense_154 : decode cX7_sense 154 = .ok (.fastore, 1) := by decide +kernel
theorem dX7_sense_155 : decode cX7_sense 155 = .ok (.goto 29, 3) := by decide +kernel
theorem dX7_sense_158 : decode cX7_sense 158 = .ok (.aload_n 0, 1) := by decide +kernel
theorem dX7_sense_159 : decode cX7_sense 159 = .ok (.getfield 32, 3) := by decide +kernel
theorem dX7_sense_162 : decode cX7_sense 162 = .ok (.iload_n 1, 1) := by decide +kernel
theorem dX7_sense_163 : decode cX7_sense 163 = .ok (.iaload, 1) := by decide +kernel
theorem dX7_sense_164 : decode cX7_sense 164 = .ok (.ifCond .ne 20, 3) := by decide +kernel
theorem dX7_sense_167 : decode cX7_sense 167 = .ok (.aload_n 0, 1) := by decide +kernel
theorem dX7_sense_168 : decode cX7_sense 168 = .ok (.getfield 26, 3) := by decide +kernel
theorem dX7_sense_171 : decode cX7_sense 171 = .ok (.iload_n 1, 1) := by decide +kernel
theorem dX7_sense_172 : decode cX7_sense 172 = .ok (.aload_n 0, 1) := by decide +kernel
theorem dX7_sense_173 : decode cX7_sense 173 = .ok (.getfield 26, 3) := by decide +kernel
theorem dX7_sense_176 : decode cX7_sense 176 = .ok (.iload_n 1, 1) := by decide +kernel
theorem dX7_sense_177 : decode cX7_sense 177 = .ok (.faload, 1) := by decide +kernel
theorem dX7_sense_178 : decode cX7_sense 178 = .ok (.fload_n 3, 1) := by decide +kernel
theorem dX7_sense_179 : decode cX7_sense 179 = .ok (.ldc 160, 2) := by decide +kernel
theorem dX7_sense_181 : decode cX7_sense 181 = .ok (.fmul, 1) := by decide +kernel
theorem dX7_sense_182 : decode cX7_sense 182 = .ok (.fadd, 1) := by decide +kernel
theorem dX7_sense_183 : decode cX7_sense 183 = .ok (.fastore, 1) := by decide +kernel
theorem dX7_sense_184 : decode cX7_sense 184 = .ok (.aload_n 0, 1) := by decide +kernel
theorem dX7_sense_185 : decode cX7_sense 185 = .ok (.getfield 35, 3) := by decide +kernel
theorem dX7_sense_188 : decode cX7_sense 188 = .ok (.iload_n 1, 1) := by decide +kernel
theorem dX7_sense_189 : decode cX7_sense 189 = .ok (.aload_n 0, 1) := by decide +kernel
theorem dX7_sense_190 : decode cX7_sense 190 = .ok (.getfield 35, 3) := by decide +kernel
theorem dX7_sense_193 : decode cX7_sense 193 = .ok (.iload_n 1, 1) := by decide +kernel
theorem dX7_sense_194 : decode cX7_sense 194 = .ok (.baload, 1) := by decide +kernel
theorem dX7_sense_195 : decode cX7_sense 195 = .ok (.ifCond .ne 13, 3) := by decide +kernel
theorem dX7_sense_198 : decode cX7_sense 198 = .ok (.aload_n 0, 1) := by decide +kernel
theorem dX7_sense_199 : decode cX7_sense 199 = .ok (.getfield 32, 3) := by decide +kernel
theorem dX7_sense_202 : decode cX7_sense 202 = .ok (.iload_n 1, 1) := by decide +kernel
theorem dX7_sense_203 : decode cX7_sense 203 = .ok (.iaload, 1) := by decide +kernel
theorem dX7_sense_204 : decode cX7_sense 204 = .ok (.iconst 3, 1) := by decide +kernel
theorem dX7_sense_205 : decode cX7_sense 205 = .ok (.if_icmp .lt 7, 3) := by decide +kernel
theorem dX7_sense_208 : decode cX7_sense 208 = .ok (.iconst 1, 1) := by decide +kernel
theorem dX7_sense_209 : decode cX7_sense 209 = .ok (.goto 4, 3) := by decide +kernel
theorem dX7_sense_212 : decode cX7_sense 212 = .ok (.iconst 0, 1) := by decide +kernel
theorem dX7_sense_213 : decode cX7_sense 213 = .ok (.bastore, 1) := by decide +kernel
theorem dX7_sense_214 : decode cX7_sense 214 = .ok (.return_, 1) := by decide +kernel
set_option maxRecDepth 20000 in
theorem ggX7_ask_X7_reached : GoodIn wsX7_ask wsX7_reached := goodIn_r _ [8, 9, 10, 11, 7, 12, 13, 14, 15, 16, 17, 18, 40, 41, 42, 43, 44, 45, 46, 47, 48, 49, 50, 51, 52, 53, 54, 55, 56, 57, 58, 59, 60, 61, 62, 63, 64, 65, 66, 67, 68, 69, 70, 71, 72, 73] (by decide +kernel) (by decide +kernel)
set_option maxRecDepth 20000 in
theorem gX7_ask_X7_reached : GoodIn wsX7_ask (wsV RX7 161 RX7 yX7_reached wsX7_reached) := goodIn_app (goodIn_of _ (by decide +kernel)) ggX7_ask_X7_reached
set_option maxRecDepth 20000 in
theorem ggX7_ask_X7_note : GoodIn wsX7_ask wsX7_note := goodIn_r _ [22, 23, 24, 25, 40, 41, 42, 43, 44, 45, 46, 47, 48, 49, 50, 51, 52, 53, 54, 55, 56, 57, 58, 59, 60, 61, 62, 63, 64, 65, 66, 67, 68, 69, 70, 71, 72, 73] (by decide +kernel) (by decide +kernel)
set_option maxRecDepth 20000 in
theorem gX7_ask_X7_note : GoodIn wsX7_ask (wsV RX7 164 RX7 yX7_note wsX7_note) := goodIn_app (goodIn_of _ (by decide +kernel)) ggX7_ask_X7_note
set_option maxRecDepth 20000 in
theorem ggX7_ask_X7_sense : GoodIn wsX7_ask wsX7_sense := goodIn_r _ [29, 30, 18, 31, 32, 33, 34, 35, 36, 37, 38, 39, 40, 41, 42, 43, 44, 45, 46, 47, 48, 49, 50, 51, 52, 53, 54, 55, 56, 57, 58, 59, 60, 61, 62, 63, 64, 65, 66, 67, 68, 69, 70, 71, 72, 73] (by decide +kernel) (by decide +kernel)
set_option maxRecDepth 20000 in
theorem gX7_ask_X7_sense : GoodIn wsX7_ask (wsV RX7 168 RX7 yX7_sense wsX7_sense) := goodIn_app (goodIn_of _ (by decide +kernel)) ggX7_ask_X7_sense
theorem dX7_ask_0 : decode cX7_ask 0 = .ok (.aload_n 0, 1) := by decide +kernel
theorem dX7_ask_1 : decode cX7_ask 1 = .ok (.iload_n 1, 1) := by decide +kernel
theorem dX7_ask_2 : decode cX7_ask 2 = .ok (.invokevirtual 161, 3) := by decide +kernel
theorem dX7_ask_5 : decode cX7_ask 5 = .ok (.ifCond .ne 37, 3) := by decide +kernel
theorem dX7_ask_8 : decode cX7_ask 8 = .ok (.aload_n 0, 1) := by decide +kernel
theorem dX7_ask_9 : decode cX7_ask 9 = .ok (.getfield 39, 3) := by decide +kernel
theorem dX7_ask_12 : decode cX7_ask 12 = .ok (.iload_n 1, 1) := by decide +kernel
theorem dX7_ask_13 : decode cX7_ask 13 = .ok (.dup2, 1) := by decide +kernel
theorem dX7_ask_14 : decode cX7_ask 14 = .ok (.iaload, 1) := by decide +kernel
theorem dX7_ask_15 : decode cX7_ask 15 = .ok (.iconst 1, 1) := by decide +kernel
theorem dX7_ask_16 : decode cX7_ask 16 = .ok (.iadd, 1) := by decide +kernel
theorem dX7_ask_17 : decode cX7_ask 17 = .ok (.iastore, 1) := by decide +kernel
theorem dX7_ask_18 : decode cX7_ask 18 = .ok (.aload_n 0, 1) := by decide +kernel
theorem dX7_ask_19 : decode cX7_ask 19 = .ok (.getfield 39, 3) := by decide +kernel
theorem dX7_ask_22 : decode cX7_ask 22 = .ok (.iload_n 1, 1) := by decide +kernel
theorem dX7_ask_23 : decode cX7_ask 23 = .ok (.iaload, 1) := by decide +kernel
theorem dX7_ask_24 : decode cX7_ask 24 = .ok (.iconst 2, 1) := by decide +kernel
theorem dX7_ask_25 : decode cX7_ask 25 = .ok (.if_icmp .ne 16, 3) := by decide +kernel
theorem dX7_ask_28 : decode cX7_ask 28 = .ok (.aload_n 0, 1) := by decide +kernel
theorem dX7_ask_29 : decode cX7_ask 29 = .ok (.getfield 42, 3) := by decide +kernel
theorem dX7_ask_32 : decode cX7_ask 32 = .ok (.iload_n 1, 1) := by decide +kernel
theorem dX7_ask_33 : decode cX7_ask 33 = .ok (.iconst 1, 1) := by decide +kernel
theorem dX7_ask_34 : decode cX7_ask 34 = .ok (.bastore, 1) := by decide +kernel
theorem dX7_ask_35 : decode cX7_ask 35 = .ok (.aload_n 0, 1) := by decide +kernel
theorem dX7_ask_36 : decode cX7_ask 36 = .ok (.iconst 2, 1) := by decide +kernel
theorem dX7_ask_37 : decode cX7_ask 37 = .ok (.iload_n 1, 1) := by decide +kernel
theorem dX7_ask_38 : decode cX7_ask 38 = .ok (.invokevirtual 164, 3) := by decide +kernel
theorem dX7_ask_41 : decode cX7_ask 41 = .ok (.return_, 1) := by decide +kernel
theorem dX7_ask_42 : decode cX7_ask 42 = .ok (.aload_n 0, 1) := by decide +kernel
theorem dX7_ask_43 : decode cX7_ask 43 = .ok (.getfield 39, 3) := by decide +kernel
theorem dX7_ask_46 : decode cX7_ask 46 = .ok (.iload_n 1, 1) := by decide +kernel
theorem dX7_ask_47 : decode cX7_ask 47 = .ok (.iconst 0, 1) := by decide +kernel
theorem dX7_ask_48 : decode cX7_ask 48 = .ok (.iastore, 1) := by decide +kernel
theorem dX7_ask_49 : decode cX7_ask 49 = .ok (.aload_n 0, 1) := by decide +kernel
theorem dX7_ask_50 : decode cX7_ask 50 = .ok (.getfield 42, 3) := by decide +kernel
theorem dX7_ask_53 : decode cX7_ask 53 = .ok (.iload_n 1, 1) := by decide +kernel
theorem dX7_ask_54 : decode cX7_ask 54 = .ok (.baload, 1) := by decide +kernel
theorem dX7_ask_55 : decode cX7_ask 55 = .ok (.ifCond .eq 16, 3) := by decide +kernel
theorem dX7_ask_58 : decode cX7_ask 58 = .ok (.aload_n 0, 1) := by decide +kernel
theorem dX7_ask_59 : decode cX7_ask 59 = .ok (.getfield 42, 3) := by decide +kernel
theorem dX7_ask_62 : decode cX7_ask 62 = .ok (.iload_n 1, 1) := by decide +kernel
theorem dX7_ask_63 : decode cX7_ask 63 = .ok (.iconst 0, 1) := by decide +kernel
theorem dX7_ask_64 : decode cX7_ask 64 = .ok (.bastore, 1) := by decide +kernel
theorem dX7_ask_65 : decode cX7_ask 65 = .ok (.aload_n 0, 1) := by decide +kernel
theorem dX7_ask_66 : decode cX7_ask 66 = .ok (.iconst 3, 1) := by decide +kernel
theorem dX7_ask_67 : decode cX7_ask 67 = .ok (.iload_n 1, 1) := by decide +kernel
theorem dX7_ask_68 : decode cX7_ask 68 = .ok (.invokevirtual 164, 3) := by decide +kernel
theorem dX7_ask_71 : decode cX7_ask 71 = .ok (.aload_n 0, 1) := by decide +kernel
theorem dX7_ask_72 : decode cX7_ask 72 = .ok (.getfield 45, 3) := by decide +kernel
theorem dX7_ask_75 : decode cX7_ask 75 = .ok (.iload_n 1, 1) := by decide +kernel
theorem dX7_ask_76 : decode cX7_ask 76 = .ok (.baload, 1) := by decide +kernel
theorem dX7_ask_77 : decode cX7_ask 77 = .ok (.ifCond .ne 8, 3) := by decide +kernel
theorem dX7_ask_80 : decode cX7_ask 80 = .ok (.aload_n 0, 1) := by decide +kernel
theorem dX7_ask_81 : decode cX7_ask 81 = .ok (.iload_n 1, 1) := by decide +kernel
theorem dX7_ask_82 : decode cX7_ask 82 = .ok (.invokevirtual 168, 3) := by decide +kernel
theorem dX7_ask_85 : decode cX7_ask 85 = .ok (.return_, 1) := by decide +kernel
set_option maxRecDepth 20000 in
theorem ggX7_burns_X7_isSensor : GoodIn wsX7_burns wsX7_isSensor := goodIn_r _ [12, 4, 13, 14, 11, 15, 16, 17, 18, 19, 20, 21, 22, 23, 24, 25, 26, 27, 28, 29, 30, 31, 32, 33, 34, 35, 36, 37, 38, 39, 40, 41, 42, 43, 44, 45, 46, 47, 48, 49] (by decide +kernel) (by decide +kernel)
set_option maxRecDepth 20000 in
theorem gX7_burns_X7_isSensor : GoodIn wsX7_burns (wsV RX7 154 RX7 yX7_isSensor wsX7_isSensor) := goodIn_app (goodIn_of _ (by decide +kernel)) ggX7_burns_X7_isSensor
theorem dX7_burns_0 : decode cX7_burns 0 = .ok (.iconst 0, 1) := by decide +kernel
theorem dX7_burns_1 : decode cX7_burns 1 = .ok (.istore_n 2, 1) := by decide +kernel
theorem dX7_burns_2 : decode cX7_burns 2 = .ok (.iconst 0, 1) := by decide +kernel
theorem dX7_burns_3 : decode cX7_burns 3 = .ok (.istore_n 3, 1) := by decide +kernel
theorem dX7_burns_4 : decode cX7_burns 4 = .ok (.iconst 0, 1) := by decide +kernel
theorem dX7_burns_5 : decode cX7_burns 5 = .ok (.istore 4, 2) := by decide +kernel
theorem dX7_burns_7 : decode cX7_burns 7 = .ok (.iload 4, 2) := by decide +kernel
theorem dX7_burns_9 : decode cX7_burns 9 = .ok (.bipush 16, 2) := by decide +kernel
theorem dX7_burns_11 : decode cX7_burns 11 = .ok (.if_icmp .ge 95, 3) := by decide +kernel
theorem dX7_burns_14 : decode cX7_burns 14 = .ok (.aload_n 0, 1) := by decide +kernel
theorem dX7_burns_15 : decode cX7_burns 15 = .ok (.iload 4, 2) := by decide +kernel
theorem dX7_burns_17 : decode cX7_burns 17 = .ok (.invokevirtual 154, 3) := by decide +kernel
theorem dX7_burns_20 : decode cX7_burns 20 = .ok (.ifCond .eq 38, 3) := by decide +kernel
theorem dX7_burns_23 : decode cX7_burns 23 = .ok (.aload_n 0, 1) := by decide +kernel
theorem dX7_burns_24 : decode cX7_burns 24 = .ok (.getfield 16, 3) := by decide +kernel
theorem dX7_burns_27 : decode cX7_burns 27 = .ok (.iload 4, 2) := by decide +kernel
theorem dX7_burns_29 : decode cX7_burns 29 = .ok (.iaload, 1) := by decide +kernel
theorem dX7_burns_30 : decode cX7_burns 30 = .ok (.iload_n 1, 1) := by decide +kernel
theorem dX7_burns_31 : decode cX7_burns 31 = .ok (.if_icmp .ne 27, 3) := by decide +kernel
theorem dX7_burns_34 : decode cX7_burns 34 = .ok (.aload_n 0, 1) := by decide +kernel
theorem dX7_burns_35 : decode cX7_burns 35 = .ok (.getfield 45, 3) := by decide +kernel
theorem dX7_burns_38 : decode cX7_burns 38 = .ok (.iload 4, 2) := by decide +kernel
theorem dX7_burns_40 : decode cX7_burns 40 = .ok (.baload, 1) := by decide +kernel
theorem dX7_burns_41 : decode cX7_burns 41 = .ok (.ifCond .ne 17, 3) := by decide +kernel
theorem dX7_burns_44 : decode cX7_burns 44 = .ok (.aload_n 0, 1) := by decide +kernel
theorem dX7_burns_45 : decode cX7_burns 45 = .ok (.getfield 35, 3) := by decide +kernel
theorem dX7_burns_48 : decode cX7_burns 48 = .ok (.iload 4, 2) := by decide +kernel
theorem dX7_burns_50 : decode cX7_burns 50 = .ok (.baload, 1) := by decide +kernel
theorem dX7_burns_51 : decode cX7_burns 51 = .ok (.ifCond .eq 7, 3) := by decide +kernel
theorem dX7_burns_54 : decode cX7_burns 54 = .ok (.iconst 1, 1) := by decide +kernel
theorem dX7_burns_55 : decode cX7_burns 55 = .ok (.goto 4, 3) := by decide +kernel
theorem dX7_burns_58 : decode cX7_burns 58 = .ok (.iconst 0, 1) := by decide +kernel
theorem dX7_burns_59 : decode cX7_burns 59 = .ok (.istore 5, 2) := by decide +kernel
theorem dX7_burns_61 : decode cX7_burns 61 = .ok (.iload 5, 2) := by decide +kernel
theorem dX7_burns_63 : decode cX7_burns 63 = .ok (.ifCond .eq 9, 3) := by decide +kernel
theorem dX7_burns_66 : decode cX7_burns 66 = .ok (.iload_n 2, 1) := by decide +kernel
theorem dX7_burns_67 : decode cX7_burns 67 = .ok (.iconst 1, 1) := by decide +kernel
theorem dX7_burns_68 : decode cX7_burns 68 = .ok (.iadd, 1) := by decide +kernel
theorem dX7_burns_69 : decode cX7_burns 69 = .ok (.goto 4, 3) := by decide +kernel
theorem dX7_burns_72 : decode cX7_burns 72 = .ok (.iload_n 2, 1) := by decide +kernel
theorem dX7_burns_73 : decode cX7_burns 73 = .ok (.istore_n 2, 1) := by decide +kernel
theorem dX7_burns_74 : decode cX7_burns 74 = .ok (.iload_n 3, 1) := by decide +kernel
theorem dX7_burns_75 : decode cX7_burns 75 = .ok (.ifCond .ne 19, 3) := by decide +kernel
theorem dX7_burns_78 : decode cX7_burns 78 = .ok (.iload 5, 2) := by decide +kernel
theorem dX7_burns_80 : decode cX7_burns 80 = .ok (.ifCond .eq 18, 3) := by decide +kernel
theorem dX7_burns_83 : decode cX7_burns 83 = .ok (.aload_n 0, 1) := by decide +kernel
theorem dX7_burns_84 : decode cX7_burns 84 = .ok (.getfield 13, 3) := by decide +kernel
theorem dX7_burns_87 : decode cX7_burns 87 = .ok (.iload 4, 2) := by decide +kernel
theorem dX7_burns_89 : decode cX7_burns 89 = .ok (.iaload, 1) := by decide +kernel
theorem dX7_burns_90 : decode cX7_burns 90 = .ok (.iconst 3, 1) := by decide +kernel
theorem dX7_burns_91 : decode cX7_burns 91 = .ok (.if_icmp .ne 7, 3) := by decide +kernel
theorem dX7_burns_94 : decode cX7_burns 94 = .ok (.iconst 1, 1) := by decide +kernel
theorem dX7_burns_95 : decode cX7_burns 95 = .ok (.goto 4, 3) := by decide +kernel
theorem dX7_burns_98 : decode cX7_burns 98 = .ok (.iconst 0, 1) := by decide +kernel
theorem dX7_burns_99 : decode cX7_burns 99 = .ok (.istore_n 3, 1) := by decide +kernel
theorem dX7_burns_100 : decode cX7_burns 100 = .ok (.iinc 4 1, 3) := by decide +kernel
theorem dX7_burns_103 : decode cX7_burns 103 = .ok (.goto (-96), 3) := by decide +kernel
theorem dX7_burns_106 : decode cX7_burns 106 = .ok (.aload_n 0, 1) := by decide +kernel
theorem dX7_burns_107 : decode cX7_burns 107 = .ok (.getfield 48, 3) := by decide +kernel
theorem dX7_burns_110 : decode cX7_burns 110 = .ok (.iload_n 1, 1) := by decide +kernel
theorem dX7_burns_111 : decode cX7_burns 111 = .ok (.baload, 1) := by decide +kernel
theorem dX7_burns_112 : decode cX7_burns 112 = .ok (.ifCond .ne 30, 3) := by decide +kernel
theorem dX7_burns_115 : decode cX7_burns 115 = .ok (.aload_n 0, 1) := by decide +kernel
theorem dX7_burns_116 : decode cX7_burns 116 = .ok (.getfield 54, 3) := by decide +kernel
theorem dX7_burns_119 : decode cX7_burns 119 = .ok (.iload_n 1, 1) := by decide +kernel
theorem dX7_burns_120 : decode cX7_burns 120 = .ok (.baload, 1) := by decide +kernel
theorem dX7_burns_121 : decode cX7_burns 121 = .ok (.ifCond .ne 21, 3) := by decide +kernel
theorem dX7_burns_124 : decode cX7_burns 124 = .ok (.iload_n 2, 1) := by decide +kernel
theorem dX7_burns_125 : decode cX7_burns 125 = .ok (.aload_n 0, 1) := by decide +kernel
theorem dX7_burns_126 : decode cX7_burns 126 = .ok (.getfield 51, 3) := by decide +kernel
theorem dX7_burns_129 : decode cX7_burns 129 = .ok (.iload_n 1, 1) := by decide +kernel
theorem dX7_burns_130 : decode cX7_burns 130 = .ok (.iaload, 1) := by decide +kernel
theorem dX7_burns_131 : decode cX7_burns 131 = .ok (.if_icmp .ge 7, 3) := by decide +kernel
theorem dX7_burns_134 : decode cX7_burns 134 = .ok (.iload_n 3, 1) := by decide +kernel
theorem dX7_burns_135 : decode cX7_burns 135 = .ok (.ifCond .eq 7, 3) := by decide +kernel
theorem dX7_burns_138 : decode cX7_burns 138 = .ok (.iconst 1, 1) := by decide +kernel
theorem dX7_burns_139 : decode cX7_burns 139 = .ok (.goto 4, 3) := by decide +kernel
theorem dX7_burns_142 : decode cX7_burns 142 = .ok (.iconst 0, 1) := by decide +kernel
theorem dX7_burns_143 : decode cX7_burns 143 = .ok (.ireturn, 1) := by decide +kernel
set_option maxRecDepth 20000 in
theorem ggX7_holds_X7_faults : GoodIn wsX7_holds wsX7_faults := goodIn_r _ [8, 9, 28, 29, 30, 31, 32, 33, 34, 35, 36, 37, 38, 39, 40, 41, 42, 43, 44, 45, 46, 47, 48, 49, 50, 51, 52, 53, 54, 55, 56, 57, 58, 59, 60, 61] (by decide +kernel) (by decide +kernel)
set_option maxRecDepth 20000 in
theorem gX7_holds_X7_faults : GoodIn wsX7_holds (wsV RX7 171 RX7 yX7_faults wsX7_faults) := goodIn_app (goodIn_of _ (by decide +kernel)) ggX7_holds_X7_faults
set_option maxRecDepth 20000 in
theorem ggX7_holds_X7_warns : GoodIn wsX7_holds wsX7_warns := goodIn_r _ [13, 14, 15, 16, 17, 18, 19, 20, 21, 22, 23, 7, 24, 25, 26, 27, 28, 29, 30, 31, 32, 33, 34, 35, 36, 37, 38, 39, 40, 41, 42, 43, 44, 45, 46, 47, 48, 49, 50, 51, 52, 53, 54, 55, 56, 57, 58, 59, 60, 61] (by decide +kernel) (by decide +kernel)
set_option maxRecDepth 20000 in
theorem gX7_holds_X7_warns : GoodIn wsX7_holds (wsV RX7 174 RX7 yX7_warns wsX7_warns) := goodIn_app (goodIn_of _ (by decide +kernel)) ggX7_holds_X7_warns
theorem dX7_holds_0 : decode cX7_holds 0 = .ok (.iconst 0, 1) := by decide +kernel
theorem dX7_holds_1 : decode cX7_holds 1 = .ok (.istore_n 2, 1) := by decide +kernel
theorem dX7_holds_2 : decode cX7_holds 2 = .ok (.iconst 0, 1) := by decide +kernel
theorem dX7_holds_3 : decode cX7_holds 3 = .ok (.istore_n 3, 1) := by decide +kernel
theorem dX7_holds_4 : decode cX7_holds 4 = .ok (.iload_n 3, 1) := by decide +kernel
theorem dX7_holds_5 : decode cX7_holds 5 = .ok (.aload_n 0, 1) := by decide +kernel
theorem dX7_holds_6 : decode cX7_holds 6 = .ok (.getfield 60, 3) := by decide +kernel
theorem dX7_holds_9 : decode cX7_holds 9 = .ok (.iload_n 1, 1) := by decide +kernel
theorem dX7_holds_10 : decode cX7_holds 10 = .ok (.iaload, 1) := by decide +kernel
theorem dX7_holds_11 : decode cX7_holds 11 = .ok (.if_icmp .ge 148, 3) := by decide +kernel
theorem dX7_holds_14 : decode cX7_holds 14 = .ok (.aload_n 0, 1) := by decide +kernel
theorem dX7_holds_15 : decode cX7_holds 15 = .ok (.getfield 57, 3) := by decide +kernel
theorem dX7_holds_18 : decode cX7_holds 18 = .ok (.bipush 20, 2) := by decide +kernel
theorem dX7_holds_20 : decode cX7_holds 20 = .ok (.iload_n 1, 1) := by decide +kernel
theorem dX7_holds_21 : decode cX7_holds 21 = .ok (.imul, 1) := by decide +kernel
theorem dX7_holds_22 : decode cX7_holds 22 = .ok (.iload_n 3, 1) := by decide +kernel
theorem dX7_holds_23 : decode cX7_holds 23 = .ok (.iadd, 1) := by decide +kernel
theorem dX7_holds_24 : decode cX7_holds 24 = .ok (.iaload, 1) := by decide +kernel
theorem dX7_holds_25 : decode cX7_holds 25 = .ok (.istore 4, 2) := by decide +kernel
theorem dX7_holds_27 : decode cX7_holds 27 = .ok (.iload 4, 2) := by decide +kernel
theorem dX7_holds_29 : decode cX7_holds 29 = .ok (.bipush 8, 2) := by decide +kernel
theorem dX7_holds_31 : decode cX7_holds 31 = .ok (.if_icmp .gt 69, 3) := by decide +kernel
theorem dX7_holds_34 : decode cX7_holds 34 = .ok (.iload 4, 2) := by decide +kernel
theorem dX7_holds_36 : decode cX7_holds 36 = .ok (.bipush 8, 2) := by decide +kernel
theorem dX7_holds_38 : decode cX7_holds 38 = .ok (.if_icmp .ne 18, 3) := by decide +kernel
theorem dX7_holds_41 : decode cX7_holds 41 = .ok (.aload_n 0, 1) := by decide +kernel
theorem dX7_holds_42 : decode cX7_holds 42 = .ok (.invokevirtual 171, 3) := by decide +kernel
theorem dX7_holds_45 : decode cX7_holds 45 = .ok (.ifCond .le 7, 3) := by decide +kernel
theorem dX7_holds_48 : decode cX7_holds 48 = .ok (.iconst 1, 1) := by decide +kernel
theorem dX7_holds_49 : decode cX7_holds 49 = .ok (.goto 31, 3) := by decide +kernel
theorem dX7_holds_52 : decode cX7_holds 52 = .ok (.iconst 0, 1) := by decide +kernel
theorem dX7_holds_53 : decode cX7_holds 53 = .ok (.goto 27, 3) := by decide +kernel
theorem dX7_holds_56 : decode cX7_holds 56 = .ok (.iload 4, 2) := by decide +kernel
theorem dX7_holds_58 : decode cX7_holds 58 = .ok (.iconst 4, 1) := by decide +kernel
theorem dX7_holds_59 : decode cX7_holds 59 = .ok (.if_icmp .ge 13, 3) := by decide +kernel
theorem dX7_holds_62 : decode cX7_holds 62 = .ok (.aload_n 0, 1) := by decide +kernel
theorem dX7_holds_63 : decode cX7_holds 63 = .ok (.getfield 54, 3) := by decide +kernel
theorem dX7_holds_66 : decode cX7_holds 66 = .ok (.iload 4, 2) := by decide +kernel
theorem dX7_holds_68 : decode cX7_holds 68 = .ok (.baload, 1) := by decide +kernel
theorem dX7_holds_69 : decode cX7_holds 69 = .ok (.goto 11, 3) := by decide +kernel
theorem dX7_holds_72 : decode cX7_holds 72 = .ok (.aload_n 0, 1) := by decide +kernel
theorem dX7_holds_73 : decode cX7_holds 73 = .ok (.iload 4, 2) := by decide +kernel
theorem dX7_holds_75 : decode cX7_holds 75 = .ok (.iconst 4, 1) := by decide +kernel
theorem dX7_holds_76 : decode cX7_holds 76 = .ok (.isub, 1) := by decide +kernel
theorem dX7_holds_77 : decode cX7_holds 77 = .ok (.invokevirtual 174, 3) := by decide +kernel
theorem dX7_holds_80 : decode cX7_holds 80 = .ok (.istore 5, 2) := by decide +kernel
theorem dX7_holds_82 : decode cX7_holds 82 = .ok (.iload_n 2, 1) := by decide +kernel
theorem dX7_holds_83 : decode cX7_holds 83 = .ok (.iconst 1, 1) := by decide +kernel
theorem dX7_holds_84 : decode cX7_holds 84 = .ok (.ishl, 1) := by decide +kernel
theorem dX7_holds_85 : decode cX7_holds 85 = .ok (.iload 5, 2) := by decide +kernel
theorem dX7_holds_87 : decode cX7_holds 87 = .ok (.ifCond .eq 7, 3) := by decide +kernel
theorem dX7_holds_90 : decode cX7_holds 90 = .ok (.iconst 1, 1) := by decide +kernel
theorem dX7_holds_91 : decode cX7_holds 91 = .ok (.goto 4, 3) := by decide +kernel
theorem dX7_holds_94 : decode cX7_holds 94 = .ok (.iconst 0, 1) := by decide +kernel
theorem dX7_holds_95 : decode cX7_holds 95 = .ok (.ior, 1) := by decide +kernel
theorem dX7_holds_96 : decode cX7_holds 96 = .ok (.istore_n 2, 1) := by decide +kernel
theorem dX7_holds_97 : decode cX7_holds 97 = .ok (.goto 56, 3) := by decide +kernel
theorem dX7_holds_100 : decode cX7_holds 100 = .ok (.iload 4, 2) := by decide +kernel
theorem dX7_holds_102 : decode cX7_holds 102 = .ok (.bipush 9, 2) := by decide +kernel
theorem dX7_holds_104 : decode cX7_holds 104 = .ok (.if_icmp .ne 10, 3) := by decide +kernel
theorem dX7_holds_107 : decode cX7_holds 107 = .ok (.iload_n 2, 1) := by decide +kernel
theorem dX7_holds_108 : decode cX7_holds 108 = .ok (.iconst 1, 1) := by decide +kernel
theorem dX7_holds_109 : decode cX7_holds 109 = .ok (.ixor, 1) := by decide +kernel
theorem dX7_holds_110 : decode cX7_holds 110 = .ok (.istore_n 2, 1) := by decide +kernel
theorem dX7_holds_111 : decode cX7_holds 111 = .ok (.goto 42, 3) := by decide +kernel
theorem dX7_holds_114 : decode cX7_holds 114 = .ok (.iload_n 2, 1) := by decide +kernel
theorem dX7_holds_115 : decode cX7_holds 115 = .ok (.iconst 1, 1) := by decide +kernel
theorem dX7_holds_116 : decode cX7_holds 116 = .ok (.iand, 1) := by decide +kernel
theorem dX7_holds_117 : decode cX7_holds 117 = .ok (.istore 5, 2) := by decide +kernel
theorem dX7_holds_119 : decode cX7_holds 119 = .ok (.iload_n 2, 1) := by decide +kernel
theorem dX7_holds_120 : decode cX7_holds 120 = .ok (.iconst 1, 1) := by decide +kernel
theorem dX7_holds_121 : decode cX7_holds 121 = .ok (.ishr, 1) := by decide +kernel
theorem dX7_holds_122 : decode cX7_holds 122 = .ok (.iconst 1, 1) := by decide +kernel
theorem dX7_holds_123 : decode cX7_holds 123 = .ok (.iand, 1) := by decide +kernel
theorem dX7_holds_124 : decode cX7_holds 124 = .ok (.istore 6, 2) := by decide +kernel
theorem dX7_holds_126 : decode cX7_holds 126 = .ok (.iload_n 2, 1) := by decide +kernel
theorem dX7_holds_127 : decode cX7_holds 127 = .ok (.iconst 2, 1) := by decide +kernel
theorem dX7_holds_128 : decode cX7_holds 128 = .ok (.ishr, 1) := by decide +kernel
theorem dX7_holds_129 : decode cX7_holds 129 = .ok (.iconst 1, 1) := by decide +kernel
theorem dX7_holds_130 : decode cX7_holds 130 = .ok (.ishl, 1) := by decide +kernel
theorem dX7_holds_131 : decode cX7_holds 131 = .ok (.iload 4, 2) := by decide +kernel
theorem dX7_holds_133 : decode cX7_holds 133 = .ok (.bipush 10, 2) := by decide +kernel
theorem dX7_holds_135 : decode cX7_holds 135 = .ok (.if_icmp .ne 11, 3) := by decide +kernel
theorem dX7_holds_138 : decode cX7_holds 138 = .ok (.iload 5, 2) := by decide +kernel
theorem dX7_holds_140 : decode cX7_holds 140 = .ok (.iload 6, 2) := by decide +kernel
theorem dX7_holds_142 : decode cX7_holds 142 = .ok (.iand, 1) := by decide +kernel
theorem dX7_holds_143 : decode cX7_holds 143 = .ok (.goto 8, 3) := by decide +kernel
theorem dX7_holds_146 : decode cX7_holds 146 = .ok (.iload 5, 2) := by decide +kernel
theorem dX7_holds_148 : decode cX7_holds 148 = .ok (.iload 6, 2) := by decide +kernel
theorem dX7_holds_150 : decode cX7_holds 150 = .ok (.ior, 1) := by decide +kernel
theorem dX7_holds_151 : decode cX7_holds 151 = .ok (.ior, 1) := by decide +kernel
theorem dX7_holds_152 : decode cX7_holds 152 = .ok (.istore_n 2, 1) := by decide +kernel
theorem dX7_holds_153 : decode cX7_holds 153 = .ok (.iinc 3 1, 3) := by decide +kernel
theorem dX7_holds_156 : decode cX7_holds 156 = .ok (.goto (-152), 3) := by decide +kernel
theorem dX7_holds_159 : decode cX7_holds 159 = .ok (.iload_n 2, 1) := by decide +kernel
theorem dX7_holds_160 : decode cX7_holds 160 = .ok (.iconst 1, 1) := by decide +kernel
theorem dX7_holds_161 : decode cX7_holds 161 = .ok (.iand, 1) := by decide +kernel
theorem dX7_holds_162 : decode cX7_holds 162 = .ok (.iconst 1, 1) := by decide +kernel
theorem dX7_holds_163 : decode cX7_holds 163 = .ok (.if_icmp .ne 7, 3) := by decide +kernel
theorem dX7_holds_166 : decode cX7_holds 166 = .ok (.iconst 1, 1) := by decide +kernel
theorem dX7_holds_167 : decode cX7_holds 167 = .ok (.goto 4, 3) := by decide +kernel
theorem dX7_holds_170 : decode cX7_holds 170 = .ok (.iconst 0, 1) := by decide +kernel
theorem dX7_holds_171 : decode cX7_holds 171 = .ok (.ireturn, 1) := by decide +kernel
set_option maxRecDepth 20000 in
theorem ggX7_drive_X7_holds : GoodIn wsX7_drive wsX7_holds := goodIn_r _ [10, 11, 12, 13, 14, 15, 16, 9, 17, 18, 19, 20, 21, 22, 23, 24, 25, 26, 27, 28, 29, 30, 31, 32, 33, 34, 35, 36, 44, 45, 46, 47, 48, 49, 50, 51, 52, 53, 54, 55, 56, 57, 58, 59, 60, 61, 62, 63, 64, 65, 66, 67, 68, 69, 70, 71, 72, 73, 74, 75, 76, 77] (by decide +kernel) (by decide +kernel)
set_option maxRecDepth 20000 in
theorem gX7_drive_X7_holds : GoodIn wsX7_drive (wsV RX7 177 RX7 yX7_holds wsX7_holds) := goodIn_app (goodIn_of _ (by decide +kernel)) ggX7_drive_X7_holds
set_option maxRecDepth 20000 in
theorem ggX7_drive_X7_note : GoodIn wsX7_drive wsX7_note := goodIn_r _ [40, 41, 42, 43, 44, 45, 46, 47, 48, 49, 50, 51, 52, 53, 54, 55, 56, 57, 58, 59, 60, 61, 62, 63, 64, 65, 66, 67, 68, 69, 70, 71, 72, 73, 74, 75, 76, 77] (by decide +kernel) (by decide +kernel)
set_option maxRecDepth 20000 in
theorem gX7_drive_X7_note : GoodIn wsX7_drive (wsV RX7 164 RX7 yX7_note wsX7_note) := goodIn_app (goodIn_of _ (by decide +kernel)) ggX7_drive_X7_note
theorem dX7_drive_0 : decode cX7_drive 0 = .ok (.iconst 0, 1) := by decide +kernel
theorem dX7_drive_1 : decode cX7_drive 1 = .ok (.istore_n 1, 1) := by decide +kernel
theorem dX7_drive_2 : decode cX7_drive 2 = .ok (.iload_n 1, 1) := by decide +kernel
theorem dX7_drive_3 : decode cX7_drive 3 = .ok (.aload_n 0, 1) := by decide +kernel
theorem dX7_drive_4 : decode cX7_drive 4 = .ok (.getfield 141, 3) := by decide +kernel
theorem dX7_drive_7 : decode cX7_drive 7 = .ok (.if_icmp .ge 35, 3) := by decide +kernel
theorem dX7_drive_10 : decode cX7_drive 10 = .ok (.aload_n 0, 1) := by decide +kernel
theorem dX7_drive_11 : decode cX7_drive 11 = .ok (.getfield 69, 3) := by decide +kernel
theorem dX7_drive_14 : decode cX7_drive 14 = .ok (.iload_n 1, 1) := by decide +kernel
theorem dX7_drive_15 : decode cX7_drive 15 = .ok (.aload_n 0, 1) := by decide +kernel
theorem dX7_drive_16 : decode cX7_drive 16 = .ok (.iload_n 1, 1) := by decide +kernel
theorem dX7_drive_17 : decode cX7_drive 17 = .ok (.invokevirtual 177, 3) := by decide +kernel
theorem dX7_drive_20 : decode cX7_drive 20 = .ok (.ifCond .eq 14, 3) := by decide +kernel
theorem dX7_drive_23 : decode cX7_drive 23 = .ok (.aload_n 0, 1) := by decide +kernel
theorem dX7_drive_24 : decode cX7_drive 24 = .ok (.getfield 69, 3) := by decide +kernel
theorem dX7_drive_27 : decode cX7_drive 27 = .ok (.iload_n 1, 1) := by decide +kernel
theorem dX7_drive_28 : decode cX7_drive 28 = .ok (.iaload, 1) := by decide +kernel
theorem dX7_drive_29 : decode cX7_drive 29 = .ok (.iconst 1, 1) := by decide +kernel
theorem dX7_drive_30 : decode cX7_drive 30 = .ok (.iadd, 1) := by decide +kernel
theorem dX7_drive_31 : decode cX7_drive 31 = .ok (.goto 4, 3) := by decide +kernel
theorem dX7_drive_34 : decode cX7_drive 34 = .ok (.iconst 0, 1) := by decide +kernel
theorem dX7_drive_35 : decode cX7_drive 35 = .ok (.iastore, 1) := by decide +kernel
theorem dX7_drive_36 : decode cX7_drive 36 = .ok (.iinc 1 1, 3) := by decide +kernel
theorem dX7_drive_39 : decode cX7_drive 39 = .ok (.goto (-37), 3) := by decide +kernel
theorem dX7_drive_42 : decode cX7_drive 42 = .ok (.iconst 0, 1) := by decide +kernel
theorem dX7_drive_43 : decode cX7_drive 43 = .ok (.istore_n 1, 1) := by decide +kernel
theorem dX7_drive_44 : decode cX7_drive 44 = .ok (.iload_n 1, 1) := by decide +kernel
theorem dX7_drive_45 : decode cX7_drive 45 = .ok (.bipush 6, 2) := by decide +kernel
theorem dX7_drive_47 : decode cX7_drive 47 = .ok (.if_icmp .ge 88, 3) := by decide +kernel
theorem dX7_drive_50 : decode cX7_drive 50 = .ok (.iconst 0, 1) := by decide +kernel
theorem dX7_drive_51 : decode cX7_drive 51 = .ok (.istore_n 2, 1) := by decide +kernel
theorem dX7_drive_52 : decode cX7_drive 52 = .ok (.iconst 0, 1) := by decide +kernel
theorem dX7_drive_53 : decode cX7_drive 53 = .ok (.istore_n 3, 1) := by decide +kernel
theorem dX7_drive_54 : decode cX7_drive 54 = .ok (.iload_n 3, 1) := by decide +kernel
theorem dX7_drive_55 : decode cX7_drive 55 = .ok (.aload_n 0, 1) := by decide +kernel
theorem dX7_drive_56 : decode cX7_drive 56 = .ok (.getfield 141, 3) := by decide +kernel
theorem dX7_drive_59 : decode cX7_drive 59 = .ok (.if_icmp .ge 44, 3) := by decide +kernel
theorem dX7_drive_62 : decode cX7_drive 62 = .ok (.iload_n 2, 1) := by decide +kernel
theorem dX7_drive_63 : decode cX7_drive 63 = .ok (.ifCond .ne 28, 3) := by decide +kernel
theorem dX7_drive_66 : decode cX7_drive 66 = .ok (.aload_n 0, 1) := by decide +kernel
theorem dX7_drive_67 : decode cX7_drive 67 = .ok (.getfield 63, 3) := by decide +kernel
theorem dX7_drive_70 : decode cX7_drive 70 = .ok (.iload_n 3, 1) := by decide +kernel
theorem dX7_drive_71 : decode cX7_drive 71 = .ok (.iaload, 1) := by decide +kernel
theorem dX7_drive_72 : decode cX7_drive 72 = .ok (.iload_n 1, 1) := by decide +kernel
theorem dX7_drive_73 : decode cX7_drive 73 = .ok (.if_icmp .ne 22, 3) := by decide +kernel
theorem dX7_drive_76 : decode cX7_drive 76 = .ok (.aload_n 0, 1) := by decide +kernel
theorem dX7_drive_77 : decode cX7_drive 77 = .ok (.getfield 69, 3) := by decide +kernel
theorem dX7_drive_80 : decode cX7_drive 80 = .ok (.iload_n 3, 1) := by decide +kernel
theorem dX7_drive_81 : decode cX7_drive 81 = .ok (.iaload, 1) := by decide +kernel
theorem dX7_drive_82 : decode cX7_drive 82 = .ok (.aload_n 0, 1) := by decide +kernel
theorem dX7_drive_83 : decode cX7_drive 83 = .ok (.getfield 66, 3) := by decide +kernel
theorem dX7_drive_86 : decode cX7_drive 86 = .ok (.iload_n 3, 1) := by decide +kernel
theorem dX7_drive_87 : decode cX7_drive 87 = .ok (.iaload, 1) := by decide +kernel
theorem dX7_drive_88 : decode cX7_drive 88 = .ok (.if_icmp .le 7, 3) := by decide +kernel
theorem dX7_drive_91 : decode cX7_drive 91 = .ok (.iconst 1, 1) := by decide +kernel
theorem dX7_drive_92 : decode cX7_drive 92 = .ok (.goto 4, 3) := by decide +kernel
theorem dX7_drive_95 : decode cX7_drive 95 = .ok (.iconst 0, 1) := by decide +kernel
theorem dX7_drive_96 : decode cX7_drive 96 = .ok (.istore_n 2, 1) := by decide +kernel
theorem dX7_drive_97 : decode cX7_drive 97 = .ok (.iinc 3 1, 3) := by decide +kernel
theorem dX7_drive_100 : decode cX7_drive 100 = .ok (.goto (-46), 3) := by decide +kernel
theorem dX7_drive_103 : decode cX7_drive 103 = .ok (.iload_n 2, 1) := by decide +kernel
theorem dX7_drive_104 : decode cX7_drive 104 = .ok (.ifCond .eq 18, 3) := by decide +kernel
theorem dX7_drive_107 : decode cX7_drive 107 = .ok (.aload_n 0, 1) := by decide +kernel
theorem dX7_drive_108 : decode cX7_drive 108 = .ok (.getfield 72, 3) := by decide +kernel
theorem dX7_drive_111 : decode cX7_drive 111 = .ok (.iload_n 1, 1) := by decide +kernel
theorem dX7_drive_112 : decode cX7_drive 112 = .ok (.baload, 1) := by decide +kernel
theorem dX7_drive_113 : decode cX7_drive 113 = .ok (.ifCond .ne 9, 3) := by decide +kernel
theorem dX7_drive_116 : decode cX7_drive 116 = .ok (.aload_n 0, 1) := by decide +kernel
theorem dX7_drive_117 : decode cX7_drive 117 = .ok (.iconst 4, 1) := by decide +kernel
theorem dX7_drive_118 : decode cX7_drive 118 = .ok (.iload_n 1, 1) := by decide +kernel
theorem dX7_drive_119 : decode cX7_drive 119 = .ok (.invokevirtual 164, 3) := by decide +kernel
theorem dX7_drive_122 : decode cX7_drive 122 = .ok (.aload_n 0, 1) := by decide +kernel
theorem dX7_drive_123 : decode cX7_drive 123 = .ok (.getfield 72, 3) := by decide +kernel
theorem dX7_drive_126 : decode cX7_drive 126 = .ok (.iload_n 1, 1) := by decide +kernel
theorem dX7_drive_127 : decode cX7_drive 127 = .ok (.iload_n 2, 1) := by decide +kernel
theorem dX7_drive_128 : decode cX7_drive 128 = .ok (.bastore, 1) := by decide +kernel
theorem dX7_drive_129 : decode cX7_drive 129 = .ok (.iinc 1 1, 3) := by decide +kernel
theorem dX7_drive_132 : decode cX7_drive 132 = .ok (.goto (-88), 3) := by decide +kernel
theorem dX7_drive_135 : decode cX7_drive 135 = .ok (.return_, 1) := by decide +kernel
set_option maxRecDepth 20000 in
theorem ggX7_poll_X7_isSensor : GoodIn wsX7_poll wsX7_isSensor := goodIn_r _ [9, 10, 11, 12, 8, 13, 85, 86, 87, 88, 89, 90, 91, 92, 93, 94, 95, 96, 97, 98, 99, 100, 101, 102, 103, 104, 105, 106, 107, 108, 109, 110, 111, 112, 113, 114, 115, 116, 117, 118] (by decide +kernel) (by decide +kernel)
set_option maxRecDepth 20000 in
theorem gX7_poll_X7_isSensor : GoodIn wsX7_poll (wsV RX7 154 RX7 yX7_isSensor wsX7_isSensor) := goodIn_app (goodIn_of _ (by decide +kernel)) ggX7_poll_X7_isSensor
set_option maxRecDepth 20000 in
theorem ggX7_poll_X7_ask : GoodIn wsX7_poll wsX7_ask := goodIn_r _ [17, 18, 19, 20, 21, 22, 23, 8, 24, 25, 26, 27, 28, 29, 30, 31, 32, 33, 10, 34, 35, 36, 37, 38, 2, 39, 40, 41, 42, 43, 44, 45, 46, 47, 48, 49, 50, 51, 52, 53, 85, 86, 87, 88, 89, 90, 91, 92, 93, 94, 95, 96, 97, 98, 99, 100, 101, 102, 103, 104, 105, 106, 107, 108, 109, 110, 111, 112, 113, 114, 115, 116, 117, 118] (by decide +kernel) (by decide +kernel)
set_option maxRecDepth 20000 in
theorem gX7_poll_X7_ask : GoodIn wsX7_poll (wsV RX7 180 RX7 yX7_ask wsX7_ask) := goodIn_app (goodIn_of _ (by decide +kernel)) ggX7_poll_X7_ask
set_option maxRecDepth 20000 in
theorem ggX7_poll_X7_burns : GoodIn wsX7_poll wsX7_burns := goodIn_r _ [57, 58, 20, 53, 10, 59, 3, 60, 5, 6, 7, 8, 9, 11, 12, 13, 85, 86, 87, 88, 89, 90, 91, 92, 93, 94, 95, 96, 97, 98, 99, 100, 101, 102, 103, 104, 105, 106, 107, 108, 109, 110, 111, 112, 113, 114, 115, 116, 117, 118] (by decide +kernel) (by decide +kernel)
set_option maxRecDepth 20000 in
theorem gX7_poll_X7_burns : GoodIn wsX7_poll (wsV RX7 183 RX7 yX7_burns wsX7_burns) := goodIn_app (goodIn_of _ (by decide +kernel)) ggX7_poll_X7_burns
set_option maxRecDepth 20000 in
theorem ggX7_poll_X7_note : GoodIn wsX7_poll wsX7_note := goodIn_r _ [37, 38, 2, 39, 85, 86, 87, 88, 89, 90, 91, 92, 93, 94, 95, 96, 97, 98, 99, 100, 101, 102, 103, 104, 105, 106, 107, 108, 109, 110, 111, 112, 113, 114, 115, 116, 117, 118] (by decide +kernel) (by decide +kernel)
set_option maxRecDepth 20000 in
theorem gX7_poll_X7_note : GoodIn wsX7_poll (wsV RX7 164 RX7 yX7_note wsX7_note) := goodIn_app (goodIn_of _ (by decide +kernel)) ggX7_poll_X7_note
set_option maxRecDepth 20000 in
theorem ggX7_poll_X7_drive : GoodIn wsX7_poll wsX7_drive := goodIn_r _ [64, 65, 66, 67, 68, 69, 70, 71, 72, 8, 73, 74, 75, 3, 76, 77, 78, 79, 19, 80, 81, 82, 83, 58, 20, 53, 10, 46, 51, 84, 5, 6, 7, 9, 11, 12, 13, 34, 35, 36, 37, 38, 2, 39, 85, 86, 87, 88, 89, 90, 91, 92, 93, 94, 95, 96, 97, 98, 99, 100, 101, 102, 103, 104, 105, 106, 107, 108, 109, 110, 111, 112, 113, 114, 115, 116, 117, 118] (by decide +kernel) (by decide +kernel)
set_option maxRecDepth 20000 in
theorem gX7_poll_X7_drive : GoodIn wsX7_poll (wsV RX7 190 RX7 yX7_drive wsX7_drive) := goodIn_app (goodIn_of _ (by decide +kernel)) ggX7_poll_X7_drive
theorem dX7_poll_0 : decode cX7_poll 0 = .ok (.aload_n 0, 1) := by decide +kernel
theorem dX7_poll_1 : decode cX7_poll 1 = .ok (.iconst 0, 1) := by decide +kernel
theorem dX7_poll_2 : decode cX7_poll 2 = .ok (.putfield 88, 3) := by decide +kernel
theorem dX7_poll_5 : decode cX7_poll 5 = .ok (.aload_n 0, 1) := by decide +kernel
theorem dX7_poll_6 : decode cX7_poll 6 = .ok (.dup, 1) := by decide +kernel
theorem dX7_poll_7 : decode cX7_poll 7 = .ok (.getfield 148, 3) := by decide +kernel
theorem dX7_poll_10 : decode cX7_poll 10 = .ok (.iconst 1, 1) := by decide +kernel
theorem dX7_poll_11 : decode cX7_poll 11 = .ok (.iadd, 1) := by decide +kernel
theorem dX7_poll_12 : decode cX7_poll 12 = .ok (.putfield 148, 3) := by decide +kernel
theorem dX7_poll_15 : decode cX7_poll 15 = .ok (.iconst 0, 1) := by decide +kernel
theorem dX7_poll_16 : decode cX7_poll 16 = .ok (.istore_n 1, 1) := by decide +kernel
theorem dX7_poll_17 : decode cX7_poll 17 = .ok (.iload_n 1, 1) := by decide +kernel
theorem dX7_poll_18 : decode cX7_poll 18 = .ok (.bipush 16, 2) := by decide +kernel
theorem dX7_poll_20 : decode cX7_poll 20 = .ok (.if_icmp .ge 22, 3) := by decide +kernel
theorem dX7_poll_23 : decode cX7_poll 23 = .ok (.aload_n 0, 1) := by decide +kernel
theorem dX7_poll_24 : decode cX7_poll 24 = .ok (.iload_n 1, 1) := by decide +kernel
theorem dX7_poll_25 : decode cX7_poll 25 = .ok (.invokevirtual 154, 3) := by decide +kernel
theorem dX7_poll_28 : decode cX7_poll 28 = .ok (.ifCond .eq 8, 3) := by decide +kernel
theorem dX7_poll_31 : decode cX7_poll 31 = .ok (.aload_n 0, 1) := by decide +kernel
theorem dX7_poll_32 : decode cX7_poll 32 = .ok (.iload_n 1, 1) := by decide +kernel
theorem dX7_poll_33 : decode cX7_poll 33 = .ok (.invokevirtual 180, 3) := by decide +kernel
theorem dX7_poll_36 : decode cX7_poll 36 = .ok (.iinc 1 1, 3) := by decide +kernel
theorem dX7_poll_39 : decode cX7_poll 39 = .ok (.goto (-22), 3) := by decide +kernel
theorem dX7_poll_42 : decode cX7_poll 42 = .ok (.iconst 0, 1) := by decide +kernel
theorem dX7_poll_43 : decode cX7_poll 43 = .ok (.istore_n 1, 1) := by decide +kernel
theorem dX7_poll_44 : decode cX7_poll 44 = .ok (.iconst 0, 1) := by decide +kernel
theorem dX7_poll_45 : decode cX7_poll 45 = .ok (.istore_n 2, 1) := by decide +kernel
theorem dX7_poll_46 : decode cX7_poll 46 = .ok (.iload_n 2, 1) := by decide +kernel
theorem dX7_poll_47 : decode cX7_poll 47 = .ok (.iconst 4, 1) := by decide +kernel
theorem dX7_poll_48 : decode cX7_poll 48 = .ok (.if_icmp .ge 38, 3) := by decide +kernel
theorem dX7_poll_51 : decode cX7_poll 51 = .ok (.aload_n 0, 1) := by decide +kernel
theorem dX7_poll_52 : decode cX7_poll 52 = .ok (.iload_n 2, 1) := by decide +kernel
theorem dX7_poll_53 : decode cX7_poll 53 = .ok (.invokevirtual 183, 3) := by decide +kernel
theorem dX7_poll_56 : decode cX7_poll 56 = .ok (.ifCond .eq 24, 3) := by decide +kernel
theorem dX7_poll_59 : decode cX7_poll 59 = .ok (.aload_n 0, 1) := by decide +kernel
theorem dX7_poll_60 : decode cX7_poll 60 = .ok (.getfield 54, 3) := by decide +kernel
theorem dX7_poll_63 : decode cX7_poll 63 = .ok (.iload_n 2, 1) := by decide +kernel
theorem dX7_poll_64 : decode cX7_poll 64 = .ok (.iconst 1, 1) := by decide +kernel
theorem dX7_poll_65 : decode cX7_poll 65 = .ok (.bastore, 1) := by decide +kernel
theorem dX7_poll_66 : decode cX7_poll 66 = .ok (.aload_n 0, 1) := by decide +kernel
theorem dX7_poll_67 : decode cX7_poll 67 = .ok (.iconst 1, 1) := by decide +kernel
theorem dX7_poll_68 : decode cX7_poll 68 = .ok (.iload_n 2, 1) := by decide +kernel
theorem dX7_poll_69 : decode cX7_poll 69 = .ok (.invokevirtual 164, 3) := by decide +kernel
theorem dX7_poll_72 : decode cX7_poll 72 = .ok (.aload_n 0, 1) := by decide +kernel
theorem dX7_poll_73 : decode cX7_poll 73 = .ok (.iconst 0, 1) := by decide +kernel
theorem dX7_poll_74 : decode cX7_poll 74 = .ok (.putfield 186, 3) := by decide +kernel
theorem dX7_poll_77 : decode cX7_poll 77 = .ok (.iinc 1 1, 3) := by decide +kernel
theorem dX7_poll_80 : decode cX7_poll 80 = .ok (.iinc 2 1, 3) := by decide +kernel
theorem dX7_poll_83 : decode cX7_poll 83 = .ok (.goto (-37), 3) := by decide +kernel
theorem dX7_poll_86 : decode cX7_poll 86 = .ok (.aload_n 0, 1) := by decide +kernel
theorem dX7_poll_87 : decode cX7_poll 87 = .ok (.invokevirtual 190, 3) := by decide +kernel
theorem dX7_poll_90 : decode cX7_poll 90 = .ok (.iload_n 1, 1) := by decide +kernel
theorem dX7_poll_91 : decode cX7_poll 91 = .ok (.ireturn, 1) := by decide +kernel
theorem dX7_key_0 : decode cX7_key 0 = .ok (.aload_n 0, 1) := by decide +kernel
theorem dX7_key_1 : decode cX7_key 1 = .ok (.iconst 0, 1) := by decide +kernel
theorem dX7_key_2 : decode cX7_key 2 = .ok (.putfield 88, 3) := by decide +kernel
theorem dX7_key_5 : decode cX7_key 5 = .ok (.aload_n 0, 1) := by decide +kernel
theorem dX7_key_6 : decode cX7_key 6 = .ok (.iload_n 1, 1) := by decide +kernel
theorem dX7_key_7 : decode cX7_key 7 = .ok (.sipush 1357, 3) := by decide +kernel
theorem dX7_key_10 : decode cX7_key 10 = .ok (.if_icmp .ne 7, 3) := by decide +kernel
theorem dX7_key_13 : decode cX7_key 13 = .ok (.iconst 1, 1) := by decide +kernel
theorem dX7_key_14 : decode cX7_key 14 = .ok (.goto 15, 3) := by decide +kernel
theorem dX7_key_17 : decode cX7_key 17 = .ok (.iload_n 1, 1) := by decide +kernel
theorem dX7_key_18 : decode cX7_key 18 = .ok (.sipush 2468, 3) := by decide +kernel
theorem dX7_key_21 : decode cX7_key 21 = .ok (.if_icmp .ne 7, 3) := by decide +kernel
theorem dX7_key_24 : decode cX7_key 24 = .ok (.iconst 2, 1) := by decide +kernel
theorem dX7_key_25 : decode cX7_key 25 = .ok (.goto 4, 3) := by decide +kernel
theorem dX7_key_28 : decode cX7_key 28 = .ok (.iconst 0, 1) := by decide +kernel
theorem dX7_key_29 : decode cX7_key 29 = .ok (.putfield 105, 3) := by decide +kernel
theorem dX7_key_32 : decode cX7_key 32 = .ok (.aload_n 0, 1) := by decide +kernel
theorem dX7_key_33 : decode cX7_key 33 = .ok (.getfield 105, 3) := by decide +kernel
theorem dX7_key_36 : decode cX7_key 36 = .ok (.ireturn, 1) := by decide +kernel
set_option maxRecDepth 20000 in
theorem ggX7_silence_X7_note : GoodIn wsX7_silence wsX7_note := goodIn_r _ [8, 9, 10, 11, 12, 13, 14, 15, 16, 17, 18, 19, 20, 21, 22, 23, 24, 25, 26, 27, 28, 29, 30, 31, 32, 33, 34, 35, 36, 37, 38, 39, 40, 41, 42, 43, 44, 45] (by decide +kernel) (by decide +kernel)
set_option maxRecDepth 20000 in
theorem gX7_silence_X7_note : GoodIn wsX7_silence (wsV RX7 164 RX7 yX7_note wsX7_note) := goodIn_app (goodIn_of _ (by decide +kernel)) ggX7_silence_X7_note
theorem dX7_silence_0 : decode cX7_silence 0 = .ok (.aload_n 0, 1) := by decide +kernel
theorem dX7_silence_1 : decode cX7_silence 1 = .ok (.aload_n 0, 1) := by decide +kernel
theorem dX7_silence_2 : decode cX7_silence 2 = .ok (.getfield 105, 3) := by decide +kernel
theorem dX7_silence_5 : decode cX7_silence 5 = .ok (.iconst 1, 1) := by decide +kernel
theorem dX7_silence_6 : decode cX7_silence 6 = .ok (.if_icmp .ge 7, 3) := by decide +kernel
theorem dX7_silence_9 : decode cX7_silence 9 = .ok (.iconst 1, 1) := by decide +kernel
theorem dX7_silence_10 : decode cX7_silence 10 = .ok (.goto 4, 3) := by decide +kernel
theorem dX7_silence_13 : decode cX7_silence 13 = .ok (.iconst 0, 1) := by decide +kernel
theorem dX7_silence_14 : decode cX7_silence 14 = .ok (.putfield 88, 3) := by decide +kernel
theorem dX7_silence_17 : decode cX7_silence 17 = .ok (.aload_n 0, 1) := by decide +kernel
theorem dX7_silence_18 : decode cX7_silence 18 = .ok (.getfield 88, 3) := by decide +kernel
theorem dX7_silence_21 : decode cX7_silence 21 = .ok (.ifCond .gt 10, 3) := by decide +kernel
theorem dX7_silence_24 : decode cX7_silence 24 = .ok (.aload_n 0, 1) := by decide +kernel
theorem dX7_silence_25 : decode cX7_silence 25 = .ok (.getfield 186, 3) := by decide +kernel
theorem dX7_silence_28 : decode cX7_silence 28 = .ok (.ifCond .eq 5, 3) := by decide +kernel
theorem dX7_silence_31 : decode cX7_silence 31 = .ok (.iconst 0, 1) := by decide +kernel
theorem dX7_silence_32 : decode cX7_silence 32 = .ok (.ireturn, 1) := by decide +kernel
theorem dX7_silence_33 : decode cX7_silence 33 = .ok (.aload_n 0, 1) := by decide +kernel
theorem dX7_silence_34 : decode cX7_silence 34 = .ok (.iconst 1, 1) := by decide +kernel
theorem dX7_silence_35 : decode cX7_silence 35 = .ok (.putfield 186, 3) := by decide +kernel
theorem dX7_silence_38 : decode cX7_silence 38 = .ok (.aload_n 0, 1) := by decide +kernel
theorem dX7_silence_39 : decode cX7_silence 39 = .ok (.iconst 5, 1) := by decide +kernel
theorem dX7_silence_40 : decode cX7_silence 40 = .ok (.iconst 0, 1) := by decide +kernel
theorem dX7_silence_41 : decode cX7_silence 41 = .ok (.invokevirtual 164, 3) := by decide +kernel
theorem dX7_silence_44 : decode cX7_silence 44 = .ok (.iconst 1, 1) := by decide +kernel
theorem dX7_silence_45 : decode cX7_silence 45 = .ok (.ireturn, 1) := by decide +kernel
set_option maxRecDepth 20000 in
theorem ggX7_reset_X7_note : GoodIn wsX7_reset wsX7_note := goodIn_r _ [13, 14, 15, 16, 17, 18, 19, 20, 21, 22, 23, 24, 25, 26, 27, 28, 29, 30, 31, 32, 33, 34, 35, 36, 37, 38, 39, 40, 41, 42, 43, 44, 45, 46, 47, 48, 49, 50] (by decide +kernel) (by decide +kernel)
set_option maxRecDepth 20000 in
theorem gX7_reset_X7_note : GoodIn wsX7_reset (wsV RX7 164 RX7 yX7_note wsX7_note) := goodIn_app (goodIn_of _ (by decide +kernel)) ggX7_reset_X7_note
theorem dX7_reset_0 : decode cX7_reset 0 = .ok (.aload_n 0, 1) := by decide +kernel
theorem dX7_reset_1 : decode cX7_reset 1 = .ok (.aload_n 0, 1) := by decide +kernel
theorem dX7_reset_2 : decode cX7_reset 2 = .ok (.getfield 105, 3) := by decide +kernel
theorem dX7_reset_5 : decode cX7_reset 5 = .ok (.iconst 1, 1) := by decide +kernel
theorem dX7_reset_6 : decode cX7_reset 6 = .ok (.if_icmp .ge 7, 3) := by decide +kernel
theorem dX7_reset_9 : decode cX7_reset 9 = .ok (.iconst 1, 1) := by decide +kernel
theorem dX7_reset_10 : decode cX7_reset 10 = .ok (.goto 4, 3) := by decide +kernel
theorem dX7_reset_13 : decode cX7_reset 13 = .ok (.iconst 0, 1) := by decide +kernel
theorem dX7_reset_14 : decode cX7_reset 14 = .ok (.putfield 88, 3) := by decide +kernel
theorem dX7_reset_17 : decode cX7_reset 17 = .ok (.aload_n 0, 1) := by decide +kernel
theorem dX7_reset_18 : decode cX7_reset 18 = .ok (.getfield 88, 3) := by decide +kernel
theorem dX7_reset_21 : decode cX7_reset 21 = .ok (.ifCond .le 5, 3) := by decide +kernel
theorem dX7_reset_24 : decode cX7_reset 24 = .ok (.iconst 0, 1) := by decide +kernel
theorem dX7_reset_25 : decode cX7_reset 25 = .ok (.ireturn, 1) := by decide +kernel
theorem dX7_reset_26 : decode cX7_reset 26 = .ok (.iconst 0, 1) := by decide +kernel
theorem dX7_reset_27 : decode cX7_reset 27 = .ok (.istore_n 1, 1) := by decide +kernel
theorem dX7_reset_28 : decode cX7_reset 28 = .ok (.iconst 0, 1) := by decide +kernel
theorem dX7_reset_29 : decode cX7_reset 29 = .ok (.istore_n 2, 1) := by decide +kernel
theorem dX7_reset_30 : decode cX7_reset 30 = .ok (.iload_n 2, 1) := by decide +kernel
theorem dX7_reset_31 : decode cX7_reset 31 = .ok (.iconst 4, 1) := by decide +kernel
theorem dX7_reset_32 : decode cX7_reset 32 = .ok (.if_icmp .ge 33, 3) := by decide +kernel
theorem dX7_reset_35 : decode cX7_reset 35 = .ok (.aload_n 0, 1) := by decide +kernel
theorem dX7_reset_36 : decode cX7_reset 36 = .ok (.getfield 54, 3) := by decide +kernel
theorem dX7_reset_39 : decode cX7_reset 39 = .ok (.iload_n 2, 1) := by decide +kernel
theorem dX7_reset_40 : decode cX7_reset 40 = .ok (.baload, 1) := by decide +kernel
theorem dX7_reset_41 : decode cX7_reset 41 = .ok (.ifCond .eq 9, 3) := by decide +kernel
theorem dX7_reset_44 : decode cX7_reset 44 = .ok (.iload_n 1, 1) := by decide +kernel
theorem dX7_reset_45 : decode cX7_reset 45 = .ok (.iconst 1, 1) := by decide +kernel
theorem dX7_reset_46 : decode cX7_reset 46 = .ok (.iadd, 1) := by decide +kernel
theorem dX7_reset_47 : decode cX7_reset 47 = .ok (.goto 4, 3) := by decide +kernel
theorem dX7_reset_50 : decode cX7_reset 50 = .ok (.iload_n 1, 1) := by decide +kernel
theorem dX7_reset_51 : decode cX7_reset 51 = .ok (.istore_n 1, 1) := by decide +kernel
theorem dX7_reset_52 : decode cX7_reset 52 = .ok (.aload_n 0, 1) := by decide +kernel
theorem dX7_reset_53 : decode cX7_reset 53 = .ok (.getfield 54, 3) := by decide +kernel
theorem dX7_reset_56 : decode cX7_reset 56 = .ok (.iload_n 2, 1) := by decide +kernel
theorem dX7_reset_57 : decode cX7_reset 57 = .ok (.iconst 0, 1) := by decide +kernel
theorem dX7_reset_58 : decode cX7_reset 58 = .ok (.bastore, 1) := by decide +kernel
theorem dX7_reset_59 : decode cX7_reset 59 = .ok (.iinc 2 1, 3) := by decide +kernel
theorem dX7_reset_62 : decode cX7_reset 62 = .ok (.goto (-32), 3) := by decide +kernel
theorem dX7_reset_65 : decode cX7_reset 65 = .ok (.iconst 0, 1) := by decide +kernel
theorem dX7_reset_66 : decode cX7_reset 66 = .ok (.istore_n 2, 1) := by decide +kernel
theorem dX7_reset_67 : decode cX7_reset 67 = .ok (.iload_n 2, 1) := by decide +kernel
theorem dX7_reset_68 : decode cX7_reset 68 = .ok (.bipush 16, 2) := by decide +kernel
theorem dX7_reset_70 : decode cX7_reset 70 = .ok (.if_icmp .ge 23, 3) := by decide +kernel
theorem dX7_reset_73 : decode cX7_reset 73 = .ok (.aload_n 0, 1) := by decide +kernel
theorem dX7_reset_74 : decode cX7_reset 74 = .ok (.getfield 35, 3) := by decide +kernel
theorem dX7_reset_77 : decode cX7_reset 77 = .ok (.iload_n 2, 1) := by decide +kernel
theorem dX7_reset_78 : decode cX7_reset 78 = .ok (.iconst 0, 1) := by decide +kernel
theorem dX7_reset_79 : decode cX7_reset 79 = .ok (.bastore, 1) := by decide +kernel
theorem dX7_reset_80 : decode cX7_reset 80 = .ok (.aload_n 0, 1) := by decide +kernel
theorem dX7_reset_81 : decode cX7_reset 81 = .ok (.getfield 32, 3) := by decide +kernel
theorem dX7_reset_84 : decode cX7_reset 84 = .ok (.iload_n 2, 1) := by decide +kernel
theorem dX7_reset_85 : decode cX7_reset 85 = .ok (.iconst 0, 1) := by decide +kernel
theorem dX7_reset_86 : decode cX7_reset 86 = .ok (.iastore, 1) := by decide +kernel
theorem dX7_reset_87 : decode cX7_reset 87 = .ok (.iinc 2 1, 3) := by decide +kernel
theorem dX7_reset_90 : decode cX7_reset 90 = .ok (.goto (-23), 3) := by decide +kernel
theorem dX7_reset_93 : decode cX7_reset 93 = .ok (.iconst 0, 1) := by decide +kernel
theorem dX7_reset_94 : decode cX7_reset 94 = .ok (.istore_n 2, 1) := by decide +kernel
theorem dX7_reset_95 : decode cX7_reset 95 = .ok (.iload_n 2, 1) := by decide +kernel
theorem dX7_reset_96 : decode cX7_reset 96 = .ok (.bipush 6, 2) := by decide +kernel
theorem dX7_reset_98 : decode cX7_reset 98 = .ok (.if_icmp .ge 23, 3) := by decide +kernel
theorem dX7_reset_101 : decode cX7_reset 101 = .ok (.aload_n 0, 1) := by decide +kernel
theorem dX7_reset_102 : decode cX7_reset 102 = .ok (.getfield 69, 3) := by decide +kernel
theorem dX7_reset_105 : decode cX7_reset 105 = .ok (.iload_n 2, 1) := by decide +kernel
theorem dX7_reset_106 : decode cX7_reset 106 = .ok (.iconst 0, 1) := by decide +kernel
theorem dX7_reset_107 : decode cX7_reset 107 = .ok (.iastore, 1) := by decide +kernel
theorem dX7_reset_108 : decode cX7_reset 108 = .ok (.aload_n 0, 1) := by decide +kernel
theorem dX7_reset_109 : decode cX7_reset 109 = .ok (.getfield 72, 3) := by decide +kernel
theorem dX7_reset_112 : decode cX7_reset 112 = .ok (.iload_n 2, 1) := by decide +kernel
theorem dX7_reset_113 : decode cX7_reset 113 = .ok (.iconst 0, 1) := by decide +kernel
theorem dX7_reset_114 : decode cX7_reset 114 = .ok (.bastore, 1) := by decide +kernel
theorem dX7_reset_115 : decode cX7_reset 115 = .ok (.iinc 2 1, 3) := by decide +kernel
theorem dX7_reset_118 : decode cX7_reset 118 = .ok (.goto (-23), 3) := by decide +kernel
theorem dX7_reset_121 : decode cX7_reset 121 = .ok (.aload_n 0, 1) := by decide +kernel
theorem dX7_reset_122 : decode cX7_reset 122 = .ok (.iconst 0, 1) := by decide +kernel
theorem dX7_reset_123 : decode cX7_reset 123 = .ok (.putfield 186, 3) := by decide +kernel
theorem dX7_reset_126 : decode cX7_reset 126 = .ok (.aload_n 0, 1) := by decide +kernel
theorem dX7_reset_127 : decode cX7_reset 127 = .ok (.bipush 6, 2) := by decide +kernel
theorem dX7_reset_129 : decode cX7_reset 129 = .ok (.iconst 0, 1) := by decide +kernel
theorem dX7_reset_130 : decode cX7_reset 130 = .ok (.invokevirtual 164, 3) := by decide +kernel
theorem dX7_reset_133 : decode cX7_reset 133 = .ok (.iload_n 1, 1) := by decide +kernel
theorem dX7_reset_134 : decode cX7_reset 134 = .ok (.ireturn, 1) := by decide +kernel
set_option maxRecDepth 20000 in
theorem ggX7_off_X7_in : GoodIn wsX7_off wsX7_in := goodIn_r _ [8] (by decide +kernel) (by decide +kernel)
set_option maxRecDepth 20000 in
theorem gX7_off_X7_in : GoodIn wsX7_off (va_wsS RX7 99 yX7_in wsX7_in) := goodIn_app (goodIn_of _ (by decide +kernel)) ggX7_off_X7_in
set_option maxRecDepth 20000 in
theorem ggX7_off_X7_note : GoodIn wsX7_off wsX7_note := goodIn_r _ [12, 13, 14, 15, 16, 17, 18, 19, 20, 21, 22, 23, 24, 25, 26, 27, 28, 29, 30, 31, 32, 33, 34, 35, 36, 37, 38, 39, 40, 41, 42, 43, 44, 45, 46, 47, 48, 49] (by decide +kernel) (by decide +kernel)
set_option maxRecDepth 20000 in
theorem gX7_off_X7_note : GoodIn wsX7_off (wsV RX7 164 RX7 yX7_note wsX7_note) := goodIn_app (goodIn_of _ (by decide +kernel)) ggX7_off_X7_note
theorem dX7_off_0 : decode cX7_off 0 = .ok (.aload_n 0, 1) := by decide +kernel
theorem dX7_off_1 : decode cX7_off 1 = .ok (.iload_n 2, 1) := by decide +kernel
theorem dX7_off_2 : decode cX7_off 2 = .ok (.iconst 0, 1) := by decide +kernel
theorem dX7_off_3 : decode cX7_off 3 = .ok (.iload_n 1, 1) := by decide +kernel
theorem dX7_off_4 : decode cX7_off 4 = .ok (.ifCond .eq 7, 3) := by decide +kernel
theorem dX7_off_7 : decode cX7_off 7 = .ok (.iconst 3, 1) := by decide +kernel
theorem dX7_off_8 : decode cX7_off 8 = .ok (.goto 5, 3) := by decide +kernel
theorem dX7_off_11 : decode cX7_off 11 = .ok (.bipush 15, 2) := by decide +kernel
theorem dX7_off_13 : decode cX7_off 13 = .ok (.invokestatic 99, 3) := by decide +kernel
theorem dX7_off_16 : decode cX7_off 16 = .ok (.ifCond .ne 7, 3) := by decide +kernel
theorem dX7_off_19 : decode cX7_off 19 = .ok (.iconst 1, 1) := by decide +kernel
theorem dX7_off_20 : decode cX7_off 20 = .ok (.goto 16, 3) := by decide +kernel
theorem dX7_off_23 : decode cX7_off 23 = .ok (.aload_n 0, 1) := by decide +kernel
theorem dX7_off_24 : decode cX7_off 24 = .ok (.getfield 105, 3) := by decide +kernel
theorem dX7_off_27 : decode cX7_off 27 = .ok (.iconst 2, 1) := by decide +kernel
theorem dX7_off_28 : decode cX7_off 28 = .ok (.if_icmp .ge 7, 3) := by decide +kernel
theorem dX7_off_31 : decode cX7_off 31 = .ok (.iconst 2, 1) := by decide +kernel
theorem dX7_off_32 : decode cX7_off 32 = .ok (.goto 4, 3) := by decide +kernel
theorem dX7_off_35 : decode cX7_off 35 = .ok (.iconst 0, 1) := by decide +kernel
theorem dX7_off_36 : decode cX7_off 36 = .ok (.putfield 88, 3) := by decide +kernel
theorem dX7_off_39 : decode cX7_off 39 = .ok (.aload_n 0, 1) := by decide +kernel
theorem dX7_off_40 : decode cX7_off 40 = .ok (.getfield 88, 3) := by decide +kernel
theorem dX7_off_43 : decode cX7_off 43 = .ok (.ifCond .le 5, 3) := by decide +kernel
theorem dX7_off_46 : decode cX7_off 46 = .ok (.iconst 0, 1) := by decide +kernel
theorem dX7_off_47 : decode cX7_off 47 = .ok (.ireturn, 1) := by decide +kernel
theorem dX7_off_48 : decode cX7_off 48 = .ok (.iload_n 1, 1) := by decide +kernel
theorem dX7_off_49 : decode cX7_off 49 = .ok (.ifCond .eq 12, 3) := by decide +kernel
theorem dX7_off_52 : decode cX7_off 52 = .ok (.aload_n 0, 1) := by decide +kernel
theorem dX7_off_53 : decode cX7_off 53 = .ok (.getfield 48, 3) := by decide +kernel
theorem dX7_off_56 : decode cX7_off 56 = .ok (.iload_n 2, 1) := by decide +kernel
theorem dX7_off_57 : decode cX7_off 57 = .ok (.baload, 1) := by decide +kernel
theorem dX7_off_58 : decode cX7_off 58 = .ok (.goto 9, 3) := by decide +kernel
theorem dX7_off_61 : decode cX7_off 61 = .ok (.aload_n 0, 1) := by decide +kernel
theorem dX7_off_62 : decode cX7_off 62 = .ok (.getfield 45, 3) := by decide +kernel
theorem dX7_off_65 : decode cX7_off 65 = .ok (.iload_n 2, 1) := by decide +kernel
theorem dX7_off_66 : decode cX7_off 66 = .ok (.baload, 1) := by decide +kernel
theorem dX7_off_67 : decode cX7_off 67 = .ok (.istore 4, 2) := by decide +kernel
theorem dX7_off_69 : decode cX7_off 69 = .ok (.iload 4, 2) := by decide +kernel
theorem dX7_off_71 : decode cX7_off 71 = .ok (.iload_n 3, 1) := by decide +kernel
theorem dX7_off_72 : decode cX7_off 72 = .ok (.if_icmp .ne 5, 3) := by decide +kernel
theorem dX7_off_75 : decode cX7_off 75 = .ok (.iconst 0, 1) := by decide +kernel
theorem dX7_off_76 : decode cX7_off 76 = .ok (.ireturn, 1) := by decide +kernel
theorem dX7_off_77 : decode cX7_off 77 = .ok (.iload_n 1, 1) := by decide +kernel
theorem dX7_off_78 : decode cX7_off 78 = .ok (.ifCond .eq 13, 3) := by decide +kernel
theorem dX7_off_81 : decode cX7_off 81 = .ok (.aload_n 0, 1) := by decide +kernel
theorem dX7_off_82 : decode cX7_off 82 = .ok (.getfield 48, 3) := by decide +kernel
theorem dX7_off_85 : decode cX7_off 85 = .ok (.iload_n 2, 1) := by decide +kernel
theorem dX7_off_86 : decode cX7_off 86 = .ok (.iload_n 3, 1) := by decide +kernel
theorem dX7_off_87 : decode cX7_off 87 = .ok (.bastore, 1) := by decide +kernel
theorem dX7_off_88 : decode cX7_off 88 = .ok (.goto 10, 3) := by decide +kernel
theorem dX7_off_91 : decode cX7_off 91 = .ok (.aload_n 0, 1) := by decide +kernel
theorem dX7_off_92 : decode cX7_off 92 = .ok (.getfield 45, 3) := by decide +kernel
theorem dX7_off_95 : decode cX7_off 95 = .ok (.iload_n 2, 1) := by decide +kernel
theorem dX7_off_96 : decode cX7_off 96 = .ok (.iload_n 3, 1) := by decide +kernel
theorem dX7_off_97 : decode cX7_off 97 = .ok (.bastore, 1) := by decide +kernel
theorem dX7_off_98 : decode cX7_off 98 = .ok (.aload_n 0, 1) := by decide +kernel
theorem dX7_off_99 : decode cX7_off 99 = .ok (.bipush 7, 2) := by decide +kernel
theorem dX7_off_101 : decode cX7_off 101 = .ok (.iload_n 1, 1) := by decide +kernel
theorem dX7_off_102 : decode cX7_off 102 = .ok (.ifCond .eq 7, 3) := by decide +kernel
theorem dX7_off_105 : decode cX7_off 105 = .ok (.iload_n 2, 1) := by decide +kernel
theorem dX7_off_106 : decode cX7_off 106 = .ok (.goto 7, 3) := by decide +kernel
theorem dX7_off_109 : decode cX7_off 109 = .ok (.bipush 10, 2) := by decide +kernel
theorem dX7_off_111 : decode cX7_off 111 = .ok (.iload_n 2, 1) := by decide +kernel
theorem dX7_off_112 : decode cX7_off 112 = .ok (.iadd, 1) := by decide +kernel
theorem dX7_off_113 : decode cX7_off 113 = .ok (.invokevirtual 164, 3) := by decide +kernel
theorem dX7_off_116 : decode cX7_off 116 = .ok (.iconst 1, 1) := by decide +kernel
theorem dX7_off_117 : decode cX7_off 117 = .ok (.ireturn, 1) := by decide +kernel
set_option maxRecDepth 20000 in
theorem ggX7_level_X7_in : GoodIn wsX7_level wsX7_in := goodIn_r _ [6] (by decide +kernel) (by decide +kernel)
set_option maxRecDepth 20000 in
theorem gX7_level_X7_in : GoodIn wsX7_level (va_wsS RX7 99 yX7_in wsX7_in) := goodIn_app (goodIn_of _ (by decide +kernel)) ggX7_level_X7_in
theorem dX7_level_0 : decode cX7_level 0 = .ok (.aload_n 0, 1) := by decide +kernel
theorem dX7_level_1 : decode cX7_level 1 = .ok (.iload_n 1, 1) := by decide +kernel
theorem dX7_level_2 : decode cX7_level 2 = .ok (.iconst 0, 1) := by decide +kernel
theorem dX7_level_3 : decode cX7_level 3 = .ok (.bipush 15, 2) := by decide +kernel
theorem dX7_level_5 : decode cX7_level 5 = .ok (.invokestatic 99, 3) := by decide +kernel
theorem dX7_level_8 : decode cX7_level 8 = .ok (.ifCond .eq 7, 3) := by decide +kernel
theorem dX7_level_11 : decode cX7_level 11 = .ok (.iconst 0, 1) := by decide +kernel
theorem dX7_level_12 : decode cX7_level 12 = .ok (.goto 4, 3) := by decide +kernel
theorem dX7_level_15 : decode cX7_level 15 = .ok (.iconst 1, 1) := by decide +kernel
theorem dX7_level_16 : decode cX7_level 16 = .ok (.putfield 88, 3) := by decide +kernel
theorem dX7_level_19 : decode cX7_level 19 = .ok (.aload_n 0, 1) := by decide +kernel
theorem dX7_level_20 : decode cX7_level 20 = .ok (.getfield 88, 3) := by decide +kernel
theorem dX7_level_23 : decode cX7_level 23 = .ok (.ifCond .le 7, 3) := by decide +kernel
theorem dX7_level_26 : decode cX7_level 26 = .ok (.fconst 0, 1) := by decide +kernel
theorem dX7_level_27 : decode cX7_level 27 = .ok (.goto 9, 3) := by decide +kernel
theorem dX7_level_30 : decode cX7_level 30 = .ok (.aload_n 0, 1) := by decide +kernel
theorem dX7_level_31 : decode cX7_level 31 = .ok (.getfield 29, 3) := by decide +kernel
theorem dX7_level_34 : decode cX7_level 34 = .ok (.iload_n 1, 1) := by decide +kernel
theorem dX7_level_35 : decode cX7_level 35 = .ok (.faload, 1) := by decide +kernel
theorem dX7_level_36 : decode cX7_level 36 = .ok (.freturn, 1) := by decide +kernel
set_option maxRecDepth 20000 in
theorem ggX7_base_X7_in : GoodIn wsX7_base wsX7_in := goodIn_r _ [6] (by decide +kernel) (by decide +kernel)
set_option maxRecDepth 20000 in
theorem gX7_base_X7_in : GoodIn wsX7_base (va_wsS RX7 99 yX7_in wsX7_in) := goodIn_app (goodIn_of _ (by decide +kernel)) ggX7_base_X7_in
theorem dX7_base_0 : decode cX7_base 0 = .ok (.aload_n 0, 1) := by decide +kernel
theorem dX7_base_1 : decode cX7_base 1 = .ok (.iload_n 1, 1) := by decide +kernel
theorem dX7_base_2 : decode cX7_base 2 = .ok (.iconst 0, 1) := by decide +kernel
theorem dX7_base_3 : decode cX7_base 3 = .ok (.bipush 15, 2) := by decide +kernel
theorem dX7_base_5 : decode cX7_base 5 = .ok (.invokestatic 99, 3) := by decide +kernel
theorem dX7_base_8 : decode cX7_base 8 = .ok (.ifCond .eq 7, 3) := by decide +kernel
theorem dX7_base_11 : decode cX7_base 11 = .ok (.iconst 0, 1) := by decide +kernel
theorem dX7_base_12 : decode cX7_base 12 = .ok (.goto 4, 3) := by decide +kernel
theorem dX7_base_15 : decode cX7_base 15 = .ok (.iconst 1, 1) := by decide +kernel
theorem dX7_base_16 : decode cX7_base 16 = .ok (.putfield 88, 3) := by decide +kernel
theorem dX7_base_19 : decode cX7_base 19 = .ok (.aload_n 0, 1) := by decide +kernel
theorem dX7_base_20 : decode cX7_base 20 = .ok (.getfield 88, 3) := by decide +kernel
theorem dX7_base_23 : decode cX7_base 23 = .ok (.ifCond .le 7, 3) := by decide +kernel
theorem dX7_base_26 : decode cX7_base 26 = .ok (.fconst 0, 1) := by decide +kernel
theorem dX7_base_27 : decode cX7_base 27 = .ok (.goto 9, 3) := by decide +kernel
theorem dX7_base_30 : decode cX7_base 30 = .ok (.aload_n 0, 1) := by decide +kernel
theorem dX7_base_31 : decode cX7_base 31 = .ok (.getfield 26, 3) := by decide +kernel
theorem dX7_base_34 : decode cX7_base 34 = .ok (.iload_n 1, 1) := by decide +kernel
theorem dX7_base_35 : decode cX7_base 35 = .ok (.faload, 1) := by decide +kernel
theorem dX7_base_36 : decode cX7_base 36 = .ok (.freturn, 1) := by decide +kernel
set_option maxRecDepth 20000 in
theorem ggX7_place_X7_in : GoodIn wsX7_place wsX7_in := goodIn_r _ [9] (by decide +kernel) (by decide +kernel)
set_option maxRecDepth 20000 in
theorem gX7_place_X7_in : GoodIn wsX7_place (va_wsS RX7 99 yX7_in wsX7_in) := goodIn_app (goodIn_of _ (by decide +kernel)) ggX7_place_X7_in
set_option maxRecDepth 20000 in
theorem ggX7_place_X7_reached : GoodIn wsX7_place wsX7_reached := goodIn_r _ [13, 14, 15, 16, 8, 17, 18, 19, 20, 21, 22, 5, 23, 24, 25, 26, 27, 28, 29, 30, 31, 32, 33, 34, 35, 36, 37, 38, 39, 40, 41, 42, 43, 44, 45, 46, 47, 48, 49, 50, 51, 52, 53, 54, 55, 56] (by decide +kernel) (by decide +kernel)
set_option maxRecDepth 20000 in
theorem gX7_place_X7_reached : GoodIn wsX7_place (wsV RX7 161 RX7 yX7_reached wsX7_reached) := goodIn_app (goodIn_of _ (by decide +kernel)) ggX7_place_X7_reached
theorem dX7_place_0 : decode cX7_place 0 = .ok (.aload_n 0, 1) := by decide +kernel
theorem dX7_place_1 : decode cX7_place 1 = .ok (.iload_n 1, 1) := by decide +kernel
theorem dX7_place_2 : decode cX7_place 2 = .ok (.iconst 0, 1) := by decide +kernel
theorem dX7_place_3 : decode cX7_place 3 = .ok (.bipush 15, 2) := by decide +kernel
theorem dX7_place_5 : decode cX7_place 5 = .ok (.invokestatic 99, 3) := by decide +kernel
theorem dX7_place_8 : decode cX7_place 8 = .ok (.ifCond .eq 7, 3) := by decide +kernel
theorem dX7_place_11 : decode cX7_place 11 = .ok (.iconst 0, 1) := by decide +kernel
theorem dX7_place_12 : decode cX7_place 12 = .ok (.goto 4, 3) := by decide +kernel
theorem dX7_place_15 : decode cX7_place 15 = .ok (.iconst 1, 1) := by decide +kernel
theorem dX7_place_16 : decode cX7_place 16 = .ok (.putfield 88, 3) := by decide +kernel
theorem dX7_place_19 : decode cX7_place 19 = .ok (.aload_n 0, 1) := by decide +kernel
theorem dX7_place_20 : decode cX7_place 20 = .ok (.getfield 88, 3) := by decide +kernel
theorem dX7_place_23 : decode cX7_place 23 = .ok (.ifCond .le 5, 3) := by decide +kernel
theorem dX7_place_26 : decode cX7_place 26 = .ok (.iconst 0, 1) := by decide +kernel
theorem dX7_place_27 : decode cX7_place 27 = .ok (.ireturn, 1) := by decide +kernel
theorem dX7_place_28 : decode cX7_place 28 = .ok (.aload_n 0, 1) := by decide +kernel
theorem dX7_place_29 : decode cX7_place 29 = .ok (.iload_n 1, 1) := by decide +kernel
theorem dX7_place_30 : decode cX7_place 30 = .ok (.invokevirtual 161, 3) := by decide +kernel
theorem dX7_place_33 : decode cX7_place 33 = .ok (.ifCond .eq 7, 3) := by decide +kernel
theorem dX7_place_36 : decode cX7_place 36 = .ok (.iconst 1, 1) := by decide +kernel
theorem dX7_place_37 : decode cX7_place 37 = .ok (.goto 4, 3) := by decide +kernel
theorem dX7_place_40 : decode cX7_place 40 = .ok (.iconst 0, 1) := by decide +kernel
theorem dX7_place_41 : decode cX7_place 41 = .ok (.aload_n 0, 1) := by decide +kernel
theorem dX7_place_42 : decode cX7_place 42 = .ok (.getfield 35, 3) := by decide +kernel
theorem dX7_place_45 : decode cX7_place 45 = .ok (.iload_n 1, 1) := by decide +kernel
theorem dX7_place_46 : decode cX7_place 46 = .ok (.baload, 1) := by decide +kernel
theorem dX7_place_47 : decode cX7_place 47 = .ok (.ifCond .eq 7, 3) := by decide +kernel
theorem dX7_place_50 : decode cX7_place 50 = .ok (.iconst 2, 1) := by decide +kernel
theorem dX7_place_51 : decode cX7_place 51 = .ok (.goto 4, 3) := by decide +kernel
theorem dX7_place_54 : decode cX7_place 54 = .ok (.iconst 0, 1) := by decide +kernel
theorem dX7_place_55 : decode cX7_place 55 = .ok (.iadd, 1) := by decide +kernel
theorem dX7_place_56 : decode cX7_place 56 = .ok (.aload_n 0, 1) := by decide +kernel
theorem dX7_place_57 : decode cX7_place 57 = .ok (.getfield 42, 3) := by decide +kernel
theorem dX7_place_60 : decode cX7_place 60 = .ok (.iload_n 1, 1) := by decide +kernel
theorem dX7_place_61 : decode cX7_place 61 = .ok (.baload, 1) := by decide +kernel
theorem dX7_place_62 : decode cX7_place 62 = .ok (.ifCond .eq 7, 3) := by decide +kernel
theorem dX7_place_65 : decode cX7_place 65 = .ok (.iconst 4, 1) := by decide +kernel
theorem dX7_place_66 : decode cX7_place 66 = .ok (.goto 4, 3) := by decide +kernel
theorem dX7_place_69 : decode cX7_place 69 = .ok (.iconst 0, 1) := by decide +kernel
theorem dX7_place_70 : decode cX7_place 70 = .ok (.iadd, 1) := by decide +kernel
theorem dX7_place_71 : decode cX7_place 71 = .ok (.aload_n 0, 1) := by decide +kernel
theorem dX7_place_72 : decode cX7_place 72 = .ok (.getfield 45, 3) := by decide +kernel
theorem dX7_place_75 : decode cX7_place 75 = .ok (.iload_n 1, 1) := by decide +kernel
theorem dX7_place_76 : decode cX7_place 76 = .ok (.baload, 1) := by decide +kernel
theorem dX7_place_77 : decode cX7_place 77 = .ok (.ifCond .eq 8, 3) := by decide +kernel
theorem dX7_place_80 : decode cX7_place 80 = .ok (.bipush 8, 2) := by decide +kernel
theorem dX7_place_82 : decode cX7_place 82 = .ok (.goto 4, 3) := by decide +kernel
theorem dX7_place_85 : decode cX7_place 85 = .ok (.iconst 0, 1) := by decide +kernel
theorem dX7_place_86 : decode cX7_place 86 = .ok (.iadd, 1) := by decide +kernel
theorem dX7_place_87 : decode cX7_place 87 = .ok (.bipush 16, 2) := by decide +kernel
theorem dX7_place_89 : decode cX7_place 89 = .ok (.aload_n 0, 1) := by decide +kernel
theorem dX7_place_90 : decode cX7_place 90 = .ok (.getfield 13, 3) := by decide +kernel
theorem dX7_place_93 : decode cX7_place 93 = .ok (.iload_n 1, 1) := by decide +kernel
theorem dX7_place_94 : decode cX7_place 94 = .ok (.iaload, 1) := by decide +kernel
theorem dX7_place_95 : decode cX7_place 95 = .ok (.imul, 1) := by decide +kernel
theorem dX7_place_96 : decode cX7_place 96 = .ok (.iadd, 1) := by decide +kernel
theorem dX7_place_97 : decode cX7_place 97 = .ok (.ireturn, 1) := by decide +kernel
set_option maxRecDepth 20000 in
theorem ggX7_zone_X7_in : GoodIn wsX7_zone wsX7_in := goodIn_r _ [7] (by decide +kernel) (by decide +kernel)
set_option maxRecDepth 20000 in
theorem gX7_zone_X7_in : GoodIn wsX7_zone (va_wsS RX7 99 yX7_in wsX7_in) := goodIn_app (goodIn_of _ (by decide +kernel)) ggX7_zone_X7_in
set_option maxRecDepth 20000 in
theorem ggX7_zone_X7_warns : GoodIn wsX7_zone wsX7_warns := goodIn_r _ [11, 12, 13, 14, 15, 16, 17, 18, 19, 20, 21, 6, 22, 4, 5, 7, 23, 24, 25, 26, 27, 28, 29, 30, 31, 32, 33, 34, 35, 36, 37, 38, 39, 40, 41, 42, 43, 44, 45, 46, 47, 48, 49, 50, 51, 52, 53, 54, 55, 56] (by decide +kernel) (by decide +kernel)
set_option maxRecDepth 20000 in
theorem gX7_zone_X7_warns : GoodIn wsX7_zone (wsV RX7 174 RX7 yX7_warns wsX7_warns) := goodIn_app (goodIn_of _ (by decide +kernel)) ggX7_zone_X7_warns
theorem dX7_zone_0 : decode cX7_zone 0 = .ok (.aload_n 0, 1) := by decide +kernel
theorem dX7_zone_1 : decode cX7_zone 1 = .ok (.iload_n 1, 1) := by decide +kernel
theorem dX7_zone_2 : decode cX7_zone 2 = .ok (.iconst 0, 1) := by decide +kernel
theorem dX7_zone_3 : decode cX7_zone 3 = .ok (.iconst 3, 1) := by decide +kernel
theorem dX7_zone_4 : decode cX7_zone 4 = .ok (.invokestatic 99, 3) := by decide +kernel
theorem dX7_zone_7 : decode cX7_zone 7 = .ok (.ifCond .eq 7, 3) := by decide +kernel
theorem dX7_zone_10 : decode cX7_zone 10 = .ok (.iconst 0, 1) := by decide +kernel
theorem dX7_zone_11 : decode cX7_zone 11 = .ok (.goto 4, 3) := by decide +kernel
theorem dX7_zone_14 : decode cX7_zone 14 = .ok (.iconst 1, 1) := by decide +kernel
theorem dX7_zone_15 : decode cX7_zone 15 = .ok (.putfield 88, 3) := by decide +kernel
theorem dX7_zone_18 : decode cX7_zone 18 = .ok (.aload_n 0, 1) := by decide +kernel
theorem dX7_zone_19 : decode cX7_zone 19 = .ok (.getfield 88, 3) := by decide +kernel
theorem dX7_zone_22 : decode cX7_zone 22 = .ok (.ifCond .le 5, 3) := by decide +kernel
theorem dX7_zone_25 : decode cX7_zone 25 = .ok (.iconst 0, 1) := by decide +kernel
theorem dX7_zone_26 : decode cX7_zone 26 = .ok (.ireturn, 1) := by decide +kernel
theorem dX7_zone_27 : decode cX7_zone 27 = .ok (.aload_n 0, 1) := by decide +kernel
theorem dX7_zone_28 : decode cX7_zone 28 = .ok (.getfield 54, 3) := by decide +kernel
theorem dX7_zone_31 : decode cX7_zone 31 = .ok (.iload_n 1, 1) := by decide +kernel
theorem dX7_zone_32 : decode cX7_zone 32 = .ok (.baload, 1) := by decide +kernel
theorem dX7_zone_33 : decode cX7_zone 33 = .ok (.ifCond .eq 7, 3) := by decide +kernel
theorem dX7_zone_36 : decode cX7_zone 36 = .ok (.iconst 1, 1) := by decide +kernel
theorem dX7_zone_37 : decode cX7_zone 37 = .ok (.goto 4, 3) := by decide +kernel
theorem dX7_zone_40 : decode cX7_zone 40 = .ok (.iconst 0, 1) := by decide +kernel
theorem dX7_zone_41 : decode cX7_zone 41 = .ok (.aload_n 0, 1) := by decide +kernel
theorem dX7_zone_42 : decode cX7_zone 42 = .ok (.iload_n 1, 1) := by decide +kernel
theorem dX7_zone_43 : decode cX7_zone 43 = .ok (.invokevirtual 174, 3) := by decide +kernel
theorem dX7_zone_46 : decode cX7_zone 46 = .ok (.ifCond .eq 7, 3) := by decide +kernel
theorem dX7_zone_49 : decode cX7_zone 49 = .ok (.iconst 2, 1) := by decide +kernel
theorem dX7_zone_50 : decode cX7_zone 50 = .ok (.goto 4, 3) := by decide +kernel
theorem dX7_zone_53 : decode cX7_zone 53 = .ok (.iconst 0, 1) := by decide +kernel
theorem dX7_zone_54 : decode cX7_zone 54 = .ok (.iadd, 1) := by decide +kernel
theorem dX7_zone_55 : decode cX7_zone 55 = .ok (.aload_n 0, 1) := by decide +kernel
theorem dX7_zone_56 : decode cX7_zone 56 = .ok (.getfield 48, 3) := by decide +kernel
theorem dX7_zone_59 : decode cX7_zone 59 = .ok (.iload_n 1, 1) := by decide +kernel
theorem dX7_zone_60 : decode cX7_zone 60 = .ok (.baload, 1) := by decide +kernel
theorem dX7_zone_61 : decode cX7_zone 61 = .ok (.ifCond .eq 7, 3) := by decide +kernel
theorem dX7_zone_64 : decode cX7_zone 64 = .ok (.iconst 4, 1) := by decide +kernel
theorem dX7_zone_65 : decode cX7_zone 65 = .ok (.goto 4, 3) := by decide +kernel
theorem dX7_zone_68 : decode cX7_zone 68 = .ok (.iconst 0, 1) := by decide +kernel
theorem dX7_zone_69 : decode cX7_zone 69 = .ok (.iadd, 1) := by decide +kernel
theorem dX7_zone_70 : decode cX7_zone 70 = .ok (.ireturn, 1) := by decide +kernel
set_option maxRecDepth 20000 in
theorem ggX7_output_X7_in : GoodIn wsX7_output wsX7_in := goodIn_r _ [7] (by decide +kernel) (by decide +kernel)
set_option maxRecDepth 20000 in
theorem gX7_output_X7_in : GoodIn wsX7_output (va_wsS RX7 99 yX7_in wsX7_in) := goodIn_app (goodIn_of _ (by decide +kernel)) ggX7_output_X7_in
theorem dX7_output_0 : decode cX7_output 0 = .ok (.aload_n 0, 1) := by decide +kernel
theorem dX7_output_1 : decode cX7_output 1 = .ok (.iload_n 1, 1) := by decide +kernel
theorem dX7_output_2 : decode cX7_output 2 = .ok (.iconst 0, 1) := by decide +kernel
theorem dX7_output_3 : decode cX7_output 3 = .ok (.iconst 5, 1) := by decide +kernel
theorem dX7_output_4 : decode cX7_output 4 = .ok (.invokestatic 99, 3) := by decide +kernel
theorem dX7_output_7 : decode cX7_output 7 = .ok (.ifCond .eq 7, 3) := by decide +kernel
theorem dX7_output_10 : decode cX7_output 10 = .ok (.iconst 0, 1) := by decide +kernel
theorem dX7_output_11 : decode cX7_output 11 = .ok (.goto 4, 3) := by decide +kernel
theorem dX7_output_14 : decode cX7_output 14 = .ok (.iconst 1, 1) := by decide +kernel
theorem dX7_output_15 : decode cX7_output 15 = .ok (.putfield 88, 3) := by decide +kernel
theorem dX7_output_18 : decode cX7_output 18 = .ok (.aload_n 0, 1) := by decide +kernel
theorem dX7_output_19 : decode cX7_output 19 = .ok (.getfield 88, 3) := by decide +kernel
theorem dX7_output_22 : decode cX7_output 22 = .ok (.ifCond .gt 12, 3) := by decide +kernel
theorem dX7_output_25 : decode cX7_output 25 = .ok (.aload_n 0, 1) := by decide +kernel
theorem dX7_output_26 : decode cX7_output 26 = .ok (.getfield 72, 3) := by decide +kernel
theorem dX7_output_29 : decode cX7_output 29 = .ok (.iload_n 1, 1) := by decide +kernel
theorem dX7_output_30 : decode cX7_output 30 = .ok (.baload, 1) := by decide +kernel
theorem dX7_output_31 : decode cX7_output 31 = .ok (.ifCond .ne 5, 3) := by decide +kernel
theorem dX7_output_34 : decode cX7_output 34 = .ok (.iconst 0, 1) := by decide +kernel
theorem dX7_output_35 : decode cX7_output 35 = .ok (.ireturn, 1) := by decide +kernel
theorem dX7_output_36 : decode cX7_output 36 = .ok (.iload_n 1, 1) := by decide +kernel
theorem dX7_output_37 : decode cX7_output 37 = .ok (.iconst 3, 1) := by decide +kernel
theorem dX7_output_38 : decode cX7_output 38 = .ok (.if_icmp .ge 14, 3) := by decide +kernel
theorem dX7_output_41 : decode cX7_output 41 = .ok (.aload_n 0, 1) := by decide +kernel
theorem dX7_output_42 : decode cX7_output 42 = .ok (.getfield 186, 3) := by decide +kernel
theorem dX7_output_45 : decode cX7_output 45 = .ok (.ifCond .eq 7, 3) := by decide +kernel
theorem dX7_output_48 : decode cX7_output 48 = .ok (.iconst 1, 1) := by decide +kernel
theorem dX7_output_49 : decode cX7_output 49 = .ok (.goto 4, 3) := by decide +kernel
theorem dX7_output_52 : decode cX7_output 52 = .ok (.iconst 3, 1) := by decide +kernel
theorem dX7_output_53 : decode cX7_output 53 = .ok (.ireturn, 1) := by decide +kernel
set_option maxRecDepth 20000 in
theorem ggX7_held_X7_in : GoodIn wsX7_held wsX7_in := goodIn_r _ [7] (by decide +kernel) (by decide +kernel)
set_option maxRecDepth 20000 in
theorem gX7_held_X7_in : GoodIn wsX7_held (va_wsS RX7 99 yX7_in wsX7_in) := goodIn_app (goodIn_of _ (by decide +kernel)) ggX7_held_X7_in
theorem dX7_held_0 : decode cX7_held 0 = .ok (.aload_n 0, 1) := by decide +kernel
theorem dX7_held_1 : decode cX7_held 1 = .ok (.iload_n 1, 1) := by decide +kernel
theorem dX7_held_2 : decode cX7_held 2 = .ok (.iconst 0, 1) := by decide +kernel
theorem dX7_held_3 : decode cX7_held 3 = .ok (.aload_n 0, 1) := by decide +kernel
theorem dX7_held_4 : decode cX7_held 4 = .ok (.getfield 141, 3) := by decide +kernel
theorem dX7_held_7 : decode cX7_held 7 = .ok (.iconst 1, 1) := by decide +kernel
theorem dX7_held_8 : decode cX7_held 8 = .ok (.isub, 1) := by decide +kernel
theorem dX7_held_9 : decode cX7_held 9 = .ok (.invokestatic 99, 3) := by decide +kernel
theorem dX7_held_12 : decode cX7_held 12 = .ok (.ifCond .eq 7, 3) := by decide +kernel
theorem dX7_held_15 : decode cX7_held 15 = .ok (.iconst 0, 1) := by decide +kernel
theorem dX7_held_16 : decode cX7_held 16 = .ok (.goto 4, 3) := by decide +kernel
theorem dX7_held_19 : decode cX7_held 19 = .ok (.iconst 1, 1) := by decide +kernel
theorem dX7_held_20 : decode cX7_held 20 = .ok (.putfield 88, 3) := by decide +kernel
theorem dX7_held_23 : decode cX7_held 23 = .ok (.aload_n 0, 1) := by decide +kernel
theorem dX7_held_24 : decode cX7_held 24 = .ok (.getfield 88, 3) := by decide +kernel
theorem dX7_held_27 : decode cX7_held 27 = .ok (.ifCond .le 7, 3) := by decide +kernel
theorem dX7_held_30 : decode cX7_held 30 = .ok (.iconst 0, 1) := by decide +kernel
theorem dX7_held_31 : decode cX7_held 31 = .ok (.goto 9, 3) := by decide +kernel
theorem dX7_held_34 : decode cX7_held 34 = .ok (.aload_n 0, 1) := by decide +kernel
theorem dX7_held_35 : decode cX7_held 35 = .ok (.getfield 69, 3) := by decide +kernel
theorem dX7_held_38 : decode cX7_held 38 = .ok (.iload_n 1, 1) := by decide +kernel
theorem dX7_held_39 : decode cX7_held 39 = .ok (.iaload, 1) := by decide +kernel
theorem dX7_held_40 : decode cX7_held 40 = .ok (.ireturn, 1) := by decide +kernel
set_option maxRecDepth 20000 in
theorem ggX7_log_X7_in : GoodIn wsX7_log wsX7_in := goodIn_r _ [7] (by decide +kernel) (by decide +kernel)
set_option maxRecDepth 20000 in
theorem gX7_log_X7_in : GoodIn wsX7_log (va_wsS RX7 99 yX7_in wsX7_in) := goodIn_app (goodIn_of _ (by decide +kernel)) ggX7_log_X7_in
theorem dX7_log_0 : decode cX7_log 0 = .ok (.aload_n 0, 1) := by decide +kernel
theorem dX7_log_1 : decode cX7_log 1 = .ok (.iload_n 1, 1) := by decide +kernel
theorem dX7_log_2 : decode cX7_log 2 = .ok (.iconst 0, 1) := by decide +kernel
theorem dX7_log_3 : decode cX7_log 3 = .ok (.aload_n 0, 1) := by decide +kernel
theorem dX7_log_4 : decode cX7_log 4 = .ok (.getfield 151, 3) := by decide +kernel
theorem dX7_log_7 : decode cX7_log 7 = .ok (.iconst 1, 1) := by decide +kernel
theorem dX7_log_8 : decode cX7_log 8 = .ok (.isub, 1) := by decide +kernel
theorem dX7_log_9 : decode cX7_log 9 = .ok (.invokestatic 99, 3) := by decide +kernel
theorem dX7_log_12 : decode cX7_log 12 = .ok (.ifCond .eq 16, 3) := by decide +kernel
theorem dX7_log_15 : decode cX7_log 15 = .ok (.iload_n 2, 1) := by decide +kernel
theorem dX7_log_16 : decode cX7_log 16 = .ok (.iconst 0, 1) := by decide +kernel
theorem dX7_log_17 : decode cX7_log 17 = .ok (.iconst 2, 1) := by decide +kernel
theorem dX7_log_18 : decode cX7_log 18 = .ok (.invokestatic 99, 3) := by decide +kernel
theorem dX7_log_21 : decode cX7_log 21 = .ok (.ifCond .eq 7, 3) := by decide +kernel
theorem dX7_log_24 : decode cX7_log 24 = .ok (.iconst 0, 1) := by decide +kernel
theorem dX7_log_25 : decode cX7_log 25 = .ok (.goto 4, 3) := by decide +kernel
theorem dX7_log_28 : decode cX7_log 28 = .ok (.iconst 1, 1) := by decide +kernel
theorem dX7_log_29 : decode cX7_log 29 = .ok (.putfield 88, 3) := by decide +kernel
theorem dX7_log_32 : decode cX7_log 32 = .ok (.aload_n 0, 1) := by decide +kernel
theorem dX7_log_33 : decode cX7_log 33 = .ok (.getfield 88, 3) := by decide +kernel
theorem dX7_log_36 : decode cX7_log 36 = .ok (.ifCond .le 7, 3) := by decide +kernel
theorem dX7_log_39 : decode cX7_log 39 = .ok (.iconst 0, 1) := by decide +kernel
theorem dX7_log_40 : decode cX7_log 40 = .ok (.goto 13, 3) := by decide +kernel
theorem dX7_log_43 : decode cX7_log 43 = .ok (.aload_n 0, 1) := by decide +kernel
theorem dX7_log_44 : decode cX7_log 44 = .ok (.getfield 79, 3) := by decide +kernel
theorem dX7_log_47 : decode cX7_log 47 = .ok (.iconst 3, 1) := by decide +kernel
theorem dX7_log_48 : decode cX7_log 48 = .ok (.iload_n 1, 1) := by decide +kernel
theorem dX7_log_49 : decode cX7_log 49 = .ok (.imul, 1) := by decide +kernel
theorem dX7_log_50 : decode cX7_log 50 = .ok (.iload_n 2, 1) := by decide +kernel
theorem dX7_log_51 : decode cX7_log 51 = .ok (.iadd, 1) := by decide +kernel
theorem dX7_log_52 : decode cX7_log 52 = .ok (.iaload, 1) := by decide +kernel
theorem dX7_log_53 : decode cX7_log 53 = .ok (.ireturn, 1) := by decide +kernel
set_option maxRecDepth 20000 in
theorem ggX7_count_X7_in : GoodIn wsX7_count wsX7_in := goodIn_r _ [10] (by decide +kernel) (by decide +kernel)
set_option maxRecDepth 20000 in
theorem gX7_count_X7_in : GoodIn wsX7_count (va_wsS RX7 99 yX7_in wsX7_in) := goodIn_app (goodIn_of _ (by decide +kernel)) ggX7_count_X7_in
set_option maxRecDepth 20000 in
theorem ggX7_count_X7_faults : GoodIn wsX7_count wsX7_faults := goodIn_r _ [14, 15, 16, 17, 18, 19, 20, 21, 22, 23, 24, 25, 26, 27, 28, 29, 30, 31, 32, 33, 34, 35, 36, 37, 38, 39, 40, 41, 42, 43, 44, 45, 46, 47, 48, 49] (by decide +kernel) (by decide +kernel)
set_option maxRecDepth 20000 in
theorem gX7_count_X7_faults : GoodIn wsX7_count (wsV RX7 171 RX7 yX7_faults wsX7_faults) := goodIn_app (goodIn_of _ (by decide +kernel)) ggX7_count_X7_faults
theorem dX7_count_0 : decode cX7_count 0 = .ok (.aload_n 0, 1) := by decide +kernel
theorem dX7_count_1 : decode cX7_count 1 = .ok (.iload_n 1, 1) := by decide +kernel
theorem dX7_count_2 : decode cX7_count 2 = .ok (.iconst 0, 1) := by decide +kernel
theorem dX7_count_3 : decode cX7_count 3 = .ok (.iconst 5, 1) := by decide +kernel
theorem dX7_count_4 : decode cX7_count 4 = .ok (.invokestatic 99, 3) := by decide +kernel
theorem dX7_count_7 : decode cX7_count 7 = .ok (.ifCond .eq 7, 3) := by decide +kernel
theorem dX7_count_10 : decode cX7_count 10 = .ok (.iconst 0, 1) := by decide +kernel
theorem dX7_count_11 : decode cX7_count 11 = .ok (.goto 4, 3) := by decide +kernel
theorem dX7_count_14 : decode cX7_count 14 = .ok (.iconst 1, 1) := by decide +kernel
theorem dX7_count_15 : decode cX7_count 15 = .ok (.putfield 88, 3) := by decide +kernel
theorem dX7_count_18 : decode cX7_count 18 = .ok (.iload_n 1, 1) := by decide +kernel
theorem dX7_count_19 : decode cX7_count 19 = .ok (.tableswitch 75 0 5 #[37, 42, 47, 52, 65, 70], 37) := by decide +kernel
theorem dX7_count_56 : decode cX7_count 56 = .ok (.aload_n 0, 1) := by decide +kernel
theorem dX7_count_57 : decode cX7_count 57 = .ok (.getfield 148, 3) := by decide +kernel
theorem dX7_count_60 : decode cX7_count 60 = .ok (.ireturn, 1) := by decide +kernel
theorem dX7_count_61 : decode cX7_count 61 = .ok (.aload_n 0, 1) := by decide +kernel
theorem dX7_count_62 : decode cX7_count 62 = .ok (.getfield 141, 3) := by decide +kernel
theorem dX7_count_65 : decode cX7_count 65 = .ok (.ireturn, 1) := by decide +kernel
theorem dX7_count_66 : decode cX7_count 66 = .ok (.aload_n 0, 1) := by decide +kernel
theorem dX7_count_67 : decode cX7_count 67 = .ok (.getfield 105, 3) := by decide +kernel
theorem dX7_count_70 : decode cX7_count 70 = .ok (.ireturn, 1) := by decide +kernel
theorem dX7_count_71 : decode cX7_count 71 = .ok (.aload_n 0, 1) := by decide +kernel
theorem dX7_count_72 : decode cX7_count 72 = .ok (.getfield 186, 3) := by decide +kernel
theorem dX7_count_75 : decode cX7_count 75 = .ok (.ifCond .eq 7, 3) := by decide +kernel
theorem dX7_count_78 : decode cX7_count 78 = .ok (.iconst 1, 1) := by decide +kernel
theorem dX7_count_79 : decode cX7_count 79 = .ok (.goto 4, 3) := by decide +kernel
theorem dX7_count_82 : decode cX7_count 82 = .ok (.iconst 0, 1) := by decide +kernel
theorem dX7_count_83 : decode cX7_count 83 = .ok (.ireturn, 1) := by decide +kernel
theorem dX7_count_84 : decode cX7_count 84 = .ok (.aload_n 0, 1) := by decide +kernel
theorem dX7_count_85 : decode cX7_count 85 = .ok (.getfield 110, 3) := by decide +kernel
theorem dX7_count_88 : decode cX7_count 88 = .ok (.ireturn, 1) := by decide +kernel
theorem dX7_count_89 : decode cX7_count 89 = .ok (.aload_n 0, 1) := by decide +kernel
theorem dX7_count_90 : decode cX7_count 90 = .ok (.invokevirtual 171, 3) := by decide +kernel
theorem dX7_count_93 : decode cX7_count 93 = .ok (.ireturn, 1) := by decide +kernel
theorem dX7_count_94 : decode cX7_count 94 = .ok (.iconst 0, 1) := by decide +kernel
theorem dX7_count_95 : decode cX7_count 95 = .ok (.ireturn, 1) := by decide +kernel
theorem dJ9_min_7cf53_0 : decode cJ9_min_7cf53 0 = .ok (.iload_n 0, 1) := by decide +kernel
theorem dJ9_min_7cf53_1 : decode cJ9_min_7cf53 1 = .ok (.iload_n 1, 1) := by decide +kernel
theorem dJ9_min_7cf53_2 : decode cJ9_min_7cf53 2 = .ok (.if_icmp .gt 7, 3) := by decide +kernel
theorem dJ9_min_7cf53_5 : decode cJ9_min_7cf53 5 = .ok (.iload_n 0, 1) := by decide +kernel
theorem dJ9_min_7cf53_6 : decode cJ9_min_7cf53 6 = .ok (.goto 4, 3) := by decide +kernel
theorem dJ9_min_7cf53_9 : decode cJ9_min_7cf53 9 = .ok (.iload_n 1, 1) := by decide +kernel
theorem dJ9_min_7cf53_10 : decode cJ9_min_7cf53 10 = .ok (.ireturn, 1) := by decide +kernel
