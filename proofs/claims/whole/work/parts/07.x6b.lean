theorem dX6_line_0 : decode cX6_line 0 = .ok (.aload_n 0, 1) := by decide +kernel
theorem dX6_line_1 : decode cX6_line 1 = .ok (.iconst 0, 1) := by decide +kernel
theorem dX6_line_2 : decode cX6_line 2 = .ok (.putfield 67, 3) := by decide +kernel
theorem dX6_line_5 : decode cX6_line 5 = .ok (.iload_n 1, 1) := by decide +kernel
theorem dX6_line_6 : decode cX6_line 6 = .ok (.iload_n 2, 1) := by decide +kernel
theorem dX6_line_7 : decode cX6_line 7 = .ok (.iload_n 3, 1) := by decide +kernel
theorem dX6_line_8 : decode cX6_line 8 = .ok (.iload 4, 2) := by decide +kernel
theorem dX6_line_10 : decode cX6_line 10 = .ok (.invokestatic 144, 3) := by decide +kernel
theorem dX6_line_13 : decode cX6_line 13 = .ok (.ifCond .eq 15, 3) := by decide +kernel
theorem dX6_line_16 : decode cX6_line 16 = .ok (.lload 5, 2) := by decide +kernel
theorem dX6_line_18 : decode cX6_line 18 = .ok (.lconst 0, 1) := by decide +kernel
theorem dX6_line_19 : decode cX6_line 19 = .ok (.lcmp, 1) := by decide +kernel
theorem dX6_line_20 : decode cX6_line 20 = .ok (.ifCond .lt 8, 3) := by decide +kernel
theorem dX6_line_23 : decode cX6_line 23 = .ok (.iload 7, 2) := by decide +kernel
theorem dX6_line_25 : decode cX6_line 25 = .ok (.ifCond .ge 6, 3) := by decide +kernel
theorem dX6_line_28 : decode cX6_line 28 = .ok (.bipush (-2), 2) := by decide +kernel
theorem dX6_line_30 : decode cX6_line 30 = .ok (.ireturn, 1) := by decide +kernel
theorem dX6_line_31 : decode cX6_line 31 = .ok (.aload_n 0, 1) := by decide +kernel
theorem dX6_line_32 : decode cX6_line 32 = .ok (.iload_n 1, 1) := by decide +kernel
theorem dX6_line_33 : decode cX6_line 33 = .ok (.iload_n 2, 1) := by decide +kernel
theorem dX6_line_34 : decode cX6_line 34 = .ok (.iload_n 3, 1) := by decide +kernel
theorem dX6_line_35 : decode cX6_line 35 = .ok (.iload 4, 2) := by decide +kernel
theorem dX6_line_37 : decode cX6_line 37 = .ok (.invokevirtual 148, 3) := by decide +kernel
theorem dX6_line_40 : decode cX6_line 40 = .ok (.lload 5, 2) := by decide +kernel
theorem dX6_line_42 : decode cX6_line 42 = .ok (.aload_n 0, 1) := by decide +kernel
theorem dX6_line_43 : decode cX6_line 43 = .ok (.getfield 32, 3) := by decide +kernel
theorem dX6_line_46 : decode cX6_line 46 = .ok (.iload_n 1, 1) := by decide +kernel
theorem dX6_line_47 : decode cX6_line 47 = .ok (.iconst 3, 1) := by decide +kernel
theorem dX6_line_48 : decode cX6_line 48 = .ok (.iload_n 2, 1) := by decide +kernel
theorem dX6_line_49 : decode cX6_line 49 = .ok (.invokestatic 138, 3) := by decide +kernel
theorem dX6_line_52 : decode cX6_line 52 = .ok (.laload, 1) := by decide +kernel
theorem dX6_line_53 : decode cX6_line 53 = .ok (.lcmp, 1) := by decide +kernel
theorem dX6_line_54 : decode cX6_line 54 = .ok (.ifCond .lt 6, 3) := by decide +kernel
theorem dX6_line_57 : decode cX6_line 57 = .ok (.bipush (-2), 2) := by decide +kernel
theorem dX6_line_59 : decode cX6_line 59 = .ok (.ireturn, 1) := by decide +kernel
theorem dX6_line_60 : decode cX6_line 60 = .ok (.iload_n 1, 1) := by decide +kernel
theorem dX6_line_61 : decode cX6_line 61 = .ok (.istore 8, 2) := by decide +kernel
theorem dX6_line_63 : decode cX6_line 63 = .ok (.iconst 3, 1) := by decide +kernel
theorem dX6_line_64 : decode cX6_line 64 = .ok (.istore 9, 2) := by decide +kernel
theorem dX6_line_66 : decode cX6_line 66 = .ok (.iload_n 2, 1) := by decide +kernel
theorem dX6_line_67 : decode cX6_line 67 = .ok (.istore 10, 2) := by decide +kernel
theorem dX6_line_69 : decode cX6_line 69 = .ok (.lload 5, 2) := by decide +kernel
theorem dX6_line_71 : decode cX6_line 71 = .ok (.lstore 11, 2) := by decide +kernel
theorem dX6_line_73 : decode cX6_line 73 = .ok (.iconst 0, 1) := by decide +kernel
theorem dX6_line_74 : decode cX6_line 74 = .ok (.istore 13, 2) := by decide +kernel
theorem dX6_line_76 : decode cX6_line 76 = .ok (.iload 8, 2) := by decide +kernel
theorem dX6_line_78 : decode cX6_line 78 = .ok (.ifCond .le 172, 3) := by decide +kernel
theorem dX6_line_81 : decode cX6_line 81 = .ok (.iconst 0, 1) := by decide +kernel
theorem dX6_line_82 : decode cX6_line 82 = .ok (.istore 14, 2) := by decide +kernel
theorem dX6_line_84 : decode cX6_line 84 = .ok (.iconst 0, 1) := by decide +kernel
theorem dX6_line_85 : decode cX6_line 85 = .ok (.istore 15, 2) := by decide +kernel
theorem dX6_line_87 : decode cX6_line 87 = .ok (.iload 15, 2) := by decide +kernel
theorem dX6_line_89 : decode cX6_line 89 = .ok (.ifCond .ne 112, 3) := by decide +kernel
theorem dX6_line_92 : decode cX6_line 92 = .ok (.aload_n 0, 1) := by decide +kernel
theorem dX6_line_93 : decode cX6_line 93 = .ok (.getfield 22, 3) := by decide +kernel
theorem dX6_line_96 : decode cX6_line 96 = .ok (.iload 14, 2) := by decide +kernel
theorem dX6_line_98 : decode cX6_line 98 = .ok (.iaload, 1) := by decide +kernel
theorem dX6_line_99 : decode cX6_line 99 = .ok (.iload 8, 2) := by decide +kernel
theorem dX6_line_101 : decode cX6_line 101 = .ok (.if_icmp .gt 64, 3) := by decide +kernel
theorem dX6_line_104 : decode cX6_line 104 = .ok (.aload_n 0, 1) := by decide +kernel
theorem dX6_line_105 : decode cX6_line 105 = .ok (.getfield 39, 3) := by decide +kernel
theorem dX6_line_108 : decode cX6_line 108 = .ok (.iload 14, 2) := by decide +kernel
theorem dX6_line_110 : decode cX6_line 110 = .ok (.iaload, 1) := by decide +kernel
theorem dX6_line_111 : decode cX6_line 111 = .ok (.iload 10, 2) := by decide +kernel
theorem dX6_line_113 : decode cX6_line 113 = .ok (.if_icmp .gt 52, 3) := by decide +kernel
theorem dX6_line_116 : decode cX6_line 116 = .ok (.aload_n 0, 1) := by decide +kernel
theorem dX6_line_117 : decode cX6_line 117 = .ok (.iload 9, 2) := by decide +kernel
theorem dX6_line_119 : decode cX6_line 119 = .ok (.iload 14, 2) := by decide +kernel
theorem dX6_line_121 : decode cX6_line 121 = .ok (.invokevirtual 131, 3) := by decide +kernel
theorem dX6_line_124 : decode cX6_line 124 = .ok (.ifCond .eq 41, 3) := by decide +kernel
theorem dX6_line_127 : decode cX6_line 127 = .ok (.aload_n 0, 1) := by decide +kernel
theorem dX6_line_128 : decode cX6_line 128 = .ok (.getfield 32, 3) := by decide +kernel
theorem dX6_line_131 : decode cX6_line 131 = .ok (.iload 8, 2) := by decide +kernel
theorem dX6_line_133 : decode cX6_line 133 = .ok (.aload_n 0, 1) := by decide +kernel
theorem dX6_line_134 : decode cX6_line 134 = .ok (.getfield 22, 3) := by decide +kernel
theorem dX6_line_137 : decode cX6_line 137 = .ok (.iload 14, 2) := by decide +kernel
theorem dX6_line_139 : decode cX6_line 139 = .ok (.iaload, 1) := by decide +kernel
theorem dX6_line_140 : decode cX6_line 140 = .ok (.isub, 1) := by decide +kernel
theorem dX6_line_141 : decode cX6_line 141 = .ok (.aload_n 0, 1) := by decide +kernel
theorem dX6_line_142 : decode cX6_line 142 = .ok (.getfield 25, 3) := by decide +kernel
theorem dX6_line_145 : decode cX6_line 145 = .ok (.iload 14, 2) := by decide +kernel
theorem dX6_line_147 : decode cX6_line 147 = .ok (.iaload, 1) := by decide +kernel
theorem dX6_line_148 : decode cX6_line 148 = .ok (.iload 10, 2) := by decide +kernel
theorem dX6_line_150 : decode cX6_line 150 = .ok (.aload_n 0, 1) := by decide +kernel
theorem dX6_line_151 : decode cX6_line 151 = .ok (.getfield 39, 3) := by decide +kernel
theorem dX6_line_154 : decode cX6_line 154 = .ok (.iload 14, 2) := by decide +kernel
theorem dX6_line_156 : decode cX6_line 156 = .ok (.iaload, 1) := by decide +kernel
theorem dX6_line_157 : decode cX6_line 157 = .ok (.isub, 1) := by decide +kernel
theorem dX6_line_158 : decode cX6_line 158 = .ok (.invokestatic 138, 3) := by decide +kernel
theorem dX6_line_161 : decode cX6_line 161 = .ok (.laload, 1) := by decide +kernel
theorem dX6_line_162 : decode cX6_line 162 = .ok (.goto 4, 3) := by decide +kernel
theorem dX6_line_165 : decode cX6_line 165 = .ok (.lconst 0, 1) := by decide +kernel
theorem dX6_line_166 : decode cX6_line 166 = .ok (.lstore 16, 2) := by decide +kernel
theorem dX6_line_168 : decode cX6_line 168 = .ok (.lload 11, 2) := by decide +kernel
theorem dX6_line_170 : decode cX6_line 170 = .ok (.lload 16, 2) := by decide +kernel
theorem dX6_line_172 : decode cX6_line 172 = .ok (.lcmp, 1) := by decide +kernel
theorem dX6_line_173 : decode cX6_line 173 = .ok (.ifCond .ge 7, 3) := by decide +kernel
theorem dX6_line_176 : decode cX6_line 176 = .ok (.iconst 1, 1) := by decide +kernel
theorem dX6_line_177 : decode cX6_line 177 = .ok (.goto 4, 3) := by decide +kernel
theorem dX6_line_180 : decode cX6_line 180 = .ok (.iconst 0, 1) := by decide +kernel
theorem dX6_line_181 : decode cX6_line 181 = .ok (.istore 15, 2) := by decide +kernel
theorem dX6_line_183 : decode cX6_line 183 = .ok (.iload 15, 2) := by decide +kernel
theorem dX6_line_185 : decode cX6_line 185 = .ok (.ifCond .ne 13, 3) := by decide +kernel
theorem dX6_line_188 : decode cX6_line 188 = .ok (.lload 11, 2) := by decide +kernel
theorem dX6_line_190 : decode cX6_line 190 = .ok (.lload 16, 2) := by decide +kernel
theorem dX6_line_192 : decode cX6_line 192 = .ok (.lsub, 1) := by decide +kernel
theorem dX6_line_193 : decode cX6_line 193 = .ok (.lstore 11, 2) := by decide +kernel
theorem dX6_line_195 : decode cX6_line 195 = .ok (.iinc 14 1, 3) := by decide +kernel
theorem dX6_line_198 : decode cX6_line 198 = .ok (.goto (-111), 3) := by decide +kernel
theorem dX6_line_201 : decode cX6_line 201 = .ok (.iload 13, 2) := by decide +kernel
theorem dX6_line_203 : decode cX6_line 203 = .ok (.iload 7, 2) := by decide +kernel
theorem dX6_line_205 : decode cX6_line 205 = .ok (.if_icmp .ne 6, 3) := by decide +kernel
theorem dX6_line_208 : decode cX6_line 208 = .ok (.iload 14, 2) := by decide +kernel
theorem dX6_line_210 : decode cX6_line 210 = .ok (.ireturn, 1) := by decide +kernel
theorem dX6_line_211 : decode cX6_line 211 = .ok (.iload 8, 2) := by decide +kernel
theorem dX6_line_213 : decode cX6_line 213 = .ok (.aload_n 0, 1) := by decide +kernel
theorem dX6_line_214 : decode cX6_line 214 = .ok (.getfield 22, 3) := by decide +kernel
theorem dX6_line_217 : decode cX6_line 217 = .ok (.iload 14, 2) := by decide +kernel
theorem dX6_line_219 : decode cX6_line 219 = .ok (.iaload, 1) := by decide +kernel
theorem dX6_line_220 : decode cX6_line 220 = .ok (.isub, 1) := by decide +kernel
theorem dX6_line_221 : decode cX6_line 221 = .ok (.istore 8, 2) := by decide +kernel
theorem dX6_line_223 : decode cX6_line 223 = .ok (.iload 10, 2) := by decide +kernel
theorem dX6_line_225 : decode cX6_line 225 = .ok (.aload_n 0, 1) := by decide +kernel
theorem dX6_line_226 : decode cX6_line 226 = .ok (.getfield 39, 3) := by decide +kernel
theorem dX6_line_229 : decode cX6_line 229 = .ok (.iload 14, 2) := by decide +kernel
theorem dX6_line_231 : decode cX6_line 231 = .ok (.iaload, 1) := by decide +kernel
theorem dX6_line_232 : decode cX6_line 232 = .ok (.isub, 1) := by decide +kernel
theorem dX6_line_233 : decode cX6_line 233 = .ok (.istore 10, 2) := by decide +kernel
theorem dX6_line_235 : decode cX6_line 235 = .ok (.aload_n 0, 1) := by decide +kernel
theorem dX6_line_236 : decode cX6_line 236 = .ok (.getfield 25, 3) := by decide +kernel
theorem dX6_line_239 : decode cX6_line 239 = .ok (.iload 14, 2) := by decide +kernel
theorem dX6_line_241 : decode cX6_line 241 = .ok (.iaload, 1) := by decide +kernel
theorem dX6_line_242 : decode cX6_line 242 = .ok (.istore 9, 2) := by decide +kernel
theorem dX6_line_244 : decode cX6_line 244 = .ok (.iinc 13 1, 3) := by decide +kernel
theorem dX6_line_247 : decode cX6_line 247 = .ok (.goto (-171), 3) := by decide +kernel
theorem dX6_line_250 : decode cX6_line 250 = .ok (.bipush (-9), 2) := by decide +kernel
theorem dX6_line_252 : decode cX6_line 252 = .ok (.ireturn, 1) := by decide +kernel
set_option maxRecDepth 20000 in
theorem ggX6_doubles_X6_in : GoodIn wsX6_doubles wsX6_in := goodIn_r _ [15] (by decide +kernel) (by decide +kernel)
set_option maxRecDepth 20000 in
theorem gX6_doubles_X6_in : GoodIn wsX6_doubles (va_wsS RX6 73 yX6_in wsX6_in) := goodIn_app (goodIn_of _ (by decide +kernel)) ggX6_doubles_X6_in
set_option maxRecDepth 20000 in
theorem ggX6_doubles_X6_isWay : GoodIn wsX6_doubles wsX6_isWay := goodIn_r _ [18, 19, 4, 12, 13, 14, 15] (by decide +kernel) (by decide +kernel)
set_option maxRecDepth 20000 in
theorem gX6_doubles_X6_isWay : GoodIn wsX6_doubles (va_wsS RX6 97 yX6_isWay wsX6_isWay) := goodIn_app (goodIn_of _ (by decide +kernel)) ggX6_doubles_X6_isWay
set_option maxRecDepth 20000 in
theorem ggX6_doubles_X6_owns : GoodIn wsX6_doubles wsX6_owns := goodIn_r _ [23, 9, 24, 25, 26, 27, 28, 14, 29, 30, 31, 32, 33, 34, 35, 12, 13, 15, 36, 37, 38, 39, 40, 46, 47, 48, 49, 50, 51, 52, 53, 54, 55, 56, 57, 58, 59, 60, 61, 62, 63, 64, 65, 66, 67, 68] (by decide +kernel) (by decide +kernel)
set_option maxRecDepth 20000 in
theorem gX6_doubles_X6_owns : GoodIn wsX6_doubles (wsV RX6 134 RX6 yX6_owns wsX6_owns) := goodIn_app (goodIn_of _ (by decide +kernel)) ggX6_doubles_X6_owns
set_option maxRecDepth 20000 in
theorem ggX6_doubles_X6_isAfter : GoodIn wsX6_doubles wsX6_isAfter := goodIn_r _ [44, 45, 11, 46, 47, 48, 49, 50, 51, 52, 53, 54, 55, 56, 57, 58, 59, 60, 61, 62, 63, 64, 65, 66, 67, 68] (by decide +kernel) (by decide +kernel)
set_option maxRecDepth 20000 in
theorem gX6_doubles_X6_isAfter : GoodIn wsX6_doubles (wsV RX6 131 RX6 yX6_isAfter wsX6_isAfter) := goodIn_app (goodIn_of _ (by decide +kernel)) ggX6_doubles_X6_isAfter
theorem dX6_doubles_0 : decode cX6_doubles 0 = .ok (.aload_n 0, 1) := by decide +kernel
theorem dX6_doubles_1 : decode cX6_doubles 1 = .ok (.iconst 0, 1) := by decide +kernel
theorem dX6_doubles_2 : decode cX6_doubles 2 = .ok (.putfield 67, 3) := by decide +kernel
theorem dX6_doubles_5 : decode cX6_doubles 5 = .ok (.iload_n 1, 1) := by decide +kernel
theorem dX6_doubles_6 : decode cX6_doubles 6 = .ok (.i2l, 1) := by decide +kernel
theorem dX6_doubles_7 : decode cX6_doubles 7 = .ok (.lconst 1, 1) := by decide +kernel
theorem dX6_doubles_8 : decode cX6_doubles 8 = .ok (.ldc2_w 152, 3) := by decide +kernel
theorem dX6_doubles_11 : decode cX6_doubles 11 = .ok (.invokestatic 73, 3) := by decide +kernel
theorem dX6_doubles_14 : decode cX6_doubles 14 = .ok (.ifCond .eq 50, 3) := by decide +kernel
theorem dX6_doubles_17 : decode cX6_doubles 17 = .ok (.iload_n 2, 1) := by decide +kernel
theorem dX6_doubles_18 : decode cX6_doubles 18 = .ok (.i2l, 1) := by decide +kernel
theorem dX6_doubles_19 : decode cX6_doubles 19 = .ok (.lconst 0, 1) := by decide +kernel
theorem dX6_doubles_20 : decode cX6_doubles 20 = .ok (.ldc2_w 142, 3) := by decide +kernel
theorem dX6_doubles_23 : decode cX6_doubles 23 = .ok (.invokestatic 73, 3) := by decide +kernel
theorem dX6_doubles_26 : decode cX6_doubles 26 = .ok (.ifCond .eq 38, 3) := by decide +kernel
theorem dX6_doubles_29 : decode cX6_doubles 29 = .ok (.iload_n 3, 1) := by decide +kernel
theorem dX6_doubles_30 : decode cX6_doubles 30 = .ok (.i2l, 1) := by decide +kernel
theorem dX6_doubles_31 : decode cX6_doubles 31 = .ok (.lconst 0, 1) := by decide +kernel
theorem dX6_doubles_32 : decode cX6_doubles 32 = .ok (.ldc2_w 142, 3) := by decide +kernel
theorem dX6_doubles_35 : decode cX6_doubles 35 = .ok (.invokestatic 73, 3) := by decide +kernel
theorem dX6_doubles_38 : decode cX6_doubles 38 = .ok (.ifCond .eq 26, 3) := by decide +kernel
theorem dX6_doubles_41 : decode cX6_doubles 41 = .ok (.iload 4, 2) := by decide +kernel
theorem dX6_doubles_43 : decode cX6_doubles 43 = .ok (.iload 5, 2) := by decide +kernel
theorem dX6_doubles_45 : decode cX6_doubles 45 = .ok (.invokestatic 97, 3) := by decide +kernel
theorem dX6_doubles_48 : decode cX6_doubles 48 = .ok (.ifCond .eq 16, 3) := by decide +kernel
theorem dX6_doubles_51 : decode cX6_doubles 51 = .ok (.iload 6, 2) := by decide +kernel
theorem dX6_doubles_53 : decode cX6_doubles 53 = .ok (.i2l, 1) := by decide +kernel
theorem dX6_doubles_54 : decode cX6_doubles 54 = .ok (.lconst 0, 1) := by decide +kernel
theorem dX6_doubles_55 : decode cX6_doubles 55 = .ok (.ldc2_w 71, 3) := by decide +kernel
theorem dX6_doubles_58 : decode cX6_doubles 58 = .ok (.invokestatic 73, 3) := by decide +kernel
theorem dX6_doubles_61 : decode cX6_doubles 61 = .ok (.ifCond .ne 7, 3) := by decide +kernel
theorem dX6_doubles_64 : decode cX6_doubles 64 = .ok (.ldc2_w 129, 3) := by decide +kernel
theorem dX6_doubles_67 : decode cX6_doubles 67 = .ok (.lreturn, 1) := by decide +kernel
theorem dX6_doubles_68 : decode cX6_doubles 68 = .ok (.aload_n 0, 1) := by decide +kernel
theorem dX6_doubles_69 : decode cX6_doubles 69 = .ok (.iload 4, 2) := by decide +kernel
theorem dX6_doubles_71 : decode cX6_doubles 71 = .ok (.iload 5, 2) := by decide +kernel
theorem dX6_doubles_73 : decode cX6_doubles 73 = .ok (.aload_n 0, 1) := by decide +kernel
theorem dX6_doubles_74 : decode cX6_doubles 74 = .ok (.getfield 39, 3) := by decide +kernel
theorem dX6_doubles_77 : decode cX6_doubles 77 = .ok (.invokevirtual 134, 3) := by decide +kernel
theorem dX6_doubles_80 : decode cX6_doubles 80 = .ok (.aload_n 0, 1) := by decide +kernel
theorem dX6_doubles_81 : decode cX6_doubles 81 = .ok (.iload 4, 2) := by decide +kernel
theorem dX6_doubles_83 : decode cX6_doubles 83 = .ok (.iload 6, 2) := by decide +kernel
theorem dX6_doubles_85 : decode cX6_doubles 85 = .ok (.aload_n 0, 1) := by decide +kernel
theorem dX6_doubles_86 : decode cX6_doubles 86 = .ok (.getfield 42, 3) := by decide +kernel
theorem dX6_doubles_89 : decode cX6_doubles 89 = .ok (.invokevirtual 134, 3) := by decide +kernel
theorem dX6_doubles_92 : decode cX6_doubles 92 = .ok (.lconst 0, 1) := by decide +kernel
theorem dX6_doubles_93 : decode cX6_doubles 93 = .ok (.lstore 7, 2) := by decide +kernel
theorem dX6_doubles_95 : decode cX6_doubles 95 = .ok (.iconst 1, 1) := by decide +kernel
theorem dX6_doubles_96 : decode cX6_doubles 96 = .ok (.istore 9, 2) := by decide +kernel
theorem dX6_doubles_98 : decode cX6_doubles 98 = .ok (.aload_n 0, 1) := by decide +kernel
theorem dX6_doubles_99 : decode cX6_doubles 99 = .ok (.getfield 45, 3) := by decide +kernel
theorem dX6_doubles_102 : decode cX6_doubles 102 = .ok (.iconst 0, 1) := by decide +kernel
theorem dX6_doubles_103 : decode cX6_doubles 103 = .ok (.iconst 0, 1) := by decide +kernel
theorem dX6_doubles_104 : decode cX6_doubles 104 = .ok (.iastore, 1) := by decide +kernel
theorem dX6_doubles_105 : decode cX6_doubles 105 = .ok (.iconst 0, 1) := by decide +kernel
theorem dX6_doubles_106 : decode cX6_doubles 106 = .ok (.istore 10, 2) := by decide +kernel
theorem dX6_doubles_108 : decode cX6_doubles 108 = .ok (.iconst 0, 1) := by decide +kernel
theorem dX6_doubles_109 : decode cX6_doubles 109 = .ok (.istore 11, 2) := by decide +kernel
theorem dX6_doubles_111 : decode cX6_doubles 111 = .ok (.iconst 0, 1) := by decide +kernel
theorem dX6_doubles_112 : decode cX6_doubles 112 = .ok (.istore 12, 2) := by decide +kernel
theorem dX6_doubles_114 : decode cX6_doubles 114 = .ok (.iload 9, 2) := by decide +kernel
theorem dX6_doubles_116 : decode cX6_doubles 116 = .ok (.ifCond .le 308, 3) := by decide +kernel
theorem dX6_doubles_119 : decode cX6_doubles 119 = .ok (.aload_n 0, 1) := by decide +kernel
theorem dX6_doubles_120 : decode cX6_doubles 120 = .ok (.getfield 45, 3) := by decide +kernel
theorem dX6_doubles_123 : decode cX6_doubles 123 = .ok (.iload 9, 2) := by decide +kernel
theorem dX6_doubles_125 : decode cX6_doubles 125 = .ok (.iconst 1, 1) := by decide +kernel
theorem dX6_doubles_126 : decode cX6_doubles 126 = .ok (.isub, 1) := by decide +kernel
theorem dX6_doubles_127 : decode cX6_doubles 127 = .ok (.iaload, 1) := by decide +kernel
theorem dX6_doubles_128 : decode cX6_doubles 128 = .ok (.istore 13, 2) := by decide +kernel
theorem dX6_doubles_130 : decode cX6_doubles 130 = .ok (.iload 13, 2) := by decide +kernel
theorem dX6_doubles_132 : decode cX6_doubles 132 = .ok (.aload_n 0, 1) := by decide +kernel
theorem dX6_doubles_133 : decode cX6_doubles 133 = .ok (.getfield 124, 3) := by decide +kernel
theorem dX6_doubles_136 : decode cX6_doubles 136 = .ok (.if_icmp .ne 74, 3) := by decide +kernel
theorem dX6_doubles_139 : decode cX6_doubles 139 = .ok (.iinc 9 (-1), 3) := by decide +kernel
theorem dX6_doubles_142 : decode cX6_doubles 142 = .ok (.iload 9, 2) := by decide +kernel
theorem dX6_doubles_144 : decode cX6_doubles 144 = .ok (.ifCond .le (-30), 3) := by decide +kernel
theorem dX6_doubles_147 : decode cX6_doubles 147 = .ok (.aload_n 0, 1) := by decide +kernel
theorem dX6_doubles_148 : decode cX6_doubles 148 = .ok (.getfield 45, 3) := by decide +kernel
theorem dX6_doubles_151 : decode cX6_doubles 151 = .ok (.iload 9, 2) := by decide +kernel
theorem dX6_doubles_153 : decode cX6_doubles 153 = .ok (.iconst 1, 1) := by decide +kernel
theorem dX6_doubles_154 : decode cX6_doubles 154 = .ok (.isub, 1) := by decide +kernel
theorem dX6_doubles_155 : decode cX6_doubles 155 = .ok (.iaload, 1) := by decide +kernel
theorem dX6_doubles_156 : decode cX6_doubles 156 = .ok (.istore 13, 2) := by decide +kernel
theorem dX6_doubles_158 : decode cX6_doubles 158 = .ok (.iload 10, 2) := by decide +kernel
theorem dX6_doubles_160 : decode cX6_doubles 160 = .ok (.aload_n 0, 1) := by decide +kernel
theorem dX6_doubles_161 : decode cX6_doubles 161 = .ok (.getfield 22, 3) := by decide +kernel
theorem dX6_doubles_164 : decode cX6_doubles 164 = .ok (.iload 13, 2) := by decide +kernel
theorem dX6_doubles_166 : decode cX6_doubles 166 = .ok (.iaload, 1) := by decide +kernel
theorem dX6_doubles_167 : decode cX6_doubles 167 = .ok (.isub, 1) := by decide +kernel
theorem dX6_doubles_168 : decode cX6_doubles 168 = .ok (.istore 10, 2) := by decide +kernel
theorem dX6_doubles_170 : decode cX6_doubles 170 = .ok (.iload 11, 2) := by decide +kernel
theorem dX6_doubles_172 : decode cX6_doubles 172 = .ok (.aload_n 0, 1) := by decide +kernel
theorem dX6_doubles_173 : decode cX6_doubles 173 = .ok (.getfield 39, 3) := by decide +kernel
theorem dX6_doubles_176 : decode cX6_doubles 176 = .ok (.iload 13, 2) := by decide +kernel
theorem dX6_doubles_178 : decode cX6_doubles 178 = .ok (.iaload, 1) := by decide +kernel
theorem dX6_doubles_179 : decode cX6_doubles 179 = .ok (.isub, 1) := by decide +kernel
theorem dX6_doubles_180 : decode cX6_doubles 180 = .ok (.istore 11, 2) := by decide +kernel
theorem dX6_doubles_182 : decode cX6_doubles 182 = .ok (.iload 12, 2) := by decide +kernel
theorem dX6_doubles_184 : decode cX6_doubles 184 = .ok (.aload_n 0, 1) := by decide +kernel
theorem dX6_doubles_185 : decode cX6_doubles 185 = .ok (.getfield 42, 3) := by decide +kernel
theorem dX6_doubles_188 : decode cX6_doubles 188 = .ok (.iload 13, 2) := by decide +kernel
theorem dX6_doubles_190 : decode cX6_doubles 190 = .ok (.iaload, 1) := by decide +kernel
theorem dX6_doubles_191 : decode cX6_doubles 191 = .ok (.isub, 1) := by decide +kernel
theorem dX6_doubles_192 : decode cX6_doubles 192 = .ok (.istore 12, 2) := by decide +kernel
theorem dX6_doubles_194 : decode cX6_doubles 194 = .ok (.aload_n 0, 1) := by decide +kernel
theorem dX6_doubles_195 : decode cX6_doubles 195 = .ok (.getfield 45, 3) := by decide +kernel
theorem dX6_doubles_198 : decode cX6_doubles 198 = .ok (.iload 9, 2) := by decide +kernel
theorem dX6_doubles_200 : decode cX6_doubles 200 = .ok (.iconst 1, 1) := by decide +kernel
theorem dX6_doubles_201 : decode cX6_doubles 201 = .ok (.isub, 1) := by decide +kernel
theorem dX6_doubles_202 : decode cX6_doubles 202 = .ok (.dup2, 1) := by decide +kernel
theorem dX6_doubles_203 : decode cX6_doubles 203 = .ok (.iaload, 1) := by decide +kernel
theorem dX6_doubles_204 : decode cX6_doubles 204 = .ok (.iconst 1, 1) := by decide +kernel
theorem dX6_doubles_205 : decode cX6_doubles 205 = .ok (.iadd, 1) := by decide +kernel
theorem dX6_doubles_206 : decode cX6_doubles 206 = .ok (.iastore, 1) := by decide +kernel
theorem dX6_doubles_207 : decode cX6_doubles 207 = .ok (.goto (-93), 3) := by decide +kernel
theorem dX6_doubles_210 : decode cX6_doubles 210 = .ok (.iload 9, 2) := by decide +kernel
theorem dX6_doubles_212 : decode cX6_doubles 212 = .ok (.iconst 1, 1) := by decide +kernel
theorem dX6_doubles_213 : decode cX6_doubles 213 = .ok (.if_icmp .ne 7, 3) := by decide +kernel
theorem dX6_doubles_216 : decode cX6_doubles 216 = .ok (.iconst 3, 1) := by decide +kernel
theorem dX6_doubles_217 : decode cX6_doubles 217 = .ok (.goto 17, 3) := by decide +kernel
theorem dX6_doubles_220 : decode cX6_doubles 220 = .ok (.aload_n 0, 1) := by decide +kernel
theorem dX6_doubles_221 : decode cX6_doubles 221 = .ok (.getfield 25, 3) := by decide +kernel
theorem dX6_doubles_224 : decode cX6_doubles 224 = .ok (.aload_n 0, 1) := by decide +kernel
theorem dX6_doubles_225 : decode cX6_doubles 225 = .ok (.getfield 45, 3) := by decide +kernel
theorem dX6_doubles_228 : decode cX6_doubles 228 = .ok (.iload 9, 2) := by decide +kernel
theorem dX6_doubles_230 : decode cX6_doubles 230 = .ok (.iconst 2, 1) := by decide +kernel
theorem dX6_doubles_231 : decode cX6_doubles 231 = .ok (.isub, 1) := by decide +kernel
theorem dX6_doubles_232 : decode cX6_doubles 232 = .ok (.iaload, 1) := by decide +kernel
theorem dX6_doubles_233 : decode cX6_doubles 233 = .ok (.iaload, 1) := by decide +kernel
theorem dX6_doubles_234 : decode cX6_doubles 234 = .ok (.istore 14, 2) := by decide +kernel
theorem dX6_doubles_236 : decode cX6_doubles 236 = .ok (.aload_n 0, 1) := by decide +kernel
theorem dX6_doubles_237 : decode cX6_doubles 237 = .ok (.iload 14, 2) := by decide +kernel
theorem dX6_doubles_239 : decode cX6_doubles 239 = .ok (.iload 13, 2) := by decide +kernel
theorem dX6_doubles_241 : decode cX6_doubles 241 = .ok (.invokevirtual 131, 3) := by decide +kernel
theorem dX6_doubles_244 : decode cX6_doubles 244 = .ok (.ifCond .eq 49, 3) := by decide +kernel
theorem dX6_doubles_247 : decode cX6_doubles 247 = .ok (.iload 10, 2) := by decide +kernel
theorem dX6_doubles_249 : decode cX6_doubles 249 = .ok (.aload_n 0, 1) := by decide +kernel
theorem dX6_doubles_250 : decode cX6_doubles 250 = .ok (.getfield 22, 3) := by decide +kernel
theorem dX6_doubles_253 : decode cX6_doubles 253 = .ok (.iload 13, 2) := by decide +kernel
theorem dX6_doubles_255 : decode cX6_doubles 255 = .ok (.iaload, 1) := by decide +kernel
theorem dX6_doubles_256 : decode cX6_doubles 256 = .ok (.iadd, 1) := by decide +kernel
theorem dX6_doubles_257 : decode cX6_doubles 257 = .ok (.iload_n 1, 1) := by decide +kernel
theorem dX6_doubles_258 : decode cX6_doubles 258 = .ok (.if_icmp .gt 35, 3) := by decide +kernel
theorem dX6_doubles_261 : decode cX6_doubles 261 = .ok (.iload 11, 2) := by decide +kernel
theorem dX6_doubles_263 : decode cX6_doubles 263 = .ok (.aload_n 0, 1) := by decide +kernel
theorem dX6_doubles_264 : decode cX6_doubles 264 = .ok (.getfield 39, 3) := by decide +kernel
theorem dX6_doubles_267 : decode cX6_doubles 267 = .ok (.iload 13, 2) := by decide +kernel
theorem dX6_doubles_269 : decode cX6_doubles 269 = .ok (.iaload, 1) := by decide +kernel
theorem dX6_doubles_270 : decode cX6_doubles 270 = .ok (.iadd, 1) := by decide +kernel
theorem dX6_doubles_271 : decode cX6_doubles 271 = .ok (.iload_n 2, 1) := by decide +kernel
theorem dX6_doubles_272 : decode cX6_doubles 272 = .ok (.if_icmp .gt 21, 3) := by decide +kernel
theorem dX6_doubles_275 : decode cX6_doubles 275 = .ok (.iload 12, 2) := by decide +kernel
theorem dX6_doubles_277 : decode cX6_doubles 277 = .ok (.aload_n 0, 1) := by decide +kernel
theorem dX6_doubles_278 : decode cX6_doubles 278 = .ok (.getfield 42, 3) := by decide +kernel
theorem dX6_doubles_281 : decode cX6_doubles 281 = .ok (.iload 13, 2) := by decide +kernel
theorem dX6_doubles_283 : decode cX6_doubles 283 = .ok (.iaload, 1) := by decide +kernel
theorem dX6_doubles_284 : decode cX6_doubles 284 = .ok (.iadd, 1) := by decide +kernel
theorem dX6_doubles_285 : decode cX6_doubles 285 = .ok (.iload_n 3, 1) := by decide +kernel
theorem dX6_doubles_286 : decode cX6_doubles 286 = .ok (.if_icmp .gt 7, 3) := by decide +kernel
theorem dX6_doubles_289 : decode cX6_doubles 289 = .ok (.iconst 1, 1) := by decide +kernel
theorem dX6_doubles_290 : decode cX6_doubles 290 = .ok (.goto 4, 3) := by decide +kernel
theorem dX6_doubles_293 : decode cX6_doubles 293 = .ok (.iconst 0, 1) := by decide +kernel
theorem dX6_doubles_294 : decode cX6_doubles 294 = .ok (.istore 15, 2) := by decide +kernel
theorem dX6_doubles_296 : decode cX6_doubles 296 = .ok (.iload 15, 2) := by decide +kernel
theorem dX6_doubles_298 : decode cX6_doubles 298 = .ok (.ifCond .eq 67, 3) := by decide +kernel
theorem dX6_doubles_301 : decode cX6_doubles 301 = .ok (.iload 10, 2) := by decide +kernel
theorem dX6_doubles_303 : decode cX6_doubles 303 = .ok (.aload_n 0, 1) := by decide +kernel
theorem dX6_doubles_304 : decode cX6_doubles 304 = .ok (.getfield 22, 3) := by decide +kernel
theorem dX6_doubles_307 : decode cX6_doubles 307 = .ok (.iload 13, 2) := by decide +kernel
theorem dX6_doubles_309 : decode cX6_doubles 309 = .ok (.iaload, 1) := by decide +kernel
theorem dX6_doubles_310 : decode cX6_doubles 310 = .ok (.iadd, 1) := by decide +kernel
theorem dX6_doubles_311 : decode cX6_doubles 311 = .ok (.iload_n 1, 1) := by decide +kernel
theorem dX6_doubles_312 : decode cX6_doubles 312 = .ok (.if_icmp .ge 53, 3) := by decide +kernel
theorem dX6_doubles_315 : decode cX6_doubles 315 = .ok (.iload 10, 2) := by decide +kernel
theorem dX6_doubles_317 : decode cX6_doubles 317 = .ok (.aload_n 0, 1) := by decide +kernel
theorem dX6_doubles_318 : decode cX6_doubles 318 = .ok (.getfield 22, 3) := by decide +kernel
theorem dX6_doubles_321 : decode cX6_doubles 321 = .ok (.iload 13, 2) := by decide +kernel
theorem dX6_doubles_323 : decode cX6_doubles 323 = .ok (.iaload, 1) := by decide +kernel
theorem dX6_doubles_324 : decode cX6_doubles 324 = .ok (.iadd, 1) := by decide +kernel
theorem dX6_doubles_325 : decode cX6_doubles 325 = .ok (.istore 10, 2) := by decide +kernel
theorem dX6_doubles_327 : decode cX6_doubles 327 = .ok (.iload 11, 2) := by decide +kernel
theorem dX6_doubles_329 : decode cX6_doubles 329 = .ok (.aload_n 0, 1) := by decide +kernel
theorem dX6_doubles_330 : decode cX6_doubles 330 = .ok (.getfield 39, 3) := by decide +kernel
theorem dX6_doubles_333 : decode cX6_doubles 333 = .ok (.iload 13, 2) := by decide +kernel
theorem dX6_doubles_335 : decode cX6_doubles 335 = .ok (.iaload, 1) := by decide +kernel
theorem dX6_doubles_336 : decode cX6_doubles 336 = .ok (.iadd, 1) := by decide +kernel
theorem dX6_doubles_337 : decode cX6_doubles 337 = .ok (.istore 11, 2) := by decide +kernel
theorem dX6_doubles_339 : decode cX6_doubles 339 = .ok (.iload 12, 2) := by decide +kernel
theorem dX6_doubles_341 : decode cX6_doubles 341 = .ok (.aload_n 0, 1) := by decide +kernel
theorem dX6_doubles_342 : decode cX6_doubles 342 = .ok (.getfield 42, 3) := by decide +kernel
theorem dX6_doubles_345 : decode cX6_doubles 345 = .ok (.iload 13, 2) := by decide +kernel
theorem dX6_doubles_347 : decode cX6_doubles 347 = .ok (.iaload, 1) := by decide +kernel
theorem dX6_doubles_348 : decode cX6_doubles 348 = .ok (.iadd, 1) := by decide +kernel
theorem dX6_doubles_349 : decode cX6_doubles 349 = .ok (.istore 12, 2) := by decide +kernel
theorem dX6_doubles_351 : decode cX6_doubles 351 = .ok (.aload_n 0, 1) := by decide +kernel
theorem dX6_doubles_352 : decode cX6_doubles 352 = .ok (.getfield 45, 3) := by decide +kernel
theorem dX6_doubles_355 : decode cX6_doubles 355 = .ok (.iload 9, 2) := by decide +kernel
theorem dX6_doubles_357 : decode cX6_doubles 357 = .ok (.iconst 0, 1) := by decide +kernel
theorem dX6_doubles_358 : decode cX6_doubles 358 = .ok (.iastore, 1) := by decide +kernel
theorem dX6_doubles_359 : decode cX6_doubles 359 = .ok (.iinc 9 1, 3) := by decide +kernel
theorem dX6_doubles_362 : decode cX6_doubles 362 = .ok (.goto 59, 3) := by decide +kernel
theorem dX6_doubles_365 : decode cX6_doubles 365 = .ok (.lload 7, 2) := by decide +kernel
theorem dX6_doubles_367 : decode cX6_doubles 367 = .ok (.iload 15, 2) := by decide +kernel
theorem dX6_doubles_369 : decode cX6_doubles 369 = .ok (.ifCond .eq 35, 3) := by decide +kernel
theorem dX6_doubles_372 : decode cX6_doubles 372 = .ok (.iload 11, 2) := by decide +kernel
theorem dX6_doubles_374 : decode cX6_doubles 374 = .ok (.aload_n 0, 1) := by decide +kernel
theorem dX6_doubles_375 : decode cX6_doubles 375 = .ok (.getfield 39, 3) := by decide +kernel
theorem dX6_doubles_378 : decode cX6_doubles 378 = .ok (.iload 13, 2) := by decide +kernel
theorem dX6_doubles_380 : decode cX6_doubles 380 = .ok (.iaload, 1) := by decide +kernel
theorem dX6_doubles_381 : decode cX6_doubles 381 = .ok (.iadd, 1) := by decide +kernel
theorem dX6_doubles_382 : decode cX6_doubles 382 = .ok (.iload_n 2, 1) := by decide +kernel
theorem dX6_doubles_383 : decode cX6_doubles 383 = .ok (.if_icmp .ne 21, 3) := by decide +kernel
theorem dX6_doubles_386 : decode cX6_doubles 386 = .ok (.iload 12, 2) := by decide +kernel
theorem dX6_doubles_388 : decode cX6_doubles 388 = .ok (.aload_n 0, 1) := by decide +kernel
theorem dX6_doubles_389 : decode cX6_doubles 389 = .ok (.getfield 42, 3) := by decide +kernel
theorem dX6_doubles_392 : decode cX6_doubles 392 = .ok (.iload 13, 2) := by decide +kernel
theorem dX6_doubles_394 : decode cX6_doubles 394 = .ok (.iaload, 1) := by decide +kernel
theorem dX6_doubles_395 : decode cX6_doubles 395 = .ok (.iadd, 1) := by decide +kernel
theorem dX6_doubles_396 : decode cX6_doubles 396 = .ok (.iload_n 3, 1) := by decide +kernel
theorem dX6_doubles_397 : decode cX6_doubles 397 = .ok (.if_icmp .ne 7, 3) := by decide +kernel
theorem dX6_doubles_400 : decode cX6_doubles 400 = .ok (.lconst 1, 1) := by decide +kernel
theorem dX6_doubles_401 : decode cX6_doubles 401 = .ok (.goto 4, 3) := by decide +kernel
theorem dX6_doubles_404 : decode cX6_doubles 404 = .ok (.lconst 0, 1) := by decide +kernel
theorem dX6_doubles_405 : decode cX6_doubles 405 = .ok (.ladd, 1) := by decide +kernel
theorem dX6_doubles_406 : decode cX6_doubles 406 = .ok (.lstore 7, 2) := by decide +kernel
theorem dX6_doubles_408 : decode cX6_doubles 408 = .ok (.aload_n 0, 1) := by decide +kernel
theorem dX6_doubles_409 : decode cX6_doubles 409 = .ok (.getfield 45, 3) := by decide +kernel
theorem dX6_doubles_412 : decode cX6_doubles 412 = .ok (.iload 9, 2) := by decide +kernel
theorem dX6_doubles_414 : decode cX6_doubles 414 = .ok (.iconst 1, 1) := by decide +kernel
theorem dX6_doubles_415 : decode cX6_doubles 415 = .ok (.isub, 1) := by decide +kernel
theorem dX6_doubles_416 : decode cX6_doubles 416 = .ok (.dup2, 1) := by decide +kernel
theorem dX6_doubles_417 : decode cX6_doubles 417 = .ok (.iaload, 1) := by decide +kernel
theorem dX6_doubles_418 : decode cX6_doubles 418 = .ok (.iconst 1, 1) := by decide +kernel
theorem dX6_doubles_419 : decode cX6_doubles 419 = .ok (.iadd, 1) := by decide +kernel
theorem dX6_doubles_420 : decode cX6_doubles 420 = .ok (.iastore, 1) := by decide +kernel
theorem dX6_doubles_421 : decode cX6_doubles 421 = .ok (.goto (-307), 3) := by decide +kernel
theorem dX6_doubles_424 : decode cX6_doubles 424 = .ok (.lload 7, 2) := by decide +kernel
theorem dX6_doubles_426 : decode cX6_doubles 426 = .ok (.lreturn, 1) := by decide +kernel
theorem dX6_parts_0 : decode cX6_parts 0 = .ok (.aload_n 0, 1) := by decide +kernel
theorem dX6_parts_1 : decode cX6_parts 1 = .ok (.iconst 0, 1) := by decide +kernel
theorem dX6_parts_2 : decode cX6_parts 2 = .ok (.putfield 154, 3) := by decide +kernel
theorem dX6_parts_5 : decode cX6_parts 5 = .ok (.iconst 0, 1) := by decide +kernel
theorem dX6_parts_6 : decode cX6_parts 6 = .ok (.istore_n 1, 1) := by decide +kernel
theorem dX6_parts_7 : decode cX6_parts 7 = .ok (.iload_n 1, 1) := by decide +kernel
theorem dX6_parts_8 : decode cX6_parts 8 = .ok (.aload_n 0, 1) := by decide +kernel
theorem dX6_parts_9 : decode cX6_parts 9 = .ok (.getfield 117, 3) := by decide +kernel
theorem dX6_parts_12 : decode cX6_parts 12 = .ok (.if_icmp .ge 82, 3) := by decide +kernel
theorem dX6_parts_15 : decode cX6_parts 15 = .ok (.aload_n 0, 1) := by decide +kernel
theorem dX6_parts_16 : decode cX6_parts 16 = .ok (.getfield 13, 3) := by decide +kernel
theorem dX6_parts_19 : decode cX6_parts 19 = .ok (.iload_n 1, 1) := by decide +kernel
theorem dX6_parts_20 : decode cX6_parts 20 = .ok (.iaload, 1) := by decide +kernel
theorem dX6_parts_21 : decode cX6_parts 21 = .ok (.bipush 32, 2) := by decide +kernel
theorem dX6_parts_23 : decode cX6_parts 23 = .ok (.if_icmp .eq 65, 3) := by decide +kernel
theorem dX6_parts_26 : decode cX6_parts 26 = .ok (.iload_n 1, 1) := by decide +kernel
theorem dX6_parts_27 : decode cX6_parts 27 = .ok (.ifCond .eq 16, 3) := by decide +kernel
theorem dX6_parts_30 : decode cX6_parts 30 = .ok (.aload_n 0, 1) := by decide +kernel
theorem dX6_parts_31 : decode cX6_parts 31 = .ok (.getfield 13, 3) := by decide +kernel
theorem dX6_parts_34 : decode cX6_parts 34 = .ok (.iload_n 1, 1) := by decide +kernel
theorem dX6_parts_35 : decode cX6_parts 35 = .ok (.iconst 1, 1) := by decide +kernel
theorem dX6_parts_36 : decode cX6_parts 36 = .ok (.isub, 1) := by decide +kernel
theorem dX6_parts_37 : decode cX6_parts 37 = .ok (.iaload, 1) := by decide +kernel
theorem dX6_parts_38 : decode cX6_parts 38 = .ok (.bipush 32, 2) := by decide +kernel
theorem dX6_parts_40 : decode cX6_parts 40 = .ok (.if_icmp .ne 33, 3) := by decide +kernel
theorem dX6_parts_43 : decode cX6_parts 43 = .ok (.aload_n 0, 1) := by decide +kernel
theorem dX6_parts_44 : decode cX6_parts 44 = .ok (.getfield 48, 3) := by decide +kernel
theorem dX6_parts_47 : decode cX6_parts 47 = .ok (.aload_n 0, 1) := by decide +kernel
theorem dX6_parts_48 : decode cX6_parts 48 = .ok (.getfield 154, 3) := by decide +kernel
theorem dX6_parts_51 : decode cX6_parts 51 = .ok (.iload_n 1, 1) := by decide +kernel
theorem dX6_parts_52 : decode cX6_parts 52 = .ok (.iastore, 1) := by decide +kernel
theorem dX6_parts_53 : decode cX6_parts 53 = .ok (.aload_n 0, 1) := by decide +kernel
theorem dX6_parts_54 : decode cX6_parts 54 = .ok (.getfield 51, 3) := by decide +kernel
theorem dX6_parts_57 : decode cX6_parts 57 = .ok (.aload_n 0, 1) := by decide +kernel
theorem dX6_parts_58 : decode cX6_parts 58 = .ok (.getfield 154, 3) := by decide +kernel
theorem dX6_parts_61 : decode cX6_parts 61 = .ok (.iconst 0, 1) := by decide +kernel
theorem dX6_parts_62 : decode cX6_parts 62 = .ok (.iastore, 1) := by decide +kernel
theorem dX6_parts_63 : decode cX6_parts 63 = .ok (.aload_n 0, 1) := by decide +kernel
theorem dX6_parts_64 : decode cX6_parts 64 = .ok (.dup, 1) := by decide +kernel
theorem dX6_parts_65 : decode cX6_parts 65 = .ok (.getfield 154, 3) := by decide +kernel
theorem dX6_parts_68 : decode cX6_parts 68 = .ok (.iconst 1, 1) := by decide +kernel
theorem dX6_parts_69 : decode cX6_parts 69 = .ok (.iadd, 1) := by decide +kernel
theorem dX6_parts_70 : decode cX6_parts 70 = .ok (.putfield 154, 3) := by decide +kernel
theorem dX6_parts_73 : decode cX6_parts 73 = .ok (.aload_n 0, 1) := by decide +kernel
theorem dX6_parts_74 : decode cX6_parts 74 = .ok (.getfield 51, 3) := by decide +kernel
theorem dX6_parts_77 : decode cX6_parts 77 = .ok (.aload_n 0, 1) := by decide +kernel
theorem dX6_parts_78 : decode cX6_parts 78 = .ok (.getfield 154, 3) := by decide +kernel
theorem dX6_parts_81 : decode cX6_parts 81 = .ok (.iconst 1, 1) := by decide +kernel
theorem dX6_parts_82 : decode cX6_parts 82 = .ok (.isub, 1) := by decide +kernel
theorem dX6_parts_83 : decode cX6_parts 83 = .ok (.dup2, 1) := by decide +kernel
theorem dX6_parts_84 : decode cX6_parts 84 = .ok (.iaload, 1) := by decide +kernel
theorem dX6_parts_85 : decode cX6_parts 85 = .ok (.iconst 1, 1) := by decide +kernel
theorem dX6_parts_86 : decode cX6_parts 86 = .ok (.iadd, 1) := by decide +kernel
theorem dX6_parts_87 : decode cX6_parts 87 = .ok (.iastore, 1) := by decide +kernel
theorem dX6_parts_88 : decode cX6_parts 88 = .ok (.iinc 1 1, 3) := by decide +kernel
theorem dX6_parts_91 : decode cX6_parts 91 = .ok (.goto (-84), 3) := by decide +kernel
theorem dX6_parts_94 : decode cX6_parts 94 = .ok (.return_, 1) := by decide +kernel
theorem dX6_isFit_0 : decode cX6_isFit 0 = .ok (.aload_n 0, 1) := by decide +kernel
theorem dX6_isFit_1 : decode cX6_isFit 1 = .ok (.getfield 19, 3) := by decide +kernel
theorem dX6_isFit_4 : decode cX6_isFit 4 = .ok (.iload_n 1, 1) := by decide +kernel
theorem dX6_isFit_5 : decode cX6_isFit 5 = .ok (.iaload, 1) := by decide +kernel
theorem dX6_isFit_6 : decode cX6_isFit 6 = .ok (.aload_n 0, 1) := by decide +kernel
theorem dX6_isFit_7 : decode cX6_isFit 7 = .ok (.getfield 51, 3) := by decide +kernel
theorem dX6_isFit_10 : decode cX6_isFit 10 = .ok (.iload_n 2, 1) := by decide +kernel
theorem dX6_isFit_11 : decode cX6_isFit 11 = .ok (.iaload, 1) := by decide +kernel
theorem dX6_isFit_12 : decode cX6_isFit 12 = .ok (.if_icmp .ne 7, 3) := by decide +kernel
theorem dX6_isFit_15 : decode cX6_isFit 15 = .ok (.iconst 1, 1) := by decide +kernel
theorem dX6_isFit_16 : decode cX6_isFit 16 = .ok (.goto 4, 3) := by decide +kernel
theorem dX6_isFit_19 : decode cX6_isFit 19 = .ok (.iconst 0, 1) := by decide +kernel
theorem dX6_isFit_20 : decode cX6_isFit 20 = .ok (.istore_n 3, 1) := by decide +kernel
theorem dX6_isFit_21 : decode cX6_isFit 21 = .ok (.iconst 0, 1) := by decide +kernel
theorem dX6_isFit_22 : decode cX6_isFit 22 = .ok (.istore 4, 2) := by decide +kernel
theorem dX6_isFit_24 : decode cX6_isFit 24 = .ok (.iload 4, 2) := by decide +kernel
theorem dX6_isFit_26 : decode cX6_isFit 26 = .ok (.aload_n 0, 1) := by decide +kernel
theorem dX6_isFit_27 : decode cX6_isFit 27 = .ok (.getfield 19, 3) := by decide +kernel
theorem dX6_isFit_30 : decode cX6_isFit 30 = .ok (.iload_n 1, 1) := by decide +kernel
theorem dX6_isFit_31 : decode cX6_isFit 31 = .ok (.iaload, 1) := by decide +kernel
theorem dX6_isFit_32 : decode cX6_isFit 32 = .ok (.if_icmp .ge 59, 3) := by decide +kernel
theorem dX6_isFit_35 : decode cX6_isFit 35 = .ok (.iload_n 3, 1) := by decide +kernel
theorem dX6_isFit_36 : decode cX6_isFit 36 = .ok (.ifCond .eq 55, 3) := by decide +kernel
theorem dX6_isFit_39 : decode cX6_isFit 39 = .ok (.aload_n 0, 1) := by decide +kernel
theorem dX6_isFit_40 : decode cX6_isFit 40 = .ok (.getfield 13, 3) := by decide +kernel
theorem dX6_isFit_43 : decode cX6_isFit 43 = .ok (.aload_n 0, 1) := by decide +kernel
theorem dX6_isFit_44 : decode cX6_isFit 44 = .ok (.getfield 48, 3) := by decide +kernel
theorem dX6_isFit_47 : decode cX6_isFit 47 = .ok (.iload_n 2, 1) := by decide +kernel
theorem dX6_isFit_48 : decode cX6_isFit 48 = .ok (.iaload, 1) := by decide +kernel
theorem dX6_isFit_49 : decode cX6_isFit 49 = .ok (.iload 4, 2) := by decide +kernel
theorem dX6_isFit_51 : decode cX6_isFit 51 = .ok (.iadd, 1) := by decide +kernel
theorem dX6_isFit_52 : decode cX6_isFit 52 = .ok (.iaload, 1) := by decide +kernel
theorem dX6_isFit_53 : decode cX6_isFit 53 = .ok (.istore 5, 2) := by decide +kernel
theorem dX6_isFit_55 : decode cX6_isFit 55 = .ok (.iload 5, 2) := by decide +kernel
theorem dX6_isFit_57 : decode cX6_isFit 57 = .ok (.bipush 63, 2) := by decide +kernel
theorem dX6_isFit_59 : decode cX6_isFit 59 = .ok (.if_icmp .eq 20, 3) := by decide +kernel
theorem dX6_isFit_62 : decode cX6_isFit 62 = .ok (.iload 5, 2) := by decide +kernel
theorem dX6_isFit_64 : decode cX6_isFit 64 = .ok (.aload_n 0, 1) := by decide +kernel
theorem dX6_isFit_65 : decode cX6_isFit 65 = .ok (.getfield 16, 3) := by decide +kernel
theorem dX6_isFit_68 : decode cX6_isFit 68 = .ok (.bipush 8, 2) := by decide +kernel
theorem dX6_isFit_70 : decode cX6_isFit 70 = .ok (.iload_n 1, 1) := by decide +kernel
theorem dX6_isFit_71 : decode cX6_isFit 71 = .ok (.imul, 1) := by decide +kernel
theorem dX6_isFit_72 : decode cX6_isFit 72 = .ok (.iload 4, 2) := by decide +kernel
theorem dX6_isFit_74 : decode cX6_isFit 74 = .ok (.iadd, 1) := by decide +kernel
theorem dX6_isFit_75 : decode cX6_isFit 75 = .ok (.iaload, 1) := by decide +kernel
theorem dX6_isFit_76 : decode cX6_isFit 76 = .ok (.if_icmp .ne 7, 3) := by decide +kernel
theorem dX6_isFit_79 : decode cX6_isFit 79 = .ok (.iconst 1, 1) := by decide +kernel
theorem dX6_isFit_80 : decode cX6_isFit 80 = .ok (.goto 4, 3) := by decide +kernel
theorem dX6_isFit_83 : decode cX6_isFit 83 = .ok (.iconst 0, 1) := by decide +kernel
theorem dX6_isFit_84 : decode cX6_isFit 84 = .ok (.istore_n 3, 1) := by decide +kernel
theorem dX6_isFit_85 : decode cX6_isFit 85 = .ok (.iinc 4 1, 3) := by decide +kernel
theorem dX6_isFit_88 : decode cX6_isFit 88 = .ok (.goto (-64), 3) := by decide +kernel
theorem dX6_isFit_91 : decode cX6_isFit 91 = .ok (.iload_n 3, 1) := by decide +kernel
theorem dX6_isFit_92 : decode cX6_isFit 92 = .ok (.ireturn, 1) := by decide +kernel
set_option maxRecDepth 20000 in
theorem ggX6_fit_X6_parts : GoodIn wsX6_fit wsX6_parts := goodIn_r _ [8, 2, 9, 10, 11, 12, 22, 23, 24, 25, 26, 27, 28, 29, 30, 31, 32, 33, 34, 35, 36, 37, 38, 39, 40, 41, 42, 43, 44] (by decide +kernel) (by decide +kernel)
set_option maxRecDepth 20000 in
theorem gX6_fit_X6_parts : GoodIn wsX6_fit (wsV RX6 157 RX6 yX6_parts wsX6_parts) := goodIn_app (goodIn_of _ (by decide +kernel)) ggX6_fit_X6_parts
set_option maxRecDepth 20000 in
theorem ggX6_fit_X6_in : GoodIn wsX6_fit wsX6_in := goodIn_r _ [15] (by decide +kernel) (by decide +kernel)
set_option maxRecDepth 20000 in
theorem gX6_fit_X6_in : GoodIn wsX6_fit (va_wsS RX6 73 yX6_in wsX6_in) := goodIn_app (goodIn_of _ (by decide +kernel)) ggX6_fit_X6_in
set_option maxRecDepth 20000 in
theorem ggX6_fit_X6_isFit : GoodIn wsX6_fit wsX6_isFit := goodIn_r _ [19, 20, 12, 10, 11, 21, 22, 23, 24, 25, 26, 27, 28, 29, 30, 31, 32, 33, 34, 35, 36, 37, 38, 39, 40, 41, 42, 43, 44] (by decide +kernel) (by decide +kernel)
set_option maxRecDepth 20000 in
theorem gX6_fit_X6_isFit : GoodIn wsX6_fit (wsV RX6 159 RX6 yX6_isFit wsX6_isFit) := goodIn_app (goodIn_of _ (by decide +kernel)) ggX6_fit_X6_isFit
theorem dX6_fit_0 : decode cX6_fit 0 = .ok (.aload_n 0, 1) := by decide +kernel
theorem dX6_fit_1 : decode cX6_fit 1 = .ok (.iconst 0, 1) := by decide +kernel
theorem dX6_fit_2 : decode cX6_fit 2 = .ok (.putfield 67, 3) := by decide +kernel
theorem dX6_fit_5 : decode cX6_fit 5 = .ok (.aload_n 0, 1) := by decide +kernel
theorem dX6_fit_6 : decode cX6_fit 6 = .ok (.invokevirtual 157, 3) := by decide +kernel
theorem dX6_fit_9 : decode cX6_fit 9 = .ok (.iload_n 1, 1) := by decide +kernel
theorem dX6_fit_10 : decode cX6_fit 10 = .ok (.i2l, 1) := by decide +kernel
theorem dX6_fit_11 : decode cX6_fit 11 = .ok (.lconst 0, 1) := by decide +kernel
theorem dX6_fit_12 : decode cX6_fit 12 = .ok (.aload_n 0, 1) := by decide +kernel
theorem dX6_fit_13 : decode cX6_fit 13 = .ok (.getfield 154, 3) := by decide +kernel
theorem dX6_fit_16 : decode cX6_fit 16 = .ok (.iconst 1, 1) := by decide +kernel
theorem dX6_fit_17 : decode cX6_fit 17 = .ok (.isub, 1) := by decide +kernel
theorem dX6_fit_18 : decode cX6_fit 18 = .ok (.i2l, 1) := by decide +kernel
theorem dX6_fit_19 : decode cX6_fit 19 = .ok (.invokestatic 73, 3) := by decide +kernel
theorem dX6_fit_22 : decode cX6_fit 22 = .ok (.ifCond .ne 5, 3) := by decide +kernel
theorem dX6_fit_25 : decode cX6_fit 25 = .ok (.iconst (-1), 1) := by decide +kernel
theorem dX6_fit_26 : decode cX6_fit 26 = .ok (.ireturn, 1) := by decide +kernel
theorem dX6_fit_27 : decode cX6_fit 27 = .ok (.iconst 0, 1) := by decide +kernel
theorem dX6_fit_28 : decode cX6_fit 28 = .ok (.istore_n 2, 1) := by decide +kernel
theorem dX6_fit_29 : decode cX6_fit 29 = .ok (.iconst 0, 1) := by decide +kernel
theorem dX6_fit_30 : decode cX6_fit 30 = .ok (.istore_n 3, 1) := by decide +kernel
theorem dX6_fit_31 : decode cX6_fit 31 = .ok (.iload_n 3, 1) := by decide +kernel
theorem dX6_fit_32 : decode cX6_fit 32 = .ok (.aload_n 0, 1) := by decide +kernel
theorem dX6_fit_33 : decode cX6_fit 33 = .ok (.getfield 124, 3) := by decide +kernel
theorem dX6_fit_36 : decode cX6_fit 36 = .ok (.if_icmp .ge 26, 3) := by decide +kernel
theorem dX6_fit_39 : decode cX6_fit 39 = .ok (.iload_n 2, 1) := by decide +kernel
theorem dX6_fit_40 : decode cX6_fit 40 = .ok (.aload_n 0, 1) := by decide +kernel
theorem dX6_fit_41 : decode cX6_fit 41 = .ok (.iload_n 3, 1) := by decide +kernel
theorem dX6_fit_42 : decode cX6_fit 42 = .ok (.iload_n 1, 1) := by decide +kernel
theorem dX6_fit_43 : decode cX6_fit 43 = .ok (.invokevirtual 159, 3) := by decide +kernel
theorem dX6_fit_46 : decode cX6_fit 46 = .ok (.ifCond .eq 7, 3) := by decide +kernel
theorem dX6_fit_49 : decode cX6_fit 49 = .ok (.iconst 1, 1) := by decide +kernel
theorem dX6_fit_50 : decode cX6_fit 50 = .ok (.goto 4, 3) := by decide +kernel
theorem dX6_fit_53 : decode cX6_fit 53 = .ok (.iconst 0, 1) := by decide +kernel
theorem dX6_fit_54 : decode cX6_fit 54 = .ok (.iadd, 1) := by decide +kernel
theorem dX6_fit_55 : decode cX6_fit 55 = .ok (.istore_n 2, 1) := by decide +kernel
theorem dX6_fit_56 : decode cX6_fit 56 = .ok (.iinc 3 1, 3) := by decide +kernel
theorem dX6_fit_59 : decode cX6_fit 59 = .ok (.goto (-28), 3) := by decide +kernel
theorem dX6_fit_62 : decode cX6_fit 62 = .ok (.iload_n 2, 1) := by decide +kernel
theorem dX6_fit_63 : decode cX6_fit 63 = .ok (.ireturn, 1) := by decide +kernel
set_option maxRecDepth 20000 in
theorem ggX6_readings_X6_parts : GoodIn wsX6_readings wsX6_parts := goodIn_r _ [13, 2, 14, 15, 16, 17, 29, 30, 31, 32, 33, 34, 35, 36, 37, 38, 39, 40, 41, 42, 43, 44, 45, 46, 47, 48, 49, 50, 51] (by decide +kernel) (by decide +kernel)
set_option maxRecDepth 20000 in
theorem gX6_readings_X6_parts : GoodIn wsX6_readings (wsV RX6 157 RX6 yX6_parts wsX6_parts) := goodIn_app (goodIn_of _ (by decide +kernel)) ggX6_readings_X6_parts
set_option maxRecDepth 20000 in
theorem ggX6_readings_X6_isFit : GoodIn wsX6_readings wsX6_isFit := goodIn_r _ [21, 22, 17, 15, 16, 23, 29, 30, 31, 32, 33, 34, 35, 36, 37, 38, 39, 40, 41, 42, 43, 44, 45, 46, 47, 48, 49, 50, 51] (by decide +kernel) (by decide +kernel)
set_option maxRecDepth 20000 in
theorem gX6_readings_X6_isFit : GoodIn wsX6_readings (wsV RX6 159 RX6 yX6_isFit wsX6_isFit) := goodIn_app (goodIn_of _ (by decide +kernel)) ggX6_readings_X6_isFit
set_option maxRecDepth 20000 in
theorem ggX6_readings_X6_isAfter : GoodIn wsX6_readings wsX6_isAfter := goodIn_r _ [27, 28, 6, 29, 30, 31, 32, 33, 34, 35, 36, 37, 38, 39, 40, 41, 42, 43, 44, 45, 46, 47, 48, 49, 50, 51] (by decide +kernel) (by decide +kernel)
set_option maxRecDepth 20000 in
theorem gX6_readings_X6_isAfter : GoodIn wsX6_readings (wsV RX6 131 RX6 yX6_isAfter wsX6_isAfter) := goodIn_app (goodIn_of _ (by decide +kernel)) ggX6_readings_X6_isAfter
theorem dX6_readings_0 : decode cX6_readings 0 = .ok (.aload_n 0, 1) := by decide +kernel
theorem dX6_readings_1 : decode cX6_readings 1 = .ok (.iconst 0, 1) := by decide +kernel
theorem dX6_readings_2 : decode cX6_readings 2 = .ok (.putfield 67, 3) := by decide +kernel
theorem dX6_readings_5 : decode cX6_readings 5 = .ok (.aload_n 0, 1) := by decide +kernel
theorem dX6_readings_6 : decode cX6_readings 6 = .ok (.invokevirtual 157, 3) := by decide +kernel
theorem dX6_readings_9 : decode cX6_readings 9 = .ok (.aload_n 0, 1) := by decide +kernel
theorem dX6_readings_10 : decode cX6_readings 10 = .ok (.getfield 154, 3) := by decide +kernel
theorem dX6_readings_13 : decode cX6_readings 13 = .ok (.ifCond .ne 6, 3) := by decide +kernel
theorem dX6_readings_16 : decode cX6_readings 16 = .ok (.bipush (-2), 2) := by decide +kernel
theorem dX6_readings_18 : decode cX6_readings 18 = .ok (.ireturn, 1) := by decide +kernel
theorem dX6_readings_19 : decode cX6_readings 19 = .ok (.iconst 0, 1) := by decide +kernel
theorem dX6_readings_20 : decode cX6_readings 20 = .ok (.istore_n 1, 1) := by decide +kernel
theorem dX6_readings_21 : decode cX6_readings 21 = .ok (.iload_n 1, 1) := by decide +kernel
theorem dX6_readings_22 : decode cX6_readings 22 = .ok (.iconst 4, 1) := by decide +kernel
theorem dX6_readings_23 : decode cX6_readings 23 = .ok (.if_icmp .ge 25, 3) := by decide +kernel
theorem dX6_readings_26 : decode cX6_readings 26 = .ok (.aload_n 0, 1) := by decide +kernel
theorem dX6_readings_27 : decode cX6_readings 27 = .ok (.getfield 61, 3) := by decide +kernel
theorem dX6_readings_30 : decode cX6_readings 30 = .ok (.iload_n 1, 1) := by decide +kernel
theorem dX6_readings_31 : decode cX6_readings 31 = .ok (.iload_n 1, 1) := by decide +kernel
theorem dX6_readings_32 : decode cX6_readings 32 = .ok (.iconst 3, 1) := by decide +kernel
theorem dX6_readings_33 : decode cX6_readings 33 = .ok (.if_icmp .ne 7, 3) := by decide +kernel
theorem dX6_readings_36 : decode cX6_readings 36 = .ok (.lconst 1, 1) := by decide +kernel
theorem dX6_readings_37 : decode cX6_readings 37 = .ok (.goto 4, 3) := by decide +kernel
theorem dX6_readings_40 : decode cX6_readings 40 = .ok (.lconst 0, 1) := by decide +kernel
theorem dX6_readings_41 : decode cX6_readings 41 = .ok (.lastore, 1) := by decide +kernel
theorem dX6_readings_42 : decode cX6_readings 42 = .ok (.iinc 1 1, 3) := by decide +kernel
theorem dX6_readings_45 : decode cX6_readings 45 = .ok (.goto (-24), 3) := by decide +kernel
theorem dX6_readings_48 : decode cX6_readings 48 = .ok (.iconst 0, 1) := by decide +kernel
theorem dX6_readings_49 : decode cX6_readings 49 = .ok (.istore_n 1, 1) := by decide +kernel
theorem dX6_readings_50 : decode cX6_readings 50 = .ok (.iload_n 1, 1) := by decide +kernel
theorem dX6_readings_51 : decode cX6_readings 51 = .ok (.aload_n 0, 1) := by decide +kernel
theorem dX6_readings_52 : decode cX6_readings 52 = .ok (.getfield 154, 3) := by decide +kernel
theorem dX6_readings_55 : decode cX6_readings 55 = .ok (.if_icmp .ge 144, 3) := by decide +kernel
theorem dX6_readings_58 : decode cX6_readings 58 = .ok (.iconst 0, 1) := by decide +kernel
theorem dX6_readings_59 : decode cX6_readings 59 = .ok (.istore_n 2, 1) := by decide +kernel
theorem dX6_readings_60 : decode cX6_readings 60 = .ok (.iload_n 2, 1) := by decide +kernel
theorem dX6_readings_61 : decode cX6_readings 61 = .ok (.iconst 4, 1) := by decide +kernel
theorem dX6_readings_62 : decode cX6_readings 62 = .ok (.if_icmp .ge 16, 3) := by decide +kernel
theorem dX6_readings_65 : decode cX6_readings 65 = .ok (.aload_n 0, 1) := by decide +kernel
theorem dX6_readings_66 : decode cX6_readings 66 = .ok (.getfield 64, 3) := by decide +kernel
theorem dX6_readings_69 : decode cX6_readings 69 = .ok (.iload_n 2, 1) := by decide +kernel
theorem dX6_readings_70 : decode cX6_readings 70 = .ok (.lconst 0, 1) := by decide +kernel
theorem dX6_readings_71 : decode cX6_readings 71 = .ok (.lastore, 1) := by decide +kernel
theorem dX6_readings_72 : decode cX6_readings 72 = .ok (.iinc 2 1, 3) := by decide +kernel
theorem dX6_readings_75 : decode cX6_readings 75 = .ok (.goto (-15), 3) := by decide +kernel
theorem dX6_readings_78 : decode cX6_readings 78 = .ok (.iconst 0, 1) := by decide +kernel
theorem dX6_readings_79 : decode cX6_readings 79 = .ok (.istore_n 2, 1) := by decide +kernel
theorem dX6_readings_80 : decode cX6_readings 80 = .ok (.iload_n 2, 1) := by decide +kernel
theorem dX6_readings_81 : decode cX6_readings 81 = .ok (.aload_n 0, 1) := by decide +kernel
theorem dX6_readings_82 : decode cX6_readings 82 = .ok (.getfield 124, 3) := by decide +kernel
theorem dX6_readings_85 : decode cX6_readings 85 = .ok (.if_icmp .ge 64, 3) := by decide +kernel
theorem dX6_readings_88 : decode cX6_readings 88 = .ok (.iconst 0, 1) := by decide +kernel
theorem dX6_readings_89 : decode cX6_readings 89 = .ok (.istore_n 3, 1) := by decide +kernel
theorem dX6_readings_90 : decode cX6_readings 90 = .ok (.iload_n 3, 1) := by decide +kernel
theorem dX6_readings_91 : decode cX6_readings 91 = .ok (.iconst 4, 1) := by decide +kernel
theorem dX6_readings_92 : decode cX6_readings 92 = .ok (.if_icmp .ge 51, 3) := by decide +kernel
theorem dX6_readings_95 : decode cX6_readings 95 = .ok (.aload_n 0, 1) := by decide +kernel
theorem dX6_readings_96 : decode cX6_readings 96 = .ok (.iload_n 2, 1) := by decide +kernel
theorem dX6_readings_97 : decode cX6_readings 97 = .ok (.iload_n 1, 1) := by decide +kernel
theorem dX6_readings_98 : decode cX6_readings 98 = .ok (.invokevirtual 159, 3) := by decide +kernel
theorem dX6_readings_101 : decode cX6_readings 101 = .ok (.ifCond .eq 42, 3) := by decide +kernel
theorem dX6_readings_104 : decode cX6_readings 104 = .ok (.aload_n 0, 1) := by decide +kernel
theorem dX6_readings_105 : decode cX6_readings 105 = .ok (.getfield 64, 3) := by decide +kernel
theorem dX6_readings_108 : decode cX6_readings 108 = .ok (.aload_n 0, 1) := by decide +kernel
theorem dX6_readings_109 : decode cX6_readings 109 = .ok (.getfield 25, 3) := by decide +kernel
theorem dX6_readings_112 : decode cX6_readings 112 = .ok (.iload_n 2, 1) := by decide +kernel
theorem dX6_readings_113 : decode cX6_readings 113 = .ok (.iaload, 1) := by decide +kernel
theorem dX6_readings_114 : decode cX6_readings 114 = .ok (.dup2, 1) := by decide +kernel
theorem dX6_readings_115 : decode cX6_readings 115 = .ok (.laload, 1) := by decide +kernel
theorem dX6_readings_116 : decode cX6_readings 116 = .ok (.aload_n 0, 1) := by decide +kernel
theorem dX6_readings_117 : decode cX6_readings 117 = .ok (.iload_n 3, 1) := by decide +kernel
theorem dX6_readings_118 : decode cX6_readings 118 = .ok (.iload_n 2, 1) := by decide +kernel
theorem dX6_readings_119 : decode cX6_readings 119 = .ok (.invokevirtual 131, 3) := by decide +kernel
theorem dX6_readings_122 : decode cX6_readings 122 = .ok (.ifCond .eq 12, 3) := by decide +kernel
theorem dX6_readings_125 : decode cX6_readings 125 = .ok (.aload_n 0, 1) := by decide +kernel
theorem dX6_readings_126 : decode cX6_readings 126 = .ok (.getfield 61, 3) := by decide +kernel
theorem dX6_readings_129 : decode cX6_readings 129 = .ok (.iload_n 3, 1) := by decide +kernel
theorem dX6_readings_130 : decode cX6_readings 130 = .ok (.laload, 1) := by decide +kernel
theorem dX6_readings_131 : decode cX6_readings 131 = .ok (.goto 4, 3) := by decide +kernel
theorem dX6_readings_134 : decode cX6_readings 134 = .ok (.lconst 0, 1) := by decide +kernel
theorem dX6_readings_135 : decode cX6_readings 135 = .ok (.ladd, 1) := by decide +kernel
theorem dX6_readings_136 : decode cX6_readings 136 = .ok (.lastore, 1) := by decide +kernel
theorem dX6_readings_137 : decode cX6_readings 137 = .ok (.iinc 3 1, 3) := by decide +kernel
theorem dX6_readings_140 : decode cX6_readings 140 = .ok (.goto (-50), 3) := by decide +kernel
theorem dX6_readings_143 : decode cX6_readings 143 = .ok (.iinc 2 1, 3) := by decide +kernel
theorem dX6_readings_146 : decode cX6_readings 146 = .ok (.goto (-66), 3) := by decide +kernel
theorem dX6_readings_149 : decode cX6_readings 149 = .ok (.iconst 0, 1) := by decide +kernel
theorem dX6_readings_150 : decode cX6_readings 150 = .ok (.istore_n 2, 1) := by decide +kernel
theorem dX6_readings_151 : decode cX6_readings 151 = .ok (.iload_n 2, 1) := by decide +kernel
theorem dX6_readings_152 : decode cX6_readings 152 = .ok (.iconst 4, 1) := by decide +kernel
theorem dX6_readings_153 : decode cX6_readings 153 = .ok (.if_icmp .ge 40, 3) := by decide +kernel
theorem dX6_readings_156 : decode cX6_readings 156 = .ok (.aload_n 0, 1) := by decide +kernel
theorem dX6_readings_157 : decode cX6_readings 157 = .ok (.getfield 61, 3) := by decide +kernel
theorem dX6_readings_160 : decode cX6_readings 160 = .ok (.iload_n 2, 1) := by decide +kernel
theorem dX6_readings_161 : decode cX6_readings 161 = .ok (.aload_n 0, 1) := by decide +kernel
theorem dX6_readings_162 : decode cX6_readings 162 = .ok (.getfield 64, 3) := by decide +kernel
theorem dX6_readings_165 : decode cX6_readings 165 = .ok (.iload_n 2, 1) := by decide +kernel
theorem dX6_readings_166 : decode cX6_readings 166 = .ok (.laload, 1) := by decide +kernel
theorem dX6_readings_167 : decode cX6_readings 167 = .ok (.ldc2_w 162, 3) := by decide +kernel
theorem dX6_readings_170 : decode cX6_readings 170 = .ok (.lcmp, 1) := by decide +kernel
theorem dX6_readings_171 : decode cX6_readings 171 = .ok (.ifCond .le 9, 3) := by decide +kernel
theorem dX6_readings_174 : decode cX6_readings 174 = .ok (.ldc2_w 162, 3) := by decide +kernel
theorem dX6_readings_177 : decode cX6_readings 177 = .ok (.goto 9, 3) := by decide +kernel
theorem dX6_readings_180 : decode cX6_readings 180 = .ok (.aload_n 0, 1) := by decide +kernel
theorem dX6_readings_181 : decode cX6_readings 181 = .ok (.getfield 64, 3) := by decide +kernel
theorem dX6_readings_184 : decode cX6_readings 184 = .ok (.iload_n 2, 1) := by decide +kernel
theorem dX6_readings_185 : decode cX6_readings 185 = .ok (.laload, 1) := by decide +kernel
theorem dX6_readings_186 : decode cX6_readings 186 = .ok (.lastore, 1) := by decide +kernel
theorem dX6_readings_187 : decode cX6_readings 187 = .ok (.iinc 2 1, 3) := by decide +kernel
theorem dX6_readings_190 : decode cX6_readings 190 = .ok (.goto (-39), 3) := by decide +kernel
theorem dX6_readings_193 : decode cX6_readings 193 = .ok (.iinc 1 1, 3) := by decide +kernel
theorem dX6_readings_196 : decode cX6_readings 196 = .ok (.goto (-146), 3) := by decide +kernel
theorem dX6_readings_199 : decode cX6_readings 199 = .ok (.aload_n 0, 1) := by decide +kernel
theorem dX6_readings_200 : decode cX6_readings 200 = .ok (.getfield 61, 3) := by decide +kernel
theorem dX6_readings_203 : decode cX6_readings 203 = .ok (.iconst 0, 1) := by decide +kernel
theorem dX6_readings_204 : decode cX6_readings 204 = .ok (.laload, 1) := by decide +kernel
theorem dX6_readings_205 : decode cX6_readings 205 = .ok (.aload_n 0, 1) := by decide +kernel
theorem dX6_readings_206 : decode cX6_readings 206 = .ok (.getfield 61, 3) := by decide +kernel
theorem dX6_readings_209 : decode cX6_readings 209 = .ok (.iconst 1, 1) := by decide +kernel
theorem dX6_readings_210 : decode cX6_readings 210 = .ok (.laload, 1) := by decide +kernel
theorem dX6_readings_211 : decode cX6_readings 211 = .ok (.ladd, 1) := by decide +kernel
theorem dX6_readings_212 : decode cX6_readings 212 = .ok (.aload_n 0, 1) := by decide +kernel
theorem dX6_readings_213 : decode cX6_readings 213 = .ok (.getfield 61, 3) := by decide +kernel
theorem dX6_readings_216 : decode cX6_readings 216 = .ok (.iconst 2, 1) := by decide +kernel
theorem dX6_readings_217 : decode cX6_readings 217 = .ok (.laload, 1) := by decide +kernel
theorem dX6_readings_218 : decode cX6_readings 218 = .ok (.ladd, 1) := by decide +kernel
theorem dX6_readings_219 : decode cX6_readings 219 = .ok (.lstore_n 1, 1) := by decide +kernel
theorem dX6_readings_220 : decode cX6_readings 220 = .ok (.lload_n 1, 1) := by decide +kernel
theorem dX6_readings_221 : decode cX6_readings 221 = .ok (.ldc2_w 162, 3) := by decide +kernel
theorem dX6_readings_224 : decode cX6_readings 224 = .ok (.lcmp, 1) := by decide +kernel
theorem dX6_readings_225 : decode cX6_readings 225 = .ok (.ifCond .le 8, 3) := by decide +kernel
theorem dX6_readings_228 : decode cX6_readings 228 = .ok (.ldc 164, 2) := by decide +kernel
theorem dX6_readings_230 : decode cX6_readings 230 = .ok (.goto 5, 3) := by decide +kernel
theorem dX6_readings_233 : decode cX6_readings 233 = .ok (.lload_n 1, 1) := by decide +kernel
theorem dX6_readings_234 : decode cX6_readings 234 = .ok (.l2i, 1) := by decide +kernel
theorem dX6_readings_235 : decode cX6_readings 235 = .ok (.ireturn, 1) := by decide +kernel
set_option maxRecDepth 20000 in
theorem ggX6_yearsOf_X6_owns : GoodIn wsX6_yearsOf wsX6_owns := goodIn_r _ [11, 4, 12, 13, 14, 15, 16, 10, 17, 18, 19, 20, 21, 22, 23, 24, 25, 26, 27, 28, 29, 30, 31, 44, 45, 46, 47, 48, 49, 50, 51, 52, 53, 54, 55, 56, 57, 58, 59, 60, 61, 62, 63, 64, 65, 66] (by decide +kernel) (by decide +kernel)
set_option maxRecDepth 20000 in
theorem gX6_yearsOf_X6_owns : GoodIn wsX6_yearsOf (wsV RX6 134 RX6 yX6_owns wsX6_owns) := goodIn_app (goodIn_of _ (by decide +kernel)) ggX6_yearsOf_X6_owns
set_option maxRecDepth 20000 in
theorem ggX6_yearsOf_X6_isFit : GoodIn wsX6_yearsOf wsX6_isFit := goodIn_r _ [35, 12, 36, 37, 38, 13, 44, 45, 46, 47, 48, 49, 50, 51, 52, 53, 54, 55, 56, 57, 58, 59, 60, 61, 62, 63, 64, 65, 66] (by decide +kernel) (by decide +kernel)
set_option maxRecDepth 20000 in
theorem gX6_yearsOf_X6_isFit : GoodIn wsX6_yearsOf (wsV RX6 159 RX6 yX6_isFit wsX6_isFit) := goodIn_app (goodIn_of _ (by decide +kernel)) ggX6_yearsOf_X6_isFit
set_option maxRecDepth 20000 in
theorem ggX6_yearsOf_X6_isAfter : GoodIn wsX6_yearsOf wsX6_isAfter := goodIn_r _ [42, 43, 5, 44, 45, 46, 47, 48, 49, 50, 51, 52, 53, 54, 55, 56, 57, 58, 59, 60, 61, 62, 63, 64, 65, 66] (by decide +kernel) (by decide +kernel)
set_option maxRecDepth 20000 in
theorem gX6_yearsOf_X6_isAfter : GoodIn wsX6_yearsOf (wsV RX6 131 RX6 yX6_isAfter wsX6_isAfter) := goodIn_app (goodIn_of _ (by decide +kernel)) ggX6_yearsOf_X6_isAfter
theorem dX6_yearsOf_0 : decode cX6_yearsOf 0 = .ok (.aload_n 0, 1) := by decide +kernel
theorem dX6_yearsOf_1 : decode cX6_yearsOf 1 = .ok (.iload_n 1, 1) := by decide +kernel
theorem dX6_yearsOf_2 : decode cX6_yearsOf 2 = .ok (.iload_n 2, 1) := by decide +kernel
theorem dX6_yearsOf_3 : decode cX6_yearsOf 3 = .ok (.aload_n 0, 1) := by decide +kernel
theorem dX6_yearsOf_4 : decode cX6_yearsOf 4 = .ok (.getfield 39, 3) := by decide +kernel
theorem dX6_yearsOf_7 : decode cX6_yearsOf 7 = .ok (.invokevirtual 134, 3) := by decide +kernel
theorem dX6_yearsOf_10 : decode cX6_yearsOf 10 = .ok (.iconst 0, 1) := by decide +kernel
theorem dX6_yearsOf_11 : decode cX6_yearsOf 11 = .ok (.istore_n 3, 1) := by decide +kernel
theorem dX6_yearsOf_12 : decode cX6_yearsOf 12 = .ok (.iload_n 3, 1) := by decide +kernel
theorem dX6_yearsOf_13 : decode cX6_yearsOf 13 = .ok (.aload_n 0, 1) := by decide +kernel
theorem dX6_yearsOf_14 : decode cX6_yearsOf 14 = .ok (.getfield 154, 3) := by decide +kernel
theorem dX6_yearsOf_17 : decode cX6_yearsOf 17 = .ok (.if_icmp .ge 238, 3) := by decide +kernel
theorem dX6_yearsOf_20 : decode cX6_yearsOf 20 = .ok (.iconst 0, 1) := by decide +kernel
theorem dX6_yearsOf_21 : decode cX6_yearsOf 21 = .ok (.istore 4, 2) := by decide +kernel
theorem dX6_yearsOf_23 : decode cX6_yearsOf 23 = .ok (.iload 4, 2) := by decide +kernel
theorem dX6_yearsOf_25 : decode cX6_yearsOf 25 = .ok (.sipush 9003, 3) := by decide +kernel
theorem dX6_yearsOf_28 : decode cX6_yearsOf 28 = .ok (.if_icmp .ge 17, 3) := by decide +kernel
theorem dX6_yearsOf_31 : decode cX6_yearsOf 31 = .ok (.aload_n 0, 1) := by decide +kernel
theorem dX6_yearsOf_32 : decode cX6_yearsOf 32 = .ok (.getfield 58, 3) := by decide +kernel
theorem dX6_yearsOf_35 : decode cX6_yearsOf 35 = .ok (.iload 4, 2) := by decide +kernel
theorem dX6_yearsOf_37 : decode cX6_yearsOf 37 = .ok (.iconst 0, 1) := by decide +kernel
theorem dX6_yearsOf_38 : decode cX6_yearsOf 38 = .ok (.bastore, 1) := by decide +kernel
theorem dX6_yearsOf_39 : decode cX6_yearsOf 39 = .ok (.iinc 4 1, 3) := by decide +kernel
theorem dX6_yearsOf_42 : decode cX6_yearsOf 42 = .ok (.goto (-19), 3) := by decide +kernel
theorem dX6_yearsOf_45 : decode cX6_yearsOf 45 = .ok (.iconst 0, 1) := by decide +kernel
theorem dX6_yearsOf_46 : decode cX6_yearsOf 46 = .ok (.istore 4, 2) := by decide +kernel
theorem dX6_yearsOf_48 : decode cX6_yearsOf 48 = .ok (.iload 4, 2) := by decide +kernel
theorem dX6_yearsOf_50 : decode cX6_yearsOf 50 = .ok (.aload_n 0, 1) := by decide +kernel
theorem dX6_yearsOf_51 : decode cX6_yearsOf 51 = .ok (.getfield 124, 3) := by decide +kernel
theorem dX6_yearsOf_54 : decode cX6_yearsOf 54 = .ok (.if_icmp .ge 164, 3) := by decide +kernel
theorem dX6_yearsOf_57 : decode cX6_yearsOf 57 = .ok (.aload_n 0, 1) := by decide +kernel
theorem dX6_yearsOf_58 : decode cX6_yearsOf 58 = .ok (.iload 4, 2) := by decide +kernel
theorem dX6_yearsOf_60 : decode cX6_yearsOf 60 = .ok (.iload_n 3, 1) := by decide +kernel
theorem dX6_yearsOf_61 : decode cX6_yearsOf 61 = .ok (.invokevirtual 159, 3) := by decide +kernel
theorem dX6_yearsOf_64 : decode cX6_yearsOf 64 = .ok (.ifCond .eq 148, 3) := by decide +kernel
theorem dX6_yearsOf_67 : decode cX6_yearsOf 67 = .ok (.iconst 0, 1) := by decide +kernel
theorem dX6_yearsOf_68 : decode cX6_yearsOf 68 = .ok (.istore 5, 2) := by decide +kernel
theorem dX6_yearsOf_70 : decode cX6_yearsOf 70 = .ok (.iload 5, 2) := by decide +kernel
theorem dX6_yearsOf_72 : decode cX6_yearsOf 72 = .ok (.iconst 4, 1) := by decide +kernel
theorem dX6_yearsOf_73 : decode cX6_yearsOf 73 = .ok (.if_icmp .ge 139, 3) := by decide +kernel
theorem dX6_yearsOf_76 : decode cX6_yearsOf 76 = .ok (.iload_n 3, 1) := by decide +kernel
theorem dX6_yearsOf_77 : decode cX6_yearsOf 77 = .ok (.ifCond .ne 7, 3) := by decide +kernel
theorem dX6_yearsOf_80 : decode cX6_yearsOf 80 = .ok (.iconst 1, 1) := by decide +kernel
theorem dX6_yearsOf_81 : decode cX6_yearsOf 81 = .ok (.goto 4, 3) := by decide +kernel
theorem dX6_yearsOf_84 : decode cX6_yearsOf 84 = .ok (.iconst 0, 1) := by decide +kernel
theorem dX6_yearsOf_85 : decode cX6_yearsOf 85 = .ok (.istore 6, 2) := by decide +kernel
theorem dX6_yearsOf_87 : decode cX6_yearsOf 87 = .ok (.aload_n 0, 1) := by decide +kernel
theorem dX6_yearsOf_88 : decode cX6_yearsOf 88 = .ok (.iload 5, 2) := by decide +kernel
theorem dX6_yearsOf_90 : decode cX6_yearsOf 90 = .ok (.iload 4, 2) := by decide +kernel
theorem dX6_yearsOf_92 : decode cX6_yearsOf 92 = .ok (.invokevirtual 131, 3) := by decide +kernel
theorem dX6_yearsOf_95 : decode cX6_yearsOf 95 = .ok (.ifCond .eq 111, 3) := by decide +kernel
theorem dX6_yearsOf_98 : decode cX6_yearsOf 98 = .ok (.iload 5, 2) := by decide +kernel
theorem dX6_yearsOf_100 : decode cX6_yearsOf 100 = .ok (.iconst 3, 1) := by decide +kernel
theorem dX6_yearsOf_101 : decode cX6_yearsOf 101 = .ok (.if_icmp .ne 7, 3) := by decide +kernel
theorem dX6_yearsOf_104 : decode cX6_yearsOf 104 = .ok (.iconst 1, 1) := by decide +kernel
theorem dX6_yearsOf_105 : decode cX6_yearsOf 105 = .ok (.goto 4, 3) := by decide +kernel
theorem dX6_yearsOf_108 : decode cX6_yearsOf 108 = .ok (.iconst 0, 1) := by decide +kernel
theorem dX6_yearsOf_109 : decode cX6_yearsOf 109 = .ok (.iload 6, 2) := by decide +kernel
theorem dX6_yearsOf_111 : decode cX6_yearsOf 111 = .ok (.if_icmp .ne 95, 3) := by decide +kernel
theorem dX6_yearsOf_114 : decode cX6_yearsOf 114 = .ok (.aload_n 0, 1) := by decide +kernel
theorem dX6_yearsOf_115 : decode cX6_yearsOf 115 = .ok (.getfield 39, 3) := by decide +kernel
theorem dX6_yearsOf_118 : decode cX6_yearsOf 118 = .ok (.iload 4, 2) := by decide +kernel
theorem dX6_yearsOf_120 : decode cX6_yearsOf 120 = .ok (.iaload, 1) := by decide +kernel
theorem dX6_yearsOf_121 : decode cX6_yearsOf 121 = .ok (.istore 7, 2) := by decide +kernel
theorem dX6_yearsOf_123 : decode cX6_yearsOf 123 = .ok (.iload 7, 2) := by decide +kernel
theorem dX6_yearsOf_125 : decode cX6_yearsOf 125 = .ok (.sipush 3000, 3) := by decide +kernel
theorem dX6_yearsOf_128 : decode cX6_yearsOf 128 = .ok (.if_icmp .gt 78, 3) := by decide +kernel
theorem dX6_yearsOf_131 : decode cX6_yearsOf 131 = .ok (.aload_n 0, 1) := by decide +kernel
theorem dX6_yearsOf_132 : decode cX6_yearsOf 132 = .ok (.getfield 58, 3) := by decide +kernel
theorem dX6_yearsOf_135 : decode cX6_yearsOf 135 = .ok (.sipush 3001, 3) := by decide +kernel
theorem dX6_yearsOf_138 : decode cX6_yearsOf 138 = .ok (.aload_n 0, 1) := by decide +kernel
theorem dX6_yearsOf_139 : decode cX6_yearsOf 139 = .ok (.getfield 25, 3) := by decide +kernel
theorem dX6_yearsOf_142 : decode cX6_yearsOf 142 = .ok (.iload 4, 2) := by decide +kernel
theorem dX6_yearsOf_144 : decode cX6_yearsOf 144 = .ok (.iaload, 1) := by decide +kernel
theorem dX6_yearsOf_145 : decode cX6_yearsOf 145 = .ok (.imul, 1) := by decide +kernel
theorem dX6_yearsOf_146 : decode cX6_yearsOf 146 = .ok (.iload 7, 2) := by decide +kernel
theorem dX6_yearsOf_148 : decode cX6_yearsOf 148 = .ok (.iadd, 1) := by decide +kernel
theorem dX6_yearsOf_149 : decode cX6_yearsOf 149 = .ok (.dup2, 1) := by decide +kernel
theorem dX6_yearsOf_150 : decode cX6_yearsOf 150 = .ok (.baload, 1) := by decide +kernel
theorem dX6_yearsOf_151 : decode cX6_yearsOf 151 = .ok (.iload 6, 2) := by decide +kernel
theorem dX6_yearsOf_153 : decode cX6_yearsOf 153 = .ok (.ifCond .eq 23, 3) := by decide +kernel
theorem dX6_yearsOf_156 : decode cX6_yearsOf 156 = .ok (.iload 7, 2) := by decide +kernel
theorem dX6_yearsOf_158 : decode cX6_yearsOf 158 = .ok (.aload_n 0, 1) := by decide +kernel
theorem dX6_yearsOf_159 : decode cX6_yearsOf 159 = .ok (.getfield 39, 3) := by decide +kernel
theorem dX6_yearsOf_162 : decode cX6_yearsOf 162 = .ok (.iload 4, 2) := by decide +kernel
theorem dX6_yearsOf_164 : decode cX6_yearsOf 164 = .ok (.iaload, 1) := by decide +kernel
theorem dX6_yearsOf_165 : decode cX6_yearsOf 165 = .ok (.if_icmp .ne 7, 3) := by decide +kernel
theorem dX6_yearsOf_168 : decode cX6_yearsOf 168 = .ok (.iconst 1, 1) := by decide +kernel
theorem dX6_yearsOf_169 : decode cX6_yearsOf 169 = .ok (.goto 29, 3) := by decide +kernel
theorem dX6_yearsOf_172 : decode cX6_yearsOf 172 = .ok (.iconst 0, 1) := by decide +kernel
theorem dX6_yearsOf_173 : decode cX6_yearsOf 173 = .ok (.goto 25, 3) := by decide +kernel
theorem dX6_yearsOf_176 : decode cX6_yearsOf 176 = .ok (.aload_n 0, 1) := by decide +kernel
theorem dX6_yearsOf_177 : decode cX6_yearsOf 177 = .ok (.getfield 54, 3) := by decide +kernel
theorem dX6_yearsOf_180 : decode cX6_yearsOf 180 = .ok (.sipush 3001, 3) := by decide +kernel
theorem dX6_yearsOf_183 : decode cX6_yearsOf 183 = .ok (.iload 5, 2) := by decide +kernel
theorem dX6_yearsOf_185 : decode cX6_yearsOf 185 = .ok (.imul, 1) := by decide +kernel
theorem dX6_yearsOf_186 : decode cX6_yearsOf 186 = .ok (.iload 7, 2) := by decide +kernel
theorem dX6_yearsOf_188 : decode cX6_yearsOf 188 = .ok (.iadd, 1) := by decide +kernel
theorem dX6_yearsOf_189 : decode cX6_yearsOf 189 = .ok (.aload_n 0, 1) := by decide +kernel
theorem dX6_yearsOf_190 : decode cX6_yearsOf 190 = .ok (.getfield 39, 3) := by decide +kernel
theorem dX6_yearsOf_193 : decode cX6_yearsOf 193 = .ok (.iload 4, 2) := by decide +kernel
theorem dX6_yearsOf_195 : decode cX6_yearsOf 195 = .ok (.iaload, 1) := by decide +kernel
theorem dX6_yearsOf_196 : decode cX6_yearsOf 196 = .ok (.isub, 1) := by decide +kernel
theorem dX6_yearsOf_197 : decode cX6_yearsOf 197 = .ok (.baload, 1) := by decide +kernel
theorem dX6_yearsOf_198 : decode cX6_yearsOf 198 = .ok (.ior, 1) := by decide +kernel
theorem dX6_yearsOf_199 : decode cX6_yearsOf 199 = .ok (.bastore, 1) := by decide +kernel
theorem dX6_yearsOf_200 : decode cX6_yearsOf 200 = .ok (.iinc 7 1, 3) := by decide +kernel
theorem dX6_yearsOf_203 : decode cX6_yearsOf 203 = .ok (.goto (-80), 3) := by decide +kernel
theorem dX6_yearsOf_206 : decode cX6_yearsOf 206 = .ok (.iinc 5 1, 3) := by decide +kernel
theorem dX6_yearsOf_209 : decode cX6_yearsOf 209 = .ok (.goto (-139), 3) := by decide +kernel
theorem dX6_yearsOf_212 : decode cX6_yearsOf 212 = .ok (.iinc 4 1, 3) := by decide +kernel
theorem dX6_yearsOf_215 : decode cX6_yearsOf 215 = .ok (.goto (-167), 3) := by decide +kernel
theorem dX6_yearsOf_218 : decode cX6_yearsOf 218 = .ok (.iconst 0, 1) := by decide +kernel
theorem dX6_yearsOf_219 : decode cX6_yearsOf 219 = .ok (.istore 4, 2) := by decide +kernel
theorem dX6_yearsOf_221 : decode cX6_yearsOf 221 = .ok (.iload 4, 2) := by decide +kernel
theorem dX6_yearsOf_223 : decode cX6_yearsOf 223 = .ok (.sipush 9003, 3) := by decide +kernel
theorem dX6_yearsOf_226 : decode cX6_yearsOf 226 = .ok (.if_icmp .ge 23, 3) := by decide +kernel
theorem dX6_yearsOf_229 : decode cX6_yearsOf 229 = .ok (.aload_n 0, 1) := by decide +kernel
theorem dX6_yearsOf_230 : decode cX6_yearsOf 230 = .ok (.getfield 54, 3) := by decide +kernel
theorem dX6_yearsOf_233 : decode cX6_yearsOf 233 = .ok (.iload 4, 2) := by decide +kernel
theorem dX6_yearsOf_235 : decode cX6_yearsOf 235 = .ok (.aload_n 0, 1) := by decide +kernel
theorem dX6_yearsOf_236 : decode cX6_yearsOf 236 = .ok (.getfield 58, 3) := by decide +kernel
theorem dX6_yearsOf_239 : decode cX6_yearsOf 239 = .ok (.iload 4, 2) := by decide +kernel
theorem dX6_yearsOf_241 : decode cX6_yearsOf 241 = .ok (.baload, 1) := by decide +kernel
theorem dX6_yearsOf_242 : decode cX6_yearsOf 242 = .ok (.bastore, 1) := by decide +kernel
theorem dX6_yearsOf_243 : decode cX6_yearsOf 243 = .ok (.iinc 4 1, 3) := by decide +kernel
theorem dX6_yearsOf_246 : decode cX6_yearsOf 246 = .ok (.goto (-25), 3) := by decide +kernel
theorem dX6_yearsOf_249 : decode cX6_yearsOf 249 = .ok (.iinc 3 1, 3) := by decide +kernel
theorem dX6_yearsOf_252 : decode cX6_yearsOf 252 = .ok (.goto (-240), 3) := by decide +kernel
theorem dX6_yearsOf_255 : decode cX6_yearsOf 255 = .ok (.return_, 1) := by decide +kernel
set_option maxRecDepth 20000 in
theorem ggX6_years_X6_isWay : GoodIn wsX6_years wsX6_isWay := goodIn_r _ [8, 9, 2, 10, 11, 7, 12] (by decide +kernel) (by decide +kernel)
set_option maxRecDepth 20000 in
theorem gX6_years_X6_isWay : GoodIn wsX6_years (va_wsS RX6 97 yX6_isWay wsX6_isWay) := goodIn_app (goodIn_of _ (by decide +kernel)) ggX6_years_X6_isWay
set_option maxRecDepth 20000 in
theorem ggX6_years_X6_in : GoodIn wsX6_years wsX6_in := goodIn_r _ [12] (by decide +kernel) (by decide +kernel)
set_option maxRecDepth 20000 in
theorem gX6_years_X6_in : GoodIn wsX6_years (va_wsS RX6 73 yX6_in wsX6_in) := goodIn_app (goodIn_of _ (by decide +kernel)) ggX6_years_X6_in
set_option maxRecDepth 20000 in
theorem ggX6_years_X6_parts : GoodIn wsX6_years wsX6_parts := goodIn_r _ [16, 3, 17, 18, 19, 20, 59, 60, 61, 62, 63, 64, 65, 66, 67, 68, 69, 70, 71, 72, 73, 74, 75, 76, 77, 78, 79, 80, 81] (by decide +kernel) (by decide +kernel)
set_option maxRecDepth 20000 in
theorem gX6_years_X6_parts : GoodIn wsX6_years (wsV RX6 157 RX6 yX6_parts wsX6_parts) := goodIn_app (goodIn_of _ (by decide +kernel)) ggX6_years_X6_parts
set_option maxRecDepth 20000 in
theorem ggX6_years_X6_yearsOf : GoodIn wsX6_years wsX6_yearsOf := goodIn_r _ [24, 25, 3, 26, 27, 28, 4, 29, 30, 31, 7, 32, 33, 34, 35, 36, 37, 38, 39, 40, 41, 42, 43, 44, 10, 11, 12, 45, 46, 47, 48, 49, 50, 51, 52, 53, 20, 18, 19, 54, 55, 56, 57, 58, 59, 60, 61, 62, 63, 64, 65, 66, 67, 68, 69, 70, 71, 72, 73, 74, 75, 76, 77, 78, 79, 80, 81] (by decide +kernel) (by decide +kernel)
set_option maxRecDepth 20000 in
theorem gX6_years_X6_yearsOf : GoodIn wsX6_years (wsV RX6 165 RX6 yX6_yearsOf wsX6_yearsOf) := goodIn_app (goodIn_of _ (by decide +kernel)) ggX6_years_X6_yearsOf
theorem dX6_years_0 : decode cX6_years 0 = .ok (.aload_n 0, 1) := by decide +kernel
theorem dX6_years_1 : decode cX6_years 1 = .ok (.iconst 0, 1) := by decide +kernel
theorem dX6_years_2 : decode cX6_years 2 = .ok (.putfield 67, 3) := by decide +kernel
theorem dX6_years_5 : decode cX6_years 5 = .ok (.iload_n 1, 1) := by decide +kernel
theorem dX6_years_6 : decode cX6_years 6 = .ok (.iload_n 2, 1) := by decide +kernel
theorem dX6_years_7 : decode cX6_years 7 = .ok (.invokestatic 97, 3) := by decide +kernel
theorem dX6_years_10 : decode cX6_years 10 = .ok (.ifCond .eq 15, 3) := by decide +kernel
theorem dX6_years_13 : decode cX6_years 13 = .ok (.iload_n 3, 1) := by decide +kernel
theorem dX6_years_14 : decode cX6_years 14 = .ok (.i2l, 1) := by decide +kernel
theorem dX6_years_15 : decode cX6_years 15 = .ok (.lconst 0, 1) := by decide +kernel
theorem dX6_years_16 : decode cX6_years 16 = .ok (.ldc2_w 71, 3) := by decide +kernel
theorem dX6_years_19 : decode cX6_years 19 = .ok (.invokestatic 73, 3) := by decide +kernel
theorem dX6_years_22 : decode cX6_years 22 = .ok (.ifCond .ne 5, 3) := by decide +kernel
theorem dX6_years_25 : decode cX6_years 25 = .ok (.iconst (-1), 1) := by decide +kernel
theorem dX6_years_26 : decode cX6_years 26 = .ok (.ireturn, 1) := by decide +kernel
theorem dX6_years_27 : decode cX6_years 27 = .ok (.aload_n 0, 1) := by decide +kernel
theorem dX6_years_28 : decode cX6_years 28 = .ok (.invokevirtual 157, 3) := by decide +kernel
theorem dX6_years_31 : decode cX6_years 31 = .ok (.aload_n 0, 1) := by decide +kernel
theorem dX6_years_32 : decode cX6_years 32 = .ok (.getfield 154, 3) := by decide +kernel
theorem dX6_years_35 : decode cX6_years 35 = .ok (.ifCond .ne 6, 3) := by decide +kernel
theorem dX6_years_38 : decode cX6_years 38 = .ok (.bipush (-2), 2) := by decide +kernel
theorem dX6_years_40 : decode cX6_years 40 = .ok (.ireturn, 1) := by decide +kernel
theorem dX6_years_41 : decode cX6_years 41 = .ok (.aload_n 0, 1) := by decide +kernel
theorem dX6_years_42 : decode cX6_years 42 = .ok (.iload_n 1, 1) := by decide +kernel
theorem dX6_years_43 : decode cX6_years 43 = .ok (.iload_n 2, 1) := by decide +kernel
theorem dX6_years_44 : decode cX6_years 44 = .ok (.invokevirtual 165, 3) := by decide +kernel
theorem dX6_years_47 : decode cX6_years 47 = .ok (.iconst 0, 1) := by decide +kernel
theorem dX6_years_48 : decode cX6_years 48 = .ok (.istore 4, 2) := by decide +kernel
theorem dX6_years_50 : decode cX6_years 50 = .ok (.bipush (-9), 2) := by decide +kernel
theorem dX6_years_52 : decode cX6_years 52 = .ok (.istore 5, 2) := by decide +kernel
theorem dX6_years_54 : decode cX6_years 54 = .ok (.bipush (-9), 2) := by decide +kernel
theorem dX6_years_56 : decode cX6_years 56 = .ok (.istore 6, 2) := by decide +kernel
theorem dX6_years_58 : decode cX6_years 58 = .ok (.iconst 0, 1) := by decide +kernel
theorem dX6_years_59 : decode cX6_years 59 = .ok (.istore 7, 2) := by decide +kernel
theorem dX6_years_61 : decode cX6_years 61 = .ok (.iload 7, 2) := by decide +kernel
theorem dX6_years_63 : decode cX6_years 63 = .ok (.sipush 3000, 3) := by decide +kernel
theorem dX6_years_66 : decode cX6_years 66 = .ok (.if_icmp .gt 70, 3) := by decide +kernel
theorem dX6_years_69 : decode cX6_years 69 = .ok (.aload_n 0, 1) := by decide +kernel
theorem dX6_years_70 : decode cX6_years 70 = .ok (.getfield 54, 3) := by decide +kernel
theorem dX6_years_73 : decode cX6_years 73 = .ok (.iload 7, 2) := by decide +kernel
theorem dX6_years_75 : decode cX6_years 75 = .ok (.baload, 1) := by decide +kernel
theorem dX6_years_76 : decode cX6_years 76 = .ok (.ifCond .ne 31, 3) := by decide +kernel
theorem dX6_years_79 : decode cX6_years 79 = .ok (.aload_n 0, 1) := by decide +kernel
theorem dX6_years_80 : decode cX6_years 80 = .ok (.getfield 54, 3) := by decide +kernel
theorem dX6_years_83 : decode cX6_years 83 = .ok (.sipush 3001, 3) := by decide +kernel
theorem dX6_years_86 : decode cX6_years 86 = .ok (.iload 7, 2) := by decide +kernel
theorem dX6_years_88 : decode cX6_years 88 = .ok (.iadd, 1) := by decide +kernel
theorem dX6_years_89 : decode cX6_years 89 = .ok (.baload, 1) := by decide +kernel
theorem dX6_years_90 : decode cX6_years 90 = .ok (.ifCond .ne 17, 3) := by decide +kernel
theorem dX6_years_93 : decode cX6_years 93 = .ok (.aload_n 0, 1) := by decide +kernel
theorem dX6_years_94 : decode cX6_years 94 = .ok (.getfield 54, 3) := by decide +kernel
theorem dX6_years_97 : decode cX6_years 97 = .ok (.sipush 6002, 3) := by decide +kernel
theorem dX6_years_100 : decode cX6_years 100 = .ok (.iload 7, 2) := by decide +kernel
theorem dX6_years_102 : decode cX6_years 102 = .ok (.iadd, 1) := by decide +kernel
theorem dX6_years_103 : decode cX6_years 103 = .ok (.baload, 1) := by decide +kernel
theorem dX6_years_104 : decode cX6_years 104 = .ok (.ifCond .eq 26, 3) := by decide +kernel
theorem dX6_years_107 : decode cX6_years 107 = .ok (.iinc 4 1, 3) := by decide +kernel
theorem dX6_years_110 : decode cX6_years 110 = .ok (.iload 5, 2) := by decide +kernel
theorem dX6_years_112 : decode cX6_years 112 = .ok (.bipush (-9), 2) := by decide +kernel
theorem dX6_years_114 : decode cX6_years 114 = .ok (.if_icmp .ne 8, 3) := by decide +kernel
theorem dX6_years_117 : decode cX6_years 117 = .ok (.iload 7, 2) := by decide +kernel
theorem dX6_years_119 : decode cX6_years 119 = .ok (.goto 5, 3) := by decide +kernel
theorem dX6_years_122 : decode cX6_years 122 = .ok (.iload 5, 2) := by decide +kernel
theorem dX6_years_124 : decode cX6_years 124 = .ok (.istore 5, 2) := by decide +kernel
theorem dX6_years_126 : decode cX6_years 126 = .ok (.iload 7, 2) := by decide +kernel
theorem dX6_years_128 : decode cX6_years 128 = .ok (.istore 6, 2) := by decide +kernel
theorem dX6_years_130 : decode cX6_years 130 = .ok (.iinc 7 1, 3) := by decide +kernel
theorem dX6_years_133 : decode cX6_years 133 = .ok (.goto (-72), 3) := by decide +kernel
theorem dX6_years_136 : decode cX6_years 136 = .ok (.iload_n 3, 1) := by decide +kernel
theorem dX6_years_137 : decode cX6_years 137 = .ok (.ifCond .ne 8, 3) := by decide +kernel
theorem dX6_years_140 : decode cX6_years 140 = .ok (.iload 4, 2) := by decide +kernel
theorem dX6_years_142 : decode cX6_years 142 = .ok (.goto 34, 3) := by decide +kernel
theorem dX6_years_145 : decode cX6_years 145 = .ok (.iload_n 3, 1) := by decide +kernel
theorem dX6_years_146 : decode cX6_years 146 = .ok (.iconst 1, 1) := by decide +kernel
theorem dX6_years_147 : decode cX6_years 147 = .ok (.if_icmp .ne 8, 3) := by decide +kernel
theorem dX6_years_150 : decode cX6_years 150 = .ok (.iload 5, 2) := by decide +kernel
theorem dX6_years_152 : decode cX6_years 152 = .ok (.goto 24, 3) := by decide +kernel
theorem dX6_years_155 : decode cX6_years 155 = .ok (.iload_n 3, 1) := by decide +kernel
theorem dX6_years_156 : decode cX6_years 156 = .ok (.iconst 2, 1) := by decide +kernel
theorem dX6_years_157 : decode cX6_years 157 = .ok (.if_icmp .ne 8, 3) := by decide +kernel
theorem dX6_years_160 : decode cX6_years 160 = .ok (.iload 6, 2) := by decide +kernel
theorem dX6_years_162 : decode cX6_years 162 = .ok (.goto 14, 3) := by decide +kernel
theorem dX6_years_165 : decode cX6_years 165 = .ok (.iload 4, 2) := by decide +kernel
theorem dX6_years_167 : decode cX6_years 167 = .ok (.iconst 1, 1) := by decide +kernel
theorem dX6_years_168 : decode cX6_years 168 = .ok (.if_icmp .ne 7, 3) := by decide +kernel
theorem dX6_years_171 : decode cX6_years 171 = .ok (.iconst 1, 1) := by decide +kernel
theorem dX6_years_172 : decode cX6_years 172 = .ok (.goto 4, 3) := by decide +kernel
theorem dX6_years_175 : decode cX6_years 175 = .ok (.iconst 0, 1) := by decide +kernel
theorem dX6_years_176 : decode cX6_years 176 = .ok (.ireturn, 1) := by decide +kernel
set_option maxRecDepth 20000 in
theorem ggX6_borne_X6_in : GoodIn wsX6_borne wsX6_in := goodIn_r _ [6] (by decide +kernel) (by decide +kernel)
set_option maxRecDepth 20000 in
theorem gX6_borne_X6_in : GoodIn wsX6_borne (va_wsS RX6 73 yX6_in wsX6_in) := goodIn_app (goodIn_of _ (by decide +kernel)) ggX6_borne_X6_in
set_option maxRecDepth 20000 in
theorem ggX6_borne_X6_sumOf : GoodIn wsX6_borne wsX6_sumOf := goodIn_r _ [10, 11, 12, 13, 14, 15, 5, 16, 17, 18, 19, 20, 21, 22, 3, 4, 6, 23, 24, 25, 26, 27, 28, 29, 30, 31, 32, 33, 34, 35, 36, 37, 38, 39, 40, 41, 42, 43, 44, 45, 46, 47, 48, 49, 50] (by decide +kernel) (by decide +kernel)
set_option maxRecDepth 20000 in
theorem gX6_borne_X6_sumOf : GoodIn wsX6_borne (wsV RX6 120 RX6 yX6_sumOf wsX6_sumOf) := goodIn_app (goodIn_of _ (by decide +kernel)) ggX6_borne_X6_sumOf
theorem dX6_borne_0 : decode cX6_borne 0 = .ok (.aload_n 0, 1) := by decide +kernel
theorem dX6_borne_1 : decode cX6_borne 1 = .ok (.iconst 0, 1) := by decide +kernel
theorem dX6_borne_2 : decode cX6_borne 2 = .ok (.putfield 67, 3) := by decide +kernel
theorem dX6_borne_5 : decode cX6_borne 5 = .ok (.iload_n 1, 1) := by decide +kernel
theorem dX6_borne_6 : decode cX6_borne 6 = .ok (.i2l, 1) := by decide +kernel
theorem dX6_borne_7 : decode cX6_borne 7 = .ok (.lconst 0, 1) := by decide +kernel
theorem dX6_borne_8 : decode cX6_borne 8 = .ok (.ldc2_w 169, 3) := by decide +kernel
theorem dX6_borne_11 : decode cX6_borne 11 = .ok (.invokestatic 73, 3) := by decide +kernel
theorem dX6_borne_14 : decode cX6_borne 14 = .ok (.ifCond .ne 5, 3) := by decide +kernel
theorem dX6_borne_17 : decode cX6_borne 17 = .ok (.iconst (-1), 1) := by decide +kernel
theorem dX6_borne_18 : decode cX6_borne 18 = .ok (.ireturn, 1) := by decide +kernel
theorem dX6_borne_19 : decode cX6_borne 19 = .ok (.iconst 0, 1) := by decide +kernel
theorem dX6_borne_20 : decode cX6_borne 20 = .ok (.istore_n 2, 1) := by decide +kernel
theorem dX6_borne_21 : decode cX6_borne 21 = .ok (.iconst 0, 1) := by decide +kernel
theorem dX6_borne_22 : decode cX6_borne 22 = .ok (.istore_n 3, 1) := by decide +kernel
theorem dX6_borne_23 : decode cX6_borne 23 = .ok (.iload_n 3, 1) := by decide +kernel
theorem dX6_borne_24 : decode cX6_borne 24 = .ok (.iconst 4, 1) := by decide +kernel
theorem dX6_borne_25 : decode cX6_borne 25 = .ok (.if_icmp .ge 50, 3) := by decide +kernel
theorem dX6_borne_28 : decode cX6_borne 28 = .ok (.iconst 0, 1) := by decide +kernel
theorem dX6_borne_29 : decode cX6_borne 29 = .ok (.istore 4, 2) := by decide +kernel
theorem dX6_borne_31 : decode cX6_borne 31 = .ok (.iload 4, 2) := by decide +kernel
theorem dX6_borne_33 : decode cX6_borne 33 = .ok (.iconst 3, 1) := by decide +kernel
theorem dX6_borne_34 : decode cX6_borne 34 = .ok (.if_icmp .ge 35, 3) := by decide +kernel
theorem dX6_borne_37 : decode cX6_borne 37 = .ok (.iload_n 2, 1) := by decide +kernel
theorem dX6_borne_38 : decode cX6_borne 38 = .ok (.aload_n 0, 1) := by decide +kernel
theorem dX6_borne_39 : decode cX6_borne 39 = .ok (.iload 4, 2) := by decide +kernel
theorem dX6_borne_41 : decode cX6_borne 41 = .ok (.iload_n 3, 1) := by decide +kernel
theorem dX6_borne_42 : decode cX6_borne 42 = .ok (.invokevirtual 120, 3) := by decide +kernel
theorem dX6_borne_45 : decode cX6_borne 45 = .ok (.iload_n 1, 1) := by decide +kernel
theorem dX6_borne_46 : decode cX6_borne 46 = .ok (.if_icmp .ne 14, 3) := by decide +kernel
theorem dX6_borne_49 : decode cX6_borne 49 = .ok (.iconst 1, 1) := by decide +kernel
theorem dX6_borne_50 : decode cX6_borne 50 = .ok (.iconst 3, 1) := by decide +kernel
theorem dX6_borne_51 : decode cX6_borne 51 = .ok (.iload_n 3, 1) := by decide +kernel
theorem dX6_borne_52 : decode cX6_borne 52 = .ok (.imul, 1) := by decide +kernel
theorem dX6_borne_53 : decode cX6_borne 53 = .ok (.iload 4, 2) := by decide +kernel
theorem dX6_borne_55 : decode cX6_borne 55 = .ok (.iadd, 1) := by decide +kernel
theorem dX6_borne_56 : decode cX6_borne 56 = .ok (.ishl, 1) := by decide +kernel
theorem dX6_borne_57 : decode cX6_borne 57 = .ok (.goto 4, 3) := by decide +kernel
theorem dX6_borne_60 : decode cX6_borne 60 = .ok (.iconst 0, 1) := by decide +kernel
theorem dX6_borne_61 : decode cX6_borne 61 = .ok (.ior, 1) := by decide +kernel
theorem dX6_borne_62 : decode cX6_borne 62 = .ok (.istore_n 2, 1) := by decide +kernel
theorem dX6_borne_63 : decode cX6_borne 63 = .ok (.iinc 4 1, 3) := by decide +kernel
theorem dX6_borne_66 : decode cX6_borne 66 = .ok (.goto (-35), 3) := by decide +kernel
theorem dX6_borne_69 : decode cX6_borne 69 = .ok (.iinc 3 1, 3) := by decide +kernel
theorem dX6_borne_72 : decode cX6_borne 72 = .ok (.goto (-49), 3) := by decide +kernel
theorem dX6_borne_75 : decode cX6_borne 75 = .ok (.iload_n 2, 1) := by decide +kernel
theorem dX6_borne_76 : decode cX6_borne 76 = .ok (.ireturn, 1) := by decide +kernel
set_option maxRecDepth 20000 in
theorem ggX6_count_X6_parts : GoodIn wsX6_count wsX6_parts := goodIn_r _ [10, 5, 2, 3, 11, 12, 13, 14, 15, 16, 17, 18, 19, 20, 21, 22, 23, 24, 25, 26, 27, 28, 29, 30, 31, 32, 33, 34, 35] (by decide +kernel) (by decide +kernel)
set_option maxRecDepth 20000 in
theorem gX6_count_X6_parts : GoodIn wsX6_count (wsV RX6 157 RX6 yX6_parts wsX6_parts) := goodIn_app (goodIn_of _ (by decide +kernel)) ggX6_count_X6_parts
theorem dX6_count_0 : decode cX6_count 0 = .ok (.aload_n 0, 1) := by decide +kernel
theorem dX6_count_1 : decode cX6_count 1 = .ok (.iconst 0, 1) := by decide +kernel
theorem dX6_count_2 : decode cX6_count 2 = .ok (.putfield 67, 3) := by decide +kernel
theorem dX6_count_5 : decode cX6_count 5 = .ok (.aload_n 0, 1) := by decide +kernel
theorem dX6_count_6 : decode cX6_count 6 = .ok (.invokevirtual 157, 3) := by decide +kernel
theorem dX6_count_9 : decode cX6_count 9 = .ok (.iconst 0, 1) := by decide +kernel
theorem dX6_count_10 : decode cX6_count 10 = .ok (.istore_n 2, 1) := by decide +kernel
theorem dX6_count_11 : decode cX6_count 11 = .ok (.iconst 0, 1) := by decide +kernel
theorem dX6_count_12 : decode cX6_count 12 = .ok (.istore_n 3, 1) := by decide +kernel
theorem dX6_count_13 : decode cX6_count 13 = .ok (.iload_n 3, 1) := by decide +kernel
theorem dX6_count_14 : decode cX6_count 14 = .ok (.aload_n 0, 1) := by decide +kernel
theorem dX6_count_15 : decode cX6_count 15 = .ok (.getfield 117, 3) := by decide +kernel
theorem dX6_count_18 : decode cX6_count 18 = .ok (.if_icmp .ge 28, 3) := by decide +kernel
theorem dX6_count_21 : decode cX6_count 21 = .ok (.iload_n 2, 1) := by decide +kernel
theorem dX6_count_22 : decode cX6_count 22 = .ok (.aload_n 0, 1) := by decide +kernel
theorem dX6_count_23 : decode cX6_count 23 = .ok (.getfield 13, 3) := by decide +kernel
theorem dX6_count_26 : decode cX6_count 26 = .ok (.iload_n 3, 1) := by decide +kernel
theorem dX6_count_27 : decode cX6_count 27 = .ok (.iaload, 1) := by decide +kernel
theorem dX6_count_28 : decode cX6_count 28 = .ok (.bipush 63, 2) := by decide +kernel
theorem dX6_count_30 : decode cX6_count 30 = .ok (.if_icmp .ne 7, 3) := by decide +kernel
theorem dX6_count_33 : decode cX6_count 33 = .ok (.iconst 1, 1) := by decide +kernel
theorem dX6_count_34 : decode cX6_count 34 = .ok (.goto 4, 3) := by decide +kernel
theorem dX6_count_37 : decode cX6_count 37 = .ok (.iconst 0, 1) := by decide +kernel
theorem dX6_count_38 : decode cX6_count 38 = .ok (.iadd, 1) := by decide +kernel
theorem dX6_count_39 : decode cX6_count 39 = .ok (.istore_n 2, 1) := by decide +kernel
theorem dX6_count_40 : decode cX6_count 40 = .ok (.iinc 3 1, 3) := by decide +kernel
theorem dX6_count_43 : decode cX6_count 43 = .ok (.goto (-30), 3) := by decide +kernel
theorem dX6_count_46 : decode cX6_count 46 = .ok (.iload_n 1, 1) := by decide +kernel
theorem dX6_count_47 : decode cX6_count 47 = .ok (.ifCond .ne 10, 3) := by decide +kernel
theorem dX6_count_50 : decode cX6_count 50 = .ok (.aload_n 0, 1) := by decide +kernel
theorem dX6_count_51 : decode cX6_count 51 = .ok (.getfield 124, 3) := by decide +kernel
theorem dX6_count_54 : decode cX6_count 54 = .ok (.goto 37, 3) := by decide +kernel
theorem dX6_count_57 : decode cX6_count 57 = .ok (.iload_n 1, 1) := by decide +kernel
theorem dX6_count_58 : decode cX6_count 58 = .ok (.iconst 1, 1) := by decide +kernel
theorem dX6_count_59 : decode cX6_count 59 = .ok (.if_icmp .ne 10, 3) := by decide +kernel
theorem dX6_count_62 : decode cX6_count 62 = .ok (.aload_n 0, 1) := by decide +kernel
theorem dX6_count_63 : decode cX6_count 63 = .ok (.getfield 117, 3) := by decide +kernel
theorem dX6_count_66 : decode cX6_count 66 = .ok (.goto 25, 3) := by decide +kernel
theorem dX6_count_69 : decode cX6_count 69 = .ok (.iload_n 1, 1) := by decide +kernel
theorem dX6_count_70 : decode cX6_count 70 = .ok (.iconst 2, 1) := by decide +kernel
theorem dX6_count_71 : decode cX6_count 71 = .ok (.if_icmp .ne 10, 3) := by decide +kernel
theorem dX6_count_74 : decode cX6_count 74 = .ok (.aload_n 0, 1) := by decide +kernel
theorem dX6_count_75 : decode cX6_count 75 = .ok (.getfield 154, 3) := by decide +kernel
theorem dX6_count_78 : decode cX6_count 78 = .ok (.goto 13, 3) := by decide +kernel
theorem dX6_count_81 : decode cX6_count 81 = .ok (.iload_n 1, 1) := by decide +kernel
theorem dX6_count_82 : decode cX6_count 82 = .ok (.iconst 3, 1) := by decide +kernel
theorem dX6_count_83 : decode cX6_count 83 = .ok (.if_icmp .ne 7, 3) := by decide +kernel
theorem dX6_count_86 : decode cX6_count 86 = .ok (.iload_n 2, 1) := by decide +kernel
theorem dX6_count_87 : decode cX6_count 87 = .ok (.goto 4, 3) := by decide +kernel
theorem dX6_count_90 : decode cX6_count 90 = .ok (.iconst (-1), 1) := by decide +kernel
theorem dX6_count_91 : decode cX6_count 91 = .ok (.ireturn, 1) := by decide +kernel
theorem dX6_trace_0 : decode cX6_trace 0 = .ok (.aload_n 0, 1) := by decide +kernel
theorem dX6_trace_1 : decode cX6_trace 1 = .ok (.iconst 0, 1) := by decide +kernel
theorem dX6_trace_2 : decode cX6_trace 2 = .ok (.putfield 67, 3) := by decide +kernel
theorem dX6_trace_5 : decode cX6_trace 5 = .ok (.aload_n 0, 1) := by decide +kernel
theorem dX6_trace_6 : decode cX6_trace 6 = .ok (.getfield 103, 3) := by decide +kernel
theorem dX6_trace_9 : decode cX6_trace 9 = .ok (.lreturn, 1) := by decide +kernel
theorem dJ9_min_f86c9_0 : decode cJ9_min_f86c9 0 = .ok (.lload_n 0, 1) := by decide +kernel
theorem dJ9_min_f86c9_1 : decode cJ9_min_f86c9 1 = .ok (.lload_n 2, 1) := by decide +kernel
theorem dJ9_min_f86c9_2 : decode cJ9_min_f86c9 2 = .ok (.lcmp, 1) := by decide +kernel
theorem dJ9_min_f86c9_3 : decode cJ9_min_f86c9 3 = .ok (.ifCond .gt 7, 3) := by decide +kernel
theorem dJ9_min_f86c9_6 : decode cJ9_min_f86c9 6 = .ok (.lload_n 0, 1) := by decide +kernel
theorem dJ9_min_f86c9_7 : decode cJ9_min_f86c9 7 = .ok (.goto 4, 3) := by decide +kernel
theorem dJ9_min_f86c9_10 : decode cJ9_min_f86c9 10 = .ok (.lload_n 2, 1) := by decide +kernel
theorem dJ9_min_f86c9_11 : decode cJ9_min_f86c9 11 = .ok (.lreturn, 1) := by decide +kernel
theorem dJ7_fill_d0a16_0 : decode cJ7_fill_d0a16 0 = .ok (.iconst 0, 1) := by decide +kernel
theorem dJ7_fill_d0a16_1 : decode cJ7_fill_d0a16 1 = .ok (.istore_n 3, 1) := by decide +kernel
theorem dJ7_fill_d0a16_2 : decode cJ7_fill_d0a16 2 = .ok (.aload_n 0, 1) := by decide +kernel
theorem dJ7_fill_d0a16_3 : decode cJ7_fill_d0a16 3 = .ok (.arraylength, 1) := by decide +kernel
theorem dJ7_fill_d0a16_4 : decode cJ7_fill_d0a16 4 = .ok (.istore 4, 2) := by decide +kernel
theorem dJ7_fill_d0a16_6 : decode cJ7_fill_d0a16 6 = .ok (.iload_n 3, 1) := by decide +kernel
theorem dJ7_fill_d0a16_7 : decode cJ7_fill_d0a16 7 = .ok (.iload 4, 2) := by decide +kernel
theorem dJ7_fill_d0a16_9 : decode cJ7_fill_d0a16 9 = .ok (.if_icmp .ge 13, 3) := by decide +kernel
theorem dJ7_fill_d0a16_12 : decode cJ7_fill_d0a16 12 = .ok (.aload_n 0, 1) := by decide +kernel
theorem dJ7_fill_d0a16_13 : decode cJ7_fill_d0a16 13 = .ok (.iload_n 3, 1) := by decide +kernel
theorem dJ7_fill_d0a16_14 : decode cJ7_fill_d0a16 14 = .ok (.lload_n 1, 1) := by decide +kernel
theorem dJ7_fill_d0a16_15 : decode cJ7_fill_d0a16 15 = .ok (.lastore, 1) := by decide +kernel
theorem dJ7_fill_d0a16_16 : decode cJ7_fill_d0a16 16 = .ok (.iinc 3 1, 3) := by decide +kernel
theorem dJ7_fill_d0a16_19 : decode cJ7_fill_d0a16 19 = .ok (.goto (-13), 3) := by decide +kernel
theorem dJ7_fill_d0a16_22 : decode cJ7_fill_d0a16 22 = .ok (.return_, 1) := by decide +kernel
theorem dJ7_fill_53178_0 : decode cJ7_fill_53178 0 = .ok (.iconst 0, 1) := by decide +kernel
theorem dJ7_fill_53178_1 : decode cJ7_fill_53178 1 = .ok (.istore_n 2, 1) := by decide +kernel
theorem dJ7_fill_53178_2 : decode cJ7_fill_53178 2 = .ok (.aload_n 0, 1) := by decide +kernel
theorem dJ7_fill_53178_3 : decode cJ7_fill_53178 3 = .ok (.arraylength, 1) := by decide +kernel
theorem dJ7_fill_53178_4 : decode cJ7_fill_53178 4 = .ok (.istore_n 3, 1) := by decide +kernel
theorem dJ7_fill_53178_5 : decode cJ7_fill_53178 5 = .ok (.iload_n 2, 1) := by decide +kernel
theorem dJ7_fill_53178_6 : decode cJ7_fill_53178 6 = .ok (.iload_n 3, 1) := by decide +kernel
theorem dJ7_fill_53178_7 : decode cJ7_fill_53178 7 = .ok (.if_icmp .ge 13, 3) := by decide +kernel
theorem dJ7_fill_53178_10 : decode cJ7_fill_53178 10 = .ok (.aload_n 0, 1) := by decide +kernel
theorem dJ7_fill_53178_11 : decode cJ7_fill_53178 11 = .ok (.iload_n 2, 1) := by decide +kernel
theorem dJ7_fill_53178_12 : decode cJ7_fill_53178 12 = .ok (.iload_n 1, 1) := by decide +kernel
theorem dJ7_fill_53178_13 : decode cJ7_fill_53178 13 = .ok (.iastore, 1) := by decide +kernel
theorem dJ7_fill_53178_14 : decode cJ7_fill_53178 14 = .ok (.iinc 2 1, 3) := by decide +kernel
theorem dJ7_fill_53178_17 : decode cJ7_fill_53178 17 = .ok (.goto (-12), 3) := by decide +kernel
theorem dJ7_fill_53178_20 : decode cJ7_fill_53178 20 = .ok (.return_, 1) := by decide +kernel
