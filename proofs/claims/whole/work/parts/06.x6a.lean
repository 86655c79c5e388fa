theorem dX6_init_0 : decode cX6_init 0 = .ok (.aload_n 0, 1) := by decide +kernel
theorem dX6_init_1 : decode cX6_init 1 = .ok (.invokespecial 1, 3) := by decide +kernel
theorem dX6_init_4 : decode cX6_init 4 = .ok (.aload_n 0, 1) := by decide +kernel
theorem dX6_init_5 : decode cX6_init 5 = .ok (.bipush 104, 2) := by decide +kernel
theorem dX6_init_7 : decode cX6_init 7 = .ok (.newarray .int, 2) := by decide +kernel
theorem dX6_init_9 : decode cX6_init 9 = .ok (.putfield 7, 3) := by decide +kernel
theorem dX6_init_12 : decode cX6_init 12 = .ok (.aload_n 0, 1) := by decide +kernel
theorem dX6_init_13 : decode cX6_init 13 = .ok (.bipush 40, 2) := by decide +kernel
theorem dX6_init_15 : decode cX6_init 15 = .ok (.newarray .int, 2) := by decide +kernel
theorem dX6_init_17 : decode cX6_init 17 = .ok (.putfield 13, 3) := by decide +kernel
theorem dX6_init_20 : decode cX6_init 20 = .ok (.aload_n 0, 1) := by decide +kernel
theorem dX6_init_21 : decode cX6_init 21 = .ok (.bipush 80, 2) := by decide +kernel
theorem dX6_init_23 : decode cX6_init 23 = .ok (.newarray .int, 2) := by decide +kernel
theorem dX6_init_25 : decode cX6_init 25 = .ok (.putfield 16, 3) := by decide +kernel
theorem dX6_init_28 : decode cX6_init 28 = .ok (.aload_n 0, 1) := by decide +kernel
theorem dX6_init_29 : decode cX6_init 29 = .ok (.bipush 10, 2) := by decide +kernel
theorem dX6_init_31 : decode cX6_init 31 = .ok (.newarray .int, 2) := by decide +kernel
theorem dX6_init_33 : decode cX6_init 33 = .ok (.putfield 19, 3) := by decide +kernel
theorem dX6_init_36 : decode cX6_init 36 = .ok (.aload_n 0, 1) := by decide +kernel
theorem dX6_init_37 : decode cX6_init 37 = .ok (.bipush 10, 2) := by decide +kernel
theorem dX6_init_39 : decode cX6_init 39 = .ok (.newarray .int, 2) := by decide +kernel
theorem dX6_init_41 : decode cX6_init 41 = .ok (.putfield 22, 3) := by decide +kernel
theorem dX6_init_44 : decode cX6_init 44 = .ok (.aload_n 0, 1) := by decide +kernel
theorem dX6_init_45 : decode cX6_init 45 = .ok (.bipush 10, 2) := by decide +kernel
theorem dX6_init_47 : decode cX6_init 47 = .ok (.newarray .int, 2) := by decide +kernel
theorem dX6_init_49 : decode cX6_init 49 = .ok (.putfield 25, 3) := by decide +kernel
theorem dX6_init_52 : decode cX6_init 52 = .ok (.aload_n 0, 1) := by decide +kernel
theorem dX6_init_53 : decode cX6_init 53 = .ok (.iconst 4, 1) := by decide +kernel
theorem dX6_init_54 : decode cX6_init 54 = .ok (.newarray .int, 2) := by decide +kernel
theorem dX6_init_56 : decode cX6_init 56 = .ok (.putfield 28, 3) := by decide +kernel
theorem dX6_init_59 : decode cX6_init 59 = .ok (.aload_n 0, 1) := by decide +kernel
theorem dX6_init_60 : decode cX6_init 60 = .ok (.ldc 31, 2) := by decide +kernel
theorem dX6_init_62 : decode cX6_init 62 = .ok (.newarray .long, 2) := by decide +kernel
theorem dX6_init_64 : decode cX6_init 64 = .ok (.putfield 32, 3) := by decide +kernel
theorem dX6_init_67 : decode cX6_init 67 = .ok (.aload_n 0, 1) := by decide +kernel
theorem dX6_init_68 : decode cX6_init 68 = .ok (.bipush 36, 2) := by decide +kernel
theorem dX6_init_70 : decode cX6_init 70 = .ok (.newarray .long, 2) := by decide +kernel
theorem dX6_init_72 : decode cX6_init 72 = .ok (.putfield 36, 3) := by decide +kernel
theorem dX6_init_75 : decode cX6_init 75 = .ok (.aload_n 0, 1) := by decide +kernel
theorem dX6_init_76 : decode cX6_init 76 = .ok (.bipush 10, 2) := by decide +kernel
theorem dX6_init_78 : decode cX6_init 78 = .ok (.newarray .int, 2) := by decide +kernel
theorem dX6_init_80 : decode cX6_init 80 = .ok (.putfield 39, 3) := by decide +kernel
theorem dX6_init_83 : decode cX6_init 83 = .ok (.aload_n 0, 1) := by decide +kernel
theorem dX6_init_84 : decode cX6_init 84 = .ok (.bipush 10, 2) := by decide +kernel
theorem dX6_init_86 : decode cX6_init 86 = .ok (.newarray .int, 2) := by decide +kernel
theorem dX6_init_88 : decode cX6_init 88 = .ok (.putfield 42, 3) := by decide +kernel
theorem dX6_init_91 : decode cX6_init 91 = .ok (.aload_n 0, 1) := by decide +kernel
theorem dX6_init_92 : decode cX6_init 92 = .ok (.bipush 8, 2) := by decide +kernel
theorem dX6_init_94 : decode cX6_init 94 = .ok (.newarray .int, 2) := by decide +kernel
theorem dX6_init_96 : decode cX6_init 96 = .ok (.putfield 45, 3) := by decide +kernel
theorem dX6_init_99 : decode cX6_init 99 = .ok (.aload_n 0, 1) := by decide +kernel
theorem dX6_init_100 : decode cX6_init 100 = .ok (.bipush 20, 2) := by decide +kernel
theorem dX6_init_102 : decode cX6_init 102 = .ok (.newarray .int, 2) := by decide +kernel
theorem dX6_init_104 : decode cX6_init 104 = .ok (.putfield 48, 3) := by decide +kernel
theorem dX6_init_107 : decode cX6_init 107 = .ok (.aload_n 0, 1) := by decide +kernel
theorem dX6_init_108 : decode cX6_init 108 = .ok (.bipush 20, 2) := by decide +kernel
theorem dX6_init_110 : decode cX6_init 110 = .ok (.newarray .int, 2) := by decide +kernel
theorem dX6_init_112 : decode cX6_init 112 = .ok (.putfield 51, 3) := by decide +kernel
theorem dX6_init_115 : decode cX6_init 115 = .ok (.aload_n 0, 1) := by decide +kernel
theorem dX6_init_116 : decode cX6_init 116 = .ok (.sipush 9003, 3) := by decide +kernel
theorem dX6_init_119 : decode cX6_init 119 = .ok (.newarray .boolean, 2) := by decide +kernel
theorem dX6_init_121 : decode cX6_init 121 = .ok (.putfield 54, 3) := by decide +kernel
theorem dX6_init_124 : decode cX6_init 124 = .ok (.aload_n 0, 1) := by decide +kernel
theorem dX6_init_125 : decode cX6_init 125 = .ok (.sipush 9003, 3) := by decide +kernel
theorem dX6_init_128 : decode cX6_init 128 = .ok (.newarray .boolean, 2) := by decide +kernel
theorem dX6_init_130 : decode cX6_init 130 = .ok (.putfield 58, 3) := by decide +kernel
theorem dX6_init_133 : decode cX6_init 133 = .ok (.aload_n 0, 1) := by decide +kernel
theorem dX6_init_134 : decode cX6_init 134 = .ok (.iconst 4, 1) := by decide +kernel
theorem dX6_init_135 : decode cX6_init 135 = .ok (.newarray .long, 2) := by decide +kernel
theorem dX6_init_137 : decode cX6_init 137 = .ok (.putfield 61, 3) := by decide +kernel
theorem dX6_init_140 : decode cX6_init 140 = .ok (.aload_n 0, 1) := by decide +kernel
theorem dX6_init_141 : decode cX6_init 141 = .ok (.iconst 4, 1) := by decide +kernel
theorem dX6_init_142 : decode cX6_init 142 = .ok (.newarray .long, 2) := by decide +kernel
theorem dX6_init_144 : decode cX6_init 144 = .ok (.putfield 64, 3) := by decide +kernel
theorem dX6_init_147 : decode cX6_init 147 = .ok (.iconst 0, 1) := by decide +kernel
theorem dX6_init_148 : decode cX6_init 148 = .ok (.istore_n 1, 1) := by decide +kernel
theorem dX6_init_149 : decode cX6_init 149 = .ok (.iload_n 1, 1) := by decide +kernel
theorem dX6_init_150 : decode cX6_init 150 = .ok (.iconst 4, 1) := by decide +kernel
theorem dX6_init_151 : decode cX6_init 151 = .ok (.if_icmp .ge 136, 3) := by decide +kernel
theorem dX6_init_154 : decode cX6_init 154 = .ok (.aload_n 0, 1) := by decide +kernel
theorem dX6_init_155 : decode cX6_init 155 = .ok (.getfield 7, 3) := by decide +kernel
theorem dX6_init_158 : decode cX6_init 158 = .ok (.bipush 26, 2) := by decide +kernel
theorem dX6_init_160 : decode cX6_init 160 = .ok (.iload_n 1, 1) := by decide +kernel
theorem dX6_init_161 : decode cX6_init 161 = .ok (.imul, 1) := by decide +kernel
theorem dX6_init_162 : decode cX6_init 162 = .ok (.bipush 105, 2) := by decide +kernel
theorem dX6_init_164 : decode cX6_init 164 = .ok (.iadd, 1) := by decide +kernel
theorem dX6_init_165 : decode cX6_init 165 = .ok (.bipush 97, 2) := by decide +kernel
theorem dX6_init_167 : decode cX6_init 167 = .ok (.isub, 1) := by decide +kernel
theorem dX6_init_168 : decode cX6_init 168 = .ok (.iconst 1, 1) := by decide +kernel
theorem dX6_init_169 : decode cX6_init 169 = .ok (.iastore, 1) := by decide +kernel
theorem dX6_init_170 : decode cX6_init 170 = .ok (.aload_n 0, 1) := by decide +kernel
theorem dX6_init_171 : decode cX6_init 171 = .ok (.getfield 7, 3) := by decide +kernel
theorem dX6_init_174 : decode cX6_init 174 = .ok (.bipush 26, 2) := by decide +kernel
theorem dX6_init_176 : decode cX6_init 176 = .ok (.iload_n 1, 1) := by decide +kernel
theorem dX6_init_177 : decode cX6_init 177 = .ok (.imul, 1) := by decide +kernel
theorem dX6_init_178 : decode cX6_init 178 = .ok (.bipush 118, 2) := by decide +kernel
theorem dX6_init_180 : decode cX6_init 180 = .ok (.iadd, 1) := by decide +kernel
theorem dX6_init_181 : decode cX6_init 181 = .ok (.bipush 97, 2) := by decide +kernel
theorem dX6_init_183 : decode cX6_init 183 = .ok (.isub, 1) := by decide +kernel
theorem dX6_init_184 : decode cX6_init 184 = .ok (.iconst 5, 1) := by decide +kernel
theorem dX6_init_185 : decode cX6_init 185 = .ok (.iastore, 1) := by decide +kernel
theorem dX6_init_186 : decode cX6_init 186 = .ok (.aload_n 0, 1) := by decide +kernel
theorem dX6_init_187 : decode cX6_init 187 = .ok (.getfield 7, 3) := by decide +kernel
theorem dX6_init_190 : decode cX6_init 190 = .ok (.bipush 26, 2) := by decide +kernel
theorem dX6_init_192 : decode cX6_init 192 = .ok (.iload_n 1, 1) := by decide +kernel
theorem dX6_init_193 : decode cX6_init 193 = .ok (.imul, 1) := by decide +kernel
theorem dX6_init_194 : decode cX6_init 194 = .ok (.bipush 120, 2) := by decide +kernel
theorem dX6_init_196 : decode cX6_init 196 = .ok (.iadd, 1) := by decide +kernel
theorem dX6_init_197 : decode cX6_init 197 = .ok (.bipush 97, 2) := by decide +kernel
theorem dX6_init_199 : decode cX6_init 199 = .ok (.isub, 1) := by decide +kernel
theorem dX6_init_200 : decode cX6_init 200 = .ok (.bipush 10, 2) := by decide +kernel
theorem dX6_init_202 : decode cX6_init 202 = .ok (.iastore, 1) := by decide +kernel
theorem dX6_init_203 : decode cX6_init 203 = .ok (.aload_n 0, 1) := by decide +kernel
theorem dX6_init_204 : decode cX6_init 204 = .ok (.getfield 7, 3) := by decide +kernel
theorem dX6_init_207 : decode cX6_init 207 = .ok (.bipush 26, 2) := by decide +kernel
theorem dX6_init_209 : decode cX6_init 209 = .ok (.iload_n 1, 1) := by decide +kernel
theorem dX6_init_210 : decode cX6_init 210 = .ok (.imul, 1) := by decide +kernel
theorem dX6_init_211 : decode cX6_init 211 = .ok (.bipush 108, 2) := by decide +kernel
theorem dX6_init_213 : decode cX6_init 213 = .ok (.iadd, 1) := by decide +kernel
theorem dX6_init_214 : decode cX6_init 214 = .ok (.bipush 97, 2) := by decide +kernel
theorem dX6_init_216 : decode cX6_init 216 = .ok (.isub, 1) := by decide +kernel
theorem dX6_init_217 : decode cX6_init 217 = .ok (.bipush 50, 2) := by decide +kernel
theorem dX6_init_219 : decode cX6_init 219 = .ok (.iastore, 1) := by decide +kernel
theorem dX6_init_220 : decode cX6_init 220 = .ok (.aload_n 0, 1) := by decide +kernel
theorem dX6_init_221 : decode cX6_init 221 = .ok (.getfield 7, 3) := by decide +kernel
theorem dX6_init_224 : decode cX6_init 224 = .ok (.bipush 26, 2) := by decide +kernel
theorem dX6_init_226 : decode cX6_init 226 = .ok (.iload_n 1, 1) := by decide +kernel
theorem dX6_init_227 : decode cX6_init 227 = .ok (.imul, 1) := by decide +kernel
theorem dX6_init_228 : decode cX6_init 228 = .ok (.bipush 99, 2) := by decide +kernel
theorem dX6_init_230 : decode cX6_init 230 = .ok (.iadd, 1) := by decide +kernel
theorem dX6_init_231 : decode cX6_init 231 = .ok (.bipush 97, 2) := by decide +kernel
theorem dX6_init_233 : decode cX6_init 233 = .ok (.isub, 1) := by decide +kernel
theorem dX6_init_234 : decode cX6_init 234 = .ok (.bipush 100, 2) := by decide +kernel
theorem dX6_init_236 : decode cX6_init 236 = .ok (.iastore, 1) := by decide +kernel
theorem dX6_init_237 : decode cX6_init 237 = .ok (.aload_n 0, 1) := by decide +kernel
theorem dX6_init_238 : decode cX6_init 238 = .ok (.getfield 7, 3) := by decide +kernel
theorem dX6_init_241 : decode cX6_init 241 = .ok (.bipush 26, 2) := by decide +kernel
theorem dX6_init_243 : decode cX6_init 243 = .ok (.iload_n 1, 1) := by decide +kernel
theorem dX6_init_244 : decode cX6_init 244 = .ok (.imul, 1) := by decide +kernel
theorem dX6_init_245 : decode cX6_init 245 = .ok (.bipush 100, 2) := by decide +kernel
theorem dX6_init_247 : decode cX6_init 247 = .ok (.iadd, 1) := by decide +kernel
theorem dX6_init_248 : decode cX6_init 248 = .ok (.bipush 97, 2) := by decide +kernel
theorem dX6_init_250 : decode cX6_init 250 = .ok (.isub, 1) := by decide +kernel
theorem dX6_init_251 : decode cX6_init 251 = .ok (.sipush 500, 3) := by decide +kernel
theorem dX6_init_254 : decode cX6_init 254 = .ok (.iastore, 1) := by decide +kernel
theorem dX6_init_255 : decode cX6_init 255 = .ok (.aload_n 0, 1) := by decide +kernel
theorem dX6_init_256 : decode cX6_init 256 = .ok (.getfield 7, 3) := by decide +kernel
theorem dX6_init_259 : decode cX6_init 259 = .ok (.bipush 26, 2) := by decide +kernel
theorem dX6_init_261 : decode cX6_init 261 = .ok (.iload_n 1, 1) := by decide +kernel
theorem dX6_init_262 : decode cX6_init 262 = .ok (.imul, 1) := by decide +kernel
theorem dX6_init_263 : decode cX6_init 263 = .ok (.bipush 109, 2) := by decide +kernel
theorem dX6_init_265 : decode cX6_init 265 = .ok (.iadd, 1) := by decide +kernel
theorem dX6_init_266 : decode cX6_init 266 = .ok (.bipush 97, 2) := by decide +kernel
theorem dX6_init_268 : decode cX6_init 268 = .ok (.isub, 1) := by decide +kernel
theorem dX6_init_269 : decode cX6_init 269 = .ok (.sipush 1000, 3) := by decide +kernel
theorem dX6_init_272 : decode cX6_init 272 = .ok (.iastore, 1) := by decide +kernel
theorem dX6_init_273 : decode cX6_init 273 = .ok (.aload_n 0, 1) := by decide +kernel
theorem dX6_init_274 : decode cX6_init 274 = .ok (.getfield 28, 3) := by decide +kernel
theorem dX6_init_277 : decode cX6_init 277 = .ok (.iload_n 1, 1) := by decide +kernel
theorem dX6_init_278 : decode cX6_init 278 = .ok (.bipush 7, 2) := by decide +kernel
theorem dX6_init_280 : decode cX6_init 280 = .ok (.iastore, 1) := by decide +kernel
theorem dX6_init_281 : decode cX6_init 281 = .ok (.iinc 1 1, 3) := by decide +kernel
theorem dX6_init_284 : decode cX6_init 284 = .ok (.goto (-135), 3) := by decide +kernel
theorem dX6_init_287 : decode cX6_init 287 = .ok (.return_, 1) := by decide +kernel
theorem dX6_in_0 : decode cX6_in 0 = .ok (.lload_n 0, 1) := by decide +kernel
theorem dX6_in_1 : decode cX6_in 1 = .ok (.lload_n 2, 1) := by decide +kernel
theorem dX6_in_2 : decode cX6_in 2 = .ok (.lcmp, 1) := by decide +kernel
theorem dX6_in_3 : decode cX6_in 3 = .ok (.ifCond .lt 14, 3) := by decide +kernel
theorem dX6_in_6 : decode cX6_in 6 = .ok (.lload_n 0, 1) := by decide +kernel
theorem dX6_in_7 : decode cX6_in 7 = .ok (.lload 4, 2) := by decide +kernel
theorem dX6_in_9 : decode cX6_in 9 = .ok (.lcmp, 1) := by decide +kernel
theorem dX6_in_10 : decode cX6_in 10 = .ok (.ifCond .gt 7, 3) := by decide +kernel
theorem dX6_in_13 : decode cX6_in 13 = .ok (.iconst 1, 1) := by decide +kernel
theorem dX6_in_14 : decode cX6_in 14 = .ok (.goto 4, 3) := by decide +kernel
theorem dX6_in_17 : decode cX6_in 17 = .ok (.iconst 0, 1) := by decide +kernel
theorem dX6_in_18 : decode cX6_in 18 = .ok (.ireturn, 1) := by decide +kernel
theorem dX6_isValue_0 : decode cX6_isValue 0 = .ok (.iload_n 0, 1) := by decide +kernel
theorem dX6_isValue_1 : decode cX6_isValue 1 = .ok (.ifCond .eq 45, 3) := by decide +kernel
theorem dX6_isValue_4 : decode cX6_isValue 4 = .ok (.iload_n 0, 1) := by decide +kernel
theorem dX6_isValue_5 : decode cX6_isValue 5 = .ok (.iconst 1, 1) := by decide +kernel
theorem dX6_isValue_6 : decode cX6_isValue 6 = .ok (.if_icmp .eq 40, 3) := by decide +kernel
theorem dX6_isValue_9 : decode cX6_isValue 9 = .ok (.iload_n 0, 1) := by decide +kernel
theorem dX6_isValue_10 : decode cX6_isValue 10 = .ok (.iconst 5, 1) := by decide +kernel
theorem dX6_isValue_11 : decode cX6_isValue 11 = .ok (.if_icmp .eq 35, 3) := by decide +kernel
theorem dX6_isValue_14 : decode cX6_isValue 14 = .ok (.iload_n 0, 1) := by decide +kernel
theorem dX6_isValue_15 : decode cX6_isValue 15 = .ok (.bipush 10, 2) := by decide +kernel
theorem dX6_isValue_17 : decode cX6_isValue 17 = .ok (.if_icmp .eq 29, 3) := by decide +kernel
theorem dX6_isValue_20 : decode cX6_isValue 20 = .ok (.iload_n 0, 1) := by decide +kernel
theorem dX6_isValue_21 : decode cX6_isValue 21 = .ok (.bipush 50, 2) := by decide +kernel
theorem dX6_isValue_23 : decode cX6_isValue 23 = .ok (.if_icmp .eq 23, 3) := by decide +kernel
theorem dX6_isValue_26 : decode cX6_isValue 26 = .ok (.iload_n 0, 1) := by decide +kernel
theorem dX6_isValue_27 : decode cX6_isValue 27 = .ok (.bipush 100, 2) := by decide +kernel
theorem dX6_isValue_29 : decode cX6_isValue 29 = .ok (.if_icmp .eq 17, 3) := by decide +kernel
theorem dX6_isValue_32 : decode cX6_isValue 32 = .ok (.iload_n 0, 1) := by decide +kernel
theorem dX6_isValue_33 : decode cX6_isValue 33 = .ok (.sipush 500, 3) := by decide +kernel
theorem dX6_isValue_36 : decode cX6_isValue 36 = .ok (.if_icmp .eq 10, 3) := by decide +kernel
theorem dX6_isValue_39 : decode cX6_isValue 39 = .ok (.iload_n 0, 1) := by decide +kernel
theorem dX6_isValue_40 : decode cX6_isValue 40 = .ok (.sipush 1000, 3) := by decide +kernel
theorem dX6_isValue_43 : decode cX6_isValue 43 = .ok (.if_icmp .ne 7, 3) := by decide +kernel
theorem dX6_isValue_46 : decode cX6_isValue 46 = .ok (.iconst 1, 1) := by decide +kernel
theorem dX6_isValue_47 : decode cX6_isValue 47 = .ok (.goto 4, 3) := by decide +kernel
theorem dX6_isValue_50 : decode cX6_isValue 50 = .ok (.iconst 0, 1) := by decide +kernel
theorem dX6_isValue_51 : decode cX6_isValue 51 = .ok (.ireturn, 1) := by decide +kernel
set_option maxRecDepth 20000 in
theorem ggX6_value_X6_in : GoodIn wsX6_value wsX6_in := goodIn_r _ [9] (by decide +kernel) (by decide +kernel)
set_option maxRecDepth 20000 in
theorem gX6_value_X6_in : GoodIn wsX6_value (va_wsS RX6 73 yX6_in wsX6_in) := goodIn_app (goodIn_of _ (by decide +kernel)) ggX6_value_X6_in
set_option maxRecDepth 20000 in
theorem ggX6_value_X6_isValue : GoodIn wsX6_value wsX6_isValue := goodIn_r _ [12] (by decide +kernel) (by decide +kernel)
set_option maxRecDepth 20000 in
theorem gX6_value_X6_isValue : GoodIn wsX6_value (va_wsS RX6 81 yX6_isValue wsX6_isValue) := goodIn_app (goodIn_of _ (by decide +kernel)) ggX6_value_X6_isValue
theorem dX6_value_0 : decode cX6_value 0 = .ok (.aload_n 0, 1) := by decide +kernel
theorem dX6_value_1 : decode cX6_value 1 = .ok (.iconst 0, 1) := by decide +kernel
theorem dX6_value_2 : decode cX6_value 2 = .ok (.putfield 67, 3) := by decide +kernel
theorem dX6_value_5 : decode cX6_value 5 = .ok (.iload_n 1, 1) := by decide +kernel
theorem dX6_value_6 : decode cX6_value 6 = .ok (.i2l, 1) := by decide +kernel
theorem dX6_value_7 : decode cX6_value 7 = .ok (.lconst 0, 1) := by decide +kernel
theorem dX6_value_8 : decode cX6_value 8 = .ok (.ldc2_w 71, 3) := by decide +kernel
theorem dX6_value_11 : decode cX6_value 11 = .ok (.invokestatic 73, 3) := by decide +kernel
theorem dX6_value_14 : decode cX6_value 14 = .ok (.ifCond .eq 24, 3) := by decide +kernel
theorem dX6_value_17 : decode cX6_value 17 = .ok (.iload_n 2, 1) := by decide +kernel
theorem dX6_value_18 : decode cX6_value 18 = .ok (.i2l, 1) := by decide +kernel
theorem dX6_value_19 : decode cX6_value 19 = .ok (.ldc2_w 77, 3) := by decide +kernel
theorem dX6_value_22 : decode cX6_value 22 = .ok (.ldc2_w 79, 3) := by decide +kernel
theorem dX6_value_25 : decode cX6_value 25 = .ok (.invokestatic 73, 3) := by decide +kernel
theorem dX6_value_28 : decode cX6_value 28 = .ok (.ifCond .eq 10, 3) := by decide +kernel
theorem dX6_value_31 : decode cX6_value 31 = .ok (.iload_n 3, 1) := by decide +kernel
theorem dX6_value_32 : decode cX6_value 32 = .ok (.invokestatic 81, 3) := by decide +kernel
theorem dX6_value_35 : decode cX6_value 35 = .ok (.ifCond .ne 5, 3) := by decide +kernel
theorem dX6_value_38 : decode cX6_value 38 = .ok (.iconst (-1), 1) := by decide +kernel
theorem dX6_value_39 : decode cX6_value 39 = .ok (.ireturn, 1) := by decide +kernel
theorem dX6_value_40 : decode cX6_value 40 = .ok (.aload_n 0, 1) := by decide +kernel
theorem dX6_value_41 : decode cX6_value 41 = .ok (.getfield 7, 3) := by decide +kernel
theorem dX6_value_44 : decode cX6_value 44 = .ok (.bipush 26, 2) := by decide +kernel
theorem dX6_value_46 : decode cX6_value 46 = .ok (.iload_n 1, 1) := by decide +kernel
theorem dX6_value_47 : decode cX6_value 47 = .ok (.imul, 1) := by decide +kernel
theorem dX6_value_48 : decode cX6_value 48 = .ok (.iload_n 2, 1) := by decide +kernel
theorem dX6_value_49 : decode cX6_value 49 = .ok (.iadd, 1) := by decide +kernel
theorem dX6_value_50 : decode cX6_value 50 = .ok (.bipush 97, 2) := by decide +kernel
theorem dX6_value_52 : decode cX6_value 52 = .ok (.isub, 1) := by decide +kernel
theorem dX6_value_53 : decode cX6_value 53 = .ok (.iaload, 1) := by decide +kernel
theorem dX6_value_54 : decode cX6_value 54 = .ok (.istore 4, 2) := by decide +kernel
theorem dX6_value_56 : decode cX6_value 56 = .ok (.aload_n 0, 1) := by decide +kernel
theorem dX6_value_57 : decode cX6_value 57 = .ok (.getfield 7, 3) := by decide +kernel
theorem dX6_value_60 : decode cX6_value 60 = .ok (.bipush 26, 2) := by decide +kernel
theorem dX6_value_62 : decode cX6_value 62 = .ok (.iload_n 1, 1) := by decide +kernel
theorem dX6_value_63 : decode cX6_value 63 = .ok (.imul, 1) := by decide +kernel
theorem dX6_value_64 : decode cX6_value 64 = .ok (.iload_n 2, 1) := by decide +kernel
theorem dX6_value_65 : decode cX6_value 65 = .ok (.iadd, 1) := by decide +kernel
theorem dX6_value_66 : decode cX6_value 66 = .ok (.bipush 97, 2) := by decide +kernel
theorem dX6_value_68 : decode cX6_value 68 = .ok (.isub, 1) := by decide +kernel
theorem dX6_value_69 : decode cX6_value 69 = .ok (.iload_n 3, 1) := by decide +kernel
theorem dX6_value_70 : decode cX6_value 70 = .ok (.iastore, 1) := by decide +kernel
theorem dX6_value_71 : decode cX6_value 71 = .ok (.iload 4, 2) := by decide +kernel
theorem dX6_value_73 : decode cX6_value 73 = .ok (.ireturn, 1) := by decide +kernel
set_option maxRecDepth 20000 in
theorem ggX6_isCapital_X6_in : GoodIn wsX6_isCapital wsX6_in := goodIn_r _ [6] (by decide +kernel) (by decide +kernel)
set_option maxRecDepth 20000 in
theorem gX6_isCapital_X6_in : GoodIn wsX6_isCapital (va_wsS RX6 73 yX6_in wsX6_in) := goodIn_app (goodIn_of _ (by decide +kernel)) ggX6_isCapital_X6_in
theorem dX6_isCapital_0 : decode cX6_isCapital 0 = .ok (.iload_n 0, 1) := by decide +kernel
theorem dX6_isCapital_1 : decode cX6_isCapital 1 = .ok (.i2l, 1) := by decide +kernel
theorem dX6_isCapital_2 : decode cX6_isCapital 2 = .ok (.ldc2_w 85, 3) := by decide +kernel
theorem dX6_isCapital_5 : decode cX6_isCapital 5 = .ok (.ldc2_w 87, 3) := by decide +kernel
theorem dX6_isCapital_8 : decode cX6_isCapital 8 = .ok (.invokestatic 73, 3) := by decide +kernel
theorem dX6_isCapital_11 : decode cX6_isCapital 11 = .ok (.ireturn, 1) := by decide +kernel
set_option maxRecDepth 20000 in
theorem ggX6_isLetter_X6_in : GoodIn wsX6_isLetter wsX6_in := goodIn_r _ [6] (by decide +kernel) (by decide +kernel)
set_option maxRecDepth 20000 in
theorem gX6_isLetter_X6_in : GoodIn wsX6_isLetter (va_wsS RX6 73 yX6_in wsX6_in) := goodIn_app (goodIn_of _ (by decide +kernel)) ggX6_isLetter_X6_in
set_option maxRecDepth 20000 in
theorem ggX6_isLetter_X6_isCapital : GoodIn wsX6_isLetter wsX6_isCapital := goodIn_r _ [9, 10, 11, 3, 4, 5, 6] (by decide +kernel) (by decide +kernel)
set_option maxRecDepth 20000 in
theorem gX6_isLetter_X6_isCapital : GoodIn wsX6_isLetter (va_wsS RX6 89 yX6_isCapital wsX6_isCapital) := goodIn_app (goodIn_of _ (by decide +kernel)) ggX6_isLetter_X6_isCapital
theorem dX6_isLetter_0 : decode cX6_isLetter 0 = .ok (.iload_n 0, 1) := by decide +kernel
theorem dX6_isLetter_1 : decode cX6_isLetter 1 = .ok (.i2l, 1) := by decide +kernel
theorem dX6_isLetter_2 : decode cX6_isLetter 2 = .ok (.ldc2_w 77, 3) := by decide +kernel
theorem dX6_isLetter_5 : decode cX6_isLetter 5 = .ok (.ldc2_w 79, 3) := by decide +kernel
theorem dX6_isLetter_8 : decode cX6_isLetter 8 = .ok (.invokestatic 73, 3) := by decide +kernel
theorem dX6_isLetter_11 : decode cX6_isLetter 11 = .ok (.ifCond .ne 10, 3) := by decide +kernel
theorem dX6_isLetter_14 : decode cX6_isLetter 14 = .ok (.iload_n 0, 1) := by decide +kernel
theorem dX6_isLetter_15 : decode cX6_isLetter 15 = .ok (.invokestatic 89, 3) := by decide +kernel
theorem dX6_isLetter_18 : decode cX6_isLetter 18 = .ok (.ifCond .eq 7, 3) := by decide +kernel
theorem dX6_isLetter_21 : decode cX6_isLetter 21 = .ok (.iconst 1, 1) := by decide +kernel
theorem dX6_isLetter_22 : decode cX6_isLetter 22 = .ok (.goto 4, 3) := by decide +kernel
theorem dX6_isLetter_25 : decode cX6_isLetter 25 = .ok (.iconst 0, 1) := by decide +kernel
theorem dX6_isLetter_26 : decode cX6_isLetter 26 = .ok (.ireturn, 1) := by decide +kernel
set_option maxRecDepth 20000 in
theorem ggX6_worthOf_X6_isLetter : GoodIn wsX6_worthOf wsX6_isLetter := goodIn_r _ [5, 6, 7, 8, 9, 4, 10, 11, 12, 13, 14, 15] (by decide +kernel) (by decide +kernel)
set_option maxRecDepth 20000 in
theorem gX6_worthOf_X6_isLetter : GoodIn wsX6_worthOf (va_wsS RX6 92 yX6_isLetter wsX6_isLetter) := goodIn_app (goodIn_of _ (by decide +kernel)) ggX6_worthOf_X6_isLetter
set_option maxRecDepth 20000 in
theorem ggX6_worthOf_X6_isCapital : GoodIn wsX6_worthOf wsX6_isCapital := goodIn_r _ [13, 14, 15, 8, 9, 4, 10] (by decide +kernel) (by decide +kernel)
set_option maxRecDepth 20000 in
theorem gX6_worthOf_X6_isCapital : GoodIn wsX6_worthOf (va_wsS RX6 89 yX6_isCapital wsX6_isCapital) := goodIn_app (goodIn_of _ (by decide +kernel)) ggX6_worthOf_X6_isCapital
theorem dX6_worthOf_0 : decode cX6_worthOf 0 = .ok (.iload_n 3, 1) := by decide +kernel
theorem dX6_worthOf_1 : decode cX6_worthOf 1 = .ok (.invokestatic 92, 3) := by decide +kernel
theorem dX6_worthOf_4 : decode cX6_worthOf 4 = .ok (.ifCond .eq 25, 3) := by decide +kernel
theorem dX6_worthOf_7 : decode cX6_worthOf 7 = .ok (.iload_n 1, 1) := by decide +kernel
theorem dX6_worthOf_8 : decode cX6_worthOf 8 = .ok (.ifCond .le 10, 3) := by decide +kernel
theorem dX6_worthOf_11 : decode cX6_worthOf 11 = .ok (.iload_n 3, 1) := by decide +kernel
theorem dX6_worthOf_12 : decode cX6_worthOf 12 = .ok (.invokestatic 89, 3) := by decide +kernel
theorem dX6_worthOf_15 : decode cX6_worthOf 15 = .ok (.ifCond .eq 14, 3) := by decide +kernel
theorem dX6_worthOf_18 : decode cX6_worthOf 18 = .ok (.iload_n 1, 1) := by decide +kernel
theorem dX6_worthOf_19 : decode cX6_worthOf 19 = .ok (.iconst 1, 1) := by decide +kernel
theorem dX6_worthOf_20 : decode cX6_worthOf 20 = .ok (.if_icmp .le 11, 3) := by decide +kernel
theorem dX6_worthOf_23 : decode cX6_worthOf 23 = .ok (.iload 4, 2) := by decide +kernel
theorem dX6_worthOf_25 : decode cX6_worthOf 25 = .ok (.iload_n 3, 1) := by decide +kernel
theorem dX6_worthOf_26 : decode cX6_worthOf 26 = .ok (.if_icmp .ne 5, 3) := by decide +kernel
theorem dX6_worthOf_29 : decode cX6_worthOf 29 = .ok (.iconst 0, 1) := by decide +kernel
theorem dX6_worthOf_30 : decode cX6_worthOf 30 = .ok (.ireturn, 1) := by decide +kernel
theorem dX6_worthOf_31 : decode cX6_worthOf 31 = .ok (.aload_n 0, 1) := by decide +kernel
theorem dX6_worthOf_32 : decode cX6_worthOf 32 = .ok (.getfield 7, 3) := by decide +kernel
theorem dX6_worthOf_35 : decode cX6_worthOf 35 = .ok (.bipush 26, 2) := by decide +kernel
theorem dX6_worthOf_37 : decode cX6_worthOf 37 = .ok (.iload_n 2, 1) := by decide +kernel
theorem dX6_worthOf_38 : decode cX6_worthOf 38 = .ok (.imul, 1) := by decide +kernel
theorem dX6_worthOf_39 : decode cX6_worthOf 39 = .ok (.iload_n 3, 1) := by decide +kernel
theorem dX6_worthOf_40 : decode cX6_worthOf 40 = .ok (.invokestatic 89, 3) := by decide +kernel
theorem dX6_worthOf_43 : decode cX6_worthOf 43 = .ok (.ifCond .eq 10, 3) := by decide +kernel
theorem dX6_worthOf_46 : decode cX6_worthOf 46 = .ok (.iload_n 3, 1) := by decide +kernel
theorem dX6_worthOf_47 : decode cX6_worthOf 47 = .ok (.bipush 65, 2) := by decide +kernel
theorem dX6_worthOf_49 : decode cX6_worthOf 49 = .ok (.isub, 1) := by decide +kernel
theorem dX6_worthOf_50 : decode cX6_worthOf 50 = .ok (.goto 7, 3) := by decide +kernel
theorem dX6_worthOf_53 : decode cX6_worthOf 53 = .ok (.iload_n 3, 1) := by decide +kernel
theorem dX6_worthOf_54 : decode cX6_worthOf 54 = .ok (.bipush 97, 2) := by decide +kernel
theorem dX6_worthOf_56 : decode cX6_worthOf 56 = .ok (.isub, 1) := by decide +kernel
theorem dX6_worthOf_57 : decode cX6_worthOf 57 = .ok (.iadd, 1) := by decide +kernel
theorem dX6_worthOf_58 : decode cX6_worthOf 58 = .ok (.iaload, 1) := by decide +kernel
theorem dX6_worthOf_59 : decode cX6_worthOf 59 = .ok (.ireturn, 1) := by decide +kernel
set_option maxRecDepth 20000 in
theorem ggX6_isWay_X6_in : GoodIn wsX6_isWay wsX6_in := goodIn_r _ [6] (by decide +kernel) (by decide +kernel)
set_option maxRecDepth 20000 in
theorem gX6_isWay_X6_in : GoodIn wsX6_isWay (va_wsS RX6 73 yX6_in wsX6_in) := goodIn_app (goodIn_of _ (by decide +kernel)) ggX6_isWay_X6_in
theorem dX6_isWay_0 : decode cX6_isWay 0 = .ok (.iload_n 0, 1) := by decide +kernel
theorem dX6_isWay_1 : decode cX6_isWay 1 = .ok (.i2l, 1) := by decide +kernel
theorem dX6_isWay_2 : decode cX6_isWay 2 = .ok (.lconst 0, 1) := by decide +kernel
theorem dX6_isWay_3 : decode cX6_isWay 3 = .ok (.ldc2_w 95, 3) := by decide +kernel
theorem dX6_isWay_6 : decode cX6_isWay 6 = .ok (.invokestatic 73, 3) := by decide +kernel
theorem dX6_isWay_9 : decode cX6_isWay 9 = .ok (.ifCond .eq 19, 3) := by decide +kernel
theorem dX6_isWay_12 : decode cX6_isWay 12 = .ok (.iload_n 1, 1) := by decide +kernel
theorem dX6_isWay_13 : decode cX6_isWay 13 = .ok (.i2l, 1) := by decide +kernel
theorem dX6_isWay_14 : decode cX6_isWay 14 = .ok (.lconst 0, 1) := by decide +kernel
theorem dX6_isWay_15 : decode cX6_isWay 15 = .ok (.ldc2_w 71, 3) := by decide +kernel
theorem dX6_isWay_18 : decode cX6_isWay 18 = .ok (.invokestatic 73, 3) := by decide +kernel
theorem dX6_isWay_21 : decode cX6_isWay 21 = .ok (.ifCond .eq 7, 3) := by decide +kernel
theorem dX6_isWay_24 : decode cX6_isWay 24 = .ok (.iconst 1, 1) := by decide +kernel
theorem dX6_isWay_25 : decode cX6_isWay 25 = .ok (.goto 4, 3) := by decide +kernel
theorem dX6_isWay_28 : decode cX6_isWay 28 = .ok (.iconst 0, 1) := by decide +kernel
theorem dX6_isWay_29 : decode cX6_isWay 29 = .ok (.ireturn, 1) := by decide +kernel
set_option maxRecDepth 20000 in
theorem ggX6_worth_X6_isWay : GoodIn wsX6_worth wsX6_isWay := goodIn_r _ [9, 10, 11, 12, 13, 8, 14] (by decide +kernel) (by decide +kernel)
set_option maxRecDepth 20000 in
theorem gX6_worth_X6_isWay : GoodIn wsX6_worth (va_wsS RX6 97 yX6_isWay wsX6_isWay) := goodIn_app (goodIn_of _ (by decide +kernel)) ggX6_worth_X6_isWay
set_option maxRecDepth 20000 in
theorem ggX6_worth_X6_in : GoodIn wsX6_worth wsX6_in := goodIn_r _ [14] (by decide +kernel) (by decide +kernel)
set_option maxRecDepth 20000 in
theorem gX6_worth_X6_in : GoodIn wsX6_worth (va_wsS RX6 73 yX6_in wsX6_in) := goodIn_app (goodIn_of _ (by decide +kernel)) ggX6_worth_X6_in
set_option maxRecDepth 20000 in
theorem ggX6_worth_X6_worthOf : GoodIn wsX6_worth wsX6_worthOf := goodIn_r _ [18, 19, 20, 21, 8, 22, 23, 24, 12, 13, 14, 25, 26, 27, 28, 29, 30, 31, 32, 33, 34, 35, 36, 37, 38, 39, 40, 41, 42, 43, 44, 45, 46, 47, 48, 49, 50, 51, 52] (by decide +kernel) (by decide +kernel)
set_option maxRecDepth 20000 in
theorem gX6_worth_X6_worthOf : GoodIn wsX6_worth (wsV RX6 111 RX6 yX6_worthOf wsX6_worthOf) := goodIn_app (goodIn_of _ (by decide +kernel)) ggX6_worth_X6_worthOf
theorem dX6_worth_0 : decode cX6_worth 0 = .ok (.aload_n 0, 1) := by decide +kernel
theorem dX6_worth_1 : decode cX6_worth 1 = .ok (.iconst 0, 1) := by decide +kernel
theorem dX6_worth_2 : decode cX6_worth 2 = .ok (.putfield 67, 3) := by decide +kernel
theorem dX6_worth_5 : decode cX6_worth 5 = .ok (.iload_n 1, 1) := by decide +kernel
theorem dX6_worth_6 : decode cX6_worth 6 = .ok (.iload_n 2, 1) := by decide +kernel
theorem dX6_worth_7 : decode cX6_worth 7 = .ok (.invokestatic 97, 3) := by decide +kernel
theorem dX6_worth_10 : decode cX6_worth 10 = .ok (.ifCond .eq 28, 3) := by decide +kernel
theorem dX6_worth_13 : decode cX6_worth 13 = .ok (.iload_n 3, 1) := by decide +kernel
theorem dX6_worth_14 : decode cX6_worth 14 = .ok (.i2l, 1) := by decide +kernel
theorem dX6_worth_15 : decode cX6_worth 15 = .ok (.lconst 0, 1) := by decide +kernel
theorem dX6_worth_16 : decode cX6_worth 16 = .ok (.ldc2_w 101, 3) := by decide +kernel
theorem dX6_worth_19 : decode cX6_worth 19 = .ok (.invokestatic 73, 3) := by decide +kernel
theorem dX6_worth_22 : decode cX6_worth 22 = .ok (.ifCond .eq 16, 3) := by decide +kernel
theorem dX6_worth_25 : decode cX6_worth 25 = .ok (.iload 4, 2) := by decide +kernel
theorem dX6_worth_27 : decode cX6_worth 27 = .ok (.i2l, 1) := by decide +kernel
theorem dX6_worth_28 : decode cX6_worth 28 = .ok (.lconst 0, 1) := by decide +kernel
theorem dX6_worth_29 : decode cX6_worth 29 = .ok (.ldc2_w 101, 3) := by decide +kernel
theorem dX6_worth_32 : decode cX6_worth 32 = .ok (.invokestatic 73, 3) := by decide +kernel
theorem dX6_worth_35 : decode cX6_worth 35 = .ok (.ifCond .ne 5, 3) := by decide +kernel
theorem dX6_worth_38 : decode cX6_worth 38 = .ok (.iconst (-1), 1) := by decide +kernel
theorem dX6_worth_39 : decode cX6_worth 39 = .ok (.ireturn, 1) := by decide +kernel
theorem dX6_worth_40 : decode cX6_worth 40 = .ok (.aload_n 0, 1) := by decide +kernel
theorem dX6_worth_41 : decode cX6_worth 41 = .ok (.dup, 1) := by decide +kernel
theorem dX6_worth_42 : decode cX6_worth 42 = .ok (.getfield 103, 3) := by decide +kernel
theorem dX6_worth_45 : decode cX6_worth 45 = .ok (.iload_n 1, 1) := by decide +kernel
theorem dX6_worth_46 : decode cX6_worth 46 = .ok (.ifCond .ne 7, 3) := by decide +kernel
theorem dX6_worth_49 : decode cX6_worth 49 = .ok (.lconst 1, 1) := by decide +kernel
theorem dX6_worth_50 : decode cX6_worth 50 = .ok (.goto 17, 3) := by decide +kernel
theorem dX6_worth_53 : decode cX6_worth 53 = .ok (.iload_n 1, 1) := by decide +kernel
theorem dX6_worth_54 : decode cX6_worth 54 = .ok (.iconst 1, 1) := by decide +kernel
theorem dX6_worth_55 : decode cX6_worth 55 = .ok (.if_icmp .ne 9, 3) := by decide +kernel
theorem dX6_worth_58 : decode cX6_worth 58 = .ok (.ldc2_w 107, 3) := by decide +kernel
theorem dX6_worth_61 : decode cX6_worth 61 = .ok (.goto 6, 3) := by decide +kernel
theorem dX6_worth_64 : decode cX6_worth 64 = .ok (.ldc2_w 109, 3) := by decide +kernel
theorem dX6_worth_67 : decode cX6_worth 67 = .ok (.ladd, 1) := by decide +kernel
theorem dX6_worth_68 : decode cX6_worth 68 = .ok (.putfield 103, 3) := by decide +kernel
theorem dX6_worth_71 : decode cX6_worth 71 = .ok (.aload_n 0, 1) := by decide +kernel
theorem dX6_worth_72 : decode cX6_worth 72 = .ok (.iload_n 1, 1) := by decide +kernel
theorem dX6_worth_73 : decode cX6_worth 73 = .ok (.iload_n 2, 1) := by decide +kernel
theorem dX6_worth_74 : decode cX6_worth 74 = .ok (.iload_n 3, 1) := by decide +kernel
theorem dX6_worth_75 : decode cX6_worth 75 = .ok (.iload 4, 2) := by decide +kernel
theorem dX6_worth_77 : decode cX6_worth 77 = .ok (.invokevirtual 111, 3) := by decide +kernel
theorem dX6_worth_80 : decode cX6_worth 80 = .ok (.ireturn, 1) := by decide +kernel
set_option maxRecDepth 20000 in
theorem ggX6_type_X6_in : GoodIn wsX6_type wsX6_in := goodIn_r _ [9] (by decide +kernel) (by decide +kernel)
set_option maxRecDepth 20000 in
theorem gX6_type_X6_in : GoodIn wsX6_type (va_wsS RX6 73 yX6_in wsX6_in) := goodIn_app (goodIn_of _ (by decide +kernel)) ggX6_type_X6_in
set_option maxRecDepth 20000 in
theorem ggX6_type_X6_isLetter : GoodIn wsX6_type wsX6_isLetter := goodIn_r _ [12, 13, 14, 6, 7, 8, 9, 15, 16, 17, 18, 19] (by decide +kernel) (by decide +kernel)
set_option maxRecDepth 20000 in
theorem gX6_type_X6_isLetter : GoodIn wsX6_type (va_wsS RX6 92 yX6_isLetter wsX6_isLetter) := goodIn_app (goodIn_of _ (by decide +kernel)) ggX6_type_X6_isLetter
theorem dX6_type_0 : decode cX6_type 0 = .ok (.aload_n 0, 1) := by decide +kernel
theorem dX6_type_1 : decode cX6_type 1 = .ok (.iconst 0, 1) := by decide +kernel
theorem dX6_type_2 : decode cX6_type 2 = .ok (.putfield 67, 3) := by decide +kernel
theorem dX6_type_5 : decode cX6_type 5 = .ok (.iload_n 3, 1) := by decide +kernel
theorem dX6_type_6 : decode cX6_type 6 = .ok (.i2l, 1) := by decide +kernel
theorem dX6_type_7 : decode cX6_type 7 = .ok (.lconst 1, 1) := by decide +kernel
theorem dX6_type_8 : decode cX6_type 8 = .ok (.ldc2_w 115, 3) := by decide +kernel
theorem dX6_type_11 : decode cX6_type 11 = .ok (.invokestatic 73, 3) := by decide +kernel
theorem dX6_type_14 : decode cX6_type 14 = .ok (.ifCond .ne 5, 3) := by decide +kernel
theorem dX6_type_17 : decode cX6_type 17 = .ok (.iconst (-1), 1) := by decide +kernel
theorem dX6_type_18 : decode cX6_type 18 = .ok (.ireturn, 1) := by decide +kernel
theorem dX6_type_19 : decode cX6_type 19 = .ok (.iconst 0, 1) := by decide +kernel
theorem dX6_type_20 : decode cX6_type 20 = .ok (.istore 4, 2) := by decide +kernel
theorem dX6_type_22 : decode cX6_type 22 = .ok (.iload 4, 2) := by decide +kernel
theorem dX6_type_24 : decode cX6_type 24 = .ok (.iload_n 3, 1) := by decide +kernel
theorem dX6_type_25 : decode cX6_type 25 = .ok (.if_icmp .ge 47, 3) := by decide +kernel
theorem dX6_type_28 : decode cX6_type 28 = .ok (.lload_n 1, 1) := by decide +kernel
theorem dX6_type_29 : decode cX6_type 29 = .ok (.bipush 8, 2) := by decide +kernel
theorem dX6_type_31 : decode cX6_type 31 = .ok (.iload 4, 2) := by decide +kernel
theorem dX6_type_33 : decode cX6_type 33 = .ok (.imul, 1) := by decide +kernel
theorem dX6_type_34 : decode cX6_type 34 = .ok (.lshr, 1) := by decide +kernel
theorem dX6_type_35 : decode cX6_type 35 = .ok (.ldc2_w 101, 3) := by decide +kernel
theorem dX6_type_38 : decode cX6_type 38 = .ok (.land, 1) := by decide +kernel
theorem dX6_type_39 : decode cX6_type 39 = .ok (.l2i, 1) := by decide +kernel
theorem dX6_type_40 : decode cX6_type 40 = .ok (.istore 5, 2) := by decide +kernel
theorem dX6_type_42 : decode cX6_type 42 = .ok (.iload 5, 2) := by decide +kernel
theorem dX6_type_44 : decode cX6_type 44 = .ok (.invokestatic 92, 3) := by decide +kernel
theorem dX6_type_47 : decode cX6_type 47 = .ok (.ifCond .ne 19, 3) := by decide +kernel
theorem dX6_type_50 : decode cX6_type 50 = .ok (.iload 5, 2) := by decide +kernel
theorem dX6_type_52 : decode cX6_type 52 = .ok (.bipush 32, 2) := by decide +kernel
theorem dX6_type_54 : decode cX6_type 54 = .ok (.if_icmp .eq 12, 3) := by decide +kernel
theorem dX6_type_57 : decode cX6_type 57 = .ok (.iload 5, 2) := by decide +kernel
theorem dX6_type_59 : decode cX6_type 59 = .ok (.bipush 63, 2) := by decide +kernel
theorem dX6_type_61 : decode cX6_type 61 = .ok (.if_icmp .eq 5, 3) := by decide +kernel
theorem dX6_type_64 : decode cX6_type 64 = .ok (.iconst (-1), 1) := by decide +kernel
theorem dX6_type_65 : decode cX6_type 65 = .ok (.ireturn, 1) := by decide +kernel
theorem dX6_type_66 : decode cX6_type 66 = .ok (.iinc 4 1, 3) := by decide +kernel
theorem dX6_type_69 : decode cX6_type 69 = .ok (.goto (-47), 3) := by decide +kernel
theorem dX6_type_72 : decode cX6_type 72 = .ok (.aload_n 0, 1) := by decide +kernel
theorem dX6_type_73 : decode cX6_type 73 = .ok (.getfield 117, 3) := by decide +kernel
theorem dX6_type_76 : decode cX6_type 76 = .ok (.iload_n 3, 1) := by decide +kernel
theorem dX6_type_77 : decode cX6_type 77 = .ok (.iadd, 1) := by decide +kernel
theorem dX6_type_78 : decode cX6_type 78 = .ok (.bipush 40, 2) := by decide +kernel
theorem dX6_type_80 : decode cX6_type 80 = .ok (.if_icmp .le 6, 3) := by decide +kernel
theorem dX6_type_83 : decode cX6_type 83 = .ok (.bipush (-3), 2) := by decide +kernel
theorem dX6_type_85 : decode cX6_type 85 = .ok (.ireturn, 1) := by decide +kernel
theorem dX6_type_86 : decode cX6_type 86 = .ok (.iload_n 3, 1) := by decide +kernel
theorem dX6_type_87 : decode cX6_type 87 = .ok (.iconst 1, 1) := by decide +kernel
theorem dX6_type_88 : decode cX6_type 88 = .ok (.isub, 1) := by decide +kernel
theorem dX6_type_89 : decode cX6_type 89 = .ok (.istore 4, 2) := by decide +kernel
theorem dX6_type_91 : decode cX6_type 91 = .ok (.iload 4, 2) := by decide +kernel
theorem dX6_type_93 : decode cX6_type 93 = .ok (.ifCond .lt 40, 3) := by decide +kernel
theorem dX6_type_96 : decode cX6_type 96 = .ok (.aload_n 0, 1) := by decide +kernel
theorem dX6_type_97 : decode cX6_type 97 = .ok (.getfield 13, 3) := by decide +kernel
theorem dX6_type_100 : decode cX6_type 100 = .ok (.aload_n 0, 1) := by decide +kernel
theorem dX6_type_101 : decode cX6_type 101 = .ok (.getfield 117, 3) := by decide +kernel
theorem dX6_type_104 : decode cX6_type 104 = .ok (.lload_n 1, 1) := by decide +kernel
theorem dX6_type_105 : decode cX6_type 105 = .ok (.bipush 8, 2) := by decide +kernel
theorem dX6_type_107 : decode cX6_type 107 = .ok (.iload 4, 2) := by decide +kernel
theorem dX6_type_109 : decode cX6_type 109 = .ok (.imul, 1) := by decide +kernel
theorem dX6_type_110 : decode cX6_type 110 = .ok (.lshr, 1) := by decide +kernel
theorem dX6_type_111 : decode cX6_type 111 = .ok (.ldc2_w 101, 3) := by decide +kernel
theorem dX6_type_114 : decode cX6_type 114 = .ok (.land, 1) := by decide +kernel
theorem dX6_type_115 : decode cX6_type 115 = .ok (.l2i, 1) := by decide +kernel
theorem dX6_type_116 : decode cX6_type 116 = .ok (.iastore, 1) := by decide +kernel
theorem dX6_type_117 : decode cX6_type 117 = .ok (.aload_n 0, 1) := by decide +kernel
theorem dX6_type_118 : decode cX6_type 118 = .ok (.dup, 1) := by decide +kernel
theorem dX6_type_119 : decode cX6_type 119 = .ok (.getfield 117, 3) := by decide +kernel
theorem dX6_type_122 : decode cX6_type 122 = .ok (.iconst 1, 1) := by decide +kernel
theorem dX6_type_123 : decode cX6_type 123 = .ok (.iadd, 1) := by decide +kernel
theorem dX6_type_124 : decode cX6_type 124 = .ok (.putfield 117, 3) := by decide +kernel
theorem dX6_type_127 : decode cX6_type 127 = .ok (.iinc 4 (-1), 3) := by decide +kernel
theorem dX6_type_130 : decode cX6_type 130 = .ok (.goto (-39), 3) := by decide +kernel
theorem dX6_type_133 : decode cX6_type 133 = .ok (.aload_n 0, 1) := by decide +kernel
theorem dX6_type_134 : decode cX6_type 134 = .ok (.getfield 117, 3) := by decide +kernel
theorem dX6_type_137 : decode cX6_type 137 = .ok (.ireturn, 1) := by decide +kernel
theorem dX6_clear_0 : decode cX6_clear 0 = .ok (.aload_n 0, 1) := by decide +kernel
theorem dX6_clear_1 : decode cX6_clear 1 = .ok (.iconst 0, 1) := by decide +kernel
theorem dX6_clear_2 : decode cX6_clear 2 = .ok (.putfield 67, 3) := by decide +kernel
theorem dX6_clear_5 : decode cX6_clear 5 = .ok (.aload_n 0, 1) := by decide +kernel
theorem dX6_clear_6 : decode cX6_clear 6 = .ok (.getfield 117, 3) := by decide +kernel
theorem dX6_clear_9 : decode cX6_clear 9 = .ok (.istore_n 1, 1) := by decide +kernel
theorem dX6_clear_10 : decode cX6_clear 10 = .ok (.aload_n 0, 1) := by decide +kernel
theorem dX6_clear_11 : decode cX6_clear 11 = .ok (.iconst 0, 1) := by decide +kernel
theorem dX6_clear_12 : decode cX6_clear 12 = .ok (.putfield 117, 3) := by decide +kernel
theorem dX6_clear_15 : decode cX6_clear 15 = .ok (.iload_n 1, 1) := by decide +kernel
theorem dX6_clear_16 : decode cX6_clear 16 = .ok (.ireturn, 1) := by decide +kernel
set_option maxRecDepth 20000 in
theorem ggX6_sumOf_X6_worthOf : GoodIn wsX6_sumOf wsX6_worthOf := goodIn_r _ [7, 8, 9, 10, 6, 11, 12, 13, 14, 15, 16, 17, 18, 19, 20, 21, 22, 23, 24, 25, 26, 27, 28, 29, 30, 31, 32, 33, 34, 35, 36, 37, 38, 39, 40, 41, 42, 43, 44] (by decide +kernel) (by decide +kernel)
set_option maxRecDepth 20000 in
theorem gX6_sumOf_X6_worthOf : GoodIn wsX6_sumOf (wsV RX6 111 RX6 yX6_worthOf wsX6_worthOf) := goodIn_app (goodIn_of _ (by decide +kernel)) ggX6_sumOf_X6_worthOf
theorem dX6_sumOf_0 : decode cX6_sumOf 0 = .ok (.iconst 0, 1) := by decide +kernel
theorem dX6_sumOf_1 : decode cX6_sumOf 1 = .ok (.istore_n 3, 1) := by decide +kernel
theorem dX6_sumOf_2 : decode cX6_sumOf 2 = .ok (.iconst 0, 1) := by decide +kernel
theorem dX6_sumOf_3 : decode cX6_sumOf 3 = .ok (.istore 4, 2) := by decide +kernel
theorem dX6_sumOf_5 : decode cX6_sumOf 5 = .ok (.iload 4, 2) := by decide +kernel
theorem dX6_sumOf_7 : decode cX6_sumOf 7 = .ok (.aload_n 0, 1) := by decide +kernel
theorem dX6_sumOf_8 : decode cX6_sumOf 8 = .ok (.getfield 117, 3) := by decide +kernel
theorem dX6_sumOf_11 : decode cX6_sumOf 11 = .ok (.if_icmp .ge 44, 3) := by decide +kernel
theorem dX6_sumOf_14 : decode cX6_sumOf 14 = .ok (.iload_n 3, 1) := by decide +kernel
theorem dX6_sumOf_15 : decode cX6_sumOf 15 = .ok (.aload_n 0, 1) := by decide +kernel
theorem dX6_sumOf_16 : decode cX6_sumOf 16 = .ok (.iload_n 1, 1) := by decide +kernel
theorem dX6_sumOf_17 : decode cX6_sumOf 17 = .ok (.iload_n 2, 1) := by decide +kernel
theorem dX6_sumOf_18 : decode cX6_sumOf 18 = .ok (.aload_n 0, 1) := by decide +kernel
theorem dX6_sumOf_19 : decode cX6_sumOf 19 = .ok (.getfield 13, 3) := by decide +kernel
theorem dX6_sumOf_22 : decode cX6_sumOf 22 = .ok (.iload 4, 2) := by decide +kernel
theorem dX6_sumOf_24 : decode cX6_sumOf 24 = .ok (.iaload, 1) := by decide +kernel
theorem dX6_sumOf_25 : decode cX6_sumOf 25 = .ok (.iload 4, 2) := by decide +kernel
theorem dX6_sumOf_27 : decode cX6_sumOf 27 = .ok (.ifCond .ne 8, 3) := by decide +kernel
theorem dX6_sumOf_30 : decode cX6_sumOf 30 = .ok (.bipush 32, 2) := by decide +kernel
theorem dX6_sumOf_32 : decode cX6_sumOf 32 = .ok (.goto 12, 3) := by decide +kernel
theorem dX6_sumOf_35 : decode cX6_sumOf 35 = .ok (.aload_n 0, 1) := by decide +kernel
theorem dX6_sumOf_36 : decode cX6_sumOf 36 = .ok (.getfield 13, 3) := by decide +kernel
theorem dX6_sumOf_39 : decode cX6_sumOf 39 = .ok (.iload 4, 2) := by decide +kernel
theorem dX6_sumOf_41 : decode cX6_sumOf 41 = .ok (.iconst 1, 1) := by decide +kernel
theorem dX6_sumOf_42 : decode cX6_sumOf 42 = .ok (.isub, 1) := by decide +kernel
theorem dX6_sumOf_43 : decode cX6_sumOf 43 = .ok (.iaload, 1) := by decide +kernel
theorem dX6_sumOf_44 : decode cX6_sumOf 44 = .ok (.invokevirtual 111, 3) := by decide +kernel
theorem dX6_sumOf_47 : decode cX6_sumOf 47 = .ok (.iadd, 1) := by decide +kernel
theorem dX6_sumOf_48 : decode cX6_sumOf 48 = .ok (.istore_n 3, 1) := by decide +kernel
theorem dX6_sumOf_49 : decode cX6_sumOf 49 = .ok (.iinc 4 1, 3) := by decide +kernel
theorem dX6_sumOf_52 : decode cX6_sumOf 52 = .ok (.goto (-47), 3) := by decide +kernel
theorem dX6_sumOf_55 : decode cX6_sumOf 55 = .ok (.iload_n 3, 1) := by decide +kernel
theorem dX6_sumOf_56 : decode cX6_sumOf 56 = .ok (.ireturn, 1) := by decide +kernel
set_option maxRecDepth 20000 in
theorem ggX6_sum_X6_isWay : GoodIn wsX6_sum wsX6_isWay := goodIn_r _ [5, 6, 7, 8, 9, 4, 10] (by decide +kernel) (by decide +kernel)
set_option maxRecDepth 20000 in
theorem gX6_sum_X6_isWay : GoodIn wsX6_sum (va_wsS RX6 97 yX6_isWay wsX6_isWay) := goodIn_app (goodIn_of _ (by decide +kernel)) ggX6_sum_X6_isWay
set_option maxRecDepth 20000 in
theorem ggX6_sum_X6_sumOf : GoodIn wsX6_sum wsX6_sumOf := goodIn_r _ [14, 15, 16, 17, 18, 19, 4, 20, 21, 22, 23, 24, 25, 26, 8, 9, 10, 27, 28, 29, 30, 31, 32, 33, 34, 35, 36, 37, 38, 39, 40, 41, 42, 43, 44, 45, 46, 47, 48, 49, 50, 51, 52, 53, 54] (by decide +kernel) (by decide +kernel)
set_option maxRecDepth 20000 in
theorem gX6_sum_X6_sumOf : GoodIn wsX6_sum (wsV RX6 120 RX6 yX6_sumOf wsX6_sumOf) := goodIn_app (goodIn_of _ (by decide +kernel)) ggX6_sum_X6_sumOf
theorem dX6_sum_0 : decode cX6_sum 0 = .ok (.aload_n 0, 1) := by decide +kernel
theorem dX6_sum_1 : decode cX6_sum 1 = .ok (.iconst 0, 1) := by decide +kernel
theorem dX6_sum_2 : decode cX6_sum 2 = .ok (.putfield 67, 3) := by decide +kernel
theorem dX6_sum_5 : decode cX6_sum 5 = .ok (.iload_n 1, 1) := by decide +kernel
theorem dX6_sum_6 : decode cX6_sum 6 = .ok (.iload_n 2, 1) := by decide +kernel
theorem dX6_sum_7 : decode cX6_sum 7 = .ok (.invokestatic 97, 3) := by decide +kernel
theorem dX6_sum_10 : decode cX6_sum 10 = .ok (.ifCond .eq 12, 3) := by decide +kernel
theorem dX6_sum_13 : decode cX6_sum 13 = .ok (.aload_n 0, 1) := by decide +kernel
theorem dX6_sum_14 : decode cX6_sum 14 = .ok (.iload_n 1, 1) := by decide +kernel
theorem dX6_sum_15 : decode cX6_sum 15 = .ok (.iload_n 2, 1) := by decide +kernel
theorem dX6_sum_16 : decode cX6_sum 16 = .ok (.invokevirtual 120, 3) := by decide +kernel
theorem dX6_sum_19 : decode cX6_sum 19 = .ok (.goto 4, 3) := by decide +kernel
theorem dX6_sum_22 : decode cX6_sum 22 = .ok (.iconst (-1), 1) := by decide +kernel
theorem dX6_sum_23 : decode cX6_sum 23 = .ok (.ireturn, 1) := by decide +kernel
set_option maxRecDepth 20000 in
theorem ggX6_vocable_X6_in : GoodIn wsX6_vocable wsX6_in := goodIn_r _ [15] (by decide +kernel) (by decide +kernel)
set_option maxRecDepth 20000 in
theorem gX6_vocable_X6_in : GoodIn wsX6_vocable (va_wsS RX6 73 yX6_in wsX6_in) := goodIn_app (goodIn_of _ (by decide +kernel)) ggX6_vocable_X6_in
set_option maxRecDepth 20000 in
theorem ggX6_vocable_X6_isLetter : GoodIn wsX6_vocable wsX6_isLetter := goodIn_r _ [18, 19, 20, 12, 13, 14, 15, 21, 22, 23, 24, 25] (by decide +kernel) (by decide +kernel)
set_option maxRecDepth 20000 in
theorem gX6_vocable_X6_isLetter : GoodIn wsX6_vocable (va_wsS RX6 92 yX6_isLetter wsX6_isLetter) := goodIn_app (goodIn_of _ (by decide +kernel)) ggX6_vocable_X6_isLetter
theorem dX6_vocable_0 : decode cX6_vocable 0 = .ok (.aload_n 0, 1) := by decide +kernel
theorem dX6_vocable_1 : decode cX6_vocable 1 = .ok (.iconst 0, 1) := by decide +kernel
theorem dX6_vocable_2 : decode cX6_vocable 2 = .ok (.putfield 67, 3) := by decide +kernel
theorem dX6_vocable_5 : decode cX6_vocable 5 = .ok (.iload_n 1, 1) := by decide +kernel
theorem dX6_vocable_6 : decode cX6_vocable 6 = .ok (.i2l, 1) := by decide +kernel
theorem dX6_vocable_7 : decode cX6_vocable 7 = .ok (.lconst 1, 1) := by decide +kernel
theorem dX6_vocable_8 : decode cX6_vocable 8 = .ok (.ldc2_w 71, 3) := by decide +kernel
theorem dX6_vocable_11 : decode cX6_vocable 11 = .ok (.invokestatic 73, 3) := by decide +kernel
theorem dX6_vocable_14 : decode cX6_vocable 14 = .ok (.ifCond .eq 15, 3) := by decide +kernel
theorem dX6_vocable_17 : decode cX6_vocable 17 = .ok (.iload_n 2, 1) := by decide +kernel
theorem dX6_vocable_18 : decode cX6_vocable 18 = .ok (.i2l, 1) := by decide +kernel
theorem dX6_vocable_19 : decode cX6_vocable 19 = .ok (.lconst 0, 1) := by decide +kernel
theorem dX6_vocable_20 : decode cX6_vocable 20 = .ok (.ldc2_w 95, 3) := by decide +kernel
theorem dX6_vocable_23 : decode cX6_vocable 23 = .ok (.invokestatic 73, 3) := by decide +kernel
theorem dX6_vocable_26 : decode cX6_vocable 26 = .ok (.ifCond .ne 5, 3) := by decide +kernel
theorem dX6_vocable_29 : decode cX6_vocable 29 = .ok (.iconst (-1), 1) := by decide +kernel
theorem dX6_vocable_30 : decode cX6_vocable 30 = .ok (.ireturn, 1) := by decide +kernel
theorem dX6_vocable_31 : decode cX6_vocable 31 = .ok (.aload_n 0, 1) := by decide +kernel
theorem dX6_vocable_32 : decode cX6_vocable 32 = .ok (.getfield 117, 3) := by decide +kernel
theorem dX6_vocable_35 : decode cX6_vocable 35 = .ok (.i2l, 1) := by decide +kernel
theorem dX6_vocable_36 : decode cX6_vocable 36 = .ok (.lconst 1, 1) := by decide +kernel
theorem dX6_vocable_37 : decode cX6_vocable 37 = .ok (.ldc2_w 115, 3) := by decide +kernel
theorem dX6_vocable_40 : decode cX6_vocable 40 = .ok (.invokestatic 73, 3) := by decide +kernel
theorem dX6_vocable_43 : decode cX6_vocable 43 = .ok (.istore_n 3, 1) := by decide +kernel
theorem dX6_vocable_44 : decode cX6_vocable 44 = .ok (.iconst 0, 1) := by decide +kernel
theorem dX6_vocable_45 : decode cX6_vocable 45 = .ok (.istore 4, 2) := by decide +kernel
theorem dX6_vocable_47 : decode cX6_vocable 47 = .ok (.iload 4, 2) := by decide +kernel
theorem dX6_vocable_49 : decode cX6_vocable 49 = .ok (.aload_n 0, 1) := by decide +kernel
theorem dX6_vocable_50 : decode cX6_vocable 50 = .ok (.getfield 117, 3) := by decide +kernel
theorem dX6_vocable_53 : decode cX6_vocable 53 = .ok (.if_icmp .ge 22, 3) := by decide +kernel
theorem dX6_vocable_56 : decode cX6_vocable 56 = .ok (.iload_n 3, 1) := by decide +kernel
theorem dX6_vocable_57 : decode cX6_vocable 57 = .ok (.aload_n 0, 1) := by decide +kernel
theorem dX6_vocable_58 : decode cX6_vocable 58 = .ok (.getfield 13, 3) := by decide +kernel
theorem dX6_vocable_61 : decode cX6_vocable 61 = .ok (.iload 4, 2) := by decide +kernel
theorem dX6_vocable_63 : decode cX6_vocable 63 = .ok (.iaload, 1) := by decide +kernel
theorem dX6_vocable_64 : decode cX6_vocable 64 = .ok (.invokestatic 92, 3) := by decide +kernel
theorem dX6_vocable_67 : decode cX6_vocable 67 = .ok (.iand, 1) := by decide +kernel
theorem dX6_vocable_68 : decode cX6_vocable 68 = .ok (.istore_n 3, 1) := by decide +kernel
theorem dX6_vocable_69 : decode cX6_vocable 69 = .ok (.iinc 4 1, 3) := by decide +kernel
theorem dX6_vocable_72 : decode cX6_vocable 72 = .ok (.goto (-25), 3) := by decide +kernel
theorem dX6_vocable_75 : decode cX6_vocable 75 = .ok (.iload_n 3, 1) := by decide +kernel
theorem dX6_vocable_76 : decode cX6_vocable 76 = .ok (.ifCond .ne 6, 3) := by decide +kernel
theorem dX6_vocable_79 : decode cX6_vocable 79 = .ok (.bipush (-2), 2) := by decide +kernel
theorem dX6_vocable_81 : decode cX6_vocable 81 = .ok (.ireturn, 1) := by decide +kernel
theorem dX6_vocable_82 : decode cX6_vocable 82 = .ok (.aload_n 0, 1) := by decide +kernel
theorem dX6_vocable_83 : decode cX6_vocable 83 = .ok (.getfield 124, 3) := by decide +kernel
theorem dX6_vocable_86 : decode cX6_vocable 86 = .ok (.bipush 10, 2) := by decide +kernel
theorem dX6_vocable_88 : decode cX6_vocable 88 = .ok (.if_icmp .ne 6, 3) := by decide +kernel
theorem dX6_vocable_91 : decode cX6_vocable 91 = .ok (.bipush (-3), 2) := by decide +kernel
theorem dX6_vocable_93 : decode cX6_vocable 93 = .ok (.ireturn, 1) := by decide +kernel
theorem dX6_vocable_94 : decode cX6_vocable 94 = .ok (.iconst 0, 1) := by decide +kernel
theorem dX6_vocable_95 : decode cX6_vocable 95 = .ok (.istore 4, 2) := by decide +kernel
theorem dX6_vocable_97 : decode cX6_vocable 97 = .ok (.iload 4, 2) := by decide +kernel
theorem dX6_vocable_99 : decode cX6_vocable 99 = .ok (.aload_n 0, 1) := by decide +kernel
theorem dX6_vocable_100 : decode cX6_vocable 100 = .ok (.getfield 117, 3) := by decide +kernel
theorem dX6_vocable_103 : decode cX6_vocable 103 = .ok (.if_icmp .ge 31, 3) := by decide +kernel
theorem dX6_vocable_106 : decode cX6_vocable 106 = .ok (.aload_n 0, 1) := by decide +kernel
theorem dX6_vocable_107 : decode cX6_vocable 107 = .ok (.getfield 16, 3) := by decide +kernel
theorem dX6_vocable_110 : decode cX6_vocable 110 = .ok (.bipush 8, 2) := by decide +kernel
theorem dX6_vocable_112 : decode cX6_vocable 112 = .ok (.aload_n 0, 1) := by decide +kernel
theorem dX6_vocable_113 : decode cX6_vocable 113 = .ok (.getfield 124, 3) := by decide +kernel
theorem dX6_vocable_116 : decode cX6_vocable 116 = .ok (.imul, 1) := by decide +kernel
theorem dX6_vocable_117 : decode cX6_vocable 117 = .ok (.iload 4, 2) := by decide +kernel
theorem dX6_vocable_119 : decode cX6_vocable 119 = .ok (.iadd, 1) := by decide +kernel
theorem dX6_vocable_120 : decode cX6_vocable 120 = .ok (.aload_n 0, 1) := by decide +kernel
theorem dX6_vocable_121 : decode cX6_vocable 121 = .ok (.getfield 13, 3) := by decide +kernel
theorem dX6_vocable_124 : decode cX6_vocable 124 = .ok (.iload 4, 2) := by decide +kernel
theorem dX6_vocable_126 : decode cX6_vocable 126 = .ok (.iaload, 1) := by decide +kernel
theorem dX6_vocable_127 : decode cX6_vocable 127 = .ok (.iastore, 1) := by decide +kernel
theorem dX6_vocable_128 : decode cX6_vocable 128 = .ok (.iinc 4 1, 3) := by decide +kernel
theorem dX6_vocable_131 : decode cX6_vocable 131 = .ok (.goto (-34), 3) := by decide +kernel
theorem dX6_vocable_134 : decode cX6_vocable 134 = .ok (.aload_n 0, 1) := by decide +kernel
theorem dX6_vocable_135 : decode cX6_vocable 135 = .ok (.getfield 19, 3) := by decide +kernel
theorem dX6_vocable_138 : decode cX6_vocable 138 = .ok (.aload_n 0, 1) := by decide +kernel
theorem dX6_vocable_139 : decode cX6_vocable 139 = .ok (.getfield 124, 3) := by decide +kernel
theorem dX6_vocable_142 : decode cX6_vocable 142 = .ok (.aload_n 0, 1) := by decide +kernel
theorem dX6_vocable_143 : decode cX6_vocable 143 = .ok (.getfield 117, 3) := by decide +kernel
theorem dX6_vocable_146 : decode cX6_vocable 146 = .ok (.iastore, 1) := by decide +kernel
theorem dX6_vocable_147 : decode cX6_vocable 147 = .ok (.aload_n 0, 1) := by decide +kernel
theorem dX6_vocable_148 : decode cX6_vocable 148 = .ok (.getfield 22, 3) := by decide +kernel
theorem dX6_vocable_151 : decode cX6_vocable 151 = .ok (.aload_n 0, 1) := by decide +kernel
theorem dX6_vocable_152 : decode cX6_vocable 152 = .ok (.getfield 124, 3) := by decide +kernel
theorem dX6_vocable_155 : decode cX6_vocable 155 = .ok (.iload_n 1, 1) := by decide +kernel
theorem dX6_vocable_156 : decode cX6_vocable 156 = .ok (.iastore, 1) := by decide +kernel
theorem dX6_vocable_157 : decode cX6_vocable 157 = .ok (.aload_n 0, 1) := by decide +kernel
theorem dX6_vocable_158 : decode cX6_vocable 158 = .ok (.getfield 25, 3) := by decide +kernel
theorem dX6_vocable_161 : decode cX6_vocable 161 = .ok (.aload_n 0, 1) := by decide +kernel
theorem dX6_vocable_162 : decode cX6_vocable 162 = .ok (.getfield 124, 3) := by decide +kernel
theorem dX6_vocable_165 : decode cX6_vocable 165 = .ok (.iload_n 2, 1) := by decide +kernel
theorem dX6_vocable_166 : decode cX6_vocable 166 = .ok (.iastore, 1) := by decide +kernel
theorem dX6_vocable_167 : decode cX6_vocable 167 = .ok (.aload_n 0, 1) := by decide +kernel
theorem dX6_vocable_168 : decode cX6_vocable 168 = .ok (.iconst 0, 1) := by decide +kernel
theorem dX6_vocable_169 : decode cX6_vocable 169 = .ok (.putfield 117, 3) := by decide +kernel
theorem dX6_vocable_172 : decode cX6_vocable 172 = .ok (.aload_n 0, 1) := by decide +kernel
theorem dX6_vocable_173 : decode cX6_vocable 173 = .ok (.dup, 1) := by decide +kernel
theorem dX6_vocable_174 : decode cX6_vocable 174 = .ok (.getfield 124, 3) := by decide +kernel
theorem dX6_vocable_177 : decode cX6_vocable 177 = .ok (.iconst 1, 1) := by decide +kernel
theorem dX6_vocable_178 : decode cX6_vocable 178 = .ok (.iadd, 1) := by decide +kernel
theorem dX6_vocable_179 : decode cX6_vocable 179 = .ok (.putfield 124, 3) := by decide +kernel
theorem dX6_vocable_182 : decode cX6_vocable 182 = .ok (.aload_n 0, 1) := by decide +kernel
theorem dX6_vocable_183 : decode cX6_vocable 183 = .ok (.getfield 124, 3) := by decide +kernel
theorem dX6_vocable_186 : decode cX6_vocable 186 = .ok (.iconst 1, 1) := by decide +kernel
theorem dX6_vocable_187 : decode cX6_vocable 187 = .ok (.isub, 1) := by decide +kernel
theorem dX6_vocable_188 : decode cX6_vocable 188 = .ok (.ireturn, 1) := by decide +kernel
set_option maxRecDepth 20000 in
theorem ggX6_about_X6_in : GoodIn wsX6_about wsX6_in := goodIn_r _ [11] (by decide +kernel) (by decide +kernel)
set_option maxRecDepth 20000 in
theorem gX6_about_X6_in : GoodIn wsX6_about (va_wsS RX6 73 yX6_in wsX6_in) := goodIn_app (goodIn_of _ (by decide +kernel)) ggX6_about_X6_in
theorem dX6_about_0 : decode cX6_about 0 = .ok (.aload_n 0, 1) := by decide +kernel
theorem dX6_about_1 : decode cX6_about 1 = .ok (.iconst 0, 1) := by decide +kernel
theorem dX6_about_2 : decode cX6_about 2 = .ok (.putfield 67, 3) := by decide +kernel
theorem dX6_about_5 : decode cX6_about 5 = .ok (.iload_n 1, 1) := by decide +kernel
theorem dX6_about_6 : decode cX6_about 6 = .ok (.i2l, 1) := by decide +kernel
theorem dX6_about_7 : decode cX6_about 7 = .ok (.lconst 0, 1) := by decide +kernel
theorem dX6_about_8 : decode cX6_about 8 = .ok (.aload_n 0, 1) := by decide +kernel
theorem dX6_about_9 : decode cX6_about 9 = .ok (.getfield 124, 3) := by decide +kernel
theorem dX6_about_12 : decode cX6_about 12 = .ok (.iconst 1, 1) := by decide +kernel
theorem dX6_about_13 : decode cX6_about 13 = .ok (.isub, 1) := by decide +kernel
theorem dX6_about_14 : decode cX6_about 14 = .ok (.i2l, 1) := by decide +kernel
theorem dX6_about_15 : decode cX6_about 15 = .ok (.invokestatic 73, 3) := by decide +kernel
theorem dX6_about_18 : decode cX6_about 18 = .ok (.ifCond .eq 15, 3) := by decide +kernel
theorem dX6_about_21 : decode cX6_about 21 = .ok (.iload_n 2, 1) := by decide +kernel
theorem dX6_about_22 : decode cX6_about 22 = .ok (.i2l, 1) := by decide +kernel
theorem dX6_about_23 : decode cX6_about 23 = .ok (.lconst 0, 1) := by decide +kernel
theorem dX6_about_24 : decode cX6_about 24 = .ok (.ldc2_w 71, 3) := by decide +kernel
theorem dX6_about_27 : decode cX6_about 27 = .ok (.invokestatic 73, 3) := by decide +kernel
theorem dX6_about_30 : decode cX6_about 30 = .ok (.ifCond .ne 5, 3) := by decide +kernel
theorem dX6_about_33 : decode cX6_about 33 = .ok (.iconst (-1), 1) := by decide +kernel
theorem dX6_about_34 : decode cX6_about 34 = .ok (.ireturn, 1) := by decide +kernel
theorem dX6_about_35 : decode cX6_about 35 = .ok (.iload_n 2, 1) := by decide +kernel
theorem dX6_about_36 : decode cX6_about 36 = .ok (.ifCond .ne 12, 3) := by decide +kernel
theorem dX6_about_39 : decode cX6_about 39 = .ok (.aload_n 0, 1) := by decide +kernel
theorem dX6_about_40 : decode cX6_about 40 = .ok (.getfield 19, 3) := by decide +kernel
theorem dX6_about_43 : decode cX6_about 43 = .ok (.iload_n 1, 1) := by decide +kernel
theorem dX6_about_44 : decode cX6_about 44 = .ok (.iaload, 1) := by decide +kernel
theorem dX6_about_45 : decode cX6_about 45 = .ok (.goto 40, 3) := by decide +kernel
theorem dX6_about_48 : decode cX6_about 48 = .ok (.iload_n 2, 1) := by decide +kernel
theorem dX6_about_49 : decode cX6_about 49 = .ok (.iconst 1, 1) := by decide +kernel
theorem dX6_about_50 : decode cX6_about 50 = .ok (.if_icmp .ne 12, 3) := by decide +kernel
theorem dX6_about_53 : decode cX6_about 53 = .ok (.aload_n 0, 1) := by decide +kernel
theorem dX6_about_54 : decode cX6_about 54 = .ok (.getfield 22, 3) := by decide +kernel
theorem dX6_about_57 : decode cX6_about 57 = .ok (.iload_n 1, 1) := by decide +kernel
theorem dX6_about_58 : decode cX6_about 58 = .ok (.iaload, 1) := by decide +kernel
theorem dX6_about_59 : decode cX6_about 59 = .ok (.goto 26, 3) := by decide +kernel
theorem dX6_about_62 : decode cX6_about 62 = .ok (.iload_n 2, 1) := by decide +kernel
theorem dX6_about_63 : decode cX6_about 63 = .ok (.iconst 2, 1) := by decide +kernel
theorem dX6_about_64 : decode cX6_about 64 = .ok (.if_icmp .ne 12, 3) := by decide +kernel
theorem dX6_about_67 : decode cX6_about 67 = .ok (.aload_n 0, 1) := by decide +kernel
theorem dX6_about_68 : decode cX6_about 68 = .ok (.getfield 25, 3) := by decide +kernel
theorem dX6_about_71 : decode cX6_about 71 = .ok (.iload_n 1, 1) := by decide +kernel
theorem dX6_about_72 : decode cX6_about 72 = .ok (.iaload, 1) := by decide +kernel
theorem dX6_about_73 : decode cX6_about 73 = .ok (.goto 12, 3) := by decide +kernel
theorem dX6_about_76 : decode cX6_about 76 = .ok (.aload_n 0, 1) := by decide +kernel
theorem dX6_about_77 : decode cX6_about 77 = .ok (.getfield 16, 3) := by decide +kernel
theorem dX6_about_80 : decode cX6_about 80 = .ok (.bipush 8, 2) := by decide +kernel
theorem dX6_about_82 : decode cX6_about 82 = .ok (.iload_n 1, 1) := by decide +kernel
theorem dX6_about_83 : decode cX6_about 83 = .ok (.imul, 1) := by decide +kernel
theorem dX6_about_84 : decode cX6_about 84 = .ok (.iaload, 1) := by decide +kernel
theorem dX6_about_85 : decode cX6_about 85 = .ok (.ireturn, 1) := by decide +kernel
set_option maxRecDepth 20000 in
theorem ggX6_order_X6_in : GoodIn wsX6_order wsX6_in := goodIn_r _ [8] (by decide +kernel) (by decide +kernel)
set_option maxRecDepth 20000 in
theorem gX6_order_X6_in : GoodIn wsX6_order (va_wsS RX6 73 yX6_in wsX6_in) := goodIn_app (goodIn_of _ (by decide +kernel)) ggX6_order_X6_in
theorem dX6_order_0 : decode cX6_order 0 = .ok (.aload_n 0, 1) := by decide +kernel
theorem dX6_order_1 : decode cX6_order 1 = .ok (.iconst 0, 1) := by decide +kernel
theorem dX6_order_2 : decode cX6_order 2 = .ok (.putfield 67, 3) := by decide +kernel
theorem dX6_order_5 : decode cX6_order 5 = .ok (.iload_n 1, 1) := by decide +kernel
theorem dX6_order_6 : decode cX6_order 6 = .ok (.i2l, 1) := by decide +kernel
theorem dX6_order_7 : decode cX6_order 7 = .ok (.lconst 0, 1) := by decide +kernel
theorem dX6_order_8 : decode cX6_order 8 = .ok (.ldc2_w 71, 3) := by decide +kernel
theorem dX6_order_11 : decode cX6_order 11 = .ok (.invokestatic 73, 3) := by decide +kernel
theorem dX6_order_14 : decode cX6_order 14 = .ok (.ifCond .eq 15, 3) := by decide +kernel
theorem dX6_order_17 : decode cX6_order 17 = .ok (.iload_n 2, 1) := by decide +kernel
theorem dX6_order_18 : decode cX6_order 18 = .ok (.i2l, 1) := by decide +kernel
theorem dX6_order_19 : decode cX6_order 19 = .ok (.lconst 0, 1) := by decide +kernel
theorem dX6_order_20 : decode cX6_order 20 = .ok (.ldc2_w 127, 3) := by decide +kernel
theorem dX6_order_23 : decode cX6_order 23 = .ok (.invokestatic 73, 3) := by decide +kernel
theorem dX6_order_26 : decode cX6_order 26 = .ok (.ifCond .ne 5, 3) := by decide +kernel
theorem dX6_order_29 : decode cX6_order 29 = .ok (.iconst (-1), 1) := by decide +kernel
theorem dX6_order_30 : decode cX6_order 30 = .ok (.ireturn, 1) := by decide +kernel
theorem dX6_order_31 : decode cX6_order 31 = .ok (.aload_n 0, 1) := by decide +kernel
theorem dX6_order_32 : decode cX6_order 32 = .ok (.getfield 28, 3) := by decide +kernel
theorem dX6_order_35 : decode cX6_order 35 = .ok (.iload_n 1, 1) := by decide +kernel
theorem dX6_order_36 : decode cX6_order 36 = .ok (.iaload, 1) := by decide +kernel
theorem dX6_order_37 : decode cX6_order 37 = .ok (.istore_n 3, 1) := by decide +kernel
theorem dX6_order_38 : decode cX6_order 38 = .ok (.aload_n 0, 1) := by decide +kernel
theorem dX6_order_39 : decode cX6_order 39 = .ok (.getfield 28, 3) := by decide +kernel
theorem dX6_order_42 : decode cX6_order 42 = .ok (.iload_n 1, 1) := by decide +kernel
theorem dX6_order_43 : decode cX6_order 43 = .ok (.iload_n 2, 1) := by decide +kernel
theorem dX6_order_44 : decode cX6_order 44 = .ok (.iastore, 1) := by decide +kernel
theorem dX6_order_45 : decode cX6_order 45 = .ok (.iload_n 3, 1) := by decide +kernel
theorem dX6_order_46 : decode cX6_order 46 = .ok (.ireturn, 1) := by decide +kernel
theorem dX6_isAfter_0 : decode cX6_isAfter 0 = .ok (.aload_n 0, 1) := by decide +kernel
theorem dX6_isAfter_1 : decode cX6_isAfter 1 = .ok (.getfield 28, 3) := by decide +kernel
theorem dX6_isAfter_4 : decode cX6_isAfter 4 = .ok (.iload_n 1, 1) := by decide +kernel
theorem dX6_isAfter_5 : decode cX6_isAfter 5 = .ok (.iaload, 1) := by decide +kernel
theorem dX6_isAfter_6 : decode cX6_isAfter 6 = .ok (.aload_n 0, 1) := by decide +kernel
theorem dX6_isAfter_7 : decode cX6_isAfter 7 = .ok (.getfield 25, 3) := by decide +kernel
theorem dX6_isAfter_10 : decode cX6_isAfter 10 = .ok (.iload_n 2, 1) := by decide +kernel
theorem dX6_isAfter_11 : decode cX6_isAfter 11 = .ok (.iaload, 1) := by decide +kernel
theorem dX6_isAfter_12 : decode cX6_isAfter 12 = .ok (.ishr, 1) := by decide +kernel
theorem dX6_isAfter_13 : decode cX6_isAfter 13 = .ok (.iconst 1, 1) := by decide +kernel
theorem dX6_isAfter_14 : decode cX6_isAfter 14 = .ok (.iand, 1) := by decide +kernel
theorem dX6_isAfter_15 : decode cX6_isAfter 15 = .ok (.iconst 1, 1) := by decide +kernel
theorem dX6_isAfter_16 : decode cX6_isAfter 16 = .ok (.if_icmp .ne 7, 3) := by decide +kernel
theorem dX6_isAfter_19 : decode cX6_isAfter 19 = .ok (.iconst 1, 1) := by decide +kernel
theorem dX6_isAfter_20 : decode cX6_isAfter 20 = .ok (.goto 4, 3) := by decide +kernel
theorem dX6_isAfter_23 : decode cX6_isAfter 23 = .ok (.iconst 0, 1) := by decide +kernel
theorem dX6_isAfter_24 : decode cX6_isAfter 24 = .ok (.ireturn, 1) := by decide +kernel
set_option maxRecDepth 20000 in
theorem ggX6_many_X6_in : GoodIn wsX6_many wsX6_in := goodIn_r _ [11] (by decide +kernel) (by decide +kernel)
set_option maxRecDepth 20000 in
theorem gX6_many_X6_in : GoodIn wsX6_many (va_wsS RX6 73 yX6_in wsX6_in) := goodIn_app (goodIn_of _ (by decide +kernel)) ggX6_many_X6_in
set_option maxRecDepth 20000 in
theorem ggX6_many_X6_isAfter : GoodIn wsX6_many wsX6_isAfter := goodIn_r _ [15, 16, 7, 17, 18, 19, 20, 21, 22, 23, 24, 25, 26, 27, 28, 29, 30, 31, 32, 33, 34, 35, 36, 37, 38, 39] (by decide +kernel) (by decide +kernel)
set_option maxRecDepth 20000 in
theorem gX6_many_X6_isAfter : GoodIn wsX6_many (wsV RX6 131 RX6 yX6_isAfter wsX6_isAfter) := goodIn_app (goodIn_of _ (by decide +kernel)) ggX6_many_X6_isAfter
theorem dX6_many_0 : decode cX6_many 0 = .ok (.aload_n 0, 1) := by decide +kernel
theorem dX6_many_1 : decode cX6_many 1 = .ok (.iconst 0, 1) := by decide +kernel
theorem dX6_many_2 : decode cX6_many 2 = .ok (.putfield 67, 3) := by decide +kernel
theorem dX6_many_5 : decode cX6_many 5 = .ok (.iload_n 1, 1) := by decide +kernel
theorem dX6_many_6 : decode cX6_many 6 = .ok (.i2l, 1) := by decide +kernel
theorem dX6_many_7 : decode cX6_many 7 = .ok (.lconst 1, 1) := by decide +kernel
theorem dX6_many_8 : decode cX6_many 8 = .ok (.ldc2_w 115, 3) := by decide +kernel
theorem dX6_many_11 : decode cX6_many 11 = .ok (.invokestatic 73, 3) := by decide +kernel
theorem dX6_many_14 : decode cX6_many 14 = .ok (.ifCond .ne 7, 3) := by decide +kernel
theorem dX6_many_17 : decode cX6_many 17 = .ok (.ldc2_w 129, 3) := by decide +kernel
theorem dX6_many_20 : decode cX6_many 20 = .ok (.lreturn, 1) := by decide +kernel
theorem dX6_many_21 : decode cX6_many 21 = .ok (.iconst 0, 1) := by decide +kernel
theorem dX6_many_22 : decode cX6_many 22 = .ok (.istore_n 2, 1) := by decide +kernel
theorem dX6_many_23 : decode cX6_many 23 = .ok (.iload_n 2, 1) := by decide +kernel
theorem dX6_many_24 : decode cX6_many 24 = .ok (.iload_n 1, 1) := by decide +kernel
theorem dX6_many_25 : decode cX6_many 25 = .ok (.if_icmp .gt 117, 3) := by decide +kernel
theorem dX6_many_28 : decode cX6_many 28 = .ok (.iconst 0, 1) := by decide +kernel
theorem dX6_many_29 : decode cX6_many 29 = .ok (.istore_n 3, 1) := by decide +kernel
theorem dX6_many_30 : decode cX6_many 30 = .ok (.iload_n 3, 1) := by decide +kernel
theorem dX6_many_31 : decode cX6_many 31 = .ok (.iconst 4, 1) := by decide +kernel
theorem dX6_many_32 : decode cX6_many 32 = .ok (.if_icmp .ge 104, 3) := by decide +kernel
theorem dX6_many_35 : decode cX6_many 35 = .ok (.iload_n 2, 1) := by decide +kernel
theorem dX6_many_36 : decode cX6_many 36 = .ok (.ifCond .ne 7, 3) := by decide +kernel
theorem dX6_many_39 : decode cX6_many 39 = .ok (.lconst 1, 1) := by decide +kernel
theorem dX6_many_40 : decode cX6_many 40 = .ok (.goto 4, 3) := by decide +kernel
theorem dX6_many_43 : decode cX6_many 43 = .ok (.lconst 0, 1) := by decide +kernel
theorem dX6_many_44 : decode cX6_many 44 = .ok (.lstore 4, 2) := by decide +kernel
theorem dX6_many_46 : decode cX6_many 46 = .ok (.iconst 0, 1) := by decide +kernel
theorem dX6_many_47 : decode cX6_many 47 = .ok (.istore 6, 2) := by decide +kernel
theorem dX6_many_49 : decode cX6_many 49 = .ok (.iload 6, 2) := by decide +kernel
theorem dX6_many_51 : decode cX6_many 51 = .ok (.aload_n 0, 1) := by decide +kernel
theorem dX6_many_52 : decode cX6_many 52 = .ok (.getfield 124, 3) := by decide +kernel
theorem dX6_many_55 : decode cX6_many 55 = .ok (.if_icmp .ge 63, 3) := by decide +kernel
theorem dX6_many_58 : decode cX6_many 58 = .ok (.lload 4, 2) := by decide +kernel
theorem dX6_many_60 : decode cX6_many 60 = .ok (.aload_n 0, 1) := by decide +kernel
theorem dX6_many_61 : decode cX6_many 61 = .ok (.getfield 22, 3) := by decide +kernel
theorem dX6_many_64 : decode cX6_many 64 = .ok (.iload 6, 2) := by decide +kernel
theorem dX6_many_66 : decode cX6_many 66 = .ok (.iaload, 1) := by decide +kernel
theorem dX6_many_67 : decode cX6_many 67 = .ok (.iload_n 2, 1) := by decide +kernel
theorem dX6_many_68 : decode cX6_many 68 = .ok (.if_icmp .gt 40, 3) := by decide +kernel
theorem dX6_many_71 : decode cX6_many 71 = .ok (.aload_n 0, 1) := by decide +kernel
theorem dX6_many_72 : decode cX6_many 72 = .ok (.iload_n 3, 1) := by decide +kernel
theorem dX6_many_73 : decode cX6_many 73 = .ok (.iload 6, 2) := by decide +kernel
theorem dX6_many_75 : decode cX6_many 75 = .ok (.invokevirtual 131, 3) := by decide +kernel
theorem dX6_many_78 : decode cX6_many 78 = .ok (.ifCond .eq 30, 3) := by decide +kernel
theorem dX6_many_81 : decode cX6_many 81 = .ok (.aload_n 0, 1) := by decide +kernel
theorem dX6_many_82 : decode cX6_many 82 = .ok (.getfield 36, 3) := by decide +kernel
theorem dX6_many_85 : decode cX6_many 85 = .ok (.iconst 4, 1) := by decide +kernel
theorem dX6_many_86 : decode cX6_many 86 = .ok (.iload_n 2, 1) := by decide +kernel
theorem dX6_many_87 : decode cX6_many 87 = .ok (.aload_n 0, 1) := by decide +kernel
theorem dX6_many_88 : decode cX6_many 88 = .ok (.getfield 22, 3) := by decide +kernel
theorem dX6_many_91 : decode cX6_many 91 = .ok (.iload 6, 2) := by decide +kernel
theorem dX6_many_93 : decode cX6_many 93 = .ok (.iaload, 1) := by decide +kernel
theorem dX6_many_94 : decode cX6_many 94 = .ok (.isub, 1) := by decide +kernel
theorem dX6_many_95 : decode cX6_many 95 = .ok (.imul, 1) := by decide +kernel
theorem dX6_many_96 : decode cX6_many 96 = .ok (.aload_n 0, 1) := by decide +kernel
theorem dX6_many_97 : decode cX6_many 97 = .ok (.getfield 25, 3) := by decide +kernel
theorem dX6_many_100 : decode cX6_many 100 = .ok (.iload 6, 2) := by decide +kernel
theorem dX6_many_102 : decode cX6_many 102 = .ok (.iaload, 1) := by decide +kernel
theorem dX6_many_103 : decode cX6_many 103 = .ok (.iadd, 1) := by decide +kernel
theorem dX6_many_104 : decode cX6_many 104 = .ok (.laload, 1) := by decide +kernel
theorem dX6_many_105 : decode cX6_many 105 = .ok (.goto 4, 3) := by decide +kernel
theorem dX6_many_108 : decode cX6_many 108 = .ok (.lconst 0, 1) := by decide +kernel
theorem dX6_many_109 : decode cX6_many 109 = .ok (.ladd, 1) := by decide +kernel
theorem dX6_many_110 : decode cX6_many 110 = .ok (.lstore 4, 2) := by decide +kernel
theorem dX6_many_112 : decode cX6_many 112 = .ok (.iinc 6 1, 3) := by decide +kernel
theorem dX6_many_115 : decode cX6_many 115 = .ok (.goto (-66), 3) := by decide +kernel
theorem dX6_many_118 : decode cX6_many 118 = .ok (.aload_n 0, 1) := by decide +kernel
theorem dX6_many_119 : decode cX6_many 119 = .ok (.getfield 36, 3) := by decide +kernel
theorem dX6_many_122 : decode cX6_many 122 = .ok (.iconst 4, 1) := by decide +kernel
theorem dX6_many_123 : decode cX6_many 123 = .ok (.iload_n 2, 1) := by decide +kernel
theorem dX6_many_124 : decode cX6_many 124 = .ok (.imul, 1) := by decide +kernel
theorem dX6_many_125 : decode cX6_many 125 = .ok (.iload_n 3, 1) := by decide +kernel
theorem dX6_many_126 : decode cX6_many 126 = .ok (.iadd, 1) := by decide +kernel
theorem dX6_many_127 : decode cX6_many 127 = .ok (.lload 4, 2) := by decide +kernel
theorem dX6_many_129 : decode cX6_many 129 = .ok (.lastore, 1) := by decide +kernel
theorem dX6_many_130 : decode cX6_many 130 = .ok (.iinc 3 1, 3) := by decide +kernel
theorem dX6_many_133 : decode cX6_many 133 = .ok (.goto (-103), 3) := by decide +kernel
theorem dX6_many_136 : decode cX6_many 136 = .ok (.iinc 2 1, 3) := by decide +kernel
theorem dX6_many_139 : decode cX6_many 139 = .ok (.goto (-116), 3) := by decide +kernel
theorem dX6_many_142 : decode cX6_many 142 = .ok (.aload_n 0, 1) := by decide +kernel
theorem dX6_many_143 : decode cX6_many 143 = .ok (.getfield 36, 3) := by decide +kernel
theorem dX6_many_146 : decode cX6_many 146 = .ok (.iconst 4, 1) := by decide +kernel
theorem dX6_many_147 : decode cX6_many 147 = .ok (.iload_n 1, 1) := by decide +kernel
theorem dX6_many_148 : decode cX6_many 148 = .ok (.imul, 1) := by decide +kernel
theorem dX6_many_149 : decode cX6_many 149 = .ok (.iconst 3, 1) := by decide +kernel
theorem dX6_many_150 : decode cX6_many 150 = .ok (.iadd, 1) := by decide +kernel
theorem dX6_many_151 : decode cX6_many 151 = .ok (.laload, 1) := by decide +kernel
theorem dX6_many_152 : decode cX6_many 152 = .ok (.lreturn, 1) := by decide +kernel
set_option maxRecDepth 20000 in
theorem ggX6_owns_X6_worthOf : GoodIn wsX6_owns wsX6_worthOf := goodIn_r _ [8, 9, 10, 11, 7, 12, 13, 14, 15, 16, 17, 18, 19, 20, 21, 22, 23, 24, 25, 26, 27, 28, 29, 30, 31, 32, 33, 34, 35, 36, 37, 38, 39, 40, 41, 42, 43, 44, 45] (by decide +kernel) (by decide +kernel)
set_option maxRecDepth 20000 in
theorem gX6_owns_X6_worthOf : GoodIn wsX6_owns (wsV RX6 111 RX6 yX6_worthOf wsX6_worthOf) := goodIn_app (goodIn_of _ (by decide +kernel)) ggX6_owns_X6_worthOf
theorem dX6_owns_0 : decode cX6_owns 0 = .ok (.iconst 0, 1) := by decide +kernel
theorem dX6_owns_1 : decode cX6_owns 1 = .ok (.istore 4, 2) := by decide +kernel
theorem dX6_owns_3 : decode cX6_owns 3 = .ok (.iload 4, 2) := by decide +kernel
theorem dX6_owns_5 : decode cX6_owns 5 = .ok (.aload_n 0, 1) := by decide +kernel
theorem dX6_owns_6 : decode cX6_owns 6 = .ok (.getfield 124, 3) := by decide +kernel
theorem dX6_owns_9 : decode cX6_owns 9 = .ok (.if_icmp .ge 86, 3) := by decide +kernel
theorem dX6_owns_12 : decode cX6_owns 12 = .ok (.aload_n 3, 1) := by decide +kernel
theorem dX6_owns_13 : decode cX6_owns 13 = .ok (.iload 4, 2) := by decide +kernel
theorem dX6_owns_15 : decode cX6_owns 15 = .ok (.iconst 0, 1) := by decide +kernel
theorem dX6_owns_16 : decode cX6_owns 16 = .ok (.iastore, 1) := by decide +kernel
theorem dX6_owns_17 : decode cX6_owns 17 = .ok (.iconst 0, 1) := by decide +kernel
theorem dX6_owns_18 : decode cX6_owns 18 = .ok (.istore 5, 2) := by decide +kernel
theorem dX6_owns_20 : decode cX6_owns 20 = .ok (.iload 5, 2) := by decide +kernel
theorem dX6_owns_22 : decode cX6_owns 22 = .ok (.aload_n 0, 1) := by decide +kernel
theorem dX6_owns_23 : decode cX6_owns 23 = .ok (.getfield 19, 3) := by decide +kernel
theorem dX6_owns_26 : decode cX6_owns 26 = .ok (.iload 4, 2) := by decide +kernel
theorem dX6_owns_28 : decode cX6_owns 28 = .ok (.iaload, 1) := by decide +kernel
theorem dX6_owns_29 : decode cX6_owns 29 = .ok (.if_icmp .ge 60, 3) := by decide +kernel
theorem dX6_owns_32 : decode cX6_owns 32 = .ok (.aload_n 3, 1) := by decide +kernel
theorem dX6_owns_33 : decode cX6_owns 33 = .ok (.iload 4, 2) := by decide +kernel
theorem dX6_owns_35 : decode cX6_owns 35 = .ok (.dup2, 1) := by decide +kernel
theorem dX6_owns_36 : decode cX6_owns 36 = .ok (.iaload, 1) := by decide +kernel
theorem dX6_owns_37 : decode cX6_owns 37 = .ok (.aload_n 0, 1) := by decide +kernel
theorem dX6_owns_38 : decode cX6_owns 38 = .ok (.iload_n 1, 1) := by decide +kernel
theorem dX6_owns_39 : decode cX6_owns 39 = .ok (.iload_n 2, 1) := by decide +kernel
theorem dX6_owns_40 : decode cX6_owns 40 = .ok (.aload_n 0, 1) := by decide +kernel
theorem dX6_owns_41 : decode cX6_owns 41 = .ok (.getfield 16, 3) := by decide +kernel
theorem dX6_owns_44 : decode cX6_owns 44 = .ok (.bipush 8, 2) := by decide +kernel
theorem dX6_owns_46 : decode cX6_owns 46 = .ok (.iload 4, 2) := by decide +kernel
theorem dX6_owns_48 : decode cX6_owns 48 = .ok (.imul, 1) := by decide +kernel
theorem dX6_owns_49 : decode cX6_owns 49 = .ok (.iload 5, 2) := by decide +kernel
theorem dX6_owns_51 : decode cX6_owns 51 = .ok (.iadd, 1) := by decide +kernel
theorem dX6_owns_52 : decode cX6_owns 52 = .ok (.iaload, 1) := by decide +kernel
theorem dX6_owns_53 : decode cX6_owns 53 = .ok (.iload 5, 2) := by decide +kernel
theorem dX6_owns_55 : decode cX6_owns 55 = .ok (.ifCond .ne 8, 3) := by decide +kernel
theorem dX6_owns_58 : decode cX6_owns 58 = .ok (.bipush 32, 2) := by decide +kernel
theorem dX6_owns_60 : decode cX6_owns 60 = .ok (.goto 18, 3) := by decide +kernel
theorem dX6_owns_63 : decode cX6_owns 63 = .ok (.aload_n 0, 1) := by decide +kernel
theorem dX6_owns_64 : decode cX6_owns 64 = .ok (.getfield 16, 3) := by decide +kernel
theorem dX6_owns_67 : decode cX6_owns 67 = .ok (.bipush 8, 2) := by decide +kernel
theorem dX6_owns_69 : decode cX6_owns 69 = .ok (.iload 4, 2) := by decide +kernel
theorem dX6_owns_71 : decode cX6_owns 71 = .ok (.imul, 1) := by decide +kernel
theorem dX6_owns_72 : decode cX6_owns 72 = .ok (.iload 5, 2) := by decide +kernel
theorem dX6_owns_74 : decode cX6_owns 74 = .ok (.iadd, 1) := by decide +kernel
theorem dX6_owns_75 : decode cX6_owns 75 = .ok (.iconst 1, 1) := by decide +kernel
theorem dX6_owns_76 : decode cX6_owns 76 = .ok (.isub, 1) := by decide +kernel
theorem dX6_owns_77 : decode cX6_owns 77 = .ok (.iaload, 1) := by decide +kernel
theorem dX6_owns_78 : decode cX6_owns 78 = .ok (.invokevirtual 111, 3) := by decide +kernel
theorem dX6_owns_81 : decode cX6_owns 81 = .ok (.iadd, 1) := by decide +kernel
theorem dX6_owns_82 : decode cX6_owns 82 = .ok (.iastore, 1) := by decide +kernel
theorem dX6_owns_83 : decode cX6_owns 83 = .ok (.iinc 5 1, 3) := by decide +kernel
theorem dX6_owns_86 : decode cX6_owns 86 = .ok (.goto (-66), 3) := by decide +kernel
theorem dX6_owns_89 : decode cX6_owns 89 = .ok (.iinc 4 1, 3) := by decide +kernel
theorem dX6_owns_92 : decode cX6_owns 92 = .ok (.goto (-89), 3) := by decide +kernel
theorem dX6_owns_95 : decode cX6_owns 95 = .ok (.return_, 1) := by decide +kernel
theorem dX6_place_0 : decode cX6_place 0 = .ok (.sipush 3001, 3) := by decide +kernel
theorem dX6_place_3 : decode cX6_place 3 = .ok (.iconst 4, 1) := by decide +kernel
theorem dX6_place_4 : decode cX6_place 4 = .ok (.iload_n 0, 1) := by decide +kernel
theorem dX6_place_5 : decode cX6_place 5 = .ok (.imul, 1) := by decide +kernel
theorem dX6_place_6 : decode cX6_place 6 = .ok (.iload_n 1, 1) := by decide +kernel
theorem dX6_place_7 : decode cX6_place 7 = .ok (.iadd, 1) := by decide +kernel
theorem dX6_place_8 : decode cX6_place 8 = .ok (.imul, 1) := by decide +kernel
theorem dX6_place_9 : decode cX6_place 9 = .ok (.iload_n 2, 1) := by decide +kernel
theorem dX6_place_10 : decode cX6_place 10 = .ok (.iadd, 1) := by decide +kernel
theorem dX6_place_11 : decode cX6_place 11 = .ok (.ireturn, 1) := by decide +kernel
set_option maxRecDepth 20000 in
theorem ggX6_works_X6_owns : GoodIn wsX6_works wsX6_owns := goodIn_r _ [10, 2, 11, 12, 13, 14, 15, 9, 16, 17, 18, 19, 20, 21, 22, 23, 24, 25, 26, 27, 28, 29, 30, 39, 40, 41, 42, 43, 44, 45, 46, 47, 48, 49, 50, 51, 52, 53, 54, 55, 56, 57, 58, 59, 60, 61] (by decide +kernel) (by decide +kernel)
set_option maxRecDepth 20000 in
theorem gX6_works_X6_owns : GoodIn wsX6_works (wsV RX6 134 RX6 yX6_owns wsX6_owns) := goodIn_app (goodIn_of _ (by decide +kernel)) ggX6_works_X6_owns
set_option maxRecDepth 20000 in
theorem ggX6_works_X6_isAfter : GoodIn wsX6_works wsX6_isAfter := goodIn_r _ [34, 35, 5, 39, 40, 41, 42, 43, 44, 45, 46, 47, 48, 49, 50, 51, 52, 53, 54, 55, 56, 57, 58, 59, 60, 61] (by decide +kernel) (by decide +kernel)
set_option maxRecDepth 20000 in
theorem gX6_works_X6_isAfter : GoodIn wsX6_works (wsV RX6 131 RX6 yX6_isAfter wsX6_isAfter) := goodIn_app (goodIn_of _ (by decide +kernel)) ggX6_works_X6_isAfter
set_option maxRecDepth 20000 in
theorem ggX6_works_X6_place : GoodIn wsX6_works wsX6_place := goodIn_r _ [38] (by decide +kernel) (by decide +kernel)
set_option maxRecDepth 20000 in
theorem gX6_works_X6_place : GoodIn wsX6_works (va_wsS RX6 138 yX6_place wsX6_place) := goodIn_app (goodIn_of _ (by decide +kernel)) ggX6_works_X6_place
theorem dX6_works_0 : decode cX6_works 0 = .ok (.aload_n 0, 1) := by decide +kernel
theorem dX6_works_1 : decode cX6_works 1 = .ok (.iload_n 3, 1) := by decide +kernel
theorem dX6_works_2 : decode cX6_works 2 = .ok (.iload 4, 2) := by decide +kernel
theorem dX6_works_4 : decode cX6_works 4 = .ok (.aload_n 0, 1) := by decide +kernel
theorem dX6_works_5 : decode cX6_works 5 = .ok (.getfield 39, 3) := by decide +kernel
theorem dX6_works_8 : decode cX6_works 8 = .ok (.invokevirtual 134, 3) := by decide +kernel
theorem dX6_works_11 : decode cX6_works 11 = .ok (.iconst 0, 1) := by decide +kernel
theorem dX6_works_12 : decode cX6_works 12 = .ok (.istore 5, 2) := by decide +kernel
theorem dX6_works_14 : decode cX6_works 14 = .ok (.iload 5, 2) := by decide +kernel
theorem dX6_works_16 : decode cX6_works 16 = .ok (.iload_n 1, 1) := by decide +kernel
theorem dX6_works_17 : decode cX6_works 17 = .ok (.if_icmp .gt 169, 3) := by decide +kernel
theorem dX6_works_20 : decode cX6_works 20 = .ok (.iconst 0, 1) := by decide +kernel
theorem dX6_works_21 : decode cX6_works 21 = .ok (.istore 6, 2) := by decide +kernel
theorem dX6_works_23 : decode cX6_works 23 = .ok (.iload 6, 2) := by decide +kernel
theorem dX6_works_25 : decode cX6_works 25 = .ok (.iconst 4, 1) := by decide +kernel
theorem dX6_works_26 : decode cX6_works 26 = .ok (.if_icmp .ge 154, 3) := by decide +kernel
theorem dX6_works_29 : decode cX6_works 29 = .ok (.iconst 0, 1) := by decide +kernel
theorem dX6_works_30 : decode cX6_works 30 = .ok (.istore 7, 2) := by decide +kernel
theorem dX6_works_32 : decode cX6_works 32 = .ok (.iload 7, 2) := by decide +kernel
theorem dX6_works_34 : decode cX6_works 34 = .ok (.iload_n 2, 1) := by decide +kernel
theorem dX6_works_35 : decode cX6_works 35 = .ok (.if_icmp .gt 139, 3) := by decide +kernel
theorem dX6_works_38 : decode cX6_works 38 = .ok (.iload 5, 2) := by decide +kernel
theorem dX6_works_40 : decode cX6_works 40 = .ok (.ifCond .ne 12, 3) := by decide +kernel
theorem dX6_works_43 : decode cX6_works 43 = .ok (.iload 7, 2) := by decide +kernel
theorem dX6_works_45 : decode cX6_works 45 = .ok (.ifCond .ne 7, 3) := by decide +kernel
theorem dX6_works_48 : decode cX6_works 48 = .ok (.lconst 1, 1) := by decide +kernel
theorem dX6_works_49 : decode cX6_works 49 = .ok (.goto 4, 3) := by decide +kernel
theorem dX6_works_52 : decode cX6_works 52 = .ok (.lconst 0, 1) := by decide +kernel
theorem dX6_works_53 : decode cX6_works 53 = .ok (.lstore 8, 2) := by decide +kernel
theorem dX6_works_55 : decode cX6_works 55 = .ok (.iconst 0, 1) := by decide +kernel
theorem dX6_works_56 : decode cX6_works 56 = .ok (.istore 10, 2) := by decide +kernel
theorem dX6_works_58 : decode cX6_works 58 = .ok (.iload 10, 2) := by decide +kernel
theorem dX6_works_60 : decode cX6_works 60 = .ok (.aload_n 0, 1) := by decide +kernel
theorem dX6_works_61 : decode cX6_works 61 = .ok (.getfield 124, 3) := by decide +kernel
theorem dX6_works_64 : decode cX6_works 64 = .ok (.if_icmp .ge 88, 3) := by decide +kernel
theorem dX6_works_67 : decode cX6_works 67 = .ok (.lload 8, 2) := by decide +kernel
theorem dX6_works_69 : decode cX6_works 69 = .ok (.aload_n 0, 1) := by decide +kernel
theorem dX6_works_70 : decode cX6_works 70 = .ok (.getfield 22, 3) := by decide +kernel
theorem dX6_works_73 : decode cX6_works 73 = .ok (.iload 10, 2) := by decide +kernel
theorem dX6_works_75 : decode cX6_works 75 = .ok (.iaload, 1) := by decide +kernel
theorem dX6_works_76 : decode cX6_works 76 = .ok (.iload 5, 2) := by decide +kernel
theorem dX6_works_78 : decode cX6_works 78 = .ok (.if_icmp .gt 64, 3) := by decide +kernel
theorem dX6_works_81 : decode cX6_works 81 = .ok (.aload_n 0, 1) := by decide +kernel
theorem dX6_works_82 : decode cX6_works 82 = .ok (.getfield 39, 3) := by decide +kernel
theorem dX6_works_85 : decode cX6_works 85 = .ok (.iload 10, 2) := by decide +kernel
theorem dX6_works_87 : decode cX6_works 87 = .ok (.iaload, 1) := by decide +kernel
theorem dX6_works_88 : decode cX6_works 88 = .ok (.iload 7, 2) := by decide +kernel
theorem dX6_works_90 : decode cX6_works 90 = .ok (.if_icmp .gt 52, 3) := by decide +kernel
theorem dX6_works_93 : decode cX6_works 93 = .ok (.aload_n 0, 1) := by decide +kernel
theorem dX6_works_94 : decode cX6_works 94 = .ok (.iload 6, 2) := by decide +kernel
theorem dX6_works_96 : decode cX6_works 96 = .ok (.iload 10, 2) := by decide +kernel
theorem dX6_works_98 : decode cX6_works 98 = .ok (.invokevirtual 131, 3) := by decide +kernel
theorem dX6_works_101 : decode cX6_works 101 = .ok (.ifCond .eq 41, 3) := by decide +kernel
theorem dX6_works_104 : decode cX6_works 104 = .ok (.aload_n 0, 1) := by decide +kernel
theorem dX6_works_105 : decode cX6_works 105 = .ok (.getfield 32, 3) := by decide +kernel
theorem dX6_works_108 : decode cX6_works 108 = .ok (.iload 5, 2) := by decide +kernel
theorem dX6_works_110 : decode cX6_works 110 = .ok (.aload_n 0, 1) := by decide +kernel
theorem dX6_works_111 : decode cX6_works 111 = .ok (.getfield 22, 3) := by decide +kernel
theorem dX6_works_114 : decode cX6_works 114 = .ok (.iload 10, 2) := by decide +kernel
theorem dX6_works_116 : decode cX6_works 116 = .ok (.iaload, 1) := by decide +kernel
theorem dX6_works_117 : decode cX6_works 117 = .ok (.isub, 1) := by decide +kernel
theorem dX6_works_118 : decode cX6_works 118 = .ok (.aload_n 0, 1) := by decide +kernel
theorem dX6_works_119 : decode cX6_works 119 = .ok (.getfield 25, 3) := by decide +kernel
theorem dX6_works_122 : decode cX6_works 122 = .ok (.iload 10, 2) := by decide +kernel
theorem dX6_works_124 : decode cX6_works 124 = .ok (.iaload, 1) := by decide +kernel
theorem dX6_works_125 : decode cX6_works 125 = .ok (.iload 7, 2) := by decide +kernel
theorem dX6_works_127 : decode cX6_works 127 = .ok (.aload_n 0, 1) := by decide +kernel
theorem dX6_works_128 : decode cX6_works 128 = .ok (.getfield 39, 3) := by decide +kernel
theorem dX6_works_131 : decode cX6_works 131 = .ok (.iload 10, 2) := by decide +kernel
theorem dX6_works_133 : decode cX6_works 133 = .ok (.iaload, 1) := by decide +kernel
theorem dX6_works_134 : decode cX6_works 134 = .ok (.isub, 1) := by decide +kernel
theorem dX6_works_135 : decode cX6_works 135 = .ok (.invokestatic 138, 3) := by decide +kernel
theorem dX6_works_138 : decode cX6_works 138 = .ok (.laload, 1) := by decide +kernel
theorem dX6_works_139 : decode cX6_works 139 = .ok (.goto 4, 3) := by decide +kernel
theorem dX6_works_142 : decode cX6_works 142 = .ok (.lconst 0, 1) := by decide +kernel
theorem dX6_works_143 : decode cX6_works 143 = .ok (.ladd, 1) := by decide +kernel
theorem dX6_works_144 : decode cX6_works 144 = .ok (.lstore 8, 2) := by decide +kernel
theorem dX6_works_146 : decode cX6_works 146 = .ok (.iinc 10 1, 3) := by decide +kernel
theorem dX6_works_149 : decode cX6_works 149 = .ok (.goto (-91), 3) := by decide +kernel
theorem dX6_works_152 : decode cX6_works 152 = .ok (.aload_n 0, 1) := by decide +kernel
theorem dX6_works_153 : decode cX6_works 153 = .ok (.getfield 32, 3) := by decide +kernel
theorem dX6_works_156 : decode cX6_works 156 = .ok (.iload 5, 2) := by decide +kernel
theorem dX6_works_158 : decode cX6_works 158 = .ok (.iload 6, 2) := by decide +kernel
theorem dX6_works_160 : decode cX6_works 160 = .ok (.iload 7, 2) := by decide +kernel
theorem dX6_works_162 : decode cX6_works 162 = .ok (.invokestatic 138, 3) := by decide +kernel
theorem dX6_works_165 : decode cX6_works 165 = .ok (.lload 8, 2) := by decide +kernel
theorem dX6_works_167 : decode cX6_works 167 = .ok (.lastore, 1) := by decide +kernel
theorem dX6_works_168 : decode cX6_works 168 = .ok (.iinc 7 1, 3) := by decide +kernel
theorem dX6_works_171 : decode cX6_works 171 = .ok (.goto (-139), 3) := by decide +kernel
theorem dX6_works_174 : decode cX6_works 174 = .ok (.iinc 6 1, 3) := by decide +kernel
theorem dX6_works_177 : decode cX6_works 177 = .ok (.goto (-154), 3) := by decide +kernel
theorem dX6_works_180 : decode cX6_works 180 = .ok (.iinc 5 1, 3) := by decide +kernel
theorem dX6_works_183 : decode cX6_works 183 = .ok (.goto (-169), 3) := by decide +kernel
theorem dX6_works_186 : decode cX6_works 186 = .ok (.return_, 1) := by decide +kernel
set_option maxRecDepth 20000 in
theorem ggX6_isAsked_X6_in : GoodIn wsX6_isAsked wsX6_in := goodIn_r _ [6] (by decide +kernel) (by decide +kernel)
set_option maxRecDepth 20000 in
theorem gX6_isAsked_X6_in : GoodIn wsX6_isAsked (va_wsS RX6 73 yX6_in wsX6_in) := goodIn_app (goodIn_of _ (by decide +kernel)) ggX6_isAsked_X6_in
set_option maxRecDepth 20000 in
theorem ggX6_isAsked_X6_isWay : GoodIn wsX6_isAsked wsX6_isWay := goodIn_r _ [9, 10, 11, 3, 4, 5, 6] (by decide +kernel) (by decide +kernel)
set_option maxRecDepth 20000 in
theorem gX6_isAsked_X6_isWay : GoodIn wsX6_isAsked (va_wsS RX6 97 yX6_isWay wsX6_isWay) := goodIn_app (goodIn_of _ (by decide +kernel)) ggX6_isAsked_X6_isWay
theorem dX6_isAsked_0 : decode cX6_isAsked 0 = .ok (.iload_n 0, 1) := by decide +kernel
theorem dX6_isAsked_1 : decode cX6_isAsked 1 = .ok (.i2l, 1) := by decide +kernel
theorem dX6_isAsked_2 : decode cX6_isAsked 2 = .ok (.lconst 1, 1) := by decide +kernel
theorem dX6_isAsked_3 : decode cX6_isAsked 3 = .ok (.ldc2_w 115, 3) := by decide +kernel
theorem dX6_isAsked_6 : decode cX6_isAsked 6 = .ok (.invokestatic 73, 3) := by decide +kernel
theorem dX6_isAsked_9 : decode cX6_isAsked 9 = .ok (.ifCond .eq 27, 3) := by decide +kernel
theorem dX6_isAsked_12 : decode cX6_isAsked 12 = .ok (.iload_n 1, 1) := by decide +kernel
theorem dX6_isAsked_13 : decode cX6_isAsked 13 = .ok (.i2l, 1) := by decide +kernel
theorem dX6_isAsked_14 : decode cX6_isAsked 14 = .ok (.lconst 0, 1) := by decide +kernel
theorem dX6_isAsked_15 : decode cX6_isAsked 15 = .ok (.ldc2_w 142, 3) := by decide +kernel
theorem dX6_isAsked_18 : decode cX6_isAsked 18 = .ok (.invokestatic 73, 3) := by decide +kernel
theorem dX6_isAsked_21 : decode cX6_isAsked 21 = .ok (.ifCond .eq 15, 3) := by decide +kernel
theorem dX6_isAsked_24 : decode cX6_isAsked 24 = .ok (.iload_n 2, 1) := by decide +kernel
theorem dX6_isAsked_25 : decode cX6_isAsked 25 = .ok (.iload_n 3, 1) := by decide +kernel
theorem dX6_isAsked_26 : decode cX6_isAsked 26 = .ok (.invokestatic 97, 3) := by decide +kernel
theorem dX6_isAsked_29 : decode cX6_isAsked 29 = .ok (.ifCond .eq 7, 3) := by decide +kernel
theorem dX6_isAsked_32 : decode cX6_isAsked 32 = .ok (.iconst 1, 1) := by decide +kernel
theorem dX6_isAsked_33 : decode cX6_isAsked 33 = .ok (.goto 4, 3) := by decide +kernel
theorem dX6_isAsked_36 : decode cX6_isAsked 36 = .ok (.iconst 0, 1) := by decide +kernel
theorem dX6_isAsked_37 : decode cX6_isAsked 37 = .ok (.ireturn, 1) := by decide +kernel
set_option maxRecDepth 20000 in
theorem ggX6_lines_X6_isAsked : GoodIn wsX6_lines wsX6_isAsked := goodIn_r _ [7, 8, 9, 10, 11, 6, 12, 13, 14, 15, 16, 17] (by decide +kernel) (by decide +kernel)
set_option maxRecDepth 20000 in
theorem gX6_lines_X6_isAsked : GoodIn wsX6_lines (va_wsS RX6 144 yX6_isAsked wsX6_isAsked) := goodIn_app (goodIn_of _ (by decide +kernel)) ggX6_lines_X6_isAsked
set_option maxRecDepth 20000 in
theorem ggX6_lines_X6_works : GoodIn wsX6_lines wsX6_works := goodIn_r _ [21, 22, 23, 24, 3, 25, 26, 27, 28, 6, 29, 30, 31, 32, 33, 34, 35, 36, 37, 38, 39, 40, 41, 10, 11, 12, 42, 43, 44, 45, 46, 47, 48, 49, 50, 51, 52, 53, 54, 55, 56, 57, 58, 59, 60, 61, 62, 63, 64, 65, 66, 67, 68, 69, 70, 71, 72, 73, 74, 75, 76, 77] (by decide +kernel) (by decide +kernel)
set_option maxRecDepth 20000 in
theorem gX6_lines_X6_works : GoodIn wsX6_lines (wsV RX6 148 RX6 yX6_works wsX6_works) := goodIn_app (goodIn_of _ (by decide +kernel)) ggX6_lines_X6_works
set_option maxRecDepth 20000 in
theorem ggX6_lines_X6_place : GoodIn wsX6_lines wsX6_place := goodIn_r _ [54] (by decide +kernel) (by decide +kernel)
set_option maxRecDepth 20000 in
theorem gX6_lines_X6_place : GoodIn wsX6_lines (va_wsS RX6 138 yX6_place wsX6_place) := goodIn_app (goodIn_of _ (by decide +kernel)) ggX6_lines_X6_place
theorem dX6_lines_0 : decode cX6_lines 0 = .ok (.aload_n 0, 1) := by decide +kernel
theorem dX6_lines_1 : decode cX6_lines 1 = .ok (.iconst 0, 1) := by decide +kernel
theorem dX6_lines_2 : decode cX6_lines 2 = .ok (.putfield 67, 3) := by decide +kernel
theorem dX6_lines_5 : decode cX6_lines 5 = .ok (.iload_n 1, 1) := by decide +kernel
theorem dX6_lines_6 : decode cX6_lines 6 = .ok (.iload_n 2, 1) := by decide +kernel
theorem dX6_lines_7 : decode cX6_lines 7 = .ok (.iload_n 3, 1) := by decide +kernel
theorem dX6_lines_8 : decode cX6_lines 8 = .ok (.iload 4, 2) := by decide +kernel
theorem dX6_lines_10 : decode cX6_lines 10 = .ok (.invokestatic 144, 3) := by decide +kernel
theorem dX6_lines_13 : decode cX6_lines 13 = .ok (.ifCond .ne 7, 3) := by decide +kernel
theorem dX6_lines_16 : decode cX6_lines 16 = .ok (.ldc2_w 129, 3) := by decide +kernel
theorem dX6_lines_19 : decode cX6_lines 19 = .ok (.lreturn, 1) := by decide +kernel
theorem dX6_lines_20 : decode cX6_lines 20 = .ok (.aload_n 0, 1) := by decide +kernel
theorem dX6_lines_21 : decode cX6_lines 21 = .ok (.iload_n 1, 1) := by decide +kernel
theorem dX6_lines_22 : decode cX6_lines 22 = .ok (.iload_n 2, 1) := by decide +kernel
theorem dX6_lines_23 : decode cX6_lines 23 = .ok (.iload_n 3, 1) := by decide +kernel
theorem dX6_lines_24 : decode cX6_lines 24 = .ok (.iload 4, 2) := by decide +kernel
theorem dX6_lines_26 : decode cX6_lines 26 = .ok (.invokevirtual 148, 3) := by decide +kernel
theorem dX6_lines_29 : decode cX6_lines 29 = .ok (.aload_n 0, 1) := by decide +kernel
theorem dX6_lines_30 : decode cX6_lines 30 = .ok (.getfield 32, 3) := by decide +kernel
theorem dX6_lines_33 : decode cX6_lines 33 = .ok (.iload_n 1, 1) := by decide +kernel
theorem dX6_lines_34 : decode cX6_lines 34 = .ok (.iconst 3, 1) := by decide +kernel
theorem dX6_lines_35 : decode cX6_lines 35 = .ok (.iload_n 2, 1) := by decide +kernel
theorem dX6_lines_36 : decode cX6_lines 36 = .ok (.invokestatic 138, 3) := by decide +kernel
theorem dX6_lines_39 : decode cX6_lines 39 = .ok (.laload, 1) := by decide +kernel
theorem dX6_lines_40 : decode cX6_lines 40 = .ok (.lreturn, 1) := by decide +kernel
set_option maxRecDepth 20000 in
theorem ggX6_line_X6_isAsked : GoodIn wsX6_line wsX6_isAsked := goodIn_r _ [9, 10, 11, 12, 13, 8, 14, 15, 16, 17, 18, 19] (by decide +kernel) (by decide +kernel)
set_option maxRecDepth 20000 in
theorem gX6_line_X6_isAsked : GoodIn wsX6_line (va_wsS RX6 144 yX6_isAsked wsX6_isAsked) := goodIn_app (goodIn_of _ (by decide +kernel)) ggX6_line_X6_isAsked
set_option maxRecDepth 20000 in
theorem ggX6_line_X6_works : GoodIn wsX6_line wsX6_works := goodIn_r _ [23, 4, 24, 3, 2, 5, 25, 26, 27, 8, 28, 29, 30, 31, 32, 33, 34, 35, 36, 37, 38, 39, 40, 12, 13, 14, 41, 42, 43, 44, 45, 46, 47, 48, 49, 50, 51, 52, 53, 54, 55, 56, 57, 58, 59, 60, 61, 62, 63, 64, 65, 66, 67, 68, 69, 70, 71, 72, 73, 74, 75, 76] (by decide +kernel) (by decide +kernel)
set_option maxRecDepth 20000 in
theorem gX6_line_X6_works : GoodIn wsX6_line (wsV RX6 148 RX6 yX6_works wsX6_works) := goodIn_app (goodIn_of _ (by decide +kernel)) ggX6_line_X6_works
set_option maxRecDepth 20000 in
theorem ggX6_line_X6_place : GoodIn wsX6_line wsX6_place := goodIn_r _ [53] (by decide +kernel) (by decide +kernel)
set_option maxRecDepth 20000 in
theorem gX6_line_X6_place : GoodIn wsX6_line (va_wsS RX6 138 yX6_place wsX6_place) := goodIn_app (goodIn_of _ (by decide +kernel)) ggX6_line_X6_place
set_option maxRecDepth 20000 in
theorem ggX6_line_X6_isAfter : GoodIn wsX6_line wsX6_isAfter := goodIn_r _ [49, 50, 5, 54, 55, 56, 57, 58, 59, 60, 61, 62, 63, 64, 65, 66, 67, 68, 69, 70, 71, 72, 73, 74, 75, 76] (by decide +kernel) (by decide +kernel)
set_option maxRecDepth 20000 in
theorem gX6_line_X6_isAfter : GoodIn wsX6_line (wsV RX6 131 RX6 yX6_isAfter wsX6_isAfter) := goodIn_app (goodIn_of _ (by decide +kernel)) ggX6_line_X6_isAfter
