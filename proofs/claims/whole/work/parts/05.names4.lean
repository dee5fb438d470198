theorem dX6_isEachSortOnce_50 : decode cX6_isEachSortOnce 50 = .ok (.if_icmp .eq 27, 3) := by decide +kernel
theorem dX6_isEachSortOnce_53 : decode cX6_isEachSortOnce 53 = .ok (.iload_n 0, 1) := by decide +kernel
theorem dX6_isEachSortOnce_54 : decode cX6_isEachSortOnce 54 = .ok (.iload_n 3, 1) := by decide +kernel
theorem dX6_isEachSortOnce_55 : decode cX6_isEachSortOnce 55 = .ok (.if_icmp .eq 22, 3) := by decide +kernel
theorem dX6_isEachSortOnce_58 : decode cX6_isEachSortOnce 58 = .ok (.iload_n 1, 1) := by decide +kernel
theorem dX6_isEachSortOnce_59 : decode cX6_isEachSortOnce 59 = .ok (.iload_n 2, 1) := by decide +kernel
theorem dX6_isEachSortOnce_60 : decode cX6_isEachSortOnce 60 = .ok (.if_icmp .eq 17, 3) := by decide +kernel
theorem dX6_isEachSortOnce_63 : decode cX6_isEachSortOnce 63 = .ok (.iload_n 1, 1) := by decide +kernel
theorem dX6_isEachSortOnce_64 : decode cX6_isEachSortOnce 64 = .ok (.iload_n 3, 1) := by decide +kernel
theorem dX6_isEachSortOnce_65 : decode cX6_isEachSortOnce 65 = .ok (.if_icmp .eq 12, 3) := by decide +kernel
theorem dX6_isEachSortOnce_68 : decode cX6_isEachSortOnce 68 = .ok (.iload_n 2, 1) := by decide +kernel
theorem dX6_isEachSortOnce_69 : decode cX6_isEachSortOnce 69 = .ok (.iload_n 3, 1) := by decide +kernel
theorem dX6_isEachSortOnce_70 : decode cX6_isEachSortOnce 70 = .ok (.if_icmp .eq 7, 3) := by decide +kernel
theorem dX6_isEachSortOnce_73 : decode cX6_isEachSortOnce 73 = .ok (.iconst 1, 1) := by decide +kernel
theorem dX6_isEachSortOnce_74 : decode cX6_isEachSortOnce 74 = .ok (.goto 4, 3) := by decide +kernel
theorem dX6_isEachSortOnce_77 : decode cX6_isEachSortOnce 77 = .ok (.iconst 0, 1) := by decide +kernel
theorem dX6_isEachSortOnce_78 : decode cX6_isEachSortOnce 78 = .ok (.ireturn, 1) := by decide +kernel
theorem dX7_init_0 : decode cX7_init 0 = .ok (.aload_n 0, 1) := by decide +kernel
theorem dX7_init_1 : decode cX7_init 1 = .ok (.invokespecial 1, 3) := by decide +kernel
theorem dX7_init_4 : decode cX7_init 4 = .ok (.aload_n 0, 1) := by decide +kernel
theorem dX7_init_5 : decode cX7_init 5 = .ok (.sipush 400, 3) := by decide +kernel
theorem dX7_init_8 : decode cX7_init 8 = .ok (.newarray .int, 2) := by decide +kernel
theorem dX7_init_10 : decode cX7_init 10 = .ok (.putfield 7, 3) := by decide +kernel
theorem dX7_init_13 : decode cX7_init 13 = .ok (.aload_n 0, 1) := by decide +kernel
theorem dX7_init_14 : decode cX7_init 14 = .ok (.sipush 400, 3) := by decide +kernel
theorem dX7_init_17 : decode cX7_init 17 = .ok (.newarray .int, 2) := by decide +kernel
theorem dX7_init_19 : decode cX7_init 19 = .ok (.putfield 13, 3) := by decide +kernel
theorem dX7_init_22 : decode cX7_init 22 = .ok (.aload_n 0, 1) := by decide +kernel
theorem dX7_init_23 : decode cX7_init 23 = .ok (.iconst 0, 1) := by decide +kernel
theorem dX7_init_24 : decode cX7_init 24 = .ok (.putfield 16, 3) := by decide +kernel
theorem dX7_init_27 : decode cX7_init 27 = .ok (.aload_n 0, 1) := by decide +kernel
theorem dX7_init_28 : decode cX7_init 28 = .ok (.iconst 4, 1) := by decide +kernel
theorem dX7_init_29 : decode cX7_init 29 = .ok (.newarray .int, 2) := by decide +kernel
theorem dX7_init_31 : decode cX7_init 31 = .ok (.putfield 20, 3) := by decide +kernel
theorem dX7_init_34 : decode cX7_init 34 = .ok (.aload_n 0, 1) := by decide +kernel
theorem dX7_init_35 : decode cX7_init 35 = .ok (.iconst 4, 1) := by decide +kernel
theorem dX7_init_36 : decode cX7_init 36 = .ok (.newarray .boolean, 2) := by decide +kernel
theorem dX7_init_38 : decode cX7_init 38 = .ok (.putfield 23, 3) := by decide +kernel
theorem dX7_init_41 : decode cX7_init 41 = .ok (.aload_n 0, 1) := by decide +kernel
theorem dX7_init_42 : decode cX7_init 42 = .ok (.iconst 0, 1) := by decide +kernel
theorem dX7_init_43 : decode cX7_init 43 = .ok (.putfield 27, 3) := by decide +kernel
theorem dX7_init_46 : decode cX7_init 46 = .ok (.aload_n 0, 1) := by decide +kernel
theorem dX7_init_47 : decode cX7_init 47 = .ok (.iconst 0, 1) := by decide +kernel
theorem dX7_init_48 : decode cX7_init 48 = .ok (.putfield 31, 3) := by decide +kernel
theorem dX7_init_51 : decode cX7_init 51 = .ok (.aload_n 0, 1) := by decide +kernel
theorem dX7_init_52 : decode cX7_init 52 = .ok (.iconst 0, 1) := by decide +kernel
theorem dX7_init_53 : decode cX7_init 53 = .ok (.putfield 34, 3) := by decide +kernel
theorem dX7_init_56 : decode cX7_init 56 = .ok (.aload_n 0, 1) := by decide +kernel
theorem dX7_init_57 : decode cX7_init 57 = .ok (.sipush 800, 3) := by decide +kernel
theorem dX7_init_60 : decode cX7_init 60 = .ok (.newarray .int, 2) := by decide +kernel
theorem dX7_init_62 : decode cX7_init 62 = .ok (.putfield 37, 3) := by decide +kernel
theorem dX7_init_65 : decode cX7_init 65 = .ok (.aload_n 0, 1) := by decide +kernel
theorem dX7_init_66 : decode cX7_init 66 = .ok (.sipush 800, 3) := by decide +kernel
theorem dX7_init_69 : decode cX7_init 69 = .ok (.newarray .int, 2) := by decide +kernel
theorem dX7_init_71 : decode cX7_init 71 = .ok (.putfield 40, 3) := by decide +kernel
theorem dX7_init_74 : decode cX7_init 74 = .ok (.aload_n 0, 1) := by decide +kernel
theorem dX7_init_75 : decode cX7_init 75 = .ok (.ldc 43, 2) := by decide +kernel
theorem dX7_init_77 : decode cX7_init 77 = .ok (.newarray .int, 2) := by decide +kernel
theorem dX7_init_79 : decode cX7_init 79 = .ok (.putfield 44, 3) := by decide +kernel
theorem dX7_init_82 : decode cX7_init 82 = .ok (.aload_n 0, 1) := by decide +kernel
theorem dX7_init_83 : decode cX7_init 83 = .ok (.iconst 0, 1) := by decide +kernel
theorem dX7_init_84 : decode cX7_init 84 = .ok (.putfield 47, 3) := by decide +kernel
theorem dX7_init_87 : decode cX7_init 87 = .ok (.aload_n 0, 1) := by decide +kernel
theorem dX7_init_88 : decode cX7_init 88 = .ok (.iconst (-1), 1) := by decide +kernel
theorem dX7_init_89 : decode cX7_init 89 = .ok (.putfield 50, 3) := by decide +kernel
theorem dX7_init_92 : decode cX7_init 92 = .ok (.aload_n 0, 1) := by decide +kernel
theorem dX7_init_93 : decode cX7_init 93 = .ok (.iconst 0, 1) := by decide +kernel
theorem dX7_init_94 : decode cX7_init 94 = .ok (.putfield 53, 3) := by decide +kernel
theorem dX7_init_97 : decode cX7_init 97 = .ok (.aload_n 0, 1) := by decide +kernel
theorem dX7_init_98 : decode cX7_init 98 = .ok (.sipush 400, 3) := by decide +kernel
theorem dX7_init_101 : decode cX7_init 101 = .ok (.newarray .int, 2) := by decide +kernel
theorem dX7_init_103 : decode cX7_init 103 = .ok (.putfield 56, 3) := by decide +kernel
theorem dX7_init_106 : decode cX7_init 106 = .ok (.aload_n 0, 1) := by decide +kernel
theorem dX7_init_107 : decode cX7_init 107 = .ok (.sipush 3200, 3) := by decide +kernel
theorem dX7_init_110 : decode cX7_init 110 = .ok (.newarray .int, 2) := by decide +kernel
theorem dX7_init_112 : decode cX7_init 112 = .ok (.putfield 59, 3) := by decide +kernel
theorem dX7_init_115 : decode cX7_init 115 = .ok (.aload_n 0, 1) := by decide +kernel
theorem dX7_init_116 : decode cX7_init 116 = .ok (.iconst 0, 1) := by decide +kernel
theorem dX7_init_117 : decode cX7_init 117 = .ok (.putfield 62, 3) := by decide +kernel
theorem dX7_init_120 : decode cX7_init 120 = .ok (.aload_n 0, 1) := by decide +kernel
theorem dX7_init_121 : decode cX7_init 121 = .ok (.iconst 0, 1) := by decide +kernel
theorem dX7_init_122 : decode cX7_init 122 = .ok (.putfield 65, 3) := by decide +kernel
theorem dX7_init_125 : decode cX7_init 125 = .ok (.aload_n 0, 1) := by decide +kernel
theorem dX7_init_126 : decode cX7_init 126 = .ok (.iconst 0, 1) := by decide +kernel
theorem dX7_init_127 : decode cX7_init 127 = .ok (.putfield 68, 3) := by decide +kernel
theorem dX7_init_130 : decode cX7_init 130 = .ok (.aload_n 0, 1) := by decide +kernel
theorem dX7_init_131 : decode cX7_init 131 = .ok (.sipush 400, 3) := by decide +kernel
theorem dX7_init_134 : decode cX7_init 134 = .ok (.newarray .int, 2) := by decide +kernel
theorem dX7_init_136 : decode cX7_init 136 = .ok (.putfield 71, 3) := by decide +kernel
theorem dX7_init_139 : decode cX7_init 139 = .ok (.aload_n 0, 1) := by decide +kernel
theorem dX7_init_140 : decode cX7_init 140 = .ok (.bipush 8, 2) := by decide +kernel
theorem dX7_init_142 : decode cX7_init 142 = .ok (.newarray .int, 2) := by decide +kernel
theorem dX7_init_144 : decode cX7_init 144 = .ok (.putfield 74, 3) := by decide +kernel
theorem dX7_init_147 : decode cX7_init 147 = .ok (.aload_n 0, 1) := by decide +kernel
theorem dX7_init_148 : decode cX7_init 148 = .ok (.bipush 8, 2) := by decide +kernel
theorem dX7_init_150 : decode cX7_init 150 = .ok (.newarray .int, 2) := by decide +kernel
theorem dX7_init_152 : decode cX7_init 152 = .ok (.putfield 77, 3) := by decide +kernel
theorem dX7_init_155 : decode cX7_init 155 = .ok (.aload_n 0, 1) := by decide +kernel
theorem dX7_init_156 : decode cX7_init 156 = .ok (.bipush 8, 2) := by decide +kernel
theorem dX7_init_158 : decode cX7_init 158 = .ok (.newarray .int, 2) := by decide +kernel
theorem dX7_init_160 : decode cX7_init 160 = .ok (.putfield 80, 3) := by decide +kernel
theorem dX7_init_163 : decode cX7_init 163 = .ok (.aload_n 0, 1) := by decide +kernel
theorem dX7_init_164 : decode cX7_init 164 = .ok (.bipush 8, 2) := by decide +kernel
theorem dX7_init_166 : decode cX7_init 166 = .ok (.newarray .int, 2) := by decide +kernel
theorem dX7_init_168 : decode cX7_init 168 = .ok (.putfield 83, 3) := by decide +kernel
theorem dX7_init_171 : decode cX7_init 171 = .ok (.aload_n 0, 1) := by decide +kernel
theorem dX7_init_172 : decode cX7_init 172 = .ok (.bipush 8, 2) := by decide +kernel
theorem dX7_init_174 : decode cX7_init 174 = .ok (.newarray .boolean, 2) := by decide +kernel
theorem dX7_init_176 : decode cX7_init 176 = .ok (.putfield 86, 3) := by decide +kernel
theorem dX7_init_179 : decode cX7_init 179 = .ok (.aload_n 0, 1) := by decide +kernel
theorem dX7_init_180 : decode cX7_init 180 = .ok (.bipush 8, 2) := by decide +kernel
theorem dX7_init_182 : decode cX7_init 182 = .ok (.newarray .int, 2) := by decide +kernel
theorem dX7_init_184 : decode cX7_init 184 = .ok (.putfield 89, 3) := by decide +kernel
theorem dX7_init_187 : decode cX7_init 187 = .ok (.aload_n 0, 1) := by decide +kernel
theorem dX7_init_188 : decode cX7_init 188 = .ok (.iconst 0, 1) := by decide +kernel
theorem dX7_init_189 : decode cX7_init 189 = .ok (.putfield 92, 3) := by decide +kernel
theorem dX7_init_192 : decode cX7_init 192 = .ok (.aload_n 0, 1) := by decide +kernel
theorem dX7_init_193 : decode cX7_init 193 = .ok (.iconst 0, 1) := by decide +kernel
theorem dX7_init_194 : decode cX7_init 194 = .ok (.putfield 95, 3) := by decide +kernel
theorem dX7_init_197 : decode cX7_init 197 = .ok (.aload_n 0, 1) := by decide +kernel
theorem dX7_init_198 : decode cX7_init 198 = .ok (.iconst 0, 1) := by decide +kernel
theorem dX7_init_199 : decode cX7_init 199 = .ok (.putfield 98, 3) := by decide +kernel
theorem dX7_init_202 : decode cX7_init 202 = .ok (.aload_n 0, 1) := by decide +kernel
theorem dX7_init_203 : decode cX7_init 203 = .ok (.bipush 8, 2) := by decide +kernel
theorem dX7_init_205 : decode cX7_init 205 = .ok (.newarray .int, 2) := by decide +kernel
theorem dX7_init_207 : decode cX7_init 207 = .ok (.putfield 101, 3) := by decide +kernel
theorem dX7_init_210 : decode cX7_init 210 = .ok (.aload_n 0, 1) := by decide +kernel
theorem dX7_init_211 : decode cX7_init 211 = .ok (.bipush 8, 2) := by decide +kernel
theorem dX7_init_213 : decode cX7_init 213 = .ok (.newarray .boolean, 2) := by decide +kernel
theorem dX7_init_215 : decode cX7_init 215 = .ok (.putfield 104, 3) := by decide +kernel
theorem dX7_init_218 : decode cX7_init 218 = .ok (.aload_n 0, 1) := by decide +kernel
theorem dX7_init_219 : decode cX7_init 219 = .ok (.bipush 8, 2) := by decide +kernel
theorem dX7_init_221 : decode cX7_init 221 = .ok (.newarray .int, 2) := by decide +kernel
theorem dX7_init_223 : decode cX7_init 223 = .ok (.putfield 107, 3) := by decide +kernel
theorem dX7_init_226 : decode cX7_init 226 = .ok (.aload_n 0, 1) := by decide +kernel
theorem dX7_init_227 : decode cX7_init 227 = .ok (.bipush 40, 2) := by decide +kernel
theorem dX7_init_229 : decode cX7_init 229 = .ok (.newarray .int, 2) := by decide +kernel
theorem dX7_init_231 : decode cX7_init 231 = .ok (.putfield 110, 3) := by decide +kernel
theorem dX7_init_234 : decode cX7_init 234 = .ok (.aload_n 0, 1) := by decide +kernel
theorem dX7_init_235 : decode cX7_init 235 = .ok (.sipush 800, 3) := by decide +kernel
theorem dX7_init_238 : decode cX7_init 238 = .ok (.newarray .boolean, 2) := by decide +kernel
theorem dX7_init_240 : decode cX7_init 240 = .ok (.putfield 113, 3) := by decide +kernel
theorem dX7_init_243 : decode cX7_init 243 = .ok (.aload_n 0, 1) := by decide +kernel
theorem dX7_init_244 : decode cX7_init 244 = .ok (.sipush 800, 3) := by decide +kernel
theorem dX7_init_247 : decode cX7_init 247 = .ok (.newarray .int, 2) := by decide +kernel
theorem dX7_init_249 : decode cX7_init 249 = .ok (.putfield 116, 3) := by decide +kernel
theorem dX7_init_252 : decode cX7_init 252 = .ok (.aload_n 0, 1) := by decide +kernel
theorem dX7_init_253 : decode cX7_init 253 = .ok (.bipush 8, 2) := by decide +kernel
theorem dX7_init_255 : decode cX7_init 255 = .ok (.newarray .int, 2) := by decide +kernel
theorem dX7_init_257 : decode cX7_init 257 = .ok (.putfield 119, 3) := by decide +kernel
theorem dX7_init_260 : decode cX7_init 260 = .ok (.iconst 0, 1) := by decide +kernel
theorem dX7_init_261 : decode cX7_init 261 = .ok (.istore_n 1, 1) := by decide +kernel
theorem dX7_init_262 : decode cX7_init 262 = .ok (.iload_n 1, 1) := by decide +kernel
theorem dX7_init_263 : decode cX7_init 263 = .ok (.iconst 4, 1) := by decide +kernel
theorem dX7_init_264 : decode cX7_init 264 = .ok (.if_icmp .ge 16, 3) := by decide +kernel
theorem dX7_init_267 : decode cX7_init 267 = .ok (.aload_n 0, 1) := by decide +kernel
theorem dX7_init_268 : decode cX7_init 268 = .ok (.getfield 20, 3) := by decide +kernel
theorem dX7_init_271 : decode cX7_init 271 = .ok (.iload_n 1, 1) := by decide +kernel
theorem dX7_init_272 : decode cX7_init 272 = .ok (.iload_n 1, 1) := by decide +kernel
theorem dX7_init_273 : decode cX7_init 273 = .ok (.iastore, 1) := by decide +kernel
theorem dX7_init_274 : decode cX7_init 274 = .ok (.iinc 1 1, 3) := by decide +kernel
theorem dX7_init_277 : decode cX7_init 277 = .ok (.goto (-15), 3) := by decide +kernel
theorem dX7_init_280 : decode cX7_init 280 = .ok (.iconst 0, 1) := by decide +kernel
theorem dX7_init_281 : decode cX7_init 281 = .ok (.istore_n 1, 1) := by decide +kernel
theorem dX7_init_282 : decode cX7_init 282 = .ok (.iload_n 1, 1) := by decide +kernel
theorem dX7_init_283 : decode cX7_init 283 = .ok (.bipush 8, 2) := by decide +kernel
theorem dX7_init_285 : decode cX7_init 285 = .ok (.if_icmp .ge 24, 3) := by decide +kernel
theorem dX7_init_288 : decode cX7_init 288 = .ok (.aload_n 0, 1) := by decide +kernel
theorem dX7_init_289 : decode cX7_init 289 = .ok (.getfield 101, 3) := by decide +kernel
theorem dX7_init_292 : decode cX7_init 292 = .ok (.iload_n 1, 1) := by decide +kernel
theorem dX7_init_293 : decode cX7_init 293 = .ok (.bipush 10, 2) := by decide +kernel
theorem dX7_init_295 : decode cX7_init 295 = .ok (.iastore, 1) := by decide +kernel
theorem dX7_init_296 : decode cX7_init 296 = .ok (.aload_n 0, 1) := by decide +kernel
theorem dX7_init_297 : decode cX7_init 297 = .ok (.getfield 104, 3) := by decide +kernel
theorem dX7_init_300 : decode cX7_init 300 = .ok (.iload_n 1, 1) := by decide +kernel
theorem dX7_init_301 : decode cX7_init 301 = .ok (.iconst 1, 1) := by decide +kernel
theorem dX7_init_302 : decode cX7_init 302 = .ok (.bastore, 1) := by decide +kernel
theorem dX7_init_303 : decode cX7_init 303 = .ok (.iinc 1 1, 3) := by decide +kernel
theorem dX7_init_306 : decode cX7_init 306 = .ok (.goto (-24), 3) := by decide +kernel
theorem dX7_init_309 : decode cX7_init 309 = .ok (.return_, 1) := by decide +kernel
theorem dX7_is_0 : decode cX7_is 0 = .ok (.iload_n 0, 1) := by decide +kernel
theorem dX7_is_1 : decode cX7_is 1 = .ok (.iload_n 1, 1) := by decide +kernel
theorem dX7_is_2 : decode cX7_is 2 = .ok (.if_icmp .lt 12, 3) := by decide +kernel
theorem dX7_is_5 : decode cX7_is 5 = .ok (.iload_n 0, 1) := by decide +kernel
theorem dX7_is_6 : decode cX7_is 6 = .ok (.iload_n 2, 1) := by decide +kernel
theorem dX7_is_7 : decode cX7_is 7 = .ok (.if_icmp .gt 7, 3) := by decide +kernel
theorem dX7_is_10 : decode cX7_is 10 = .ok (.iconst 1, 1) := by decide +kernel
theorem dX7_is_11 : decode cX7_is 11 = .ok (.goto 4, 3) := by decide +kernel
theorem dX7_is_14 : decode cX7_is 14 = .ok (.iconst 0, 1) := by decide +kernel
theorem dX7_is_15 : decode cX7_is 15 = .ok (.ireturn, 1) := by decide +kernel
set_option maxRecDepth 20000 in
theorem ggX7_give_X7_is : GoodIn wsX7_give wsX7_is := goodIn_r _ [9] (by decide +kernel) (by decide +kernel)
set_option maxRecDepth 20000 in
theorem gX7_give_X7_is : GoodIn wsX7_give (va_wsS RX7 122 yX7_is wsX7_is) := goodIn_app (goodIn_of _ (by decide +kernel)) ggX7_give_X7_is
theorem dX7_give_0 : decode cX7_give 0 = .ok (.iload_n 1, 1) := by decide +kernel
theorem dX7_give_1 : decode cX7_give 1 = .ok (.iconst 0, 1) := by decide +kernel
theorem dX7_give_2 : decode cX7_give 2 = .ok (.iconst 3, 1) := by decide +kernel
theorem dX7_give_3 : decode cX7_give 3 = .ok (.invokestatic 122, 3) := by decide +kernel
theorem dX7_give_6 : decode cX7_give 6 = .ok (.ifCond .eq 24, 3) := by decide +kernel
theorem dX7_give_9 : decode cX7_give 9 = .ok (.iload_n 2, 1) := by decide +kernel
theorem dX7_give_10 : decode cX7_give 10 = .ok (.ldc 126, 2) := by decide +kernel
theorem dX7_give_12 : decode cX7_give 12 = .ok (.ldc 127, 2) := by decide +kernel
theorem dX7_give_14 : decode cX7_give 14 = .ok (.invokestatic 122, 3) := by decide +kernel
theorem dX7_give_17 : decode cX7_give 17 = .ok (.ifCond .eq 13, 3) := by decide +kernel
theorem dX7_give_20 : decode cX7_give 20 = .ok (.aload_n 0, 1) := by decide +kernel
theorem dX7_give_21 : decode cX7_give 21 = .ok (.getfield 16, 3) := by decide +kernel
theorem dX7_give_24 : decode cX7_give 24 = .ok (.sipush 400, 3) := by decide +kernel
theorem dX7_give_27 : decode cX7_give 27 = .ok (.if_icmp .ne 5, 3) := by decide +kernel
theorem dX7_give_30 : decode cX7_give 30 = .ok (.iconst (-1), 1) := by decide +kernel
theorem dX7_give_31 : decode cX7_give 31 = .ok (.ireturn, 1) := by decide +kernel
theorem dX7_give_32 : decode cX7_give 32 = .ok (.aload_n 0, 1) := by decide +kernel
theorem dX7_give_33 : decode cX7_give 33 = .ok (.getfield 7, 3) := by decide +kernel
theorem dX7_give_36 : decode cX7_give 36 = .ok (.aload_n 0, 1) := by decide +kernel
theorem dX7_give_37 : decode cX7_give 37 = .ok (.getfield 16, 3) := by decide +kernel
theorem dX7_give_40 : decode cX7_give 40 = .ok (.iload_n 1, 1) := by decide +kernel
theorem dX7_give_41 : decode cX7_give 41 = .ok (.iastore, 1) := by decide +kernel
theorem dX7_give_42 : decode cX7_give 42 = .ok (.aload_n 0, 1) := by decide +kernel
theorem dX7_give_43 : decode cX7_give 43 = .ok (.getfield 13, 3) := by decide +kernel
theorem dX7_give_46 : decode cX7_give 46 = .ok (.aload_n 0, 1) := by decide +kernel
theorem dX7_give_47 : decode cX7_give 47 = .ok (.getfield 16, 3) := by decide +kernel
theorem dX7_give_50 : decode cX7_give 50 = .ok (.iload_n 2, 1) := by decide +kernel
theorem dX7_give_51 : decode cX7_give 51 = .ok (.iastore, 1) := by decide +kernel
theorem dX7_give_52 : decode cX7_give 52 = .ok (.aload_n 0, 1) := by decide +kernel
theorem dX7_give_53 : decode cX7_give 53 = .ok (.dup, 1) := by decide +kernel
theorem dX7_give_54 : decode cX7_give 54 = .ok (.getfield 16, 3) := by decide +kernel
theorem dX7_give_57 : decode cX7_give 57 = .ok (.iconst 1, 1) := by decide +kernel
theorem dX7_give_58 : decode cX7_give 58 = .ok (.iadd, 1) := by decide +kernel
theorem dX7_give_59 : decode cX7_give 59 = .ok (.putfield 16, 3) := by decide +kernel
theorem dX7_give_62 : decode cX7_give 62 = .ok (.aload_n 0, 1) := by decide +kernel
theorem dX7_give_63 : decode cX7_give 63 = .ok (.getfield 16, 3) := by decide +kernel
theorem dX7_give_66 : decode cX7_give 66 = .ok (.iconst 1, 1) := by decide +kernel
theorem dX7_give_67 : decode cX7_give 67 = .ok (.isub, 1) := by decide +kernel
theorem dX7_give_68 : decode cX7_give 68 = .ok (.ireturn, 1) := by decide +kernel
set_option maxRecDepth 20000 in
theorem ggX7_sow_X7_is : GoodIn wsX7_sow wsX7_is := goodIn_r _ [8] (by decide +kernel) (by decide +kernel)
set_option maxRecDepth 20000 in
theorem gX7_sow_X7_is : GoodIn wsX7_sow (va_wsS RX7 122 yX7_is wsX7_is) := goodIn_app (goodIn_of _ (by decide +kernel)) ggX7_sow_X7_is
theorem dX7_sow_0 : decode cX7_sow 0 = .ok (.iload_n 1, 1) := by decide +kernel
theorem dX7_sow_1 : decode cX7_sow 1 = .ok (.iconst 0, 1) := by decide +kernel
theorem dX7_sow_2 : decode cX7_sow 2 = .ok (.iconst 3, 1) := by decide +kernel
theorem dX7_sow_3 : decode cX7_sow 3 = .ok (.invokestatic 122, 3) := by decide +kernel
theorem dX7_sow_6 : decode cX7_sow 6 = .ok (.ifCond .eq 49, 3) := by decide +kernel
theorem dX7_sow_9 : decode cX7_sow 9 = .ok (.iload_n 2, 1) := by decide +kernel
theorem dX7_sow_10 : decode cX7_sow 10 = .ok (.iconst 1, 1) := by decide +kernel
theorem dX7_sow_11 : decode cX7_sow 11 = .ok (.bipush 100, 2) := by decide +kernel
theorem dX7_sow_13 : decode cX7_sow 13 = .ok (.invokestatic 122, 3) := by decide +kernel
theorem dX7_sow_16 : decode cX7_sow 16 = .ok (.ifCond .eq 39, 3) := by decide +kernel
theorem dX7_sow_19 : decode cX7_sow 19 = .ok (.iload 4, 2) := by decide +kernel
theorem dX7_sow_21 : decode cX7_sow 21 = .ok (.bipush (-100), 2) := by decide +kernel
theorem dX7_sow_23 : decode cX7_sow 23 = .ok (.bipush 100, 2) := by decide +kernel
theorem dX7_sow_25 : decode cX7_sow 25 = .ok (.invokestatic 122, 3) := by decide +kernel
theorem dX7_sow_28 : decode cX7_sow 28 = .ok (.ifCond .eq 27, 3) := by decide +kernel
theorem dX7_sow_31 : decode cX7_sow 31 = .ok (.iload 5, 2) := by decide +kernel
theorem dX7_sow_33 : decode cX7_sow 33 = .ok (.iconst 1, 1) := by decide +kernel
theorem dX7_sow_34 : decode cX7_sow 34 = .ok (.sipush 10000, 3) := by decide +kernel
theorem dX7_sow_37 : decode cX7_sow 37 = .ok (.invokestatic 122, 3) := by decide +kernel
theorem dX7_sow_40 : decode cX7_sow 40 = .ok (.ifCond .eq 15, 3) := by decide +kernel
theorem dX7_sow_43 : decode cX7_sow 43 = .ok (.aload_n 0, 1) := by decide +kernel
theorem dX7_sow_44 : decode cX7_sow 44 = .ok (.getfield 16, 3) := by decide +kernel
theorem dX7_sow_47 : decode cX7_sow 47 = .ok (.iload_n 2, 1) := by decide +kernel
theorem dX7_sow_48 : decode cX7_sow 48 = .ok (.iadd, 1) := by decide +kernel
theorem dX7_sow_49 : decode cX7_sow 49 = .ok (.sipush 400, 3) := by decide +kernel
theorem dX7_sow_52 : decode cX7_sow 52 = .ok (.if_icmp .le 5, 3) := by decide +kernel
theorem dX7_sow_55 : decode cX7_sow 55 = .ok (.iconst (-1), 1) := by decide +kernel
theorem dX7_sow_56 : decode cX7_sow 56 = .ok (.ireturn, 1) := by decide +kernel
theorem dX7_sow_57 : decode cX7_sow 57 = .ok (.iload_n 3, 1) := by decide +kernel
theorem dX7_sow_58 : decode cX7_sow 58 = .ok (.istore 6, 2) := by decide +kernel
theorem dX7_sow_60 : decode cX7_sow 60 = .ok (.iconst 0, 1) := by decide +kernel
theorem dX7_sow_61 : decode cX7_sow 61 = .ok (.istore 7, 2) := by decide +kernel
theorem dX7_sow_63 : decode cX7_sow 63 = .ok (.iload 7, 2) := by decide +kernel
theorem dX7_sow_65 : decode cX7_sow 65 = .ok (.iload_n 2, 1) := by decide +kernel
theorem dX7_sow_66 : decode cX7_sow 66 = .ok (.if_icmp .ge 65, 3) := by decide +kernel
theorem dX7_sow_69 : decode cX7_sow 69 = .ok (.ldc 128, 2) := by decide +kernel
theorem dX7_sow_71 : decode cX7_sow 71 = .ok (.iload 6, 2) := by decide +kernel
theorem dX7_sow_73 : decode cX7_sow 73 = .ok (.imul, 1) := by decide +kernel
theorem dX7_sow_74 : decode cX7_sow 74 = .ok (.sipush 12345, 3) := by decide +kernel
theorem dX7_sow_77 : decode cX7_sow 77 = .ok (.iadd, 1) := by decide +kernel
theorem dX7_sow_78 : decode cX7_sow 78 = .ok (.istore 6, 2) := by decide +kernel
theorem dX7_sow_80 : decode cX7_sow 80 = .ok (.aload_n 0, 1) := by decide +kernel
theorem dX7_sow_81 : decode cX7_sow 81 = .ok (.getfield 7, 3) := by decide +kernel
theorem dX7_sow_84 : decode cX7_sow 84 = .ok (.aload_n 0, 1) := by decide +kernel
theorem dX7_sow_85 : decode cX7_sow 85 = .ok (.getfield 16, 3) := by decide +kernel
theorem dX7_sow_88 : decode cX7_sow 88 = .ok (.iload_n 1, 1) := by decide +kernel
theorem dX7_sow_89 : decode cX7_sow 89 = .ok (.iastore, 1) := by decide +kernel
theorem dX7_sow_90 : decode cX7_sow 90 = .ok (.aload_n 0, 1) := by decide +kernel
theorem dX7_sow_91 : decode cX7_sow 91 = .ok (.getfield 13, 3) := by decide +kernel
theorem dX7_sow_94 : decode cX7_sow 94 = .ok (.aload_n 0, 1) := by decide +kernel
theorem dX7_sow_95 : decode cX7_sow 95 = .ok (.getfield 16, 3) := by decide +kernel
theorem dX7_sow_98 : decode cX7_sow 98 = .ok (.aload_n 0, 1) := by decide +kernel
theorem dX7_sow_99 : decode cX7_sow 99 = .ok (.getfield 16, 3) := by decide +kernel
theorem dX7_sow_102 : decode cX7_sow 102 = .ok (.iload 4, 2) := by decide +kernel
theorem dX7_sow_104 : decode cX7_sow 104 = .ok (.imul, 1) := by decide +kernel
theorem dX7_sow_105 : decode cX7_sow 105 = .ok (.iload 6, 2) := by decide +kernel
theorem dX7_sow_107 : decode cX7_sow 107 = .ok (.bipush 8, 2) := by decide +kernel
theorem dX7_sow_109 : decode cX7_sow 109 = .ok (.iushr, 1) := by decide +kernel
theorem dX7_sow_110 : decode cX7_sow 110 = .ok (.iload 5, 2) := by decide +kernel
theorem dX7_sow_112 : decode cX7_sow 112 = .ok (.irem, 1) := by decide +kernel
theorem dX7_sow_113 : decode cX7_sow 113 = .ok (.iadd, 1) := by decide +kernel
theorem dX7_sow_114 : decode cX7_sow 114 = .ok (.iastore, 1) := by decide +kernel
theorem dX7_sow_115 : decode cX7_sow 115 = .ok (.aload_n 0, 1) := by decide +kernel
theorem dX7_sow_116 : decode cX7_sow 116 = .ok (.dup, 1) := by decide +kernel
theorem dX7_sow_117 : decode cX7_sow 117 = .ok (.getfield 16, 3) := by decide +kernel
theorem dX7_sow_120 : decode cX7_sow 120 = .ok (.iconst 1, 1) := by decide +kernel
theorem dX7_sow_121 : decode cX7_sow 121 = .ok (.iadd, 1) := by decide +kernel
theorem dX7_sow_122 : decode cX7_sow 122 = .ok (.putfield 16, 3) := by decide +kernel
theorem dX7_sow_125 : decode cX7_sow 125 = .ok (.iinc 7 1, 3) := by decide +kernel
theorem dX7_sow_128 : decode cX7_sow 128 = .ok (.goto (-65), 3) := by decide +kernel
theorem dX7_sow_131 : decode cX7_sow 131 = .ok (.aload_n 0, 1) := by decide +kernel
theorem dX7_sow_132 : decode cX7_sow 132 = .ok (.getfield 16, 3) := by decide +kernel
theorem dX7_sow_135 : decode cX7_sow 135 = .ok (.ireturn, 1) := by decide +kernel
theorem dX7_clear_0 : decode cX7_clear 0 = .ok (.aload_n 0, 1) := by decide +kernel
theorem dX7_clear_1 : decode cX7_clear 1 = .ok (.getfield 16, 3) := by decide +kernel
theorem dX7_clear_4 : decode cX7_clear 4 = .ok (.istore_n 1, 1) := by decide +kernel
theorem dX7_clear_5 : decode cX7_clear 5 = .ok (.aload_n 0, 1) := by decide +kernel
theorem dX7_clear_6 : decode cX7_clear 6 = .ok (.iconst 0, 1) := by decide +kernel
theorem dX7_clear_7 : decode cX7_clear 7 = .ok (.putfield 16, 3) := by decide +kernel
theorem dX7_clear_10 : decode cX7_clear 10 = .ok (.aload_n 0, 1) := by decide +kernel
theorem dX7_clear_11 : decode cX7_clear 11 = .ok (.iconst 0, 1) := by decide +kernel
theorem dX7_clear_12 : decode cX7_clear 12 = .ok (.putfield 27, 3) := by decide +kernel
theorem dX7_clear_15 : decode cX7_clear 15 = .ok (.aload_n 0, 1) := by decide +kernel
theorem dX7_clear_16 : decode cX7_clear 16 = .ok (.iconst 0, 1) := by decide +kernel
theorem dX7_clear_17 : decode cX7_clear 17 = .ok (.putfield 31, 3) := by decide +kernel
theorem dX7_clear_20 : decode cX7_clear 20 = .ok (.aload_n 0, 1) := by decide +kernel
theorem dX7_clear_21 : decode cX7_clear 21 = .ok (.iconst 0, 1) := by decide +kernel
theorem dX7_clear_22 : decode cX7_clear 22 = .ok (.putfield 34, 3) := by decide +kernel
theorem dX7_clear_25 : decode cX7_clear 25 = .ok (.aload_n 0, 1) := by decide +kernel
theorem dX7_clear_26 : decode cX7_clear 26 = .ok (.iconst (-1), 1) := by decide +kernel
theorem dX7_clear_27 : decode cX7_clear 27 = .ok (.putfield 50, 3) := by decide +kernel
theorem dX7_clear_30 : decode cX7_clear 30 = .ok (.aload_n 0, 1) := by decide +kernel
theorem dX7_clear_31 : decode cX7_clear 31 = .ok (.iconst 0, 1) := by decide +kernel
theorem dX7_clear_32 : decode cX7_clear 32 = .ok (.putfield 53, 3) := by decide +kernel
theorem dX7_clear_35 : decode cX7_clear 35 = .ok (.aload_n 0, 1) := by decide +kernel
theorem dX7_clear_36 : decode cX7_clear 36 = .ok (.iconst 0, 1) := by decide +kernel
theorem dX7_clear_37 : decode cX7_clear 37 = .ok (.putfield 62, 3) := by decide +kernel
theorem dX7_clear_40 : decode cX7_clear 40 = .ok (.aload_n 0, 1) := by decide +kernel
theorem dX7_clear_41 : decode cX7_clear 41 = .ok (.iconst 0, 1) := by decide +kernel
theorem dX7_clear_42 : decode cX7_clear 42 = .ok (.putfield 68, 3) := by decide +kernel
theorem dX7_clear_45 : decode cX7_clear 45 = .ok (.iload_n 1, 1) := by decide +kernel
theorem dX7_clear_46 : decode cX7_clear 46 = .ok (.ireturn, 1) := by decide +kernel
set_option maxRecDepth 20000 in
theorem ggX7_order_X7_is : GoodIn wsX7_order wsX7_is := goodIn_r _ [6] (by decide +kernel) (by decide +kernel)
set_option maxRecDepth 20000 in
theorem gX7_order_X7_is : GoodIn wsX7_order (va_wsS RX7 122 yX7_is wsX7_is) := goodIn_app (goodIn_of _ (by decide +kernel)) ggX7_order_X7_is
theorem dX7_order_0 : decode cX7_order 0 = .ok (.aload_n 0, 1) := by decide +kernel
theorem dX7_order_1 : decode cX7_order 1 = .ok (.getfield 27, 3) := by decide +kernel
theorem dX7_order_4 : decode cX7_order 4 = .ok (.ifCond .ne 73, 3) := by decide +kernel
theorem dX7_order_7 : decode cX7_order 7 = .ok (.iload_n 1, 1) := by decide +kernel
theorem dX7_order_8 : decode cX7_order 8 = .ok (.iconst 0, 1) := by decide +kernel
theorem dX7_order_9 : decode cX7_order 9 = .ok (.iconst 3, 1) := by decide +kernel
theorem dX7_order_10 : decode cX7_order 10 = .ok (.invokestatic 122, 3) := by decide +kernel
theorem dX7_order_13 : decode cX7_order 13 = .ok (.ifCond .eq 64, 3) := by decide +kernel
theorem dX7_order_16 : decode cX7_order 16 = .ok (.iload_n 2, 1) := by decide +kernel
theorem dX7_order_17 : decode cX7_order 17 = .ok (.iconst 0, 1) := by decide +kernel
theorem dX7_order_18 : decode cX7_order 18 = .ok (.iconst 3, 1) := by decide +kernel
theorem dX7_order_19 : decode cX7_order 19 = .ok (.invokestatic 122, 3) := by decide +kernel
theorem dX7_order_22 : decode cX7_order 22 = .ok (.ifCond .eq 55, 3) := by decide +kernel
theorem dX7_order_25 : decode cX7_order 25 = .ok (.iload_n 3, 1) := by decide +kernel
theorem dX7_order_26 : decode cX7_order 26 = .ok (.iconst 0, 1) := by decide +kernel
theorem dX7_order_27 : decode cX7_order 27 = .ok (.iconst 3, 1) := by decide +kernel
theorem dX7_order_28 : decode cX7_order 28 = .ok (.invokestatic 122, 3) := by decide +kernel
theorem dX7_order_31 : decode cX7_order 31 = .ok (.ifCond .eq 46, 3) := by decide +kernel
theorem dX7_order_34 : decode cX7_order 34 = .ok (.iload 4, 2) := by decide +kernel
theorem dX7_order_36 : decode cX7_order 36 = .ok (.iconst 0, 1) := by decide +kernel
theorem dX7_order_37 : decode cX7_order 37 = .ok (.iconst 3, 1) := by decide +kernel
theorem dX7_order_38 : decode cX7_order 38 = .ok (.invokestatic 122, 3) := by decide +kernel
theorem dX7_order_41 : decode cX7_order 41 = .ok (.ifCond .eq 36, 3) := by decide +kernel
theorem dX7_order_44 : decode cX7_order 44 = .ok (.iload_n 1, 1) := by decide +kernel
theorem dX7_order_45 : decode cX7_order 45 = .ok (.iload_n 2, 1) := by decide +kernel
theorem dX7_order_46 : decode cX7_order 46 = .ok (.if_icmp .eq 31, 3) := by decide +kernel
theorem dX7_order_49 : decode cX7_order 49 = .ok (.iload_n 1, 1) := by decide +kernel
theorem dX7_order_50 : decode cX7_order 50 = .ok (.iload_n 3, 1) := by decide +kernel
theorem dX7_order_51 : decode cX7_order 51 = .ok (.if_icmp .eq 26, 3) := by decide +kernel
theorem dX7_order_54 : decode cX7_order 54 = .ok (.iload_n 1, 1) := by decide +kernel
theorem dX7_order_55 : decode cX7_order 55 = .ok (.iload 4, 2) := by decide +kernel
theorem dX7_order_57 : decode cX7_order 57 = .ok (.if_icmp .eq 20, 3) := by decide +kernel
theorem dX7_order_60 : decode cX7_order 60 = .ok (.iload_n 2, 1) := by decide +kernel
theorem dX7_order_61 : decode cX7_order 61 = .ok (.iload_n 3, 1) := by decide +kernel
theorem dX7_order_62 : decode cX7_order 62 = .ok (.if_icmp .eq 15, 3) := by decide +kernel
theorem dX7_order_65 : decode cX7_order 65 = .ok (.iload_n 2, 1) := by decide +kernel
theorem dX7_order_66 : decode cX7_order 66 = .ok (.iload 4, 2) := by decide +kernel
theorem dX7_order_68 : decode cX7_order 68 = .ok (.if_icmp .eq 9, 3) := by decide +kernel
theorem dX7_order_71 : decode cX7_order 71 = .ok (.iload_n 3, 1) := by decide +kernel
theorem dX7_order_72 : decode cX7_order 72 = .ok (.iload 4, 2) := by decide +kernel
theorem dX7_order_74 : decode cX7_order 74 = .ok (.if_icmp .ne 5, 3) := by decide +kernel
theorem dX7_order_77 : decode cX7_order 77 = .ok (.iconst 0, 1) := by decide +kernel
theorem dX7_order_78 : decode cX7_order 78 = .ok (.ireturn, 1) := by decide +kernel
theorem dX7_order_79 : decode cX7_order 79 = .ok (.aload_n 0, 1) := by decide +kernel
theorem dX7_order_80 : decode cX7_order 80 = .ok (.getfield 20, 3) := by decide +kernel
theorem dX7_order_83 : decode cX7_order 83 = .ok (.iload_n 1, 1) := by decide +kernel
theorem dX7_order_84 : decode cX7_order 84 = .ok (.iconst 0, 1) := by decide +kernel
theorem dX7_order_85 : decode cX7_order 85 = .ok (.iastore, 1) := by decide +kernel
theorem dX7_order_86 : decode cX7_order 86 = .ok (.aload_n 0, 1) := by decide +kernel
theorem dX7_order_87 : decode cX7_order 87 = .ok (.getfield 20, 3) := by decide +kernel
theorem dX7_order_90 : decode cX7_order 90 = .ok (.iload_n 2, 1) := by decide +kernel
theorem dX7_order_91 : decode cX7_order 91 = .ok (.iconst 1, 1) := by decide +kernel
theorem dX7_order_92 : decode cX7_order 92 = .ok (.iastore, 1) := by decide +kernel
theorem dX7_order_93 : decode cX7_order 93 = .ok (.aload_n 0, 1) := by decide +kernel
theorem dX7_order_94 : decode cX7_order 94 = .ok (.getfield 20, 3) := by decide +kernel
theorem dX7_order_97 : decode cX7_order 97 = .ok (.iload_n 3, 1) := by decide +kernel
theorem dX7_order_98 : decode cX7_order 98 = .ok (.iconst 2, 1) := by decide +kernel
theorem dX7_order_99 : decode cX7_order 99 = .ok (.iastore, 1) := by decide +kernel
theorem dX7_order_100 : decode cX7_order 100 = .ok (.aload_n 0, 1) := by decide +kernel
theorem dX7_order_101 : decode cX7_order 101 = .ok (.getfield 20, 3) := by decide +kernel
theorem dX7_order_104 : decode cX7_order 104 = .ok (.iload 4, 2) := by decide +kernel
theorem dX7_order_106 : decode cX7_order 106 = .ok (.iconst 3, 1) := by decide +kernel
theorem dX7_order_107 : decode cX7_order 107 = .ok (.iastore, 1) := by decide +kernel
theorem dX7_order_108 : decode cX7_order 108 = .ok (.iconst 1, 1) := by decide +kernel
theorem dX7_order_109 : decode cX7_order 109 = .ok (.ireturn, 1) := by decide +kernel
set_option maxRecDepth 20000 in
theorem ggX7_falls_X7_is : GoodIn wsX7_falls wsX7_is := goodIn_r _ [6] (by decide +kernel) (by decide +kernel)
set_option maxRecDepth 20000 in
theorem gX7_falls_X7_is : GoodIn wsX7_falls (va_wsS RX7 122 yX7_is wsX7_is) := goodIn_app (goodIn_of _ (by decide +kernel)) ggX7_falls_X7_is
theorem dX7_falls_0 : decode cX7_falls 0 = .ok (.aload_n 0, 1) := by decide +kernel
theorem dX7_falls_1 : decode cX7_falls 1 = .ok (.getfield 27, 3) := by decide +kernel
theorem dX7_falls_4 : decode cX7_falls 4 = .ok (.ifCond .ne 12, 3) := by decide +kernel
theorem dX7_falls_7 : decode cX7_falls 7 = .ok (.iload_n 1, 1) := by decide +kernel
theorem dX7_falls_8 : decode cX7_falls 8 = .ok (.iconst 0, 1) := by decide +kernel
theorem dX7_falls_9 : decode cX7_falls 9 = .ok (.iconst 3, 1) := by decide +kernel
theorem dX7_falls_10 : decode cX7_falls 10 = .ok (.invokestatic 122, 3) := by decide +kernel
theorem dX7_falls_13 : decode cX7_falls 13 = .ok (.ifCond .ne 5, 3) := by decide +kernel
theorem dX7_falls_16 : decode cX7_falls 16 = .ok (.iconst 0, 1) := by decide +kernel
theorem dX7_falls_17 : decode cX7_falls 17 = .ok (.ireturn, 1) := by decide +kernel
theorem dX7_falls_18 : decode cX7_falls 18 = .ok (.aload_n 0, 1) := by decide +kernel
theorem dX7_falls_19 : decode cX7_falls 19 = .ok (.getfield 23, 3) := by decide +kernel
theorem dX7_falls_22 : decode cX7_falls 22 = .ok (.iload_n 1, 1) := by decide +kernel
theorem dX7_falls_23 : decode cX7_falls 23 = .ok (.iload_n 2, 1) := by decide +kernel
theorem dX7_falls_24 : decode cX7_falls 24 = .ok (.bastore, 1) := by decide +kernel
theorem dX7_falls_25 : decode cX7_falls 25 = .ok (.iconst 1, 1) := by decide +kernel
theorem dX7_falls_26 : decode cX7_falls 26 = .ok (.ireturn, 1) := by decide +kernel
theorem dX7_isRow_0 : decode cX7_isRow 0 = .ok (.iload_n 1, 1) := by decide +kernel
theorem dX7_isRow_1 : decode cX7_isRow 1 = .ok (.ifCond .lt 15, 3) := by decide +kernel
theorem dX7_isRow_4 : decode cX7_isRow 4 = .ok (.iload_n 1, 1) := by decide +kernel
theorem dX7_isRow_5 : decode cX7_isRow 5 = .ok (.aload_n 0, 1) := by decide +kernel
theorem dX7_isRow_6 : decode cX7_isRow 6 = .ok (.getfield 16, 3) := by decide +kernel
theorem dX7_isRow_9 : decode cX7_isRow 9 = .ok (.if_icmp .ge 7, 3) := by decide +kernel
theorem dX7_isRow_12 : decode cX7_isRow 12 = .ok (.iconst 1, 1) := by decide +kernel
theorem dX7_isRow_13 : decode cX7_isRow 13 = .ok (.goto 4, 3) := by decide +kernel
theorem dX7_isRow_16 : decode cX7_isRow 16 = .ok (.iconst 0, 1) := by decide +kernel
theorem dX7_isRow_17 : decode cX7_isRow 17 = .ok (.ireturn, 1) := by decide +kernel
set_option maxRecDepth 20000 in
theorem ggX7_row_X7_isRow : GoodIn wsX7_row wsX7_isRow := goodIn_r _ [8, 9, 13, 14, 15, 16, 17, 18, 19, 20, 21, 22, 23, 24, 25, 26, 27, 28, 29, 30, 31, 32, 33, 34, 35, 36, 37, 38, 39, 40, 41, 42, 43, 44, 45, 46, 47, 48] (by decide +kernel) (by decide +kernel)
set_option maxRecDepth 20000 in
theorem gX7_row_X7_isRow : GoodIn wsX7_row (wsV RX7 129 RX7 yX7_isRow wsX7_isRow) := goodIn_app (goodIn_of _ (by decide +kernel)) ggX7_row_X7_isRow
set_option maxRecDepth 20000 in
theorem ggX7_row_X7_is : GoodIn wsX7_row wsX7_is := goodIn_r _ [12] (by decide +kernel) (by decide +kernel)
set_option maxRecDepth 20000 in
theorem gX7_row_X7_is : GoodIn wsX7_row (va_wsS RX7 122 yX7_is wsX7_is) := goodIn_app (goodIn_of _ (by decide +kernel)) ggX7_row_X7_is
theorem dX7_row_0 : decode cX7_row 0 = .ok (.aload_n 0, 1) := by decide +kernel
theorem dX7_row_1 : decode cX7_row 1 = .ok (.iload_n 1, 1) := by decide +kernel
theorem dX7_row_2 : decode cX7_row 2 = .ok (.invokevirtual 129, 3) := by decide +kernel
theorem dX7_row_5 : decode cX7_row 5 = .ok (.ifCond .eq 12, 3) := by decide +kernel
theorem dX7_row_8 : decode cX7_row 8 = .ok (.iload_n 2, 1) := by decide +kernel
theorem dX7_row_9 : decode cX7_row 9 = .ok (.iconst 0, 1) := by decide +kernel
theorem dX7_row_10 : decode cX7_row 10 = .ok (.iconst 1, 1) := by decide +kernel
theorem dX7_row_11 : decode cX7_row 11 = .ok (.invokestatic 122, 3) := by decide +kernel
theorem dX7_row_14 : decode cX7_row 14 = .ok (.ifCond .ne 8, 3) := by decide +kernel
theorem dX7_row_17 : decode cX7_row 17 = .ok (.ldc 133, 2) := by decide +kernel
theorem dX7_row_19 : decode cX7_row 19 = .ok (.goto 22, 3) := by decide +kernel
theorem dX7_row_22 : decode cX7_row 22 = .ok (.iload_n 2, 1) := by decide +kernel
theorem dX7_row_23 : decode cX7_row 23 = .ok (.ifCond .ne 12, 3) := by decide +kernel
theorem dX7_row_26 : decode cX7_row 26 = .ok (.aload_n 0, 1) := by decide +kernel
theorem dX7_row_27 : decode cX7_row 27 = .ok (.getfield 7, 3) := by decide +kernel
theorem dX7_row_30 : decode cX7_row 30 = .ok (.iload_n 1, 1) := by decide +kernel
theorem dX7_row_31 : decode cX7_row 31 = .ok (.iaload, 1) := by decide +kernel
theorem dX7_row_32 : decode cX7_row 32 = .ok (.goto 9, 3) := by decide +kernel
theorem dX7_row_35 : decode cX7_row 35 = .ok (.aload_n 0, 1) := by decide +kernel
theorem dX7_row_36 : decode cX7_row 36 = .ok (.getfield 13, 3) := by decide +kernel
theorem dX7_row_39 : decode cX7_row 39 = .ok (.iload_n 1, 1) := by decide +kernel
theorem dX7_row_40 : decode cX7_row 40 = .ok (.iaload, 1) := by decide +kernel
theorem dX7_row_41 : decode cX7_row 41 = .ok (.ireturn, 1) := by decide +kernel
theorem dX7_ahead_0 : decode cX7_ahead 0 = .ok (.aload_n 0, 1) := by decide +kernel
theorem dX7_ahead_1 : decode cX7_ahead 1 = .ok (.getfield 7, 3) := by decide +kernel
theorem dX7_ahead_4 : decode cX7_ahead 4 = .ok (.iload_n 1, 1) := by decide +kernel
theorem dX7_ahead_5 : decode cX7_ahead 5 = .ok (.iaload, 1) := by decide +kernel
theorem dX7_ahead_6 : decode cX7_ahead 6 = .ok (.aload_n 0, 1) := by decide +kernel
theorem dX7_ahead_7 : decode cX7_ahead 7 = .ok (.getfield 7, 3) := by decide +kernel
theorem dX7_ahead_10 : decode cX7_ahead 10 = .ok (.iload_n 2, 1) := by decide +kernel
theorem dX7_ahead_11 : decode cX7_ahead 11 = .ok (.iaload, 1) := by decide +kernel
theorem dX7_ahead_12 : decode cX7_ahead 12 = .ok (.if_icmp .eq 34, 3) := by decide +kernel
theorem dX7_ahead_15 : decode cX7_ahead 15 = .ok (.aload_n 0, 1) := by decide +kernel
theorem dX7_ahead_16 : decode cX7_ahead 16 = .ok (.getfield 20, 3) := by decide +kernel
theorem dX7_ahead_19 : decode cX7_ahead 19 = .ok (.aload_n 0, 1) := by decide +kernel
theorem dX7_ahead_20 : decode cX7_ahead 20 = .ok (.getfield 7, 3) := by decide +kernel
theorem dX7_ahead_23 : decode cX7_ahead 23 = .ok (.iload_n 1, 1) := by decide +kernel
theorem dX7_ahead_24 : decode cX7_ahead 24 = .ok (.iaload, 1) := by decide +kernel
theorem dX7_ahead_25 : decode cX7_ahead 25 = .ok (.iaload, 1) := by decide +kernel
theorem dX7_ahead_26 : decode cX7_ahead 26 = .ok (.aload_n 0, 1) := by decide +kernel
theorem dX7_ahead_27 : decode cX7_ahead 27 = .ok (.getfield 20, 3) := by decide +kernel
theorem dX7_ahead_30 : decode cX7_ahead 30 = .ok (.aload_n 0, 1) := by decide +kernel
theorem dX7_ahead_31 : decode cX7_ahead 31 = .ok (.getfield 7, 3) := by decide +kernel
theorem dX7_ahead_34 : decode cX7_ahead 34 = .ok (.iload_n 2, 1) := by decide +kernel
theorem dX7_ahead_35 : decode cX7_ahead 35 = .ok (.iaload, 1) := by decide +kernel
theorem dX7_ahead_36 : decode cX7_ahead 36 = .ok (.iaload, 1) := by decide +kernel
theorem dX7_ahead_37 : decode cX7_ahead 37 = .ok (.if_icmp .ge 7, 3) := by decide +kernel
theorem dX7_ahead_40 : decode cX7_ahead 40 = .ok (.iconst 1, 1) := by decide +kernel
theorem dX7_ahead_41 : decode cX7_ahead 41 = .ok (.goto 4, 3) := by decide +kernel
theorem dX7_ahead_44 : decode cX7_ahead 44 = .ok (.iconst 0, 1) := by decide +kernel
theorem dX7_ahead_45 : decode cX7_ahead 45 = .ok (.ireturn, 1) := by decide +kernel
theorem dX7_ahead_46 : decode cX7_ahead 46 = .ok (.aload_n 0, 1) := by decide +kernel
theorem dX7_ahead_47 : decode cX7_ahead 47 = .ok (.getfield 13, 3) := by decide +kernel
theorem dX7_ahead_50 : decode cX7_ahead 50 = .ok (.iload_n 1, 1) := by decide +kernel
theorem dX7_ahead_51 : decode cX7_ahead 51 = .ok (.iaload, 1) := by decide +kernel
theorem dX7_ahead_52 : decode cX7_ahead 52 = .ok (.aload_n 0, 1) := by decide +kernel
theorem dX7_ahead_53 : decode cX7_ahead 53 = .ok (.getfield 13, 3) := by decide +kernel
theorem dX7_ahead_56 : decode cX7_ahead 56 = .ok (.iload_n 2, 1) := by decide +kernel
theorem dX7_ahead_57 : decode cX7_ahead 57 = .ok (.iaload, 1) := by decide +kernel
theorem dX7_ahead_58 : decode cX7_ahead 58 = .ok (.if_icmp .eq 43, 3) := by decide +kernel
theorem dX7_ahead_61 : decode cX7_ahead 61 = .ok (.aload_n 0, 1) := by decide +kernel
theorem dX7_ahead_62 : decode cX7_ahead 62 = .ok (.getfield 13, 3) := by decide +kernel
theorem dX7_ahead_65 : decode cX7_ahead 65 = .ok (.iload_n 1, 1) := by decide +kernel
theorem dX7_ahead_66 : decode cX7_ahead 66 = .ok (.iaload, 1) := by decide +kernel
theorem dX7_ahead_67 : decode cX7_ahead 67 = .ok (.aload_n 0, 1) := by decide +kernel
theorem dX7_ahead_68 : decode cX7_ahead 68 = .ok (.getfield 13, 3) := by decide +kernel
theorem dX7_ahead_71 : decode cX7_ahead 71 = .ok (.iload_n 2, 1) := by decide +kernel
theorem dX7_ahead_72 : decode cX7_ahead 72 = .ok (.iaload, 1) := by decide +kernel
theorem dX7_ahead_73 : decode cX7_ahead 73 = .ok (.if_icmp .ge 7, 3) := by decide +kernel
theorem dX7_ahead_76 : decode cX7_ahead 76 = .ok (.iconst 1, 1) := by decide +kernel
theorem dX7_ahead_77 : decode cX7_ahead 77 = .ok (.goto 4, 3) := by decide +kernel
theorem dX7_ahead_80 : decode cX7_ahead 80 = .ok (.iconst 0, 1) := by decide +kernel
theorem dX7_ahead_81 : decode cX7_ahead 81 = .ok (.aload_n 0, 1) := by decide +kernel
theorem dX7_ahead_82 : decode cX7_ahead 82 = .ok (.getfield 23, 3) := by decide +kernel
theorem dX7_ahead_85 : decode cX7_ahead 85 = .ok (.aload_n 0, 1) := by decide +kernel
theorem dX7_ahead_86 : decode cX7_ahead 86 = .ok (.getfield 7, 3) := by decide +kernel
theorem dX7_ahead_89 : decode cX7_ahead 89 = .ok (.iload_n 1, 1) := by decide +kernel
theorem dX7_ahead_90 : decode cX7_ahead 90 = .ok (.iaload, 1) := by decide +kernel
theorem dX7_ahead_91 : decode cX7_ahead 91 = .ok (.baload, 1) := by decide +kernel
theorem dX7_ahead_92 : decode cX7_ahead 92 = .ok (.if_icmp .eq 7, 3) := by decide +kernel
theorem dX7_ahead_95 : decode cX7_ahead 95 = .ok (.iconst 1, 1) := by decide +kernel
theorem dX7_ahead_96 : decode cX7_ahead 96 = .ok (.goto 4, 3) := by decide +kernel
theorem dX7_ahead_99 : decode cX7_ahead 99 = .ok (.iconst 0, 1) := by decide +kernel
theorem dX7_ahead_100 : decode cX7_ahead 100 = .ok (.ireturn, 1) := by decide +kernel
theorem dX7_ahead_101 : decode cX7_ahead 101 = .ok (.iload_n 1, 1) := by decide +kernel
theorem dX7_ahead_102 : decode cX7_ahead 102 = .ok (.iload_n 2, 1) := by decide +kernel
theorem dX7_ahead_103 : decode cX7_ahead 103 = .ok (.if_icmp .ge 7, 3) := by decide +kernel
theorem dX7_ahead_106 : decode cX7_ahead 106 = .ok (.iconst 1, 1) := by decide +kernel
theorem dX7_ahead_107 : decode cX7_ahead 107 = .ok (.goto 4, 3) := by decide +kernel
theorem dX7_ahead_110 : decode cX7_ahead 110 = .ok (.iconst 0, 1) := by decide +kernel
theorem dX7_ahead_111 : decode cX7_ahead 111 = .ok (.ireturn, 1) := by decide +kernel
set_option maxRecDepth 20000 in
theorem ggX7_against_X7_isRow : GoodIn wsX7_against wsX7_isRow := goodIn_r _ [5, 6, 15, 16, 17, 18, 19, 20, 21, 22, 23, 24, 25, 26, 27, 28, 29, 30, 31, 32, 33, 34, 35, 36, 37, 38, 39, 40, 41, 42, 43, 44, 45, 46, 47, 48, 49, 50] (by decide +kernel) (by decide +kernel)
set_option maxRecDepth 20000 in
theorem gX7_against_X7_isRow : GoodIn wsX7_against (wsV RX7 129 RX7 yX7_isRow wsX7_isRow) := goodIn_app (goodIn_of _ (by decide +kernel)) ggX7_against_X7_isRow
set_option maxRecDepth 20000 in
theorem ggX7_against_X7_ahead : GoodIn wsX7_against wsX7_ahead := goodIn_r _ [10, 11, 12, 13, 14, 15, 16, 17, 18, 19, 20, 21, 22, 23, 24, 25, 26, 27, 28, 29, 30, 31, 32, 33, 34, 35, 36, 37, 38, 39, 40, 41, 42, 43, 44, 45, 46, 47, 48, 49, 50] (by decide +kernel) (by decide +kernel)
set_option maxRecDepth 20000 in
theorem gX7_against_X7_ahead : GoodIn wsX7_against (wsV RX7 134 RX7 yX7_ahead wsX7_ahead) := goodIn_app (goodIn_of _ (by decide +kernel)) ggX7_against_X7_ahead
theorem dX7_against_0 : decode cX7_against 0 = .ok (.aload_n 0, 1) := by decide +kernel
theorem dX7_against_1 : decode cX7_against 1 = .ok (.iload_n 1, 1) := by decide +kernel
theorem dX7_against_2 : decode cX7_against 2 = .ok (.invokevirtual 129, 3) := by decide +kernel
theorem dX7_against_5 : decode cX7_against 5 = .ok (.ifCond .eq 11, 3) := by decide +kernel
theorem dX7_against_8 : decode cX7_against 8 = .ok (.aload_n 0, 1) := by decide +kernel
theorem dX7_against_9 : decode cX7_against 9 = .ok (.iload_n 2, 1) := by decide +kernel
theorem dX7_against_10 : decode cX7_against 10 = .ok (.invokevirtual 129, 3) := by decide +kernel
theorem dX7_against_13 : decode cX7_against 13 = .ok (.ifCond .ne 8, 3) := by decide +kernel
theorem dX7_against_16 : decode cX7_against 16 = .ok (.bipush (-2), 2) := by decide +kernel
theorem dX7_against_18 : decode cX7_against 18 = .ok (.goto 26, 3) := by decide +kernel
theorem dX7_against_21 : decode cX7_against 21 = .ok (.iload_n 1, 1) := by decide +kernel
theorem dX7_against_22 : decode cX7_against 22 = .ok (.iload_n 2, 1) := by decide +kernel
theorem dX7_against_23 : decode cX7_against 23 = .ok (.if_icmp .ne 7, 3) := by decide +kernel
theorem dX7_against_26 : decode cX7_against 26 = .ok (.iconst 0, 1) := by decide +kernel
theorem dX7_against_27 : decode cX7_against 27 = .ok (.goto 17, 3) := by decide +kernel
theorem dX7_against_30 : decode cX7_against 30 = .ok (.aload_n 0, 1) := by decide +kernel
theorem dX7_against_31 : decode cX7_against 31 = .ok (.iload_n 1, 1) := by decide +kernel
theorem dX7_against_32 : decode cX7_against 32 = .ok (.iload_n 2, 1) := by decide +kernel
theorem dX7_against_33 : decode cX7_against 33 = .ok (.invokevirtual 134, 3) := by decide +kernel
theorem dX7_against_36 : decode cX7_against 36 = .ok (.ifCond .eq 7, 3) := by decide +kernel
theorem dX7_against_39 : decode cX7_against 39 = .ok (.iconst (-1), 1) := by decide +kernel
theorem dX7_against_40 : decode cX7_against 40 = .ok (.goto 4, 3) := by decide +kernel
theorem dX7_against_43 : decode cX7_against 43 = .ok (.iconst 1, 1) := by decide +kernel
theorem dX7_against_44 : decode cX7_against 44 = .ok (.ireturn, 1) := by decide +kernel
set_option maxRecDepth 20000 in
theorem ggX7_rank_X7_isRow : GoodIn wsX7_rank wsX7_isRow := goodIn_r _ [6, 1, 15, 16, 17, 18, 19, 20, 21, 22, 23, 24, 25, 26, 27, 28, 29, 30, 31, 32, 33, 34, 35, 36, 37, 38, 39, 40, 41, 42, 43, 44, 45, 46, 47, 48, 49, 50] (by decide +kernel) (by decide +kernel)
set_option maxRecDepth 20000 in
theorem gX7_rank_X7_isRow : GoodIn wsX7_rank (wsV RX7 129 RX7 yX7_isRow wsX7_isRow) := goodIn_app (goodIn_of _ (by decide +kernel)) ggX7_rank_X7_isRow
set_option maxRecDepth 20000 in
theorem ggX7_rank_X7_ahead : GoodIn wsX7_rank wsX7_ahead := goodIn_r _ [10, 11, 12, 13, 14, 15, 16, 17, 18, 19, 20, 21, 22, 23, 24, 25, 26, 27, 28, 29, 30, 31, 32, 33, 34, 35, 36, 37, 38, 39, 40, 41, 42, 43, 44, 45, 46, 47, 48, 49, 50] (by decide +kernel) (by decide +kernel)
set_option maxRecDepth 20000 in
theorem gX7_rank_X7_ahead : GoodIn wsX7_rank (wsV RX7 134 RX7 yX7_ahead wsX7_ahead) := goodIn_app (goodIn_of _ (by decide +kernel)) ggX7_rank_X7_ahead
theorem dX7_rank_0 : decode cX7_rank 0 = .ok (.aload_n 0, 1) := by decide +kernel
theorem dX7_rank_1 : decode cX7_rank 1 = .ok (.iload_n 1, 1) := by decide +kernel
theorem dX7_rank_2 : decode cX7_rank 2 = .ok (.invokevirtual 129, 3) := by decide +kernel
theorem dX7_rank_5 : decode cX7_rank 5 = .ok (.ifCond .ne 5, 3) := by decide +kernel
theorem dX7_rank_8 : decode cX7_rank 8 = .ok (.iconst (-1), 1) := by decide +kernel
theorem dX7_rank_9 : decode cX7_rank 9 = .ok (.ireturn, 1) := by decide +kernel
theorem dX7_rank_10 : decode cX7_rank 10 = .ok (.iconst 0, 1) := by decide +kernel
theorem dX7_rank_11 : decode cX7_rank 11 = .ok (.istore_n 2, 1) := by decide +kernel
theorem dX7_rank_12 : decode cX7_rank 12 = .ok (.iconst 0, 1) := by decide +kernel
theorem dX7_rank_13 : decode cX7_rank 13 = .ok (.istore_n 3, 1) := by decide +kernel
theorem dX7_rank_14 : decode cX7_rank 14 = .ok (.iload_n 3, 1) := by decide +kernel
theorem dX7_rank_15 : decode cX7_rank 15 = .ok (.aload_n 0, 1) := by decide +kernel
theorem dX7_rank_16 : decode cX7_rank 16 = .ok (.getfield 16, 3) := by decide +kernel
theorem dX7_rank_19 : decode cX7_rank 19 = .ok (.if_icmp .ge 31, 3) := by decide +kernel
theorem dX7_rank_22 : decode cX7_rank 22 = .ok (.iload_n 2, 1) := by decide +kernel
theorem dX7_rank_23 : decode cX7_rank 23 = .ok (.iload_n 3, 1) := by decide +kernel
theorem dX7_rank_24 : decode cX7_rank 24 = .ok (.iload_n 1, 1) := by decide +kernel
theorem dX7_rank_25 : decode cX7_rank 25 = .ok (.if_icmp .eq 16, 3) := by decide +kernel
theorem dX7_rank_28 : decode cX7_rank 28 = .ok (.aload_n 0, 1) := by decide +kernel
theorem dX7_rank_29 : decode cX7_rank 29 = .ok (.iload_n 3, 1) := by decide +kernel
theorem dX7_rank_30 : decode cX7_rank 30 = .ok (.iload_n 1, 1) := by decide +kernel
theorem dX7_rank_31 : decode cX7_rank 31 = .ok (.invokevirtual 134, 3) := by decide +kernel
theorem dX7_rank_34 : decode cX7_rank 34 = .ok (.ifCond .eq 7, 3) := by decide +kernel
theorem dX7_rank_37 : decode cX7_rank 37 = .ok (.iconst 1, 1) := by decide +kernel
theorem dX7_rank_38 : decode cX7_rank 38 = .ok (.goto 4, 3) := by decide +kernel
theorem dX7_rank_41 : decode cX7_rank 41 = .ok (.iconst 0, 1) := by decide +kernel
theorem dX7_rank_42 : decode cX7_rank 42 = .ok (.iadd, 1) := by decide +kernel
theorem dX7_rank_43 : decode cX7_rank 43 = .ok (.istore_n 2, 1) := by decide +kernel
theorem dX7_rank_44 : decode cX7_rank 44 = .ok (.iinc 3 1, 3) := by decide +kernel
theorem dX7_rank_47 : decode cX7_rank 47 = .ok (.goto (-33), 3) := by decide +kernel
theorem dX7_rank_50 : decode cX7_rank 50 = .ok (.iload_n 2, 1) := by decide +kernel
theorem dX7_rank_51 : decode cX7_rank 51 = .ok (.ireturn, 1) := by decide +kernel
set_option maxRecDepth 20000 in
theorem ggX7_runs_X7_is : GoodIn wsX7_runs wsX7_is := goodIn_r _ [17] (by decide +kernel) (by decide +kernel)
set_option maxRecDepth 20000 in
theorem gX7_runs_X7_is : GoodIn wsX7_runs (va_wsS RX7 122 yX7_is wsX7_is) := goodIn_app (goodIn_of _ (by decide +kernel)) ggX7_runs_X7_is
set_option maxRecDepth 20000 in
theorem ggX7_runs_X7_ahead : GoodIn wsX7_runs wsX7_ahead := goodIn_r _ [21, 22, 23, 24, 25, 26, 27, 28, 29, 30, 31, 32, 33, 34, 35, 36, 37, 38, 39, 40, 41, 42, 43, 44, 45, 46, 47, 48, 49, 50, 51, 52, 53, 54, 55, 56, 57, 58, 59, 60, 61] (by decide +kernel) (by decide +kernel)
set_option maxRecDepth 20000 in
theorem gX7_runs_X7_ahead : GoodIn wsX7_runs (wsV RX7 134 RX7 yX7_ahead wsX7_ahead) := goodIn_app (goodIn_of _ (by decide +kernel)) ggX7_runs_X7_ahead
theorem dX7_runs_0 : decode cX7_runs 0 = .ok (.iload_n 1, 1) := by decide +kernel
theorem dX7_runs_1 : decode cX7_runs 1 = .ok (.iconst 1, 1) := by decide +kernel
theorem dX7_runs_2 : decode cX7_runs 2 = .ok (.bipush 40, 2) := by decide +kernel
theorem dX7_runs_4 : decode cX7_runs 4 = .ok (.invokestatic 122, 3) := by decide +kernel
theorem dX7_runs_7 : decode cX7_runs 7 = .ok (.ifCond .ne 5, 3) := by decide +kernel
theorem dX7_runs_10 : decode cX7_runs 10 = .ok (.iconst (-1), 1) := by decide +kernel
theorem dX7_runs_11 : decode cX7_runs 11 = .ok (.ireturn, 1) := by decide +kernel
theorem dX7_runs_12 : decode cX7_runs 12 = .ok (.aload_n 0, 1) := by decide +kernel
theorem dX7_runs_13 : decode cX7_runs 13 = .ok (.iconst 0, 1) := by decide +kernel
theorem dX7_runs_14 : decode cX7_runs 14 = .ok (.putfield 31, 3) := by decide +kernel
theorem dX7_runs_17 : decode cX7_runs 17 = .ok (.aload_n 0, 1) := by decide +kernel
theorem dX7_runs_18 : decode cX7_runs 18 = .ok (.iconst 0, 1) := by decide +kernel
theorem dX7_runs_19 : decode cX7_runs 19 = .ok (.putfield 47, 3) := by decide +kernel
theorem dX7_runs_22 : decode cX7_runs 22 = .ok (.aload_n 0, 1) := by decide +kernel
theorem dX7_runs_23 : decode cX7_runs 23 = .ok (.iconst (-1), 1) := by decide +kernel
theorem dX7_runs_24 : decode cX7_runs 24 = .ok (.putfield 50, 3) := by decide +kernel
theorem dX7_runs_27 : decode cX7_runs 27 = .ok (.aload_n 0, 1) := by decide +kernel
theorem dX7_runs_28 : decode cX7_runs 28 = .ok (.iconst 0, 1) := by decide +kernel
theorem dX7_runs_29 : decode cX7_runs 29 = .ok (.putfield 53, 3) := by decide +kernel
theorem dX7_runs_32 : decode cX7_runs 32 = .ok (.aload_n 0, 1) := by decide +kernel
theorem dX7_runs_33 : decode cX7_runs 33 = .ok (.iconst 0, 1) := by decide +kernel
theorem dX7_runs_34 : decode cX7_runs 34 = .ok (.putfield 62, 3) := by decide +kernel
theorem dX7_runs_37 : decode cX7_runs 37 = .ok (.aload_n 0, 1) := by decide +kernel
theorem dX7_runs_38 : decode cX7_runs 38 = .ok (.iconst 0, 1) := by decide +kernel
theorem dX7_runs_39 : decode cX7_runs 39 = .ok (.putfield 68, 3) := by decide +kernel
theorem dX7_runs_42 : decode cX7_runs 42 = .ok (.iconst 0, 1) := by decide +kernel
theorem dX7_runs_43 : decode cX7_runs 43 = .ok (.istore_n 2, 1) := by decide +kernel
theorem dX7_runs_44 : decode cX7_runs 44 = .ok (.iconst 0, 1) := by decide +kernel
theorem dX7_runs_45 : decode cX7_runs 45 = .ok (.istore_n 3, 1) := by decide +kernel
theorem dX7_runs_46 : decode cX7_runs 46 = .ok (.iload_n 2, 1) := by decide +kernel
theorem dX7_runs_47 : decode cX7_runs 47 = .ok (.iload_n 1, 1) := by decide +kernel
theorem dX7_runs_48 : decode cX7_runs 48 = .ok (.if_icmp .ge 27, 3) := by decide +kernel
theorem dX7_runs_51 : decode cX7_runs 51 = .ok (.iload_n 3, 1) := by decide +kernel
theorem dX7_runs_52 : decode cX7_runs 52 = .ok (.aload_n 0, 1) := by decide +kernel
theorem dX7_runs_53 : decode cX7_runs 53 = .ok (.getfield 16, 3) := by decide +kernel
theorem dX7_runs_56 : decode cX7_runs 56 = .ok (.if_icmp .ge 19, 3) := by decide +kernel
theorem dX7_runs_59 : decode cX7_runs 59 = .ok (.aload_n 0, 1) := by decide +kernel
theorem dX7_runs_60 : decode cX7_runs 60 = .ok (.getfield 110, 3) := by decide +kernel
theorem dX7_runs_63 : decode cX7_runs 63 = .ok (.iload_n 2, 1) := by decide +kernel
theorem dX7_runs_64 : decode cX7_runs 64 = .ok (.iload_n 3, 1) := by decide +kernel
theorem dX7_runs_65 : decode cX7_runs 65 = .ok (.iastore, 1) := by decide +kernel
theorem dX7_runs_66 : decode cX7_runs 66 = .ok (.iinc 2 1, 3) := by decide +kernel
theorem dX7_runs_69 : decode cX7_runs 69 = .ok (.iinc 3 1, 3) := by decide +kernel
theorem dX7_runs_72 : decode cX7_runs 72 = .ok (.goto (-26), 3) := by decide +kernel
theorem dX7_runs_75 : decode cX7_runs 75 = .ok (.iconst (-1), 1) := by decide +kernel
theorem dX7_runs_76 : decode cX7_runs 76 = .ok (.istore 4, 2) := by decide +kernel
theorem dX7_runs_78 : decode cX7_runs 78 = .ok (.iload_n 2, 1) := by decide +kernel
theorem dX7_runs_79 : decode cX7_runs 79 = .ok (.ifCond .le 219, 3) := by decide +kernel
theorem dX7_runs_82 : decode cX7_runs 82 = .ok (.iconst (-1), 1) := by decide +kernel
theorem dX7_runs_83 : decode cX7_runs 83 = .ok (.istore 5, 2) := by decide +kernel
theorem dX7_runs_85 : decode cX7_runs 85 = .ok (.iconst 0, 1) := by decide +kernel
theorem dX7_runs_86 : decode cX7_runs 86 = .ok (.istore 6, 2) := by decide +kernel
theorem dX7_runs_88 : decode cX7_runs 88 = .ok (.iload 6, 2) := by decide +kernel
theorem dX7_runs_90 : decode cX7_runs 90 = .ok (.iload_n 2, 1) := by decide +kernel
theorem dX7_runs_91 : decode cX7_runs 91 = .ok (.if_icmp .ge 70, 3) := by decide +kernel
theorem dX7_runs_94 : decode cX7_runs 94 = .ok (.iload 4, 2) := by decide +kernel
theorem dX7_runs_96 : decode cX7_runs 96 = .ok (.iconst (-1), 1) := by decide +kernel
theorem dX7_runs_97 : decode cX7_runs 97 = .ok (.if_icmp .eq 22, 3) := by decide +kernel
theorem dX7_runs_100 : decode cX7_runs 100 = .ok (.aload_n 0, 1) := by decide +kernel
theorem dX7_runs_101 : decode cX7_runs 101 = .ok (.aload_n 0, 1) := by decide +kernel
theorem dX7_runs_102 : decode cX7_runs 102 = .ok (.getfield 110, 3) := by decide +kernel
theorem dX7_runs_105 : decode cX7_runs 105 = .ok (.iload 6, 2) := by decide +kernel
theorem dX7_runs_107 : decode cX7_runs 107 = .ok (.iaload, 1) := by decide +kernel
theorem dX7_runs_108 : decode cX7_runs 108 = .ok (.iload 4, 2) := by decide +kernel
theorem dX7_runs_110 : decode cX7_runs 110 = .ok (.invokevirtual 134, 3) := by decide +kernel
theorem dX7_runs_113 : decode cX7_runs 113 = .ok (.ifCond .eq 6, 3) := by decide +kernel
theorem dX7_runs_116 : decode cX7_runs 116 = .ok (.goto 39, 3) := by decide +kernel
theorem dX7_runs_119 : decode cX7_runs 119 = .ok (.iload 5, 2) := by decide +kernel
theorem dX7_runs_121 : decode cX7_runs 121 = .ok (.iconst (-1), 1) := by decide +kernel
theorem dX7_runs_122 : decode cX7_runs 122 = .ok (.if_icmp .eq 24, 3) := by decide +kernel
theorem dX7_runs_125 : decode cX7_runs 125 = .ok (.aload_n 0, 1) := by decide +kernel
theorem dX7_runs_126 : decode cX7_runs 126 = .ok (.aload_n 0, 1) := by decide +kernel
theorem dX7_runs_127 : decode cX7_runs 127 = .ok (.getfield 110, 3) := by decide +kernel
theorem dX7_runs_130 : decode cX7_runs 130 = .ok (.iload 6, 2) := by decide +kernel
theorem dX7_runs_132 : decode cX7_runs 132 = .ok (.iaload, 1) := by decide +kernel
theorem dX7_runs_133 : decode cX7_runs 133 = .ok (.aload_n 0, 1) := by decide +kernel
theorem dX7_runs_134 : decode cX7_runs 134 = .ok (.getfield 110, 3) := by decide +kernel
theorem dX7_runs_137 : decode cX7_runs 137 = .ok (.iload 5, 2) := by decide +kernel
theorem dX7_runs_139 : decode cX7_runs 139 = .ok (.iaload, 1) := by decide +kernel
theorem dX7_runs_140 : decode cX7_runs 140 = .ok (.invokevirtual 134, 3) := by decide +kernel
theorem dX7_runs_143 : decode cX7_runs 143 = .ok (.ifCond .eq 8, 3) := by decide +kernel
theorem dX7_runs_146 : decode cX7_runs 146 = .ok (.iload 6, 2) := by decide +kernel
theorem dX7_runs_148 : decode cX7_runs 148 = .ok (.goto 5, 3) := by decide +kernel
theorem dX7_runs_151 : decode cX7_runs 151 = .ok (.iload 5, 2) := by decide +kernel
theorem dX7_runs_153 : decode cX7_runs 153 = .ok (.istore 5, 2) := by decide +kernel
theorem dX7_runs_155 : decode cX7_runs 155 = .ok (.iinc 6 1, 3) := by decide +kernel
theorem dX7_runs_158 : decode cX7_runs 158 = .ok (.goto (-70), 3) := by decide +kernel
theorem dX7_runs_161 : decode cX7_runs 161 = .ok (.iload 5, 2) := by decide +kernel
theorem dX7_runs_163 : decode cX7_runs 163 = .ok (.iconst (-1), 1) := by decide +kernel
theorem dX7_runs_164 : decode cX7_runs 164 = .ok (.if_icmp .ne 9, 3) := by decide +kernel
theorem dX7_runs_167 : decode cX7_runs 167 = .ok (.iconst (-1), 1) := by decide +kernel
theorem dX7_runs_168 : decode cX7_runs 168 = .ok (.istore 4, 2) := by decide +kernel
theorem dX7_runs_170 : decode cX7_runs 170 = .ok (.goto (-92), 3) := by decide +kernel
theorem dX7_runs_173 : decode cX7_runs 173 = .ok (.iload 4, 2) := by decide +kernel
theorem dX7_runs_175 : decode cX7_runs 175 = .ok (.iconst (-1), 1) := by decide +kernel
theorem dX7_runs_176 : decode cX7_runs 176 = .ok (.if_icmp .ne 36, 3) := by decide +kernel
theorem dX7_runs_179 : decode cX7_runs 179 = .ok (.aload_n 0, 1) := by decide +kernel
theorem dX7_runs_180 : decode cX7_runs 180 = .ok (.getfield 37, 3) := by decide +kernel
theorem dX7_runs_183 : decode cX7_runs 183 = .ok (.aload_n 0, 1) := by decide +kernel
theorem dX7_runs_184 : decode cX7_runs 184 = .ok (.getfield 31, 3) := by decide +kernel
theorem dX7_runs_187 : decode cX7_runs 187 = .ok (.aload_n 0, 1) := by decide +kernel
theorem dX7_runs_188 : decode cX7_runs 188 = .ok (.getfield 47, 3) := by decide +kernel
theorem dX7_runs_191 : decode cX7_runs 191 = .ok (.iastore, 1) := by decide +kernel
theorem dX7_runs_192 : decode cX7_runs 192 = .ok (.aload_n 0, 1) := by decide +kernel
theorem dX7_runs_193 : decode cX7_runs 193 = .ok (.getfield 40, 3) := by decide +kernel
theorem dX7_runs_196 : decode cX7_runs 196 = .ok (.aload_n 0, 1) := by decide +kernel
theorem dX7_runs_197 : decode cX7_runs 197 = .ok (.getfield 31, 3) := by decide +kernel
theorem dX7_runs_200 : decode cX7_runs 200 = .ok (.iconst 0, 1) := by decide +kernel
theorem dX7_runs_201 : decode cX7_runs 201 = .ok (.iastore, 1) := by decide +kernel
theorem dX7_runs_202 : decode cX7_runs 202 = .ok (.aload_n 0, 1) := by decide +kernel
theorem dX7_runs_203 : decode cX7_runs 203 = .ok (.dup, 1) := by decide +kernel
theorem dX7_runs_204 : decode cX7_runs 204 = .ok (.getfield 31, 3) := by decide +kernel
theorem dX7_runs_207 : decode cX7_runs 207 = .ok (.iconst 1, 1) := by decide +kernel
theorem dX7_runs_208 : decode cX7_runs 208 = .ok (.iadd, 1) := by decide +kernel
theorem dX7_runs_209 : decode cX7_runs 209 = .ok (.putfield 31, 3) := by decide +kernel
theorem dX7_runs_212 : decode cX7_runs 212 = .ok (.aload_n 0, 1) := by decide +kernel
theorem dX7_runs_213 : decode cX7_runs 213 = .ok (.getfield 110, 3) := by decide +kernel
theorem dX7_runs_216 : decode cX7_runs 216 = .ok (.iload 5, 2) := by decide +kernel
theorem dX7_runs_218 : decode cX7_runs 218 = .ok (.iaload, 1) := by decide +kernel
theorem dX7_runs_219 : decode cX7_runs 219 = .ok (.istore 4, 2) := by decide +kernel
theorem dX7_runs_221 : decode cX7_runs 221 = .ok (.aload_n 0, 1) := by decide +kernel
theorem dX7_runs_222 : decode cX7_runs 222 = .ok (.getfield 44, 3) := by decide +kernel
theorem dX7_runs_225 : decode cX7_runs 225 = .ok (.aload_n 0, 1) := by decide +kernel
theorem dX7_runs_226 : decode cX7_runs 226 = .ok (.getfield 47, 3) := by decide +kernel
theorem dX7_runs_229 : decode cX7_runs 229 = .ok (.iload 4, 2) := by decide +kernel
theorem dX7_runs_231 : decode cX7_runs 231 = .ok (.iastore, 1) := by decide +kernel
theorem dX7_runs_232 : decode cX7_runs 232 = .ok (.aload_n 0, 1) := by decide +kernel
theorem dX7_runs_233 : decode cX7_runs 233 = .ok (.dup, 1) := by decide +kernel
theorem dX7_runs_234 : decode cX7_runs 234 = .ok (.getfield 47, 3) := by decide +kernel
theorem dX7_runs_237 : decode cX7_runs 237 = .ok (.iconst 1, 1) := by decide +kernel
theorem dX7_runs_238 : decode cX7_runs 238 = .ok (.iadd, 1) := by decide +kernel
theorem dX7_runs_239 : decode cX7_runs 239 = .ok (.putfield 47, 3) := by decide +kernel
theorem dX7_runs_242 : decode cX7_runs 242 = .ok (.aload_n 0, 1) := by decide +kernel
theorem dX7_runs_243 : decode cX7_runs 243 = .ok (.getfield 40, 3) := by decide +kernel
theorem dX7_runs_246 : decode cX7_runs 246 = .ok (.aload_n 0, 1) := by decide +kernel
theorem dX7_runs_247 : decode cX7_runs 247 = .ok (.getfield 31, 3) := by decide +kernel
theorem dX7_runs_250 : decode cX7_runs 250 = .ok (.iconst 1, 1) := by decide +kernel
theorem dX7_runs_251 : decode cX7_runs 251 = .ok (.isub, 1) := by decide +kernel
theorem dX7_runs_252 : decode cX7_runs 252 = .ok (.dup2, 1) := by decide +kernel
theorem dX7_runs_253 : decode cX7_runs 253 = .ok (.iaload, 1) := by decide +kernel
theorem dX7_runs_254 : decode cX7_runs 254 = .ok (.iconst 1, 1) := by decide +kernel
theorem dX7_runs_255 : decode cX7_runs 255 = .ok (.iadd, 1) := by decide +kernel
theorem dX7_runs_256 : decode cX7_runs 256 = .ok (.iastore, 1) := by decide +kernel
theorem dX7_runs_257 : decode cX7_runs 257 = .ok (.iload_n 3, 1) := by decide +kernel
theorem dX7_runs_258 : decode cX7_runs 258 = .ok (.aload_n 0, 1) := by decide +kernel
theorem dX7_runs_259 : decode cX7_runs 259 = .ok (.getfield 16, 3) := by decide +kernel
theorem dX7_runs_262 : decode cX7_runs 262 = .ok (.if_icmp .ge 17, 3) := by decide +kernel
theorem dX7_runs_265 : decode cX7_runs 265 = .ok (.aload_n 0, 1) := by decide +kernel
theorem dX7_runs_266 : decode cX7_runs 266 = .ok (.getfield 110, 3) := by decide +kernel
theorem dX7_runs_269 : decode cX7_runs 269 = .ok (.iload 5, 2) := by decide +kernel
theorem dX7_runs_271 : decode cX7_runs 271 = .ok (.iload_n 3, 1) := by decide +kernel
theorem dX7_runs_272 : decode cX7_runs 272 = .ok (.iastore, 1) := by decide +kernel
theorem dX7_runs_273 : decode cX7_runs 273 = .ok (.iinc 3 1, 3) := by decide +kernel
theorem dX7_runs_276 : decode cX7_runs 276 = .ok (.goto 19, 3) := by decide +kernel
theorem dX7_runs_279 : decode cX7_runs 279 = .ok (.iinc 2 (-1), 3) := by decide +kernel
theorem dX7_runs_282 : decode cX7_runs 282 = .ok (.aload_n 0, 1) := by decide +kernel
theorem dX7_runs_283 : decode cX7_runs 283 = .ok (.getfield 110, 3) := by decide +kernel
theorem dX7_runs_286 : decode cX7_runs 286 = .ok (.iload 5, 2) := by decide +kernel
theorem dX7_runs_288 : decode cX7_runs 288 = .ok (.aload_n 0, 1) := by decide +kernel
theorem dX7_runs_289 : decode cX7_runs 289 = .ok (.getfield 110, 3) := by decide +kernel
theorem dX7_runs_292 : decode cX7_runs 292 = .ok (.iload_n 2, 1) := by decide +kernel
theorem dX7_runs_293 : decode cX7_runs 293 = .ok (.iaload, 1) := by decide +kernel
theorem dX7_runs_294 : decode cX7_runs 294 = .ok (.iastore, 1) := by decide +kernel
theorem dX7_runs_295 : decode cX7_runs 295 = .ok (.goto (-217), 3) := by decide +kernel
theorem dX7_runs_298 : decode cX7_runs 298 = .ok (.aload_n 0, 1) := by decide +kernel
theorem dX7_runs_299 : decode cX7_runs 299 = .ok (.aload_n 0, 1) := by decide +kernel
theorem dX7_runs_300 : decode cX7_runs 300 = .ok (.getfield 31, 3) := by decide +kernel
theorem dX7_runs_303 : decode cX7_runs 303 = .ok (.putfield 34, 3) := by decide +kernel
theorem dX7_runs_306 : decode cX7_runs 306 = .ok (.aload_n 0, 1) := by decide +kernel
theorem dX7_runs_307 : decode cX7_runs 307 = .ok (.aload_n 0, 1) := by decide +kernel
theorem dX7_runs_308 : decode cX7_runs 308 = .ok (.getfield 31, 3) := by decide +kernel
theorem dX7_runs_311 : decode cX7_runs 311 = .ok (.ifCond .le 7, 3) := by decide +kernel
theorem dX7_runs_314 : decode cX7_runs 314 = .ok (.iconst 1, 1) := by decide +kernel
theorem dX7_runs_315 : decode cX7_runs 315 = .ok (.goto 4, 3) := by decide +kernel
theorem dX7_runs_318 : decode cX7_runs 318 = .ok (.iconst 0, 1) := by decide +kernel
theorem dX7_runs_319 : decode cX7_runs 319 = .ok (.putfield 27, 3) := by decide +kernel
theorem dX7_runs_322 : decode cX7_runs 322 = .ok (.aload_n 0, 1) := by decide +kernel
theorem dX7_runs_323 : decode cX7_runs 323 = .ok (.getfield 31, 3) := by decide +kernel
theorem dX7_runs_326 : decode cX7_runs 326 = .ok (.ireturn, 1) := by decide +kernel
theorem dX7_length_0 : decode cX7_length 0 = .ok (.iload_n 1, 1) := by decide +kernel
theorem dX7_length_1 : decode cX7_length 1 = .ok (.ifCond .lt 11, 3) := by decide +kernel
theorem dX7_length_4 : decode cX7_length 4 = .ok (.iload_n 1, 1) := by decide +kernel
theorem dX7_length_5 : decode cX7_length 5 = .ok (.aload_n 0, 1) := by decide +kernel
theorem dX7_length_6 : decode cX7_length 6 = .ok (.getfield 34, 3) := by decide +kernel
theorem dX7_length_9 : decode cX7_length 9 = .ok (.if_icmp .lt 7, 3) := by decide +kernel
theorem dX7_length_12 : decode cX7_length 12 = .ok (.iconst (-1), 1) := by decide +kernel
theorem dX7_length_13 : decode cX7_length 13 = .ok (.goto 9, 3) := by decide +kernel
theorem dX7_length_16 : decode cX7_length 16 = .ok (.aload_n 0, 1) := by decide +kernel
theorem dX7_length_17 : decode cX7_length 17 = .ok (.getfield 40, 3) := by decide +kernel
theorem dX7_length_20 : decode cX7_length 20 = .ok (.iload_n 1, 1) := by decide +kernel
theorem dX7_length_21 : decode cX7_length 21 = .ok (.iaload, 1) := by decide +kernel
theorem dX7_length_22 : decode cX7_length 22 = .ok (.ireturn, 1) := by decide +kernel
theorem dX7_at_0 : decode cX7_at 0 = .ok (.iload_n 1, 1) := by decide +kernel
theorem dX7_at_1 : decode cX7_at 1 = .ok (.ifCond .lt 25, 3) := by decide +kernel
theorem dX7_at_4 : decode cX7_at 4 = .ok (.iload_n 1, 1) := by decide +kernel
theorem dX7_at_5 : decode cX7_at 5 = .ok (.aload_n 0, 1) := by decide +kernel
theorem dX7_at_6 : decode cX7_at 6 = .ok (.getfield 34, 3) := by decide +kernel
theorem dX7_at_9 : decode cX7_at 9 = .ok (.if_icmp .ge 17, 3) := by decide +kernel
theorem dX7_at_12 : decode cX7_at 12 = .ok (.iload_n 2, 1) := by decide +kernel
theorem dX7_at_13 : decode cX7_at 13 = .ok (.ifCond .lt 13, 3) := by decide +kernel
theorem dX7_at_16 : decode cX7_at 16 = .ok (.iload_n 2, 1) := by decide +kernel
theorem dX7_at_17 : decode cX7_at 17 = .ok (.aload_n 0, 1) := by decide +kernel
theorem dX7_at_18 : decode cX7_at 18 = .ok (.getfield 40, 3) := by decide +kernel
theorem dX7_at_21 : decode cX7_at 21 = .ok (.iload_n 1, 1) := by decide +kernel
theorem dX7_at_22 : decode cX7_at 22 = .ok (.iaload, 1) := by decide +kernel
theorem dX7_at_23 : decode cX7_at 23 = .ok (.if_icmp .lt 7, 3) := by decide +kernel
theorem dX7_at_26 : decode cX7_at 26 = .ok (.iconst (-1), 1) := by decide +kernel
theorem dX7_at_27 : decode cX7_at 27 = .ok (.goto 16, 3) := by decide +kernel
theorem dX7_at_30 : decode cX7_at 30 = .ok (.aload_n 0, 1) := by decide +kernel
theorem dX7_at_31 : decode cX7_at 31 = .ok (.getfield 44, 3) := by decide +kernel
theorem dX7_at_34 : decode cX7_at 34 = .ok (.aload_n 0, 1) := by decide +kernel
theorem dX7_at_35 : decode cX7_at 35 = .ok (.getfield 37, 3) := by decide +kernel
theorem dX7_at_38 : decode cX7_at 38 = .ok (.iload_n 1, 1) := by decide +kernel
theorem dX7_at_39 : decode cX7_at 39 = .ok (.iaload, 1) := by decide +kernel
theorem dX7_at_40 : decode cX7_at 40 = .ok (.iload_n 2, 1) := by decide +kernel
theorem dX7_at_41 : decode cX7_at 41 = .ok (.iadd, 1) := by decide +kernel
theorem dX7_at_42 : decode cX7_at 42 = .ok (.iaload, 1) := by decide +kernel
theorem dX7_at_43 : decode cX7_at 43 = .ok (.ireturn, 1) := by decide +kernel
theorem dX7_moves_0 : decode cX7_moves 0 = .ok (.aload_n 0, 1) := by decide +kernel
theorem dX7_moves_1 : decode cX7_moves 1 = .ok (.getfield 31, 3) := by decide +kernel
theorem dX7_moves_4 : decode cX7_moves 4 = .ok (.istore 4, 2) := by decide +kernel
theorem dX7_moves_6 : decode cX7_moves 6 = .ok (.iconst 0, 1) := by decide +kernel
theorem dX7_moves_7 : decode cX7_moves 7 = .ok (.istore 5, 2) := by decide +kernel
theorem dX7_moves_9 : decode cX7_moves 9 = .ok (.iload 5, 2) := by decide +kernel
theorem dX7_moves_11 : decode cX7_moves 11 = .ok (.iload 4, 2) := by decide +kernel
theorem dX7_moves_13 : decode cX7_moves 13 = .ok (.if_icmp .ge 31, 3) := by decide +kernel
theorem dX7_moves_16 : decode cX7_moves 16 = .ok (.aload_n 0, 1) := by decide +kernel
theorem dX7_moves_17 : decode cX7_moves 17 = .ok (.getfield 116, 3) := by decide +kernel
theorem dX7_moves_20 : decode cX7_moves 20 = .ok (.iload 5, 2) := by decide +kernel
theorem dX7_moves_22 : decode cX7_moves 22 = .ok (.aload_n 0, 1) := by decide +kernel
theorem dX7_moves_23 : decode cX7_moves 23 = .ok (.getfield 40, 3) := by decide +kernel
theorem dX7_moves_26 : decode cX7_moves 26 = .ok (.iload 5, 2) := by decide +kernel
theorem dX7_moves_28 : decode cX7_moves 28 = .ok (.iaload, 1) := by decide +kernel
theorem dX7_moves_29 : decode cX7_moves 29 = .ok (.iastore, 1) := by decide +kernel
theorem dX7_moves_30 : decode cX7_moves 30 = .ok (.aload_n 0, 1) := by decide +kernel
theorem dX7_moves_31 : decode cX7_moves 31 = .ok (.getfield 113, 3) := by decide +kernel
theorem dX7_moves_34 : decode cX7_moves 34 = .ok (.iload 5, 2) := by decide +kernel
theorem dX7_moves_36 : decode cX7_moves 36 = .ok (.iconst 0, 1) := by decide +kernel
theorem dX7_moves_37 : decode cX7_moves 37 = .ok (.bastore, 1) := by decide +kernel
theorem dX7_moves_38 : decode cX7_moves 38 = .ok (.iinc 5 1, 3) := by decide +kernel
theorem dX7_moves_41 : decode cX7_moves 41 = .ok (.goto (-32), 3) := by decide +kernel
theorem dX7_moves_44 : decode cX7_moves 44 = .ok (.iload 4, 2) := by decide +kernel
theorem dX7_moves_46 : decode cX7_moves 46 = .ok (.istore 5, 2) := by decide +kernel
theorem dX7_moves_48 : decode cX7_moves 48 = .ok (.iconst 0, 1) := by decide +kernel
theorem dX7_moves_49 : decode cX7_moves 49 = .ok (.istore 6, 2) := by decide +kernel
theorem dX7_moves_51 : decode cX7_moves 51 = .ok (.iconst 0, 1) := by decide +kernel
theorem dX7_moves_52 : decode cX7_moves 52 = .ok (.istore 7, 2) := by decide +kernel
theorem dX7_moves_54 : decode cX7_moves 54 = .ok (.iload 5, 2) := by decide +kernel
theorem dX7_moves_56 : decode cX7_moves 56 = .ok (.iconst 1, 1) := by decide +kernel
theorem dX7_moves_57 : decode cX7_moves 57 = .ok (.if_icmp .le 223, 3) := by decide +kernel
theorem dX7_moves_60 : decode cX7_moves 60 = .ok (.iload 7, 2) := by decide +kernel
theorem dX7_moves_62 : decode cX7_moves 62 = .ok (.ifCond .ne 16, 3) := by decide +kernel
theorem dX7_moves_65 : decode cX7_moves 65 = .ok (.iconst 2, 1) := by decide +kernel
theorem dX7_moves_66 : decode cX7_moves 66 = .ok (.iload 4, 2) := by decide +kernel
theorem dX7_moves_68 : decode cX7_moves 68 = .ok (.iconst 2, 1) := by decide +kernel
theorem dX7_moves_69 : decode cX7_moves 69 = .ok (.isub, 1) := by decide +kernel
theorem dX7_moves_70 : decode cX7_moves 70 = .ok (.iload_n 1, 1) := by decide +kernel
theorem dX7_moves_71 : decode cX7_moves 71 = .ok (.iconst 1, 1) := by decide +kernel
theorem dX7_moves_72 : decode cX7_moves 72 = .ok (.isub, 1) := by decide +kernel
theorem dX7_moves_73 : decode cX7_moves 73 = .ok (.irem, 1) := by decide +kernel
theorem dX7_moves_74 : decode cX7_moves 74 = .ok (.iadd, 1) := by decide +kernel
theorem dX7_moves_75 : decode cX7_moves 75 = .ok (.goto 4, 3) := by decide +kernel
theorem dX7_moves_78 : decode cX7_moves 78 = .ok (.iload_n 1, 1) := by decide +kernel
theorem dX7_moves_79 : decode cX7_moves 79 = .ok (.istore 8, 2) := by decide +kernel
theorem dX7_moves_81 : decode cX7_moves 81 = .ok (.aload_n 0, 1) := by decide +kernel
theorem dX7_moves_82 : decode cX7_moves 82 = .ok (.getfield 116, 3) := by decide +kernel
theorem dX7_moves_85 : decode cX7_moves 85 = .ok (.iload 4, 2) := by decide +kernel
theorem dX7_moves_87 : decode cX7_moves 87 = .ok (.iload 7, 2) := by decide +kernel
theorem dX7_moves_89 : decode cX7_moves 89 = .ok (.iadd, 1) := by decide +kernel
theorem dX7_moves_90 : decode cX7_moves 90 = .ok (.iconst 0, 1) := by decide +kernel
theorem dX7_moves_91 : decode cX7_moves 91 = .ok (.iastore, 1) := by decide +kernel
theorem dX7_moves_92 : decode cX7_moves 92 = .ok (.aload_n 0, 1) := by decide +kernel
theorem dX7_moves_93 : decode cX7_moves 93 = .ok (.getfield 113, 3) := by decide +kernel
theorem dX7_moves_96 : decode cX7_moves 96 = .ok (.iload 4, 2) := by decide +kernel
theorem dX7_moves_98 : decode cX7_moves 98 = .ok (.iload 7, 2) := by decide +kernel
theorem dX7_moves_100 : decode cX7_moves 100 = .ok (.iadd, 1) := by decide +kernel
theorem dX7_moves_101 : decode cX7_moves 101 = .ok (.iconst 0, 1) := by decide +kernel
theorem dX7_moves_102 : decode cX7_moves 102 = .ok (.bastore, 1) := by decide +kernel
theorem dX7_moves_103 : decode cX7_moves 103 = .ok (.iconst 0, 1) := by decide +kernel
theorem dX7_moves_104 : decode cX7_moves 104 = .ok (.istore 9, 2) := by decide +kernel
theorem dX7_moves_106 : decode cX7_moves 106 = .ok (.iload 9, 2) := by decide +kernel
theorem dX7_moves_108 : decode cX7_moves 108 = .ok (.iload 8, 2) := by decide +kernel
theorem dX7_moves_110 : decode cX7_moves 110 = .ok (.if_icmp .ge 127, 3) := by decide +kernel
theorem dX7_moves_113 : decode cX7_moves 113 = .ok (.iconst (-1), 1) := by decide +kernel
theorem dX7_moves_114 : decode cX7_moves 114 = .ok (.istore 10, 2) := by decide +kernel
theorem dX7_moves_116 : decode cX7_moves 116 = .ok (.iconst 0, 1) := by decide +kernel
theorem dX7_moves_117 : decode cX7_moves 117 = .ok (.istore 11, 2) := by decide +kernel
theorem dX7_moves_119 : decode cX7_moves 119 = .ok (.iload 11, 2) := by decide +kernel
theorem dX7_moves_121 : decode cX7_moves 121 = .ok (.iload 4, 2) := by decide +kernel
theorem dX7_moves_123 : decode cX7_moves 123 = .ok (.iload 7, 2) := by decide +kernel
theorem dX7_moves_125 : decode cX7_moves 125 = .ok (.iadd, 1) := by decide +kernel
theorem dX7_moves_126 : decode cX7_moves 126 = .ok (.if_icmp .ge 58, 3) := by decide +kernel
theorem dX7_moves_129 : decode cX7_moves 129 = .ok (.aload_n 0, 1) := by decide +kernel
theorem dX7_moves_130 : decode cX7_moves 130 = .ok (.getfield 113, 3) := by decide +kernel
theorem dX7_moves_133 : decode cX7_moves 133 = .ok (.iload 11, 2) := by decide +kernel
theorem dX7_moves_135 : decode cX7_moves 135 = .ok (.baload, 1) := by decide +kernel
theorem dX7_moves_136 : decode cX7_moves 136 = .ok (.ifCond .eq 6, 3) := by decide +kernel
theorem dX7_moves_139 : decode cX7_moves 139 = .ok (.goto 39, 3) := by decide +kernel
theorem dX7_moves_142 : decode cX7_moves 142 = .ok (.iload 10, 2) := by decide +kernel
theorem dX7_moves_144 : decode cX7_moves 144 = .ok (.iconst (-1), 1) := by decide +kernel
theorem dX7_moves_145 : decode cX7_moves 145 = .ok (.if_icmp .eq 24, 3) := by decide +kernel
theorem dX7_moves_148 : decode cX7_moves 148 = .ok (.iload_n 2, 1) := by decide +kernel
theorem dX7_moves_149 : decode cX7_moves 149 = .ok (.ifCond .eq 25, 3) := by decide +kernel
theorem dX7_moves_152 : decode cX7_moves 152 = .ok (.aload_n 0, 1) := by decide +kernel
theorem dX7_moves_153 : decode cX7_moves 153 = .ok (.getfield 116, 3) := by decide +kernel
theorem dX7_moves_156 : decode cX7_moves 156 = .ok (.iload 11, 2) := by decide +kernel
theorem dX7_moves_158 : decode cX7_moves 158 = .ok (.iaload, 1) := by decide +kernel
theorem dX7_moves_159 : decode cX7_moves 159 = .ok (.aload_n 0, 1) := by decide +kernel
theorem dX7_moves_160 : decode cX7_moves 160 = .ok (.getfield 116, 3) := by decide +kernel
theorem dX7_moves_163 : decode cX7_moves 163 = .ok (.iload 10, 2) := by decide +kernel
theorem dX7_moves_165 : decode cX7_moves 165 = .ok (.iaload, 1) := by decide +kernel
theorem dX7_moves_166 : decode cX7_moves 166 = .ok (.if_icmp .ge 8, 3) := by decide +kernel
theorem dX7_moves_169 : decode cX7_moves 169 = .ok (.iload 11, 2) := by decide +kernel
theorem dX7_moves_171 : decode cX7_moves 171 = .ok (.goto 5, 3) := by decide +kernel
theorem dX7_moves_174 : decode cX7_moves 174 = .ok (.iload 10, 2) := by decide +kernel
theorem dX7_moves_176 : decode cX7_moves 176 = .ok (.istore 10, 2) := by decide +kernel
theorem dX7_moves_178 : decode cX7_moves 178 = .ok (.iinc 11 1, 3) := by decide +kernel
theorem dX7_moves_181 : decode cX7_moves 181 = .ok (.goto (-62), 3) := by decide +kernel
theorem dX7_moves_184 : decode cX7_moves 184 = .ok (.aload_n 0, 1) := by decide +kernel
theorem dX7_moves_185 : decode cX7_moves 185 = .ok (.getfield 113, 3) := by decide +kernel
theorem dX7_moves_188 : decode cX7_moves 188 = .ok (.iload 10, 2) := by decide +kernel
theorem dX7_moves_190 : decode cX7_moves 190 = .ok (.iconst 1, 1) := by decide +kernel
theorem dX7_moves_191 : decode cX7_moves 191 = .ok (.bastore, 1) := by decide +kernel
theorem dX7_moves_192 : decode cX7_moves 192 = .ok (.aload_n 0, 1) := by decide +kernel
theorem dX7_moves_193 : decode cX7_moves 193 = .ok (.getfield 116, 3) := by decide +kernel
theorem dX7_moves_196 : decode cX7_moves 196 = .ok (.iload 4, 2) := by decide +kernel
theorem dX7_moves_198 : decode cX7_moves 198 = .ok (.iload 7, 2) := by decide +kernel
theorem dX7_moves_200 : decode cX7_moves 200 = .ok (.iadd, 1) := by decide +kernel
theorem dX7_moves_201 : decode cX7_moves 201 = .ok (.dup2, 1) := by decide +kernel
theorem dX7_moves_202 : decode cX7_moves 202 = .ok (.iaload, 1) := by decide +kernel
theorem dX7_moves_203 : decode cX7_moves 203 = .ok (.aload_n 0, 1) := by decide +kernel
theorem dX7_moves_204 : decode cX7_moves 204 = .ok (.getfield 116, 3) := by decide +kernel
theorem dX7_moves_207 : decode cX7_moves 207 = .ok (.iload 10, 2) := by decide +kernel
theorem dX7_moves_209 : decode cX7_moves 209 = .ok (.iaload, 1) := by decide +kernel
theorem dX7_moves_210 : decode cX7_moves 210 = .ok (.iadd, 1) := by decide +kernel
theorem dX7_moves_211 : decode cX7_moves 211 = .ok (.iastore, 1) := by decide +kernel
theorem dX7_moves_212 : decode cX7_moves 212 = .ok (.iload_n 3, 1) := by decide +kernel
theorem dX7_moves_213 : decode cX7_moves 213 = .ok (.ifCond .eq 18, 3) := by decide +kernel
theorem dX7_moves_216 : decode cX7_moves 216 = .ok (.aload_n 0, 1) := by decide +kernel
theorem dX7_moves_217 : decode cX7_moves 217 = .ok (.getfield 59, 3) := by decide +kernel
theorem dX7_moves_220 : decode cX7_moves 220 = .ok (.bipush 8, 2) := by decide +kernel
theorem dX7_moves_222 : decode cX7_moves 222 = .ok (.iload 7, 2) := by decide +kernel
theorem dX7_moves_224 : decode cX7_moves 224 = .ok (.imul, 1) := by decide +kernel
theorem dX7_moves_225 : decode cX7_moves 225 = .ok (.iload 9, 2) := by decide +kernel
theorem dX7_moves_227 : decode cX7_moves 227 = .ok (.iadd, 1) := by decide +kernel
theorem dX7_moves_228 : decode cX7_moves 228 = .ok (.iload 10, 2) := by decide +kernel
theorem dX7_moves_230 : decode cX7_moves 230 = .ok (.iastore, 1) := by decide +kernel
theorem dX7_moves_231 : decode cX7_moves 231 = .ok (.iinc 9 1, 3) := by decide +kernel
theorem dX7_moves_234 : decode cX7_moves 234 = .ok (.goto (-128), 3) := by decide +kernel
theorem dX7_moves_237 : decode cX7_moves 237 = .ok (.iload_n 3, 1) := by decide +kernel
theorem dX7_moves_238 : decode cX7_moves 238 = .ok (.ifCond .eq 12, 3) := by decide +kernel
theorem dX7_moves_241 : decode cX7_moves 241 = .ok (.aload_n 0, 1) := by decide +kernel
theorem dX7_moves_242 : decode cX7_moves 242 = .ok (.getfield 56, 3) := by decide +kernel
theorem dX7_moves_245 : decode cX7_moves 245 = .ok (.iload 7, 2) := by decide +kernel
theorem dX7_moves_247 : decode cX7_moves 247 = .ok (.iload 8, 2) := by decide +kernel
theorem dX7_moves_249 : decode cX7_moves 249 = .ok (.iastore, 1) := by decide +kernel
theorem dX7_moves_250 : decode cX7_moves 250 = .ok (.iload 6, 2) := by decide +kernel
theorem dX7_moves_252 : decode cX7_moves 252 = .ok (.aload_n 0, 1) := by decide +kernel
theorem dX7_moves_253 : decode cX7_moves 253 = .ok (.getfield 116, 3) := by decide +kernel
theorem dX7_moves_256 : decode cX7_moves 256 = .ok (.iload 4, 2) := by decide +kernel
theorem dX7_moves_258 : decode cX7_moves 258 = .ok (.iload 7, 2) := by decide +kernel
theorem dX7_moves_260 : decode cX7_moves 260 = .ok (.iadd, 1) := by decide +kernel
theorem dX7_moves_261 : decode cX7_moves 261 = .ok (.iaload, 1) := by decide +kernel
theorem dX7_moves_262 : decode cX7_moves 262 = .ok (.iadd, 1) := by decide +kernel
theorem dX7_moves_263 : decode cX7_moves 263 = .ok (.istore 6, 2) := by decide +kernel
theorem dX7_moves_265 : decode cX7_moves 265 = .ok (.iload 5, 2) := by decide +kernel
theorem dX7_moves_267 : decode cX7_moves 267 = .ok (.iload 8, 2) := by decide +kernel
theorem dX7_moves_269 : decode cX7_moves 269 = .ok (.iconst 1, 1) := by decide +kernel
theorem dX7_moves_270 : decode cX7_moves 270 = .ok (.isub, 1) := by decide +kernel
theorem dX7_moves_271 : decode cX7_moves 271 = .ok (.isub, 1) := by decide +kernel
theorem dX7_moves_272 : decode cX7_moves 272 = .ok (.istore 5, 2) := by decide +kernel
theorem dX7_moves_274 : decode cX7_moves 274 = .ok (.iinc 7 1, 3) := by decide +kernel
theorem dX7_moves_277 : decode cX7_moves 277 = .ok (.goto (-223), 3) := by decide +kernel
theorem dX7_moves_280 : decode cX7_moves 280 = .ok (.iload_n 3, 1) := by decide +kernel
theorem dX7_moves_281 : decode cX7_moves 281 = .ok (.ifCond .eq 9, 3) := by decide +kernel
theorem dX7_moves_284 : decode cX7_moves 284 = .ok (.aload_n 0, 1) := by decide +kernel
theorem dX7_moves_285 : decode cX7_moves 285 = .ok (.iload 7, 2) := by decide +kernel
theorem dX7_moves_287 : decode cX7_moves 287 = .ok (.putfield 53, 3) := by decide +kernel
theorem dX7_moves_290 : decode cX7_moves 290 = .ok (.iload 6, 2) := by decide +kernel
theorem dX7_moves_292 : decode cX7_moves 292 = .ok (.ireturn, 1) := by decide +kernel
set_option maxRecDepth 20000 in
theorem ggX7_plan_X7_is : GoodIn wsX7_plan wsX7_is := goodIn_r _ [11] (by decide +kernel) (by decide +kernel)
set_option maxRecDepth 20000 in
theorem gX7_plan_X7_is : GoodIn wsX7_plan (va_wsS RX7 122 yX7_is wsX7_is) := goodIn_app (goodIn_of _ (by decide +kernel)) ggX7_plan_X7_is
set_option maxRecDepth 20000 in
theorem ggX7_plan_X7_moves : GoodIn wsX7_plan wsX7_moves := goodIn_r _ [15, 3, 16, 6, 17, 18, 19, 20, 21, 22, 23, 24, 25, 26, 27, 28, 29, 30, 31, 32, 33, 34, 35, 36, 37, 38, 39, 40, 41, 42, 43, 44, 45, 46, 47, 48, 49, 50, 51, 52, 53, 54, 55, 56] (by decide +kernel) (by decide +kernel)
set_option maxRecDepth 20000 in
theorem gX7_plan_X7_moves : GoodIn wsX7_plan (wsV RX7 138 RX7 yX7_moves wsX7_moves) := goodIn_app (goodIn_of _ (by decide +kernel)) ggX7_plan_X7_moves
theorem dX7_plan_0 : decode cX7_plan 0 = .ok (.aload_n 0, 1) := by decide +kernel
theorem dX7_plan_1 : decode cX7_plan 1 = .ok (.getfield 27, 3) := by decide +kernel
theorem dX7_plan_4 : decode cX7_plan 4 = .ok (.ifCond .eq 13, 3) := by decide +kernel
theorem dX7_plan_7 : decode cX7_plan 7 = .ok (.iload_n 1, 1) := by decide +kernel
theorem dX7_plan_8 : decode cX7_plan 8 = .ok (.iconst 2, 1) := by decide +kernel
theorem dX7_plan_9 : decode cX7_plan 9 = .ok (.bipush 8, 2) := by decide +kernel
theorem dX7_plan_11 : decode cX7_plan 11 = .ok (.invokestatic 122, 3) := by decide +kernel
theorem dX7_plan_14 : decode cX7_plan 14 = .ok (.ifCond .ne 5, 3) := by decide +kernel
theorem dX7_plan_17 : decode cX7_plan 17 = .ok (.iconst (-1), 1) := by decide +kernel
theorem dX7_plan_18 : decode cX7_plan 18 = .ok (.ireturn, 1) := by decide +kernel
theorem dX7_plan_19 : decode cX7_plan 19 = .ok (.aload_n 0, 1) := by decide +kernel
theorem dX7_plan_20 : decode cX7_plan 20 = .ok (.iload_n 1, 1) := by decide +kernel
theorem dX7_plan_21 : decode cX7_plan 21 = .ok (.putfield 50, 3) := by decide +kernel
theorem dX7_plan_24 : decode cX7_plan 24 = .ok (.aload_n 0, 1) := by decide +kernel
theorem dX7_plan_25 : decode cX7_plan 25 = .ok (.aload_n 0, 1) := by decide +kernel
theorem dX7_plan_26 : decode cX7_plan 26 = .ok (.getfield 31, 3) := by decide +kernel
theorem dX7_plan_29 : decode cX7_plan 29 = .ok (.putfield 34, 3) := by decide +kernel
theorem dX7_plan_32 : decode cX7_plan 32 = .ok (.aload_n 0, 1) := by decide +kernel
theorem dX7_plan_33 : decode cX7_plan 33 = .ok (.aload_n 0, 1) := by decide +kernel
theorem dX7_plan_34 : decode cX7_plan 34 = .ok (.getfield 31, 3) := by decide +kernel
theorem dX7_plan_37 : decode cX7_plan 37 = .ok (.ifCond .ne 7, 3) := by decide +kernel
theorem dX7_plan_40 : decode cX7_plan 40 = .ok (.iconst 0, 1) := by decide +kernel
theorem dX7_plan_41 : decode cX7_plan 41 = .ok (.goto 26, 3) := by decide +kernel
theorem dX7_plan_44 : decode cX7_plan 44 = .ok (.aload_n 0, 1) := by decide +kernel
theorem dX7_plan_45 : decode cX7_plan 45 = .ok (.getfield 37, 3) := by decide +kernel
theorem dX7_plan_48 : decode cX7_plan 48 = .ok (.aload_n 0, 1) := by decide +kernel
theorem dX7_plan_49 : decode cX7_plan 49 = .ok (.getfield 31, 3) := by decide +kernel
theorem dX7_plan_52 : decode cX7_plan 52 = .ok (.iconst 1, 1) := by decide +kernel
theorem dX7_plan_53 : decode cX7_plan 53 = .ok (.isub, 1) := by decide +kernel
theorem dX7_plan_54 : decode cX7_plan 54 = .ok (.iaload, 1) := by decide +kernel
theorem dX7_plan_55 : decode cX7_plan 55 = .ok (.aload_n 0, 1) := by decide +kernel
theorem dX7_plan_56 : decode cX7_plan 56 = .ok (.getfield 40, 3) := by decide +kernel
theorem dX7_plan_59 : decode cX7_plan 59 = .ok (.aload_n 0, 1) := by decide +kernel
theorem dX7_plan_60 : decode cX7_plan 60 = .ok (.getfield 31, 3) := by decide +kernel
theorem dX7_plan_63 : decode cX7_plan 63 = .ok (.iconst 1, 1) := by decide +kernel
theorem dX7_plan_64 : decode cX7_plan 64 = .ok (.isub, 1) := by decide +kernel
theorem dX7_plan_65 : decode cX7_plan 65 = .ok (.iaload, 1) := by decide +kernel
theorem dX7_plan_66 : decode cX7_plan 66 = .ok (.iadd, 1) := by decide +kernel
theorem dX7_plan_67 : decode cX7_plan 67 = .ok (.putfield 47, 3) := by decide +kernel
theorem dX7_plan_70 : decode cX7_plan 70 = .ok (.aload_n 0, 1) := by decide +kernel
theorem dX7_plan_71 : decode cX7_plan 71 = .ok (.iload_n 1, 1) := by decide +kernel
theorem dX7_plan_72 : decode cX7_plan 72 = .ok (.iconst 1, 1) := by decide +kernel
theorem dX7_plan_73 : decode cX7_plan 73 = .ok (.iconst 1, 1) := by decide +kernel
theorem dX7_plan_74 : decode cX7_plan 74 = .ok (.invokevirtual 138, 3) := by decide +kernel
theorem dX7_plan_77 : decode cX7_plan 77 = .ok (.ireturn, 1) := by decide +kernel
set_option maxRecDepth 20000 in
theorem ggX7_queue_X7_is : GoodIn wsX7_queue wsX7_is := goodIn_r _ [5] (by decide +kernel) (by decide +kernel)
set_option maxRecDepth 20000 in
theorem gX7_queue_X7_is : GoodIn wsX7_queue (va_wsS RX7 122 yX7_is wsX7_is) := goodIn_app (goodIn_of _ (by decide +kernel)) ggX7_queue_X7_is
set_option maxRecDepth 20000 in
theorem ggX7_queue_X7_moves : GoodIn wsX7_queue wsX7_moves := goodIn_r _ [9, 10, 11, 12, 13, 14, 15, 16, 17, 18, 19, 20, 21, 22, 23, 24, 25, 26, 27, 28, 29, 30, 31, 32, 33, 34, 35, 36, 37, 38, 39, 40, 41, 42, 43, 44, 45, 46, 47, 48, 49, 50, 51, 52] (by decide +kernel) (by decide +kernel)
set_option maxRecDepth 20000 in
theorem gX7_queue_X7_moves : GoodIn wsX7_queue (wsV RX7 138 RX7 yX7_moves wsX7_moves) := goodIn_app (goodIn_of _ (by decide +kernel)) ggX7_queue_X7_moves
theorem dX7_queue_0 : decode cX7_queue 0 = .ok (.aload_n 0, 1) := by decide +kernel
theorem dX7_queue_1 : decode cX7_queue 1 = .ok (.getfield 27, 3) := by decide +kernel
theorem dX7_queue_4 : decode cX7_queue 4 = .ok (.ifCond .eq 13, 3) := by decide +kernel
theorem dX7_queue_7 : decode cX7_queue 7 = .ok (.iload_n 1, 1) := by decide +kernel
theorem dX7_queue_8 : decode cX7_queue 8 = .ok (.iconst 2, 1) := by decide +kernel
theorem dX7_queue_9 : decode cX7_queue 9 = .ok (.bipush 8, 2) := by decide +kernel
theorem dX7_queue_11 : decode cX7_queue 11 = .ok (.invokestatic 122, 3) := by decide +kernel
theorem dX7_queue_14 : decode cX7_queue 14 = .ok (.ifCond .ne 7, 3) := by decide +kernel
theorem dX7_queue_17 : decode cX7_queue 17 = .ok (.iconst (-1), 1) := by decide +kernel
theorem dX7_queue_18 : decode cX7_queue 18 = .ok (.goto 10, 3) := by decide +kernel
theorem dX7_queue_21 : decode cX7_queue 21 = .ok (.aload_n 0, 1) := by decide +kernel
theorem dX7_queue_22 : decode cX7_queue 22 = .ok (.iload_n 1, 1) := by decide +kernel
theorem dX7_queue_23 : decode cX7_queue 23 = .ok (.iconst 0, 1) := by decide +kernel
theorem dX7_queue_24 : decode cX7_queue 24 = .ok (.iconst 0, 1) := by decide +kernel
theorem dX7_queue_25 : decode cX7_queue 25 = .ok (.invokevirtual 138, 3) := by decide +kernel
theorem dX7_queue_28 : decode cX7_queue 28 = .ok (.ireturn, 1) := by decide +kernel
theorem dX7_merges_0 : decode cX7_merges 0 = .ok (.aload_n 0, 1) := by decide +kernel
theorem dX7_merges_1 : decode cX7_merges 1 = .ok (.getfield 53, 3) := by decide +kernel
theorem dX7_merges_4 : decode cX7_merges 4 = .ok (.ireturn, 1) := by decide +kernel
theorem dX7_takes_0 : decode cX7_takes 0 = .ok (.iload_n 1, 1) := by decide +kernel
theorem dX7_takes_1 : decode cX7_takes 1 = .ok (.ifCond .lt 25, 3) := by decide +kernel
theorem dX7_takes_4 : decode cX7_takes 4 = .ok (.iload_n 1, 1) := by decide +kernel
theorem dX7_takes_5 : decode cX7_takes 5 = .ok (.aload_n 0, 1) := by decide +kernel
theorem dX7_takes_6 : decode cX7_takes 6 = .ok (.getfield 53, 3) := by decide +kernel
theorem dX7_takes_9 : decode cX7_takes 9 = .ok (.if_icmp .ge 17, 3) := by decide +kernel
theorem dX7_takes_12 : decode cX7_takes 12 = .ok (.iload_n 2, 1) := by decide +kernel
theorem dX7_takes_13 : decode cX7_takes 13 = .ok (.ifCond .lt 13, 3) := by decide +kernel
theorem dX7_takes_16 : decode cX7_takes 16 = .ok (.iload_n 2, 1) := by decide +kernel
theorem dX7_takes_17 : decode cX7_takes 17 = .ok (.aload_n 0, 1) := by decide +kernel
theorem dX7_takes_18 : decode cX7_takes 18 = .ok (.getfield 56, 3) := by decide +kernel
theorem dX7_takes_21 : decode cX7_takes 21 = .ok (.iload_n 1, 1) := by decide +kernel
theorem dX7_takes_22 : decode cX7_takes 22 = .ok (.iaload, 1) := by decide +kernel
theorem dX7_takes_23 : decode cX7_takes 23 = .ok (.if_icmp .lt 7, 3) := by decide +kernel
theorem dX7_takes_26 : decode cX7_takes 26 = .ok (.iconst (-1), 1) := by decide +kernel
theorem dX7_takes_27 : decode cX7_takes 27 = .ok (.goto 14, 3) := by decide +kernel
theorem dX7_takes_30 : decode cX7_takes 30 = .ok (.aload_n 0, 1) := by decide +kernel
theorem dX7_takes_31 : decode cX7_takes 31 = .ok (.getfield 59, 3) := by decide +kernel
theorem dX7_takes_34 : decode cX7_takes 34 = .ok (.bipush 8, 2) := by decide +kernel
theorem dX7_takes_36 : decode cX7_takes 36 = .ok (.iload_n 1, 1) := by decide +kernel
theorem dX7_takes_37 : decode cX7_takes 37 = .ok (.imul, 1) := by decide +kernel
theorem dX7_takes_38 : decode cX7_takes 38 = .ok (.iload_n 2, 1) := by decide +kernel
theorem dX7_takes_39 : decode cX7_takes 39 = .ok (.iadd, 1) := by decide +kernel
theorem dX7_takes_40 : decode cX7_takes 40 = .ok (.iaload, 1) := by decide +kernel
theorem dX7_takes_41 : decode cX7_takes 41 = .ok (.ireturn, 1) := by decide +kernel
set_option maxRecDepth 20000 in
theorem ggX7_merge_X7_ahead : GoodIn wsX7_merge wsX7_ahead := goodIn_r _ [16, 17, 18, 19, 20, 21, 22, 23, 24, 25, 26, 27, 28, 29, 30, 31, 32, 33, 34, 35, 36, 37, 38, 39, 40, 41, 42, 43, 44, 45, 46, 47, 48, 49, 50, 51, 52, 53, 54, 55, 56] (by decide +kernel) (by decide +kernel)
set_option maxRecDepth 20000 in
theorem gX7_merge_X7_ahead : GoodIn wsX7_merge (wsV RX7 134 RX7 yX7_ahead wsX7_ahead) := goodIn_app (goodIn_of _ (by decide +kernel)) ggX7_merge_X7_ahead
theorem dX7_merge_0 : decode cX7_merge 0 = .ok (.aload_n 0, 1) := by decide +kernel
theorem dX7_merge_1 : decode cX7_merge 1 = .ok (.getfield 50, 3) := by decide +kernel
theorem dX7_merge_4 : decode cX7_merge 4 = .ok (.iconst (-1), 1) := by decide +kernel
theorem dX7_merge_5 : decode cX7_merge 5 = .ok (.if_icmp .ne 5, 3) := by decide +kernel
theorem dX7_merge_8 : decode cX7_merge 8 = .ok (.iconst (-1), 1) := by decide +kernel
theorem dX7_merge_9 : decode cX7_merge 9 = .ok (.ireturn, 1) := by decide +kernel
theorem dX7_merge_10 : decode cX7_merge 10 = .ok (.aload_n 0, 1) := by decide +kernel
theorem dX7_merge_11 : decode cX7_merge 11 = .ok (.aload_n 0, 1) := by decide +kernel
theorem dX7_merge_12 : decode cX7_merge 12 = .ok (.getfield 31, 3) := by decide +kernel
theorem dX7_merge_15 : decode cX7_merge 15 = .ok (.putfield 34, 3) := by decide +kernel
theorem dX7_merge_18 : decode cX7_merge 18 = .ok (.aload_n 0, 1) := by decide +kernel
theorem dX7_merge_19 : decode cX7_merge 19 = .ok (.aload_n 0, 1) := by decide +kernel
theorem dX7_merge_20 : decode cX7_merge 20 = .ok (.getfield 31, 3) := by decide +kernel
theorem dX7_merge_23 : decode cX7_merge 23 = .ok (.ifCond .ne 7, 3) := by decide +kernel
theorem dX7_merge_26 : decode cX7_merge 26 = .ok (.iconst 0, 1) := by decide +kernel
theorem dX7_merge_27 : decode cX7_merge 27 = .ok (.goto 26, 3) := by decide +kernel
theorem dX7_merge_30 : decode cX7_merge 30 = .ok (.aload_n 0, 1) := by decide +kernel
theorem dX7_merge_31 : decode cX7_merge 31 = .ok (.getfield 37, 3) := by decide +kernel
theorem dX7_merge_34 : decode cX7_merge 34 = .ok (.aload_n 0, 1) := by decide +kernel
theorem dX7_merge_35 : decode cX7_merge 35 = .ok (.getfield 31, 3) := by decide +kernel
theorem dX7_merge_38 : decode cX7_merge 38 = .ok (.iconst 1, 1) := by decide +kernel
theorem dX7_merge_39 : decode cX7_merge 39 = .ok (.isub, 1) := by decide +kernel
theorem dX7_merge_40 : decode cX7_merge 40 = .ok (.iaload, 1) := by decide +kernel
theorem dX7_merge_41 : decode cX7_merge 41 = .ok (.aload_n 0, 1) := by decide +kernel
theorem dX7_merge_42 : decode cX7_merge 42 = .ok (.getfield 40, 3) := by decide +kernel
theorem dX7_merge_45 : decode cX7_merge 45 = .ok (.aload_n 0, 1) := by decide +kernel
theorem dX7_merge_46 : decode cX7_merge 46 = .ok (.getfield 31, 3) := by decide +kernel
theorem dX7_merge_49 : decode cX7_merge 49 = .ok (.iconst 1, 1) := by decide +kernel
theorem dX7_merge_50 : decode cX7_merge 50 = .ok (.isub, 1) := by decide +kernel
theorem dX7_merge_51 : decode cX7_merge 51 = .ok (.iaload, 1) := by decide +kernel
theorem dX7_merge_52 : decode cX7_merge 52 = .ok (.iadd, 1) := by decide +kernel
theorem dX7_merge_53 : decode cX7_merge 53 = .ok (.putfield 47, 3) := by decide +kernel
theorem dX7_merge_56 : decode cX7_merge 56 = .ok (.iconst 0, 1) := by decide +kernel
theorem dX7_merge_57 : decode cX7_merge 57 = .ok (.istore_n 1, 1) := by decide +kernel
theorem dX7_merge_58 : decode cX7_merge 58 = .ok (.iconst 0, 1) := by decide +kernel
theorem dX7_merge_59 : decode cX7_merge 59 = .ok (.istore_n 2, 1) := by decide +kernel
theorem dX7_merge_60 : decode cX7_merge 60 = .ok (.iload_n 2, 1) := by decide +kernel
theorem dX7_merge_61 : decode cX7_merge 61 = .ok (.aload_n 0, 1) := by decide +kernel
theorem dX7_merge_62 : decode cX7_merge 62 = .ok (.getfield 53, 3) := by decide +kernel
theorem dX7_merge_65 : decode cX7_merge 65 = .ok (.if_icmp .ge 301, 3) := by decide +kernel
theorem dX7_merge_68 : decode cX7_merge 68 = .ok (.iconst 0, 1) := by decide +kernel
theorem dX7_merge_69 : decode cX7_merge 69 = .ok (.istore_n 3, 1) := by decide +kernel
theorem dX7_merge_70 : decode cX7_merge 70 = .ok (.iload_n 3, 1) := by decide +kernel
theorem dX7_merge_71 : decode cX7_merge 71 = .ok (.bipush 8, 2) := by decide +kernel
theorem dX7_merge_73 : decode cX7_merge 73 = .ok (.if_icmp .ge 16, 3) := by decide +kernel
theorem dX7_merge_76 : decode cX7_merge 76 = .ok (.aload_n 0, 1) := by decide +kernel
theorem dX7_merge_77 : decode cX7_merge 77 = .ok (.getfield 119, 3) := by decide +kernel
theorem dX7_merge_80 : decode cX7_merge 80 = .ok (.iload_n 3, 1) := by decide +kernel
theorem dX7_merge_81 : decode cX7_merge 81 = .ok (.iconst 0, 1) := by decide +kernel
theorem dX7_merge_82 : decode cX7_merge 82 = .ok (.iastore, 1) := by decide +kernel
theorem dX7_merge_83 : decode cX7_merge 83 = .ok (.iinc 3 1, 3) := by decide +kernel
theorem dX7_merge_86 : decode cX7_merge 86 = .ok (.goto (-16), 3) := by decide +kernel
theorem dX7_merge_89 : decode cX7_merge 89 = .ok (.aload_n 0, 1) := by decide +kernel
theorem dX7_merge_90 : decode cX7_merge 90 = .ok (.getfield 34, 3) := by decide +kernel
theorem dX7_merge_93 : decode cX7_merge 93 = .ok (.istore_n 3, 1) := by decide +kernel
theorem dX7_merge_94 : decode cX7_merge 94 = .ok (.aload_n 0, 1) := by decide +kernel
theorem dX7_merge_95 : decode cX7_merge 95 = .ok (.getfield 37, 3) := by decide +kernel
theorem dX7_merge_98 : decode cX7_merge 98 = .ok (.iload_n 3, 1) := by decide +kernel
theorem dX7_merge_99 : decode cX7_merge 99 = .ok (.aload_n 0, 1) := by decide +kernel
theorem dX7_merge_100 : decode cX7_merge 100 = .ok (.getfield 47, 3) := by decide +kernel
theorem dX7_merge_103 : decode cX7_merge 103 = .ok (.iastore, 1) := by decide +kernel
theorem dX7_merge_104 : decode cX7_merge 104 = .ok (.aload_n 0, 1) := by decide +kernel
theorem dX7_merge_105 : decode cX7_merge 105 = .ok (.getfield 40, 3) := by decide +kernel
theorem dX7_merge_108 : decode cX7_merge 108 = .ok (.iload_n 3, 1) := by decide +kernel
theorem dX7_merge_109 : decode cX7_merge 109 = .ok (.iconst 0, 1) := by decide +kernel
theorem dX7_merge_110 : decode cX7_merge 110 = .ok (.iastore, 1) := by decide +kernel
theorem dX7_merge_111 : decode cX7_merge 111 = .ok (.iconst 1, 1) := by decide +kernel
theorem dX7_merge_112 : decode cX7_merge 112 = .ok (.istore 4, 2) := by decide +kernel
theorem dX7_merge_114 : decode cX7_merge 114 = .ok (.iload 4, 2) := by decide +kernel
theorem dX7_merge_116 : decode cX7_merge 116 = .ok (.ifCond .eq 234, 3) := by decide +kernel
theorem dX7_merge_119 : decode cX7_merge 119 = .ok (.iconst (-1), 1) := by decide +kernel
theorem dX7_merge_120 : decode cX7_merge 120 = .ok (.istore 5, 2) := by decide +kernel
theorem dX7_merge_122 : decode cX7_merge 122 = .ok (.iconst 0, 1) := by decide +kernel
theorem dX7_merge_123 : decode cX7_merge 123 = .ok (.istore 6, 2) := by decide +kernel
theorem dX7_merge_125 : decode cX7_merge 125 = .ok (.iconst 0, 1) := by decide +kernel
theorem dX7_merge_126 : decode cX7_merge 126 = .ok (.istore 7, 2) := by decide +kernel
theorem dX7_merge_128 : decode cX7_merge 128 = .ok (.iload 7, 2) := by decide +kernel
theorem dX7_merge_130 : decode cX7_merge 130 = .ok (.aload_n 0, 1) := by decide +kernel
theorem dX7_merge_131 : decode cX7_merge 131 = .ok (.getfield 56, 3) := by decide +kernel
theorem dX7_merge_134 : decode cX7_merge 134 = .ok (.iload_n 2, 1) := by decide +kernel
theorem dX7_merge_135 : decode cX7_merge 135 = .ok (.iaload, 1) := by decide +kernel
theorem dX7_merge_136 : decode cX7_merge 136 = .ok (.if_icmp .ge 113, 3) := by decide +kernel
theorem dX7_merge_139 : decode cX7_merge 139 = .ok (.aload_n 0, 1) := by decide +kernel
theorem dX7_merge_140 : decode cX7_merge 140 = .ok (.getfield 59, 3) := by decide +kernel
theorem dX7_merge_143 : decode cX7_merge 143 = .ok (.bipush 8, 2) := by decide +kernel
theorem dX7_merge_145 : decode cX7_merge 145 = .ok (.iload_n 2, 1) := by decide +kernel
theorem dX7_merge_146 : decode cX7_merge 146 = .ok (.imul, 1) := by decide +kernel
theorem dX7_merge_147 : decode cX7_merge 147 = .ok (.iload 7, 2) := by decide +kernel
theorem dX7_merge_149 : decode cX7_merge 149 = .ok (.iadd, 1) := by decide +kernel
theorem dX7_merge_150 : decode cX7_merge 150 = .ok (.iaload, 1) := by decide +kernel
theorem dX7_merge_151 : decode cX7_merge 151 = .ok (.istore 8, 2) := by decide +kernel
theorem dX7_merge_153 : decode cX7_merge 153 = .ok (.aload_n 0, 1) := by decide +kernel
theorem dX7_merge_154 : decode cX7_merge 154 = .ok (.getfield 119, 3) := by decide +kernel
theorem dX7_merge_157 : decode cX7_merge 157 = .ok (.iload 7, 2) := by decide +kernel
theorem dX7_merge_159 : decode cX7_merge 159 = .ok (.iaload, 1) := by decide +kernel
theorem dX7_merge_160 : decode cX7_merge 160 = .ok (.aload_n 0, 1) := by decide +kernel
theorem dX7_merge_161 : decode cX7_merge 161 = .ok (.getfield 40, 3) := by decide +kernel
theorem dX7_merge_164 : decode cX7_merge 164 = .ok (.iload 8, 2) := by decide +kernel
theorem dX7_merge_166 : decode cX7_merge 166 = .ok (.iaload, 1) := by decide +kernel
theorem dX7_merge_167 : decode cX7_merge 167 = .ok (.if_icmp .ne 6, 3) := by decide +kernel
theorem dX7_merge_170 : decode cX7_merge 170 = .ok (.goto 73, 3) := by decide +kernel
theorem dX7_merge_173 : decode cX7_merge 173 = .ok (.iinc 6 1, 3) := by decide +kernel
theorem dX7_merge_176 : decode cX7_merge 176 = .ok (.iload 5, 2) := by decide +kernel
theorem dX7_merge_178 : decode cX7_merge 178 = .ok (.iconst (-1), 1) := by decide +kernel
theorem dX7_merge_179 : decode cX7_merge 179 = .ok (.if_icmp .eq 60, 3) := by decide +kernel
theorem dX7_merge_182 : decode cX7_merge 182 = .ok (.aload_n 0, 1) := by decide +kernel
theorem dX7_merge_183 : decode cX7_merge 183 = .ok (.aload_n 0, 1) := by decide +kernel
theorem dX7_merge_184 : decode cX7_merge 184 = .ok (.getfield 44, 3) := by decide +kernel
theorem dX7_merge_187 : decode cX7_merge 187 = .ok (.aload_n 0, 1) := by decide +kernel
theorem dX7_merge_188 : decode cX7_merge 188 = .ok (.getfield 37, 3) := by decide +kernel
theorem dX7_merge_191 : decode cX7_merge 191 = .ok (.iload 8, 2) := by decide +kernel
theorem dX7_merge_193 : decode cX7_merge 193 = .ok (.iaload, 1) := by decide +kernel
theorem dX7_merge_194 : decode cX7_merge 194 = .ok (.aload_n 0, 1) := by decide +kernel
theorem dX7_merge_195 : decode cX7_merge 195 = .ok (.getfield 119, 3) := by decide +kernel
theorem dX7_merge_198 : decode cX7_merge 198 = .ok (.iload 7, 2) := by decide +kernel
theorem dX7_merge_200 : decode cX7_merge 200 = .ok (.iaload, 1) := by decide +kernel
theorem dX7_merge_201 : decode cX7_merge 201 = .ok (.iadd, 1) := by decide +kernel
theorem dX7_merge_202 : decode cX7_merge 202 = .ok (.iaload, 1) := by decide +kernel
theorem dX7_merge_203 : decode cX7_merge 203 = .ok (.aload_n 0, 1) := by decide +kernel
theorem dX7_merge_204 : decode cX7_merge 204 = .ok (.getfield 44, 3) := by decide +kernel
theorem dX7_merge_207 : decode cX7_merge 207 = .ok (.aload_n 0, 1) := by decide +kernel
theorem dX7_merge_208 : decode cX7_merge 208 = .ok (.getfield 37, 3) := by decide +kernel
theorem dX7_merge_211 : decode cX7_merge 211 = .ok (.aload_n 0, 1) := by decide +kernel
theorem dX7_merge_212 : decode cX7_merge 212 = .ok (.getfield 59, 3) := by decide +kernel
theorem dX7_merge_215 : decode cX7_merge 215 = .ok (.bipush 8, 2) := by decide +kernel
theorem dX7_merge_217 : decode cX7_merge 217 = .ok (.iload_n 2, 1) := by decide +kernel
theorem dX7_merge_218 : decode cX7_merge 218 = .ok (.imul, 1) := by decide +kernel
theorem dX7_merge_219 : decode cX7_merge 219 = .ok (.iload 5, 2) := by decide +kernel
theorem dX7_merge_221 : decode cX7_merge 221 = .ok (.iadd, 1) := by decide +kernel
theorem dX7_merge_222 : decode cX7_merge 222 = .ok (.iaload, 1) := by decide +kernel
theorem dX7_merge_223 : decode cX7_merge 223 = .ok (.iaload, 1) := by decide +kernel
theorem dX7_merge_224 : decode cX7_merge 224 = .ok (.aload_n 0, 1) := by decide +kernel
theorem dX7_merge_225 : decode cX7_merge 225 = .ok (.getfield 119, 3) := by decide +kernel
theorem dX7_merge_228 : decode cX7_merge 228 = .ok (.iload 5, 2) := by decide +kernel
theorem dX7_merge_230 : decode cX7_merge 230 = .ok (.iaload, 1) := by decide +kernel
theorem dX7_merge_231 : decode cX7_merge 231 = .ok (.iadd, 1) := by decide +kernel
theorem dX7_merge_232 : decode cX7_merge 232 = .ok (.iaload, 1) := by decide +kernel
theorem dX7_merge_233 : decode cX7_merge 233 = .ok (.invokevirtual 134, 3) := by decide +kernel
theorem dX7_merge_236 : decode cX7_merge 236 = .ok (.ifCond .eq 7, 3) := by decide +kernel
theorem dX7_merge_239 : decode cX7_merge 239 = .ok (.iload 7, 2) := by decide +kernel
theorem dX7_merge_241 : decode cX7_merge 241 = .ok (.istore 5, 2) := by decide +kernel
theorem dX7_merge_243 : decode cX7_merge 243 = .ok (.iinc 7 1, 3) := by decide +kernel
theorem dX7_merge_246 : decode cX7_merge 246 = .ok (.goto (-118), 3) := by decide +kernel
theorem dX7_merge_249 : decode cX7_merge 249 = .ok (.iload 5, 2) := by decide +kernel
theorem dX7_merge_251 : decode cX7_merge 251 = .ok (.iconst (-1), 1) := by decide +kernel
theorem dX7_merge_252 : decode cX7_merge 252 = .ok (.if_icmp .eq 7, 3) := by decide +kernel
theorem dX7_merge_255 : decode cX7_merge 255 = .ok (.iconst 1, 1) := by decide +kernel
theorem dX7_merge_256 : decode cX7_merge 256 = .ok (.goto 4, 3) := by decide +kernel
theorem dX7_merge_259 : decode cX7_merge 259 = .ok (.iconst 0, 1) := by decide +kernel
theorem dX7_merge_260 : decode cX7_merge 260 = .ok (.istore 4, 2) := by decide +kernel
theorem dX7_merge_262 : decode cX7_merge 262 = .ok (.iload 4, 2) := by decide +kernel
theorem dX7_merge_264 : decode cX7_merge 264 = .ok (.ifCond .ne 6, 3) := by decide +kernel
theorem dX7_merge_267 : decode cX7_merge 267 = .ok (.goto (-153), 3) := by decide +kernel
theorem dX7_merge_270 : decode cX7_merge 270 = .ok (.iload_n 1, 1) := by decide +kernel
theorem dX7_merge_271 : decode cX7_merge 271 = .ok (.iload 6, 2) := by decide +kernel
theorem dX7_merge_273 : decode cX7_merge 273 = .ok (.iconst 1, 1) := by decide +kernel
theorem dX7_merge_274 : decode cX7_merge 274 = .ok (.isub, 1) := by decide +kernel
theorem dX7_merge_275 : decode cX7_merge 275 = .ok (.iadd, 1) := by decide +kernel
theorem dX7_merge_276 : decode cX7_merge 276 = .ok (.istore_n 1, 1) := by decide +kernel
theorem dX7_merge_277 : decode cX7_merge 277 = .ok (.aload_n 0, 1) := by decide +kernel
theorem dX7_merge_278 : decode cX7_merge 278 = .ok (.getfield 44, 3) := by decide +kernel
theorem dX7_merge_281 : decode cX7_merge 281 = .ok (.aload_n 0, 1) := by decide +kernel
theorem dX7_merge_282 : decode cX7_merge 282 = .ok (.getfield 47, 3) := by decide +kernel
theorem dX7_merge_285 : decode cX7_merge 285 = .ok (.aload_n 0, 1) := by decide +kernel
theorem dX7_merge_286 : decode cX7_merge 286 = .ok (.getfield 44, 3) := by decide +kernel
theorem dX7_merge_289 : decode cX7_merge 289 = .ok (.aload_n 0, 1) := by decide +kernel
theorem dX7_merge_290 : decode cX7_merge 290 = .ok (.getfield 37, 3) := by decide +kernel
theorem dX7_merge_293 : decode cX7_merge 293 = .ok (.aload_n 0, 1) := by decide +kernel
theorem dX7_merge_294 : decode cX7_merge 294 = .ok (.getfield 59, 3) := by decide +kernel
theorem dX7_merge_297 : decode cX7_merge 297 = .ok (.bipush 8, 2) := by decide +kernel
theorem dX7_merge_299 : decode cX7_merge 299 = .ok (.iload_n 2, 1) := by decide +kernel
theorem dX7_merge_300 : decode cX7_merge 300 = .ok (.imul, 1) := by decide +kernel
theorem dX7_merge_301 : decode cX7_merge 301 = .ok (.iload 5, 2) := by decide +kernel
theorem dX7_merge_303 : decode cX7_merge 303 = .ok (.iadd, 1) := by decide +kernel
theorem dX7_merge_304 : decode cX7_merge 304 = .ok (.iaload, 1) := by decide +kernel
theorem dX7_merge_305 : decode cX7_merge 305 = .ok (.iaload, 1) := by decide +kernel
theorem dX7_merge_306 : decode cX7_merge 306 = .ok (.aload_n 0, 1) := by decide +kernel
theorem dX7_merge_307 : decode cX7_merge 307 = .ok (.getfield 119, 3) := by decide +kernel
theorem dX7_merge_310 : decode cX7_merge 310 = .ok (.iload 5, 2) := by decide +kernel
theorem dX7_merge_312 : decode cX7_merge 312 = .ok (.iaload, 1) := by decide +kernel
theorem dX7_merge_313 : decode cX7_merge 313 = .ok (.iadd, 1) := by decide +kernel
theorem dX7_merge_314 : decode cX7_merge 314 = .ok (.iaload, 1) := by decide +kernel
theorem dX7_merge_315 : decode cX7_merge 315 = .ok (.iastore, 1) := by decide +kernel
theorem dX7_merge_316 : decode cX7_merge 316 = .ok (.aload_n 0, 1) := by decide +kernel
theorem dX7_merge_317 : decode cX7_merge 317 = .ok (.dup, 1) := by decide +kernel
theorem dX7_merge_318 : decode cX7_merge 318 = .ok (.getfield 47, 3) := by decide +kernel
theorem dX7_merge_321 : decode cX7_merge 321 = .ok (.iconst 1, 1) := by decide +kernel
theorem dX7_merge_322 : decode cX7_merge 322 = .ok (.iadd, 1) := by decide +kernel
theorem dX7_merge_323 : decode cX7_merge 323 = .ok (.putfield 47, 3) := by decide +kernel
theorem dX7_merge_326 : decode cX7_merge 326 = .ok (.aload_n 0, 1) := by decide +kernel
theorem dX7_merge_327 : decode cX7_merge 327 = .ok (.getfield 40, 3) := by decide +kernel
theorem dX7_merge_330 : decode cX7_merge 330 = .ok (.iload_n 3, 1) := by decide +kernel
theorem dX7_merge_331 : decode cX7_merge 331 = .ok (.dup2, 1) := by decide +kernel
theorem dX7_merge_332 : decode cX7_merge 332 = .ok (.iaload, 1) := by decide +kernel
theorem dX7_merge_333 : decode cX7_merge 333 = .ok (.iconst 1, 1) := by decide +kernel
theorem dX7_merge_334 : decode cX7_merge 334 = .ok (.iadd, 1) := by decide +kernel
theorem dX7_merge_335 : decode cX7_merge 335 = .ok (.iastore, 1) := by decide +kernel
theorem dX7_merge_336 : decode cX7_merge 336 = .ok (.aload_n 0, 1) := by decide +kernel
theorem dX7_merge_337 : decode cX7_merge 337 = .ok (.getfield 119, 3) := by decide +kernel
theorem dX7_merge_340 : decode cX7_merge 340 = .ok (.iload 5, 2) := by decide +kernel
theorem dX7_merge_342 : decode cX7_merge 342 = .ok (.dup2, 1) := by decide +kernel
theorem dX7_merge_343 : decode cX7_merge 343 = .ok (.iaload, 1) := by decide +kernel
theorem dX7_merge_344 : decode cX7_merge 344 = .ok (.iconst 1, 1) := by decide +kernel
theorem dX7_merge_345 : decode cX7_merge 345 = .ok (.iadd, 1) := by decide +kernel
theorem dX7_merge_346 : decode cX7_merge 346 = .ok (.iastore, 1) := by decide +kernel
theorem dX7_merge_347 : decode cX7_merge 347 = .ok (.goto (-233), 3) := by decide +kernel
theorem dX7_merge_350 : decode cX7_merge 350 = .ok (.aload_n 0, 1) := by decide +kernel
theorem dX7_merge_351 : decode cX7_merge 351 = .ok (.dup, 1) := by decide +kernel
theorem dX7_merge_352 : decode cX7_merge 352 = .ok (.getfield 34, 3) := by decide +kernel
theorem dX7_merge_355 : decode cX7_merge 355 = .ok (.iconst 1, 1) := by decide +kernel
theorem dX7_merge_356 : decode cX7_merge 356 = .ok (.iadd, 1) := by decide +kernel
theorem dX7_merge_357 : decode cX7_merge 357 = .ok (.putfield 34, 3) := by decide +kernel
theorem dX7_merge_360 : decode cX7_merge 360 = .ok (.iinc 2 1, 3) := by decide +kernel
theorem dX7_merge_363 : decode cX7_merge 363 = .ok (.goto (-303), 3) := by decide +kernel
theorem dX7_merge_366 : decode cX7_merge 366 = .ok (.iload_n 1, 1) := by decide +kernel
theorem dX7_merge_367 : decode cX7_merge 367 = .ok (.ireturn, 1) := by decide +kernel
set_option maxRecDepth 20000 in
theorem ggX7_isIn_X7_ahead : GoodIn wsX7_isIn wsX7_ahead := goodIn_r _ [7, 8, 9, 10, 11, 12, 13, 14, 15, 16, 17, 18, 19, 20, 21, 22, 23, 24, 25, 26, 27, 28, 29, 30, 31, 32, 33, 34, 35, 36, 37, 38, 39, 40, 41, 42, 43, 44, 45, 46, 47] (by decide +kernel) (by decide +kernel)
set_option maxRecDepth 20000 in
theorem gX7_isIn_X7_ahead : GoodIn wsX7_isIn (wsV RX7 134 RX7 yX7_ahead wsX7_ahead) := goodIn_app (goodIn_of _ (by decide +kernel)) ggX7_isIn_X7_ahead
theorem dX7_isIn_0 : decode cX7_isIn 0 = .ok (.iload_n 2, 1) := by decide +kernel
theorem dX7_isIn_1 : decode cX7_isIn 1 = .ok (.ifCond .le 33, 3) := by decide +kernel
theorem dX7_isIn_4 : decode cX7_isIn 4 = .ok (.aload_n 0, 1) := by decide +kernel
theorem dX7_isIn_5 : decode cX7_isIn 5 = .ok (.getfield 74, 3) := by decide +kernel
theorem dX7_isIn_8 : decode cX7_isIn 8 = .ok (.iload_n 2, 1) := by decide +kernel
theorem dX7_isIn_9 : decode cX7_isIn 9 = .ok (.iconst 1, 1) := by decide +kernel
theorem dX7_isIn_10 : decode cX7_isIn 10 = .ok (.isub, 1) := by decide +kernel
theorem dX7_isIn_11 : decode cX7_isIn 11 = .ok (.iaload, 1) := by decide +kernel
theorem dX7_isIn_12 : decode cX7_isIn 12 = .ok (.iconst (-1), 1) := by decide +kernel
theorem dX7_isIn_13 : decode cX7_isIn 13 = .ok (.if_icmp .eq 21, 3) := by decide +kernel
theorem dX7_isIn_16 : decode cX7_isIn 16 = .ok (.aload_n 0, 1) := by decide +kernel
theorem dX7_isIn_17 : decode cX7_isIn 17 = .ok (.aload_n 0, 1) := by decide +kernel
theorem dX7_isIn_18 : decode cX7_isIn 18 = .ok (.getfield 74, 3) := by decide +kernel
theorem dX7_isIn_21 : decode cX7_isIn 21 = .ok (.iload_n 2, 1) := by decide +kernel
theorem dX7_isIn_22 : decode cX7_isIn 22 = .ok (.iconst 1, 1) := by decide +kernel
theorem dX7_isIn_23 : decode cX7_isIn 23 = .ok (.isub, 1) := by decide +kernel
theorem dX7_isIn_24 : decode cX7_isIn 24 = .ok (.iaload, 1) := by decide +kernel
theorem dX7_isIn_25 : decode cX7_isIn 25 = .ok (.iload_n 1, 1) := by decide +kernel
theorem dX7_isIn_26 : decode cX7_isIn 26 = .ok (.invokevirtual 134, 3) := by decide +kernel
theorem dX7_isIn_29 : decode cX7_isIn 29 = .ok (.ifCond .ne 5, 3) := by decide +kernel
theorem dX7_isIn_32 : decode cX7_isIn 32 = .ok (.iconst 0, 1) := by decide +kernel
theorem dX7_isIn_33 : decode cX7_isIn 33 = .ok (.ireturn, 1) := by decide +kernel
theorem dX7_isIn_34 : decode cX7_isIn 34 = .ok (.iload_n 2, 1) := by decide +kernel
theorem dX7_isIn_35 : decode cX7_isIn 35 = .ok (.aload_n 0, 1) := by decide +kernel
theorem dX7_isIn_36 : decode cX7_isIn 36 = .ok (.getfield 62, 3) := by decide +kernel
theorem dX7_isIn_39 : decode cX7_isIn 39 = .ok (.iconst 1, 1) := by decide +kernel
theorem dX7_isIn_40 : decode cX7_isIn 40 = .ok (.isub, 1) := by decide +kernel
theorem dX7_isIn_41 : decode cX7_isIn 41 = .ok (.if_icmp .ne 5, 3) := by decide +kernel
theorem dX7_isIn_44 : decode cX7_isIn 44 = .ok (.iconst 1, 1) := by decide +kernel
theorem dX7_isIn_45 : decode cX7_isIn 45 = .ok (.ireturn, 1) := by decide +kernel
theorem dX7_isIn_46 : decode cX7_isIn 46 = .ok (.aload_n 0, 1) := by decide +kernel
theorem dX7_isIn_47 : decode cX7_isIn 47 = .ok (.getfield 74, 3) := by decide +kernel
theorem dX7_isIn_50 : decode cX7_isIn 50 = .ok (.iload_n 2, 1) := by decide +kernel
theorem dX7_isIn_51 : decode cX7_isIn 51 = .ok (.iaload, 1) := by decide +kernel
theorem dX7_isIn_52 : decode cX7_isIn 52 = .ok (.iconst (-1), 1) := by decide +kernel
theorem dX7_isIn_53 : decode cX7_isIn 53 = .ok (.if_icmp .eq 21, 3) := by decide +kernel
theorem dX7_isIn_56 : decode cX7_isIn 56 = .ok (.aload_n 0, 1) := by decide +kernel
theorem dX7_isIn_57 : decode cX7_isIn 57 = .ok (.aload_n 0, 1) := by decide +kernel
theorem dX7_isIn_58 : decode cX7_isIn 58 = .ok (.getfield 74, 3) := by decide +kernel
theorem dX7_isIn_61 : decode cX7_isIn 61 = .ok (.iload_n 2, 1) := by decide +kernel
theorem dX7_isIn_62 : decode cX7_isIn 62 = .ok (.iaload, 1) := by decide +kernel
theorem dX7_isIn_63 : decode cX7_isIn 63 = .ok (.iload_n 1, 1) := by decide +kernel
theorem dX7_isIn_64 : decode cX7_isIn 64 = .ok (.invokevirtual 134, 3) := by decide +kernel
theorem dX7_isIn_67 : decode cX7_isIn 67 = .ok (.ifCond .ne 7, 3) := by decide +kernel
theorem dX7_isIn_70 : decode cX7_isIn 70 = .ok (.iconst 1, 1) := by decide +kernel
theorem dX7_isIn_71 : decode cX7_isIn 71 = .ok (.goto 4, 3) := by decide +kernel
theorem dX7_isIn_74 : decode cX7_isIn 74 = .ok (.iconst 0, 1) := by decide +kernel
theorem dX7_isIn_75 : decode cX7_isIn 75 = .ok (.ireturn, 1) := by decide +kernel
set_option maxRecDepth 20000 in
theorem ggX7_cut_X7_is : GoodIn wsX7_cut wsX7_is := goodIn_r _ [24] (by decide +kernel) (by decide +kernel)
set_option maxRecDepth 20000 in
theorem gX7_cut_X7_is : GoodIn wsX7_cut (va_wsS RX7 122 yX7_is wsX7_is) := goodIn_app (goodIn_of _ (by decide +kernel)) ggX7_cut_X7_is
set_option maxRecDepth 20000 in
theorem ggX7_cut_X7_ahead : GoodIn wsX7_cut wsX7_ahead := goodIn_r _ [28, 29, 30, 31, 32, 45, 46, 47, 48, 49, 50, 51, 52, 53, 54, 55, 56, 57, 58, 59, 60, 61, 62, 63, 64, 65, 66, 67, 68, 69, 70, 71, 72, 73, 74, 75, 76, 77, 78, 79, 80] (by decide +kernel) (by decide +kernel)
set_option maxRecDepth 20000 in
theorem gX7_cut_X7_ahead : GoodIn wsX7_cut (wsV RX7 134 RX7 yX7_ahead wsX7_ahead) := goodIn_app (goodIn_of _ (by decide +kernel)) ggX7_cut_X7_ahead
set_option maxRecDepth 20000 in
theorem ggX7_cut_X7_isIn : GoodIn wsX7_cut wsX7_isIn := goodIn_r _ [36, 10, 2, 25, 26, 27, 23, 28, 29, 30, 31, 32, 45, 46, 47, 48, 49, 50, 51, 52, 53, 54, 55, 56, 57, 58, 59, 60, 61, 62, 63, 64, 65, 66, 67, 68, 69, 70, 71, 72, 73, 74, 75, 76, 77, 78, 79, 80] (by decide +kernel) (by decide +kernel)
set_option maxRecDepth 20000 in
theorem gX7_cut_X7_isIn : GoodIn wsX7_cut (wsV RX7 142 RX7 yX7_isIn wsX7_isIn) := goodIn_app (goodIn_of _ (by decide +kernel)) ggX7_cut_X7_isIn
set_option maxRecDepth 20000 in
theorem ggX7_cut_X7_leaves : GoodIn wsX7_cut wsX7_leaves := goodIn_r _ [40, 2, 15, 12, 14, 20, 41, 42, 43, 23, 44, 11, 45, 46, 47, 48, 49, 50, 51, 52, 53, 54, 55, 56, 57, 58, 59, 60, 61, 62, 63, 64, 65, 66, 67, 68, 69, 70, 71, 72, 73, 74, 75, 76, 77, 78, 79, 80] (by decide +kernel) (by decide +kernel)
set_option maxRecDepth 20000 in
theorem gX7_cut_X7_leaves : GoodIn wsX7_cut (wsV RX7 145 RX7 yX7_leaves wsX7_leaves) := goodIn_app (goodIn_of _ (by decide +kernel)) ggX7_cut_X7_leaves
theorem dX7_cut_0 : decode cX7_cut 0 = .ok (.aload_n 0, 1) := by decide +kernel
theorem dX7_cut_1 : decode cX7_cut 1 = .ok (.getfield 27, 3) := by decide +kernel
theorem dX7_cut_4 : decode cX7_cut 4 = .ok (.ifCond .eq 23, 3) := by decide +kernel
theorem dX7_cut_7 : decode cX7_cut 7 = .ok (.iload_n 1, 1) := by decide +kernel
theorem dX7_cut_8 : decode cX7_cut 8 = .ok (.iconst 1, 1) := by decide +kernel
theorem dX7_cut_9 : decode cX7_cut 9 = .ok (.bipush 8, 2) := by decide +kernel
theorem dX7_cut_11 : decode cX7_cut 11 = .ok (.invokestatic 122, 3) := by decide +kernel
theorem dX7_cut_14 : decode cX7_cut 14 = .ok (.ifCond .eq 13, 3) := by decide +kernel
theorem dX7_cut_17 : decode cX7_cut 17 = .ok (.iload_n 2, 1) := by decide +kernel
theorem dX7_cut_18 : decode cX7_cut 18 = .ok (.iconst 1, 1) := by decide +kernel
theorem dX7_cut_19 : decode cX7_cut 19 = .ok (.bipush 20, 2) := by decide +kernel
theorem dX7_cut_21 : decode cX7_cut 21 = .ok (.invokestatic 122, 3) := by decide +kernel
theorem dX7_cut_24 : decode cX7_cut 24 = .ok (.ifCond .ne 5, 3) := by decide +kernel
theorem dX7_cut_27 : decode cX7_cut 27 = .ok (.iconst (-1), 1) := by decide +kernel
theorem dX7_cut_28 : decode cX7_cut 28 = .ok (.ireturn, 1) := by decide +kernel
theorem dX7_cut_29 : decode cX7_cut 29 = .ok (.aload_n 0, 1) := by decide +kernel
theorem dX7_cut_30 : decode cX7_cut 30 = .ok (.iload_n 1, 1) := by decide +kernel
theorem dX7_cut_31 : decode cX7_cut 31 = .ok (.putfield 62, 3) := by decide +kernel
theorem dX7_cut_34 : decode cX7_cut 34 = .ok (.aload_n 0, 1) := by decide +kernel
theorem dX7_cut_35 : decode cX7_cut 35 = .ok (.iload_n 2, 1) := by decide +kernel
theorem dX7_cut_36 : decode cX7_cut 36 = .ok (.putfield 65, 3) := by decide +kernel
theorem dX7_cut_39 : decode cX7_cut 39 = .ok (.aload_n 0, 1) := by decide +kernel
theorem dX7_cut_40 : decode cX7_cut 40 = .ok (.iconst 0, 1) := by decide +kernel
theorem dX7_cut_41 : decode cX7_cut 41 = .ok (.putfield 68, 3) := by decide +kernel
theorem dX7_cut_44 : decode cX7_cut 44 = .ok (.iconst 0, 1) := by decide +kernel
theorem dX7_cut_45 : decode cX7_cut 45 = .ok (.istore_n 3, 1) := by decide +kernel
theorem dX7_cut_46 : decode cX7_cut 46 = .ok (.iload_n 3, 1) := by decide +kernel
theorem dX7_cut_47 : decode cX7_cut 47 = .ok (.aload_n 0, 1) := by decide +kernel
theorem dX7_cut_48 : decode cX7_cut 48 = .ok (.getfield 31, 3) := by decide +kernel
theorem dX7_cut_51 : decode cX7_cut 51 = .ok (.if_icmp .ge 120, 3) := by decide +kernel
theorem dX7_cut_54 : decode cX7_cut 54 = .ok (.iload_n 2, 1) := by decide +kernel
theorem dX7_cut_55 : decode cX7_cut 55 = .ok (.iconst 1, 1) := by decide +kernel
theorem dX7_cut_56 : decode cX7_cut 56 = .ok (.isub, 1) := by decide +kernel
theorem dX7_cut_57 : decode cX7_cut 57 = .ok (.istore 4, 2) := by decide +kernel
theorem dX7_cut_59 : decode cX7_cut 59 = .ok (.iload 4, 2) := by decide +kernel
theorem dX7_cut_61 : decode cX7_cut 61 = .ok (.aload_n 0, 1) := by decide +kernel
theorem dX7_cut_62 : decode cX7_cut 62 = .ok (.getfield 40, 3) := by decide +kernel
theorem dX7_cut_65 : decode cX7_cut 65 = .ok (.iload_n 3, 1) := by decide +kernel
theorem dX7_cut_66 : decode cX7_cut 66 = .ok (.iaload, 1) := by decide +kernel
theorem dX7_cut_67 : decode cX7_cut 67 = .ok (.if_icmp .ge 98, 3) := by decide +kernel
theorem dX7_cut_70 : decode cX7_cut 70 = .ok (.aload_n 0, 1) := by decide +kernel
theorem dX7_cut_71 : decode cX7_cut 71 = .ok (.getfield 44, 3) := by decide +kernel
theorem dX7_cut_74 : decode cX7_cut 74 = .ok (.aload_n 0, 1) := by decide +kernel
theorem dX7_cut_75 : decode cX7_cut 75 = .ok (.getfield 37, 3) := by decide +kernel
theorem dX7_cut_78 : decode cX7_cut 78 = .ok (.iload_n 3, 1) := by decide +kernel
theorem dX7_cut_79 : decode cX7_cut 79 = .ok (.iaload, 1) := by decide +kernel
theorem dX7_cut_80 : decode cX7_cut 80 = .ok (.iload 4, 2) := by decide +kernel
theorem dX7_cut_82 : decode cX7_cut 82 = .ok (.iadd, 1) := by decide +kernel
theorem dX7_cut_83 : decode cX7_cut 83 = .ok (.iaload, 1) := by decide +kernel
theorem dX7_cut_84 : decode cX7_cut 84 = .ok (.istore 5, 2) := by decide +kernel
theorem dX7_cut_86 : decode cX7_cut 86 = .ok (.aload_n 0, 1) := by decide +kernel
theorem dX7_cut_87 : decode cX7_cut 87 = .ok (.getfield 68, 3) := by decide +kernel
theorem dX7_cut_90 : decode cX7_cut 90 = .ok (.istore 6, 2) := by decide +kernel
theorem dX7_cut_92 : decode cX7_cut 92 = .ok (.iload 6, 2) := by decide +kernel
theorem dX7_cut_94 : decode cX7_cut 94 = .ok (.ifCond .le 43, 3) := by decide +kernel
theorem dX7_cut_97 : decode cX7_cut 97 = .ok (.aload_n 0, 1) := by decide +kernel
theorem dX7_cut_98 : decode cX7_cut 98 = .ok (.iload 5, 2) := by decide +kernel
theorem dX7_cut_100 : decode cX7_cut 100 = .ok (.aload_n 0, 1) := by decide +kernel
theorem dX7_cut_101 : decode cX7_cut 101 = .ok (.getfield 71, 3) := by decide +kernel
theorem dX7_cut_104 : decode cX7_cut 104 = .ok (.iload 6, 2) := by decide +kernel
theorem dX7_cut_106 : decode cX7_cut 106 = .ok (.iconst 1, 1) := by decide +kernel
theorem dX7_cut_107 : decode cX7_cut 107 = .ok (.isub, 1) := by decide +kernel
theorem dX7_cut_108 : decode cX7_cut 108 = .ok (.iaload, 1) := by decide +kernel
theorem dX7_cut_109 : decode cX7_cut 109 = .ok (.invokevirtual 134, 3) := by decide +kernel
theorem dX7_cut_112 : decode cX7_cut 112 = .ok (.ifCond .eq 25, 3) := by decide +kernel
theorem dX7_cut_115 : decode cX7_cut 115 = .ok (.aload_n 0, 1) := by decide +kernel
theorem dX7_cut_116 : decode cX7_cut 116 = .ok (.getfield 71, 3) := by decide +kernel
theorem dX7_cut_119 : decode cX7_cut 119 = .ok (.iload 6, 2) := by decide +kernel
theorem dX7_cut_121 : decode cX7_cut 121 = .ok (.aload_n 0, 1) := by decide +kernel
theorem dX7_cut_122 : decode cX7_cut 122 = .ok (.getfield 71, 3) := by decide +kernel
theorem dX7_cut_125 : decode cX7_cut 125 = .ok (.iload 6, 2) := by decide +kernel
theorem dX7_cut_127 : decode cX7_cut 127 = .ok (.iconst 1, 1) := by decide +kernel
theorem dX7_cut_128 : decode cX7_cut 128 = .ok (.isub, 1) := by decide +kernel
theorem dX7_cut_129 : decode cX7_cut 129 = .ok (.iaload, 1) := by decide +kernel
theorem dX7_cut_130 : decode cX7_cut 130 = .ok (.iastore, 1) := by decide +kernel
theorem dX7_cut_131 : decode cX7_cut 131 = .ok (.iinc 6 (-1), 3) := by decide +kernel
theorem dX7_cut_134 : decode cX7_cut 134 = .ok (.goto (-42), 3) := by decide +kernel
theorem dX7_cut_137 : decode cX7_cut 137 = .ok (.aload_n 0, 1) := by decide +kernel
theorem dX7_cut_138 : decode cX7_cut 138 = .ok (.getfield 71, 3) := by decide +kernel
theorem dX7_cut_141 : decode cX7_cut 141 = .ok (.iload 6, 2) := by decide +kernel
theorem dX7_cut_143 : decode cX7_cut 143 = .ok (.iload 5, 2) := by decide +kernel
theorem dX7_cut_145 : decode cX7_cut 145 = .ok (.iastore, 1) := by decide +kernel
theorem dX7_cut_146 : decode cX7_cut 146 = .ok (.aload_n 0, 1) := by decide +kernel
theorem dX7_cut_147 : decode cX7_cut 147 = .ok (.dup, 1) := by decide +kernel
theorem dX7_cut_148 : decode cX7_cut 148 = .ok (.getfield 68, 3) := by decide +kernel
theorem dX7_cut_151 : decode cX7_cut 151 = .ok (.iconst 1, 1) := by decide +kernel
theorem dX7_cut_152 : decode cX7_cut 152 = .ok (.iadd, 1) := by decide +kernel
theorem dX7_cut_153 : decode cX7_cut 153 = .ok (.putfield 68, 3) := by decide +kernel
theorem dX7_cut_156 : decode cX7_cut 156 = .ok (.iload 4, 2) := by decide +kernel
theorem dX7_cut_158 : decode cX7_cut 158 = .ok (.iload_n 2, 1) := by decide +kernel
theorem dX7_cut_159 : decode cX7_cut 159 = .ok (.iadd, 1) := by decide +kernel
theorem dX7_cut_160 : decode cX7_cut 160 = .ok (.istore 4, 2) := by decide +kernel
theorem dX7_cut_162 : decode cX7_cut 162 = .ok (.goto (-103), 3) := by decide +kernel
theorem dX7_cut_165 : decode cX7_cut 165 = .ok (.iinc 3 1, 3) := by decide +kernel
theorem dX7_cut_168 : decode cX7_cut 168 = .ok (.goto (-122), 3) := by decide +kernel
theorem dX7_cut_171 : decode cX7_cut 171 = .ok (.iconst 1, 1) := by decide +kernel
theorem dX7_cut_172 : decode cX7_cut 172 = .ok (.istore_n 3, 1) := by decide +kernel
theorem dX7_cut_173 : decode cX7_cut 173 = .ok (.iload_n 3, 1) := by decide +kernel
theorem dX7_cut_174 : decode cX7_cut 174 = .ok (.iload_n 1, 1) := by decide +kernel
theorem dX7_cut_175 : decode cX7_cut 175 = .ok (.if_icmp .gt 50, 3) := by decide +kernel
theorem dX7_cut_178 : decode cX7_cut 178 = .ok (.iload_n 3, 1) := by decide +kernel
theorem dX7_cut_179 : decode cX7_cut 179 = .ok (.aload_n 0, 1) := by decide +kernel
theorem dX7_cut_180 : decode cX7_cut 180 = .ok (.getfield 68, 3) := by decide +kernel
theorem dX7_cut_183 : decode cX7_cut 183 = .ok (.imul, 1) := by decide +kernel
theorem dX7_cut_184 : decode cX7_cut 184 = .ok (.iload_n 1, 1) := by decide +kernel
theorem dX7_cut_185 : decode cX7_cut 185 = .ok (.idiv, 1) := by decide +kernel
theorem dX7_cut_186 : decode cX7_cut 186 = .ok (.iconst 1, 1) := by decide +kernel
theorem dX7_cut_187 : decode cX7_cut 187 = .ok (.isub, 1) := by decide +kernel
theorem dX7_cut_188 : decode cX7_cut 188 = .ok (.istore 4, 2) := by decide +kernel
theorem dX7_cut_190 : decode cX7_cut 190 = .ok (.aload_n 0, 1) := by decide +kernel
theorem dX7_cut_191 : decode cX7_cut 191 = .ok (.getfield 74, 3) := by decide +kernel
theorem dX7_cut_194 : decode cX7_cut 194 = .ok (.iload_n 3, 1) := by decide +kernel
theorem dX7_cut_195 : decode cX7_cut 195 = .ok (.iconst 1, 1) := by decide +kernel
theorem dX7_cut_196 : decode cX7_cut 196 = .ok (.isub, 1) := by decide +kernel
theorem dX7_cut_197 : decode cX7_cut 197 = .ok (.iload_n 3, 1) := by decide +kernel
theorem dX7_cut_198 : decode cX7_cut 198 = .ok (.iload_n 1, 1) := by decide +kernel
theorem dX7_cut_199 : decode cX7_cut 199 = .ok (.if_icmp .eq 8, 3) := by decide +kernel
theorem dX7_cut_202 : decode cX7_cut 202 = .ok (.iload 4, 2) := by decide +kernel
theorem dX7_cut_204 : decode cX7_cut 204 = .ok (.ifCond .ge 7, 3) := by decide +kernel
theorem dX7_cut_207 : decode cX7_cut 207 = .ok (.iconst (-1), 1) := by decide +kernel
theorem dX7_cut_208 : decode cX7_cut 208 = .ok (.goto 10, 3) := by decide +kernel
theorem dX7_cut_211 : decode cX7_cut 211 = .ok (.aload_n 0, 1) := by decide +kernel
theorem dX7_cut_212 : decode cX7_cut 212 = .ok (.getfield 71, 3) := by decide +kernel
theorem dX7_cut_215 : decode cX7_cut 215 = .ok (.iload 4, 2) := by decide +kernel
theorem dX7_cut_217 : decode cX7_cut 217 = .ok (.iaload, 1) := by decide +kernel
theorem dX7_cut_218 : decode cX7_cut 218 = .ok (.iastore, 1) := by decide +kernel
theorem dX7_cut_219 : decode cX7_cut 219 = .ok (.iinc 3 1, 3) := by decide +kernel
theorem dX7_cut_222 : decode cX7_cut 222 = .ok (.goto (-49), 3) := by decide +kernel
theorem dX7_cut_225 : decode cX7_cut 225 = .ok (.iconst 0, 1) := by decide +kernel
theorem dX7_cut_226 : decode cX7_cut 226 = .ok (.istore_n 3, 1) := by decide +kernel
theorem dX7_cut_227 : decode cX7_cut 227 = .ok (.iload_n 3, 1) := by decide +kernel
theorem dX7_cut_228 : decode cX7_cut 228 = .ok (.iload_n 1, 1) := by decide +kernel
theorem dX7_cut_229 : decode cX7_cut 229 = .ok (.if_icmp .ge 44, 3) := by decide +kernel
theorem dX7_cut_232 : decode cX7_cut 232 = .ok (.aload_n 0, 1) := by decide +kernel
theorem dX7_cut_233 : decode cX7_cut 233 = .ok (.getfield 77, 3) := by decide +kernel
theorem dX7_cut_236 : decode cX7_cut 236 = .ok (.iload_n 3, 1) := by decide +kernel
theorem dX7_cut_237 : decode cX7_cut 237 = .ok (.iconst 0, 1) := by decide +kernel
theorem dX7_cut_238 : decode cX7_cut 238 = .ok (.iastore, 1) := by decide +kernel
theorem dX7_cut_239 : decode cX7_cut 239 = .ok (.aload_n 0, 1) := by decide +kernel
theorem dX7_cut_240 : decode cX7_cut 240 = .ok (.getfield 80, 3) := by decide +kernel
theorem dX7_cut_243 : decode cX7_cut 243 = .ok (.iload_n 3, 1) := by decide +kernel
theorem dX7_cut_244 : decode cX7_cut 244 = .ok (.iconst 0, 1) := by decide +kernel
theorem dX7_cut_245 : decode cX7_cut 245 = .ok (.iastore, 1) := by decide +kernel
theorem dX7_cut_246 : decode cX7_cut 246 = .ok (.aload_n 0, 1) := by decide +kernel
theorem dX7_cut_247 : decode cX7_cut 247 = .ok (.getfield 83, 3) := by decide +kernel
theorem dX7_cut_250 : decode cX7_cut 250 = .ok (.iload_n 3, 1) := by decide +kernel
theorem dX7_cut_251 : decode cX7_cut 251 = .ok (.iconst 0, 1) := by decide +kernel
theorem dX7_cut_252 : decode cX7_cut 252 = .ok (.iastore, 1) := by decide +kernel
theorem dX7_cut_253 : decode cX7_cut 253 = .ok (.aload_n 0, 1) := by decide +kernel
theorem dX7_cut_254 : decode cX7_cut 254 = .ok (.getfield 86, 3) := by decide +kernel
theorem dX7_cut_257 : decode cX7_cut 257 = .ok (.iload_n 3, 1) := by decide +kernel
theorem dX7_cut_258 : decode cX7_cut 258 = .ok (.iconst 0, 1) := by decide +kernel
theorem dX7_cut_259 : decode cX7_cut 259 = .ok (.bastore, 1) := by decide +kernel
theorem dX7_cut_260 : decode cX7_cut 260 = .ok (.aload_n 0, 1) := by decide +kernel
theorem dX7_cut_261 : decode cX7_cut 261 = .ok (.getfield 89, 3) := by decide +kernel
theorem dX7_cut_264 : decode cX7_cut 264 = .ok (.iload_n 3, 1) := by decide +kernel
theorem dX7_cut_265 : decode cX7_cut 265 = .ok (.iload_n 3, 1) := by decide +kernel
theorem dX7_cut_266 : decode cX7_cut 266 = .ok (.iastore, 1) := by decide +kernel
theorem dX7_cut_267 : decode cX7_cut 267 = .ok (.iinc 3 1, 3) := by decide +kernel
theorem dX7_cut_270 : decode cX7_cut 270 = .ok (.goto (-43), 3) := by decide +kernel
theorem dX7_cut_273 : decode cX7_cut 273 = .ok (.aload_n 0, 1) := by decide +kernel
theorem dX7_cut_274 : decode cX7_cut 274 = .ok (.getfield 31, 3) := by decide +kernel
theorem dX7_cut_277 : decode cX7_cut 277 = .ok (.ifCond .ne 7, 3) := by decide +kernel
theorem dX7_cut_280 : decode cX7_cut 280 = .ok (.iconst 0, 1) := by decide +kernel
theorem dX7_cut_281 : decode cX7_cut 281 = .ok (.goto 26, 3) := by decide +kernel
theorem dX7_cut_284 : decode cX7_cut 284 = .ok (.aload_n 0, 1) := by decide +kernel
theorem dX7_cut_285 : decode cX7_cut 285 = .ok (.getfield 37, 3) := by decide +kernel
theorem dX7_cut_288 : decode cX7_cut 288 = .ok (.aload_n 0, 1) := by decide +kernel
theorem dX7_cut_289 : decode cX7_cut 289 = .ok (.getfield 31, 3) := by decide +kernel
theorem dX7_cut_292 : decode cX7_cut 292 = .ok (.iconst 1, 1) := by decide +kernel
theorem dX7_cut_293 : decode cX7_cut 293 = .ok (.isub, 1) := by decide +kernel
theorem dX7_cut_294 : decode cX7_cut 294 = .ok (.iaload, 1) := by decide +kernel
theorem dX7_cut_295 : decode cX7_cut 295 = .ok (.aload_n 0, 1) := by decide +kernel
theorem dX7_cut_296 : decode cX7_cut 296 = .ok (.getfield 40, 3) := by decide +kernel
theorem dX7_cut_299 : decode cX7_cut 299 = .ok (.aload_n 0, 1) := by decide +kernel
theorem dX7_cut_300 : decode cX7_cut 300 = .ok (.getfield 31, 3) := by decide +kernel
theorem dX7_cut_303 : decode cX7_cut 303 = .ok (.iconst 1, 1) := by decide +kernel
theorem dX7_cut_304 : decode cX7_cut 304 = .ok (.isub, 1) := by decide +kernel
theorem dX7_cut_305 : decode cX7_cut 305 = .ok (.iaload, 1) := by decide +kernel
theorem dX7_cut_306 : decode cX7_cut 306 = .ok (.iadd, 1) := by decide +kernel
theorem dX7_cut_307 : decode cX7_cut 307 = .ok (.istore_n 3, 1) := by decide +kernel
theorem dX7_cut_308 : decode cX7_cut 308 = .ok (.iconst 0, 1) := by decide +kernel
theorem dX7_cut_309 : decode cX7_cut 309 = .ok (.istore 4, 2) := by decide +kernel
theorem dX7_cut_311 : decode cX7_cut 311 = .ok (.iload 4, 2) := by decide +kernel
theorem dX7_cut_313 : decode cX7_cut 313 = .ok (.iload_n 3, 1) := by decide +kernel
theorem dX7_cut_314 : decode cX7_cut 314 = .ok (.if_icmp .ge 55, 3) := by decide +kernel
theorem dX7_cut_317 : decode cX7_cut 317 = .ok (.iconst 0, 1) := by decide +kernel
theorem dX7_cut_318 : decode cX7_cut 318 = .ok (.istore 5, 2) := by decide +kernel
theorem dX7_cut_320 : decode cX7_cut 320 = .ok (.iload 5, 2) := by decide +kernel
theorem dX7_cut_322 : decode cX7_cut 322 = .ok (.iload_n 1, 1) := by decide +kernel
theorem dX7_cut_323 : decode cX7_cut 323 = .ok (.if_icmp .ge 40, 3) := by decide +kernel
theorem dX7_cut_326 : decode cX7_cut 326 = .ok (.aload_n 0, 1) := by decide +kernel
theorem dX7_cut_327 : decode cX7_cut 327 = .ok (.getfield 77, 3) := by decide +kernel
theorem dX7_cut_330 : decode cX7_cut 330 = .ok (.iload 5, 2) := by decide +kernel
theorem dX7_cut_332 : decode cX7_cut 332 = .ok (.dup2, 1) := by decide +kernel
theorem dX7_cut_333 : decode cX7_cut 333 = .ok (.iaload, 1) := by decide +kernel
theorem dX7_cut_334 : decode cX7_cut 334 = .ok (.aload_n 0, 1) := by decide +kernel
theorem dX7_cut_335 : decode cX7_cut 335 = .ok (.aload_n 0, 1) := by decide +kernel
theorem dX7_cut_336 : decode cX7_cut 336 = .ok (.getfield 44, 3) := by decide +kernel
theorem dX7_cut_339 : decode cX7_cut 339 = .ok (.iload 4, 2) := by decide +kernel
theorem dX7_cut_341 : decode cX7_cut 341 = .ok (.iaload, 1) := by decide +kernel
theorem dX7_cut_342 : decode cX7_cut 342 = .ok (.iload 5, 2) := by decide +kernel
theorem dX7_cut_344 : decode cX7_cut 344 = .ok (.invokevirtual 142, 3) := by decide +kernel
theorem dX7_cut_347 : decode cX7_cut 347 = .ok (.ifCond .eq 7, 3) := by decide +kernel
theorem dX7_cut_350 : decode cX7_cut 350 = .ok (.iconst 1, 1) := by decide +kernel
theorem dX7_cut_351 : decode cX7_cut 351 = .ok (.goto 4, 3) := by decide +kernel
theorem dX7_cut_354 : decode cX7_cut 354 = .ok (.iconst 0, 1) := by decide +kernel
theorem dX7_cut_355 : decode cX7_cut 355 = .ok (.iadd, 1) := by decide +kernel
theorem dX7_cut_356 : decode cX7_cut 356 = .ok (.iastore, 1) := by decide +kernel
theorem dX7_cut_357 : decode cX7_cut 357 = .ok (.iinc 5 1, 3) := by decide +kernel
theorem dX7_cut_360 : decode cX7_cut 360 = .ok (.goto (-40), 3) := by decide +kernel
theorem dX7_cut_363 : decode cX7_cut 363 = .ok (.iinc 4 1, 3) := by decide +kernel
theorem dX7_cut_366 : decode cX7_cut 366 = .ok (.goto (-55), 3) := by decide +kernel
theorem dX7_cut_369 : decode cX7_cut 369 = .ok (.aload_n 0, 1) := by decide +kernel
theorem dX7_cut_370 : decode cX7_cut 370 = .ok (.iconst 0, 1) := by decide +kernel
theorem dX7_cut_371 : decode cX7_cut 371 = .ok (.putfield 92, 3) := by decide +kernel
theorem dX7_cut_374 : decode cX7_cut 374 = .ok (.aload_n 0, 1) := by decide +kernel
theorem dX7_cut_375 : decode cX7_cut 375 = .ok (.iconst 0, 1) := by decide +kernel
theorem dX7_cut_376 : decode cX7_cut 376 = .ok (.putfield 95, 3) := by decide +kernel
theorem dX7_cut_379 : decode cX7_cut 379 = .ok (.aload_n 0, 1) := by decide +kernel
theorem dX7_cut_380 : decode cX7_cut 380 = .ok (.iconst 0, 1) := by decide +kernel
theorem dX7_cut_381 : decode cX7_cut 381 = .ok (.putfield 98, 3) := by decide +kernel
theorem dX7_cut_384 : decode cX7_cut 384 = .ok (.iconst 0, 1) := by decide +kernel
theorem dX7_cut_385 : decode cX7_cut 385 = .ok (.istore 4, 2) := by decide +kernel
theorem dX7_cut_387 : decode cX7_cut 387 = .ok (.iload 4, 2) := by decide +kernel
theorem dX7_cut_389 : decode cX7_cut 389 = .ok (.bipush 8, 2) := by decide +kernel
theorem dX7_cut_391 : decode cX7_cut 391 = .ok (.if_icmp .ge 17, 3) := by decide +kernel
theorem dX7_cut_394 : decode cX7_cut 394 = .ok (.aload_n 0, 1) := by decide +kernel
theorem dX7_cut_395 : decode cX7_cut 395 = .ok (.getfield 107, 3) := by decide +kernel
theorem dX7_cut_398 : decode cX7_cut 398 = .ok (.iload 4, 2) := by decide +kernel
theorem dX7_cut_400 : decode cX7_cut 400 = .ok (.iconst 0, 1) := by decide +kernel
theorem dX7_cut_401 : decode cX7_cut 401 = .ok (.iastore, 1) := by decide +kernel
theorem dX7_cut_402 : decode cX7_cut 402 = .ok (.iinc 4 1, 3) := by decide +kernel
theorem dX7_cut_405 : decode cX7_cut 405 = .ok (.goto (-18), 3) := by decide +kernel
theorem dX7_cut_408 : decode cX7_cut 408 = .ok (.iconst 0, 1) := by decide +kernel
theorem dX7_cut_409 : decode cX7_cut 409 = .ok (.istore 4, 2) := by decide +kernel
theorem dX7_cut_411 : decode cX7_cut 411 = .ok (.iload 4, 2) := by decide +kernel
theorem dX7_cut_413 : decode cX7_cut 413 = .ok (.bipush 8, 2) := by decide +kernel
theorem dX7_cut_415 : decode cX7_cut 415 = .ok (.if_icmp .ge 26, 3) := by decide +kernel
theorem dX7_cut_418 : decode cX7_cut 418 = .ok (.aload_n 0, 1) := by decide +kernel
theorem dX7_cut_419 : decode cX7_cut 419 = .ok (.getfield 104, 3) := by decide +kernel
theorem dX7_cut_422 : decode cX7_cut 422 = .ok (.iload 4, 2) := by decide +kernel
theorem dX7_cut_424 : decode cX7_cut 424 = .ok (.baload, 1) := by decide +kernel
theorem dX7_cut_425 : decode cX7_cut 425 = .ok (.ifCond .ne 10, 3) := by decide +kernel
theorem dX7_cut_428 : decode cX7_cut 428 = .ok (.aload_n 0, 1) := by decide +kernel
theorem dX7_cut_429 : decode cX7_cut 429 = .ok (.iload 4, 2) := by decide +kernel
theorem dX7_cut_431 : decode cX7_cut 431 = .ok (.invokevirtual 145, 3) := by decide +kernel
theorem dX7_cut_434 : decode cX7_cut 434 = .ok (.pop, 1) := by decide +kernel
theorem dX7_cut_435 : decode cX7_cut 435 = .ok (.iinc 4 1, 3) := by decide +kernel
theorem dX7_cut_438 : decode cX7_cut 438 = .ok (.goto (-27), 3) := by decide +kernel
theorem dX7_cut_441 : decode cX7_cut 441 = .ok (.aload_n 0, 1) := by decide +kernel
theorem dX7_cut_442 : decode cX7_cut 442 = .ok (.getfield 68, 3) := by decide +kernel
theorem dX7_cut_445 : decode cX7_cut 445 = .ok (.ireturn, 1) := by decide +kernel
theorem dX7_bound_0 : decode cX7_bound 0 = .ok (.aload_n 0, 1) := by decide +kernel
theorem dX7_bound_1 : decode cX7_bound 1 = .ok (.getfield 62, 3) := by decide +kernel
theorem dX7_bound_4 : decode cX7_bound 4 = .ok (.ifCond .ne 7, 3) := by decide +kernel
theorem dX7_bound_7 : decode cX7_bound 7 = .ok (.iconst (-1), 1) := by decide +kernel
theorem dX7_bound_8 : decode cX7_bound 8 = .ok (.goto 36, 3) := by decide +kernel
theorem dX7_bound_11 : decode cX7_bound 11 = .ok (.aload_n 0, 1) := by decide +kernel
theorem dX7_bound_12 : decode cX7_bound 12 = .ok (.getfield 65, 3) := by decide +kernel
theorem dX7_bound_15 : decode cX7_bound 15 = .ok (.aload_n 0, 1) := by decide +kernel
theorem dX7_bound_16 : decode cX7_bound 16 = .ok (.getfield 68, 3) := by decide +kernel
theorem dX7_bound_19 : decode cX7_bound 19 = .ok (.aload_n 0, 1) := by decide +kernel
theorem dX7_bound_20 : decode cX7_bound 20 = .ok (.getfield 62, 3) := by decide +kernel
theorem dX7_bound_23 : decode cX7_bound 23 = .ok (.iadd, 1) := by decide +kernel
theorem dX7_bound_24 : decode cX7_bound 24 = .ok (.iconst 1, 1) := by decide +kernel
theorem dX7_bound_25 : decode cX7_bound 25 = .ok (.isub, 1) := by decide +kernel
theorem dX7_bound_26 : decode cX7_bound 26 = .ok (.aload_n 0, 1) := by decide +kernel
theorem dX7_bound_27 : decode cX7_bound 27 = .ok (.getfield 62, 3) := by decide +kernel
theorem dX7_bound_30 : decode cX7_bound 30 = .ok (.idiv, 1) := by decide +kernel
theorem dX7_bound_31 : decode cX7_bound 31 = .ok (.imul, 1) := by decide +kernel
theorem dX7_bound_32 : decode cX7_bound 32 = .ok (.aload_n 0, 1) := by decide +kernel
theorem dX7_bound_33 : decode cX7_bound 33 = .ok (.getfield 65, 3) := by decide +kernel
theorem dX7_bound_36 : decode cX7_bound 36 = .ok (.iconst 1, 1) := by decide +kernel
theorem dX7_bound_37 : decode cX7_bound 37 = .ok (.isub, 1) := by decide +kernel
theorem dX7_bound_38 : decode cX7_bound 38 = .ok (.aload_n 0, 1) := by decide +kernel
theorem dX7_bound_39 : decode cX7_bound 39 = .ok (.getfield 31, 3) := by decide +kernel
theorem dX7_bound_42 : decode cX7_bound 42 = .ok (.imul, 1) := by decide +kernel
theorem dX7_bound_43 : decode cX7_bound 43 = .ok (.iadd, 1) := by decide +kernel
theorem dX7_bound_44 : decode cX7_bound 44 = .ok (.ireturn, 1) := by decide +kernel
theorem dX7_part_0 : decode cX7_part 0 = .ok (.iload_n 1, 1) := by decide +kernel
theorem dX7_part_1 : decode cX7_part 1 = .ok (.ifCond .lt 11, 3) := by decide +kernel
theorem dX7_part_4 : decode cX7_part 4 = .ok (.iload_n 1, 1) := by decide +kernel
theorem dX7_part_5 : decode cX7_part 5 = .ok (.aload_n 0, 1) := by decide +kernel
theorem dX7_part_6 : decode cX7_part 6 = .ok (.getfield 62, 3) := by decide +kernel
theorem dX7_part_9 : decode cX7_part 9 = .ok (.if_icmp .lt 6, 3) := by decide +kernel
theorem dX7_part_12 : decode cX7_part 12 = .ok (.bipush (-2), 2) := by decide +kernel
theorem dX7_part_14 : decode cX7_part 14 = .ok (.ireturn, 1) := by decide +kernel
theorem dX7_part_15 : decode cX7_part 15 = .ok (.iload_n 2, 1) := by decide +kernel
theorem dX7_part_16 : decode cX7_part 16 = .ok (.tableswitch 60 0 3 #[32, 39, 46, 53], 32) := by decide +kernel
theorem dX7_part_48 : decode cX7_part 48 = .ok (.aload_n 0, 1) := by decide +kernel
theorem dX7_part_49 : decode cX7_part 49 = .ok (.getfield 77, 3) := by decide +kernel
theorem dX7_part_52 : decode cX7_part 52 = .ok (.iload_n 1, 1) := by decide +kernel
theorem dX7_part_53 : decode cX7_part 53 = .ok (.iaload, 1) := by decide +kernel
theorem dX7_part_54 : decode cX7_part 54 = .ok (.ireturn, 1) := by decide +kernel
theorem dX7_part_55 : decode cX7_part 55 = .ok (.aload_n 0, 1) := by decide +kernel
theorem dX7_part_56 : decode cX7_part 56 = .ok (.getfield 80, 3) := by decide +kernel
theorem dX7_part_59 : decode cX7_part 59 = .ok (.iload_n 1, 1) := by decide +kernel
theorem dX7_part_60 : decode cX7_part 60 = .ok (.iaload, 1) := by decide +kernel
theorem dX7_part_61 : decode cX7_part 61 = .ok (.ireturn, 1) := by decide +kernel
theorem dX7_part_62 : decode cX7_part 62 = .ok (.aload_n 0, 1) := by decide +kernel
theorem dX7_part_63 : decode cX7_part 63 = .ok (.getfield 89, 3) := by decide +kernel
theorem dX7_part_66 : decode cX7_part 66 = .ok (.iload_n 1, 1) := by decide +kernel
theorem dX7_part_67 : decode cX7_part 67 = .ok (.iaload, 1) := by decide +kernel
theorem dX7_part_68 : decode cX7_part 68 = .ok (.ireturn, 1) := by decide +kernel
theorem dX7_part_69 : decode cX7_part 69 = .ok (.aload_n 0, 1) := by decide +kernel
theorem dX7_part_70 : decode cX7_part 70 = .ok (.getfield 74, 3) := by decide +kernel
theorem dX7_part_73 : decode cX7_part 73 = .ok (.iload_n 1, 1) := by decide +kernel
theorem dX7_part_74 : decode cX7_part 74 = .ok (.iaload, 1) := by decide +kernel
theorem dX7_part_75 : decode cX7_part 75 = .ok (.ireturn, 1) := by decide +kernel
theorem dX7_part_76 : decode cX7_part 76 = .ok (.bipush (-2), 2) := by decide +kernel
theorem dX7_part_78 : decode cX7_part 78 = .ok (.ireturn, 1) := by decide +kernel
theorem dX7_isHost_0 : decode cX7_isHost 0 = .ok (.iload_n 0, 1) := by decide +kernel
theorem dX7_isHost_1 : decode cX7_isHost 1 = .ok (.ifCond .lt 13, 3) := by decide +kernel
theorem dX7_isHost_4 : decode cX7_isHost 4 = .ok (.iload_n 0, 1) := by decide +kernel
theorem dX7_isHost_5 : decode cX7_isHost 5 = .ok (.bipush 8, 2) := by decide +kernel
theorem dX7_isHost_7 : decode cX7_isHost 7 = .ok (.if_icmp .ge 7, 3) := by decide +kernel
theorem dX7_isHost_10 : decode cX7_isHost 10 = .ok (.iconst 1, 1) := by decide +kernel
theorem dX7_isHost_11 : decode cX7_isHost 11 = .ok (.goto 4, 3) := by decide +kernel
theorem dX7_isHost_14 : decode cX7_isHost 14 = .ok (.iconst 0, 1) := by decide +kernel
theorem dX7_isHost_15 : decode cX7_isHost 15 = .ok (.ireturn, 1) := by decide +kernel
set_option maxRecDepth 20000 in
theorem ggX7_pace_X7_isHost : GoodIn wsX7_pace wsX7_isHost := goodIn_r _ [5] (by decide +kernel) (by decide +kernel)
set_option maxRecDepth 20000 in
theorem gX7_pace_X7_isHost : GoodIn wsX7_pace (va_wsS RX7 149 yX7_isHost wsX7_isHost) := goodIn_app (goodIn_of _ (by decide +kernel)) ggX7_pace_X7_isHost
set_option maxRecDepth 20000 in
theorem ggX7_pace_X7_is : GoodIn wsX7_pace wsX7_is := goodIn_r _ [8] (by decide +kernel) (by decide +kernel)
set_option maxRecDepth 20000 in
theorem gX7_pace_X7_is : GoodIn wsX7_pace (va_wsS RX7 122 yX7_is wsX7_is) := goodIn_app (goodIn_of _ (by decide +kernel)) ggX7_pace_X7_is
theorem dX7_pace_0 : decode cX7_pace 0 = .ok (.iload_n 1, 1) := by decide +kernel
theorem dX7_pace_1 : decode cX7_pace 1 = .ok (.invokestatic 149, 3) := by decide +kernel
theorem dX7_pace_4 : decode cX7_pace 4 = .ok (.ifCond .eq 13, 3) := by decide +kernel
theorem dX7_pace_7 : decode cX7_pace 7 = .ok (.iload_n 2, 1) := by decide +kernel
theorem dX7_pace_8 : decode cX7_pace 8 = .ok (.iconst 0, 1) := by decide +kernel
theorem dX7_pace_9 : decode cX7_pace 9 = .ok (.bipush 50, 2) := by decide +kernel
theorem dX7_pace_11 : decode cX7_pace 11 = .ok (.invokestatic 122, 3) := by decide +kernel
theorem dX7_pace_14 : decode cX7_pace 14 = .ok (.ifCond .ne 5, 3) := by decide +kernel
theorem dX7_pace_17 : decode cX7_pace 17 = .ok (.iconst 0, 1) := by decide +kernel
theorem dX7_pace_18 : decode cX7_pace 18 = .ok (.ireturn, 1) := by decide +kernel
theorem dX7_pace_19 : decode cX7_pace 19 = .ok (.aload_n 0, 1) := by decide +kernel
theorem dX7_pace_20 : decode cX7_pace 20 = .ok (.getfield 101, 3) := by decide +kernel
theorem dX7_pace_23 : decode cX7_pace 23 = .ok (.iload_n 1, 1) := by decide +kernel
theorem dX7_pace_24 : decode cX7_pace 24 = .ok (.iload_n 2, 1) := by decide +kernel
theorem dX7_pace_25 : decode cX7_pace 25 = .ok (.iastore, 1) := by decide +kernel
theorem dX7_pace_26 : decode cX7_pace 26 = .ok (.iconst 1, 1) := by decide +kernel
theorem dX7_pace_27 : decode cX7_pace 27 = .ok (.ireturn, 1) := by decide +kernel
theorem dX7_left_0 : decode cX7_left 0 = .ok (.iconst 0, 1) := by decide +kernel
theorem dX7_left_1 : decode cX7_left 1 = .ok (.istore_n 2, 1) := by decide +kernel
theorem dX7_left_2 : decode cX7_left 2 = .ok (.iconst 0, 1) := by decide +kernel
theorem dX7_left_3 : decode cX7_left 3 = .ok (.istore_n 3, 1) := by decide +kernel
theorem dX7_left_4 : decode cX7_left 4 = .ok (.iload_n 3, 1) := by decide +kernel
theorem dX7_left_5 : decode cX7_left 5 = .ok (.aload_n 0, 1) := by decide +kernel
theorem dX7_left_6 : decode cX7_left 6 = .ok (.getfield 62, 3) := by decide +kernel
theorem dX7_left_9 : decode cX7_left 9 = .ok (.if_icmp .ge 39, 3) := by decide +kernel
theorem dX7_left_12 : decode cX7_left 12 = .ok (.iload_n 2, 1) := by decide +kernel
theorem dX7_left_13 : decode cX7_left 13 = .ok (.aload_n 0, 1) := by decide +kernel
theorem dX7_left_14 : decode cX7_left 14 = .ok (.getfield 89, 3) := by decide +kernel
theorem dX7_left_17 : decode cX7_left 17 = .ok (.iload_n 3, 1) := by decide +kernel
theorem dX7_left_18 : decode cX7_left 18 = .ok (.iaload, 1) := by decide +kernel
theorem dX7_left_19 : decode cX7_left 19 = .ok (.iload_n 1, 1) := by decide +kernel
theorem dX7_left_20 : decode cX7_left 20 = .ok (.if_icmp .ne 19, 3) := by decide +kernel
theorem dX7_left_23 : decode cX7_left 23 = .ok (.aload_n 0, 1) := by decide +kernel
theorem dX7_left_24 : decode cX7_left 24 = .ok (.getfield 77, 3) := by decide +kernel
theorem dX7_left_27 : decode cX7_left 27 = .ok (.iload_n 3, 1) := by decide +kernel
theorem dX7_left_28 : decode cX7_left 28 = .ok (.iaload, 1) := by decide +kernel
theorem dX7_left_29 : decode cX7_left 29 = .ok (.aload_n 0, 1) := by decide +kernel
theorem dX7_left_30 : decode cX7_left 30 = .ok (.getfield 80, 3) := by decide +kernel
theorem dX7_left_33 : decode cX7_left 33 = .ok (.iload_n 3, 1) := by decide +kernel
theorem dX7_left_34 : decode cX7_left 34 = .ok (.iaload, 1) := by decide +kernel
theorem dX7_left_35 : decode cX7_left 35 = .ok (.isub, 1) := by decide +kernel
theorem dX7_left_36 : decode cX7_left 36 = .ok (.goto 4, 3) := by decide +kernel
theorem dX7_left_39 : decode cX7_left 39 = .ok (.iconst 0, 1) := by decide +kernel
theorem dX7_left_40 : decode cX7_left 40 = .ok (.iadd, 1) := by decide +kernel
theorem dX7_left_41 : decode cX7_left 41 = .ok (.istore_n 2, 1) := by decide +kernel
theorem dX7_left_42 : decode cX7_left 42 = .ok (.iinc 3 1, 3) := by decide +kernel
theorem dX7_left_45 : decode cX7_left 45 = .ok (.goto (-41), 3) := by decide +kernel
theorem dX7_left_48 : decode cX7_left 48 = .ok (.iload_n 2, 1) := by decide +kernel
theorem dX7_left_49 : decode cX7_left 49 = .ok (.ireturn, 1) := by decide +kernel
set_option maxRecDepth 20000 in
theorem ggX7_leaves_X7_left : GoodIn wsX7_leaves wsX7_left := goodIn_r _ [10, 1, 2, 11, 3, 12, 13, 14, 15, 16, 17, 18, 19, 20, 21, 22, 23, 24, 25, 26, 27, 28, 29, 30, 31, 32, 33, 34, 35, 36, 37, 38, 39, 40, 41, 42, 43, 44, 45, 46, 47] (by decide +kernel) (by decide +kernel)
set_option maxRecDepth 20000 in
theorem gX7_leaves_X7_left : GoodIn wsX7_leaves (wsV RX7 152 RX7 yX7_left wsX7_left) := goodIn_app (goodIn_of _ (by decide +kernel)) ggX7_leaves_X7_left
theorem dX7_leaves_0 : decode cX7_leaves 0 = .ok (.iconst 0, 1) := by decide +kernel
theorem dX7_leaves_1 : decode cX7_leaves 1 = .ok (.istore_n 2, 1) := by decide +kernel
theorem dX7_leaves_2 : decode cX7_leaves 2 = .ok (.iconst 0, 1) := by decide +kernel
theorem dX7_leaves_3 : decode cX7_leaves 3 = .ok (.istore_n 3, 1) := by decide +kernel
theorem dX7_leaves_4 : decode cX7_leaves 4 = .ok (.iload_n 3, 1) := by decide +kernel
theorem dX7_leaves_5 : decode cX7_leaves 5 = .ok (.aload_n 0, 1) := by decide +kernel
theorem dX7_leaves_6 : decode cX7_leaves 6 = .ok (.getfield 62, 3) := by decide +kernel
theorem dX7_leaves_9 : decode cX7_leaves 9 = .ok (.if_icmp .ge 108, 3) := by decide +kernel
theorem dX7_leaves_12 : decode cX7_leaves 12 = .ok (.aload_n 0, 1) := by decide +kernel
theorem dX7_leaves_13 : decode cX7_leaves 13 = .ok (.getfield 89, 3) := by decide +kernel
theorem dX7_leaves_16 : decode cX7_leaves 16 = .ok (.iload_n 3, 1) := by decide +kernel
theorem dX7_leaves_17 : decode cX7_leaves 17 = .ok (.iaload, 1) := by decide +kernel
theorem dX7_leaves_18 : decode cX7_leaves 18 = .ok (.iload_n 1, 1) := by decide +kernel
theorem dX7_leaves_19 : decode cX7_leaves 19 = .ok (.if_icmp .eq 6, 3) := by decide +kernel
theorem dX7_leaves_22 : decode cX7_leaves 22 = .ok (.goto 89, 3) := by decide +kernel
theorem dX7_leaves_25 : decode cX7_leaves 25 = .ok (.iinc 2 1, 3) := by decide +kernel
theorem dX7_leaves_28 : decode cX7_leaves 28 = .ok (.aload_n 0, 1) := by decide +kernel
theorem dX7_leaves_29 : decode cX7_leaves 29 = .ok (.getfield 80, 3) := by decide +kernel
theorem dX7_leaves_32 : decode cX7_leaves 32 = .ok (.iload_n 3, 1) := by decide +kernel
theorem dX7_leaves_33 : decode cX7_leaves 33 = .ok (.iconst 0, 1) := by decide +kernel
theorem dX7_leaves_34 : decode cX7_leaves 34 = .ok (.iastore, 1) := by decide +kernel
theorem dX7_leaves_35 : decode cX7_leaves 35 = .ok (.aload_n 0, 1) := by decide +kernel
theorem dX7_leaves_36 : decode cX7_leaves 36 = .ok (.getfield 86, 3) := by decide +kernel
theorem dX7_leaves_39 : decode cX7_leaves 39 = .ok (.iload_n 3, 1) := by decide +kernel
theorem dX7_leaves_40 : decode cX7_leaves 40 = .ok (.iconst 0, 1) := by decide +kernel
theorem dX7_leaves_41 : decode cX7_leaves 41 = .ok (.bastore, 1) := by decide +kernel
theorem dX7_leaves_42 : decode cX7_leaves 42 = .ok (.aload_n 0, 1) := by decide +kernel
theorem dX7_leaves_43 : decode cX7_leaves 43 = .ok (.getfield 89, 3) := by decide +kernel
theorem dX7_leaves_46 : decode cX7_leaves 46 = .ok (.iload_n 3, 1) := by decide +kernel
theorem dX7_leaves_47 : decode cX7_leaves 47 = .ok (.iconst (-1), 1) := by decide +kernel
theorem dX7_leaves_48 : decode cX7_leaves 48 = .ok (.iastore, 1) := by decide +kernel
theorem dX7_leaves_49 : decode cX7_leaves 49 = .ok (.iconst (-1), 1) := by decide +kernel
theorem dX7_leaves_50 : decode cX7_leaves 50 = .ok (.istore 4, 2) := by decide +kernel
theorem dX7_leaves_52 : decode cX7_leaves 52 = .ok (.iconst 0, 1) := by decide +kernel
theorem dX7_leaves_53 : decode cX7_leaves 53 = .ok (.istore 5, 2) := by decide +kernel
theorem dX7_leaves_55 : decode cX7_leaves 55 = .ok (.iload 5, 2) := by decide +kernel
theorem dX7_leaves_57 : decode cX7_leaves 57 = .ok (.bipush 8, 2) := by decide +kernel
theorem dX7_leaves_59 : decode cX7_leaves 59 = .ok (.if_icmp .ge 44, 3) := by decide +kernel
theorem dX7_leaves_62 : decode cX7_leaves 62 = .ok (.aload_n 0, 1) := by decide +kernel
theorem dX7_leaves_63 : decode cX7_leaves 63 = .ok (.getfield 104, 3) := by decide +kernel
theorem dX7_leaves_66 : decode cX7_leaves 66 = .ok (.iload 5, 2) := by decide +kernel
theorem dX7_leaves_68 : decode cX7_leaves 68 = .ok (.baload, 1) := by decide +kernel
theorem dX7_leaves_69 : decode cX7_leaves 69 = .ok (.ifCond .eq 28, 3) := by decide +kernel
theorem dX7_leaves_72 : decode cX7_leaves 72 = .ok (.iload 4, 2) := by decide +kernel
theorem dX7_leaves_74 : decode cX7_leaves 74 = .ok (.iconst (-1), 1) := by decide +kernel
theorem dX7_leaves_75 : decode cX7_leaves 75 = .ok (.if_icmp .eq 18, 3) := by decide +kernel
theorem dX7_leaves_78 : decode cX7_leaves 78 = .ok (.aload_n 0, 1) := by decide +kernel
theorem dX7_leaves_79 : decode cX7_leaves 79 = .ok (.iload 5, 2) := by decide +kernel
theorem dX7_leaves_81 : decode cX7_leaves 81 = .ok (.invokevirtual 152, 3) := by decide +kernel
theorem dX7_leaves_84 : decode cX7_leaves 84 = .ok (.aload_n 0, 1) := by decide +kernel
theorem dX7_leaves_85 : decode cX7_leaves 85 = .ok (.iload 4, 2) := by decide +kernel
theorem dX7_leaves_87 : decode cX7_leaves 87 = .ok (.invokevirtual 152, 3) := by decide +kernel
theorem dX7_leaves_90 : decode cX7_leaves 90 = .ok (.if_icmp .ge 7, 3) := by decide +kernel
theorem dX7_leaves_93 : decode cX7_leaves 93 = .ok (.iload 5, 2) := by decide +kernel
theorem dX7_leaves_95 : decode cX7_leaves 95 = .ok (.istore 4, 2) := by decide +kernel
theorem dX7_leaves_97 : decode cX7_leaves 97 = .ok (.iinc 5 1, 3) := by decide +kernel
theorem dX7_leaves_100 : decode cX7_leaves 100 = .ok (.goto (-45), 3) := by decide +kernel
theorem dX7_leaves_103 : decode cX7_leaves 103 = .ok (.aload_n 0, 1) := by decide +kernel
theorem dX7_leaves_104 : decode cX7_leaves 104 = .ok (.getfield 89, 3) := by decide +kernel
theorem dX7_leaves_107 : decode cX7_leaves 107 = .ok (.iload_n 3, 1) := by decide +kernel
theorem dX7_leaves_108 : decode cX7_leaves 108 = .ok (.iload 4, 2) := by decide +kernel
theorem dX7_leaves_110 : decode cX7_leaves 110 = .ok (.iastore, 1) := by decide +kernel
theorem dX7_leaves_111 : decode cX7_leaves 111 = .ok (.iinc 3 1, 3) := by decide +kernel
theorem dX7_leaves_114 : decode cX7_leaves 114 = .ok (.goto (-110), 3) := by decide +kernel
theorem dX7_leaves_117 : decode cX7_leaves 117 = .ok (.iload_n 2, 1) := by decide +kernel
theorem dX7_leaves_118 : decode cX7_leaves 118 = .ok (.ireturn, 1) := by decide +kernel
set_option maxRecDepth 20000 in
theorem ggX7_fall_X7_isHost : GoodIn wsX7_fall wsX7_isHost := goodIn_r _ [5] (by decide +kernel) (by decide +kernel)
set_option maxRecDepth 20000 in
theorem gX7_fall_X7_isHost : GoodIn wsX7_fall (va_wsS RX7 149 yX7_isHost wsX7_isHost) := goodIn_app (goodIn_of _ (by decide +kernel)) ggX7_fall_X7_isHost
set_option maxRecDepth 20000 in
theorem ggX7_fall_X7_leaves : GoodIn wsX7_fall wsX7_leaves := goodIn_r _ [9, 10, 11, 12, 13, 1, 14, 15, 16, 4, 17, 18, 19, 20, 21, 22, 23, 24, 25, 26, 27, 28, 29, 30, 31, 32, 33, 34, 35, 36, 37, 38, 39, 40, 41, 42, 43, 44, 45, 46, 47, 48, 49, 50, 51, 52, 53, 54] (by decide +kernel) (by decide +kernel)
set_option maxRecDepth 20000 in
theorem gX7_fall_X7_leaves : GoodIn wsX7_fall (wsV RX7 145 RX7 yX7_leaves wsX7_leaves) := goodIn_app (goodIn_of _ (by decide +kernel)) ggX7_fall_X7_leaves
theorem dX7_fall_0 : decode cX7_fall 0 = .ok (.iload_n 1, 1) := by decide +kernel
theorem dX7_fall_1 : decode cX7_fall 1 = .ok (.invokestatic 149, 3) := by decide +kernel
theorem dX7_fall_4 : decode cX7_fall 4 = .ok (.ifCond .eq 12, 3) := by decide +kernel
theorem dX7_fall_7 : decode cX7_fall 7 = .ok (.aload_n 0, 1) := by decide +kernel
theorem dX7_fall_8 : decode cX7_fall 8 = .ok (.getfield 104, 3) := by decide +kernel
theorem dX7_fall_11 : decode cX7_fall 11 = .ok (.iload_n 1, 1) := by decide +kernel
theorem dX7_fall_12 : decode cX7_fall 12 = .ok (.baload, 1) := by decide +kernel
theorem dX7_fall_13 : decode cX7_fall 13 = .ok (.ifCond .ne 5, 3) := by decide +kernel
theorem dX7_fall_16 : decode cX7_fall 16 = .ok (.iconst (-1), 1) := by decide +kernel
theorem dX7_fall_17 : decode cX7_fall 17 = .ok (.ireturn, 1) := by decide +kernel
theorem dX7_fall_18 : decode cX7_fall 18 = .ok (.aload_n 0, 1) := by decide +kernel
theorem dX7_fall_19 : decode cX7_fall 19 = .ok (.getfield 104, 3) := by decide +kernel
theorem dX7_fall_22 : decode cX7_fall 22 = .ok (.iload_n 1, 1) := by decide +kernel
theorem dX7_fall_23 : decode cX7_fall 23 = .ok (.iconst 0, 1) := by decide +kernel
theorem dX7_fall_24 : decode cX7_fall 24 = .ok (.bastore, 1) := by decide +kernel
theorem dX7_fall_25 : decode cX7_fall 25 = .ok (.aload_n 0, 1) := by decide +kernel
theorem dX7_fall_26 : decode cX7_fall 26 = .ok (.iload_n 1, 1) := by decide +kernel
theorem dX7_fall_27 : decode cX7_fall 27 = .ok (.invokevirtual 145, 3) := by decide +kernel
theorem dX7_fall_30 : decode cX7_fall 30 = .ok (.ireturn, 1) := by decide +kernel
set_option maxRecDepth 20000 in
theorem ggX7_rise_X7_isHost : GoodIn wsX7_rise wsX7_isHost := goodIn_r _ [7] (by decide +kernel) (by decide +kernel)
set_option maxRecDepth 20000 in
theorem gX7_rise_X7_isHost : GoodIn wsX7_rise (va_wsS RX7 149 yX7_isHost wsX7_isHost) := goodIn_app (goodIn_of _ (by decide +kernel)) ggX7_rise_X7_isHost
theorem dX7_rise_0 : decode cX7_rise 0 = .ok (.iload_n 1, 1) := by decide +kernel
theorem dX7_rise_1 : decode cX7_rise 1 = .ok (.invokestatic 149, 3) := by decide +kernel
theorem dX7_rise_4 : decode cX7_rise 4 = .ok (.ifCond .eq 12, 3) := by decide +kernel
theorem dX7_rise_7 : decode cX7_rise 7 = .ok (.aload_n 0, 1) := by decide +kernel
theorem dX7_rise_8 : decode cX7_rise 8 = .ok (.getfield 104, 3) := by decide +kernel
theorem dX7_rise_11 : decode cX7_rise 11 = .ok (.iload_n 1, 1) := by decide +kernel
theorem dX7_rise_12 : decode cX7_rise 12 = .ok (.baload, 1) := by decide +kernel
theorem dX7_rise_13 : decode cX7_rise 13 = .ok (.ifCond .eq 5, 3) := by decide +kernel
theorem dX7_rise_16 : decode cX7_rise 16 = .ok (.iconst (-1), 1) := by decide +kernel
theorem dX7_rise_17 : decode cX7_rise 17 = .ok (.ireturn, 1) := by decide +kernel
theorem dX7_rise_18 : decode cX7_rise 18 = .ok (.aload_n 0, 1) := by decide +kernel
theorem dX7_rise_19 : decode cX7_rise 19 = .ok (.getfield 104, 3) := by decide +kernel
theorem dX7_rise_22 : decode cX7_rise 22 = .ok (.iload_n 1, 1) := by decide +kernel
theorem dX7_rise_23 : decode cX7_rise 23 = .ok (.iconst 1, 1) := by decide +kernel
theorem dX7_rise_24 : decode cX7_rise 24 = .ok (.bastore, 1) := by decide +kernel
theorem dX7_rise_25 : decode cX7_rise 25 = .ok (.iconst 0, 1) := by decide +kernel
theorem dX7_rise_26 : decode cX7_rise 26 = .ok (.istore_n 2, 1) := by decide +kernel
theorem dX7_rise_27 : decode cX7_rise 27 = .ok (.iconst 0, 1) := by decide +kernel
theorem dX7_rise_28 : decode cX7_rise 28 = .ok (.istore_n 3, 1) := by decide +kernel
theorem dX7_rise_29 : decode cX7_rise 29 = .ok (.iload_n 3, 1) := by decide +kernel
theorem dX7_rise_30 : decode cX7_rise 30 = .ok (.aload_n 0, 1) := by decide +kernel
theorem dX7_rise_31 : decode cX7_rise 31 = .ok (.getfield 62, 3) := by decide +kernel
theorem dX7_rise_34 : decode cX7_rise 34 = .ok (.if_icmp .ge 32, 3) := by decide +kernel
theorem dX7_rise_37 : decode cX7_rise 37 = .ok (.aload_n 0, 1) := by decide +kernel
theorem dX7_rise_38 : decode cX7_rise 38 = .ok (.getfield 89, 3) := by decide +kernel
theorem dX7_rise_41 : decode cX7_rise 41 = .ok (.iload_n 3, 1) := by decide +kernel
theorem dX7_rise_42 : decode cX7_rise 42 = .ok (.iaload, 1) := by decide +kernel
theorem dX7_rise_43 : decode cX7_rise 43 = .ok (.iconst (-1), 1) := by decide +kernel
theorem dX7_rise_44 : decode cX7_rise 44 = .ok (.if_icmp .eq 6, 3) := by decide +kernel
theorem dX7_rise_47 : decode cX7_rise 47 = .ok (.goto 13, 3) := by decide +kernel
theorem dX7_rise_50 : decode cX7_rise 50 = .ok (.aload_n 0, 1) := by decide +kernel
theorem dX7_rise_51 : decode cX7_rise 51 = .ok (.getfield 89, 3) := by decide +kernel
theorem dX7_rise_54 : decode cX7_rise 54 = .ok (.iload_n 3, 1) := by decide +kernel
theorem dX7_rise_55 : decode cX7_rise 55 = .ok (.iload_n 1, 1) := by decide +kernel
theorem dX7_rise_56 : decode cX7_rise 56 = .ok (.iastore, 1) := by decide +kernel
theorem dX7_rise_57 : decode cX7_rise 57 = .ok (.iinc 2 1, 3) := by decide +kernel
theorem dX7_rise_60 : decode cX7_rise 60 = .ok (.iinc 3 1, 3) := by decide +kernel
theorem dX7_rise_63 : decode cX7_rise 63 = .ok (.goto (-34), 3) := by decide +kernel
theorem dX7_rise_66 : decode cX7_rise 66 = .ok (.iload_n 2, 1) := by decide +kernel
theorem dX7_rise_67 : decode cX7_rise 67 = .ok (.ireturn, 1) := by decide +kernel
set_option maxRecDepth 20000 in
theorem ggX7_host_X7_isHost : GoodIn wsX7_host wsX7_isHost := goodIn_r _ [9] (by decide +kernel) (by decide +kernel)
set_option maxRecDepth 20000 in
theorem gX7_host_X7_isHost : GoodIn wsX7_host (va_wsS RX7 149 yX7_isHost wsX7_isHost) := goodIn_app (goodIn_of _ (by decide +kernel)) ggX7_host_X7_isHost
set_option maxRecDepth 20000 in
theorem ggX7_host_X7_left : GoodIn wsX7_host wsX7_left := goodIn_r _ [13, 3, 4, 14, 15, 16, 17, 18, 19, 20, 21, 22, 23, 24, 25, 26, 27, 28, 29, 30, 31, 32, 33, 34, 35, 36, 37, 38, 39, 40, 41, 42, 43, 44, 45, 46, 47, 48, 49, 50, 51] (by decide +kernel) (by decide +kernel)
set_option maxRecDepth 20000 in
theorem gX7_host_X7_left : GoodIn wsX7_host (wsV RX7 152 RX7 yX7_left wsX7_left) := goodIn_app (goodIn_of _ (by decide +kernel)) ggX7_host_X7_left
theorem dX7_host_0 : decode cX7_host 0 = .ok (.iload_n 1, 1) := by decide +kernel
theorem dX7_host_1 : decode cX7_host 1 = .ok (.invokestatic 149, 3) := by decide +kernel
theorem dX7_host_4 : decode cX7_host 4 = .ok (.ifCond .ne 5, 3) := by decide +kernel
theorem dX7_host_7 : decode cX7_host 7 = .ok (.iconst (-1), 1) := by decide +kernel
theorem dX7_host_8 : decode cX7_host 8 = .ok (.ireturn, 1) := by decide +kernel
theorem dX7_host_9 : decode cX7_host 9 = .ok (.iconst 0, 1) := by decide +kernel
theorem dX7_host_10 : decode cX7_host 10 = .ok (.istore_n 3, 1) := by decide +kernel
theorem dX7_host_11 : decode cX7_host 11 = .ok (.iload_n 2, 1) := by decide +kernel
theorem dX7_host_12 : decode cX7_host 12 = .ok (.tableswitch 121 0 4 #[36, 43, 58, 97, 103], 36) := by decide +kernel
theorem dX7_host_48 : decode cX7_host 48 = .ok (.aload_n 0, 1) := by decide +kernel
theorem dX7_host_49 : decode cX7_host 49 = .ok (.getfield 101, 3) := by decide +kernel
theorem dX7_host_52 : decode cX7_host 52 = .ok (.iload_n 1, 1) := by decide +kernel
theorem dX7_host_53 : decode cX7_host 53 = .ok (.iaload, 1) := by decide +kernel
theorem dX7_host_54 : decode cX7_host 54 = .ok (.ireturn, 1) := by decide +kernel
theorem dX7_host_55 : decode cX7_host 55 = .ok (.aload_n 0, 1) := by decide +kernel
theorem dX7_host_56 : decode cX7_host 56 = .ok (.getfield 104, 3) := by decide +kernel
theorem dX7_host_59 : decode cX7_host 59 = .ok (.iload_n 1, 1) := by decide +kernel
theorem dX7_host_60 : decode cX7_host 60 = .ok (.baload, 1) := by decide +kernel
theorem dX7_host_61 : decode cX7_host 61 = .ok (.ifCond .eq 7, 3) := by decide +kernel
theorem dX7_host_64 : decode cX7_host 64 = .ok (.iconst 1, 1) := by decide +kernel
theorem dX7_host_65 : decode cX7_host 65 = .ok (.goto 4, 3) := by decide +kernel
theorem dX7_host_68 : decode cX7_host 68 = .ok (.iconst 0, 1) := by decide +kernel
theorem dX7_host_69 : decode cX7_host 69 = .ok (.ireturn, 1) := by decide +kernel
theorem dX7_host_70 : decode cX7_host 70 = .ok (.iconst 0, 1) := by decide +kernel
theorem dX7_host_71 : decode cX7_host 71 = .ok (.istore 4, 2) := by decide +kernel
theorem dX7_host_73 : decode cX7_host 73 = .ok (.iload 4, 2) := by decide +kernel
theorem dX7_host_75 : decode cX7_host 75 = .ok (.aload_n 0, 1) := by decide +kernel
theorem dX7_host_76 : decode cX7_host 76 = .ok (.getfield 62, 3) := by decide +kernel
theorem dX7_host_79 : decode cX7_host 79 = .ok (.if_icmp .ge 28, 3) := by decide +kernel
theorem dX7_host_82 : decode cX7_host 82 = .ok (.iload_n 3, 1) := by decide +kernel
theorem dX7_host_83 : decode cX7_host 83 = .ok (.aload_n 0, 1) := by decide +kernel
theorem dX7_host_84 : decode cX7_host 84 = .ok (.getfield 89, 3) := by decide +kernel
theorem dX7_host_87 : decode cX7_host 87 = .ok (.iload 4, 2) := by decide +kernel
theorem dX7_host_89 : decode cX7_host 89 = .ok (.iaload, 1) := by decide +kernel
theorem dX7_host_90 : decode cX7_host 90 = .ok (.iload_n 1, 1) := by decide +kernel
theorem dX7_host_91 : decode cX7_host 91 = .ok (.if_icmp .ne 7, 3) := by decide +kernel
theorem dX7_host_94 : decode cX7_host 94 = .ok (.iconst 1, 1) := by decide +kernel
theorem dX7_host_95 : decode cX7_host 95 = .ok (.goto 4, 3) := by decide +kernel
theorem dX7_host_98 : decode cX7_host 98 = .ok (.iconst 0, 1) := by decide +kernel
theorem dX7_host_99 : decode cX7_host 99 = .ok (.iadd, 1) := by decide +kernel
theorem dX7_host_100 : decode cX7_host 100 = .ok (.istore_n 3, 1) := by decide +kernel
theorem dX7_host_101 : decode cX7_host 101 = .ok (.iinc 4 1, 3) := by decide +kernel
theorem dX7_host_104 : decode cX7_host 104 = .ok (.goto (-31), 3) := by decide +kernel
theorem dX7_host_107 : decode cX7_host 107 = .ok (.iload_n 3, 1) := by decide +kernel
theorem dX7_host_108 : decode cX7_host 108 = .ok (.ireturn, 1) := by decide +kernel
theorem dX7_host_109 : decode cX7_host 109 = .ok (.aload_n 0, 1) := by decide +kernel
theorem dX7_host_110 : decode cX7_host 110 = .ok (.iload_n 1, 1) := by decide +kernel
theorem dX7_host_111 : decode cX7_host 111 = .ok (.invokevirtual 152, 3) := by decide +kernel
theorem dX7_host_114 : decode cX7_host 114 = .ok (.ireturn, 1) := by decide +kernel
theorem dX7_host_115 : decode cX7_host 115 = .ok (.aload_n 0, 1) := by decide +kernel
theorem dX7_host_116 : decode cX7_host 116 = .ok (.getfield 62, 3) := by decide +kernel
theorem dX7_host_119 : decode cX7_host 119 = .ok (.ifCond .ne 7, 3) := by decide +kernel
theorem dX7_host_122 : decode cX7_host 122 = .ok (.iconst 0, 1) := by decide +kernel
theorem dX7_host_123 : decode cX7_host 123 = .ok (.goto 9, 3) := by decide +kernel
theorem dX7_host_126 : decode cX7_host 126 = .ok (.aload_n 0, 1) := by decide +kernel
theorem dX7_host_127 : decode cX7_host 127 = .ok (.getfield 107, 3) := by decide +kernel
theorem dX7_host_130 : decode cX7_host 130 = .ok (.iload_n 1, 1) := by decide +kernel
theorem dX7_host_131 : decode cX7_host 131 = .ok (.iaload, 1) := by decide +kernel
theorem dX7_host_132 : decode cX7_host 132 = .ok (.ireturn, 1) := by decide +kernel
theorem dX7_host_133 : decode cX7_host 133 = .ok (.iconst (-1), 1) := by decide +kernel
theorem dX7_host_134 : decode cX7_host 134 = .ok (.ireturn, 1) := by decide +kernel
theorem dX7_tick_0 : decode cX7_tick 0 = .ok (.aload_n 0, 1) := by decide +kernel
theorem dX7_tick_1 : decode cX7_tick 1 = .ok (.getfield 62, 3) := by decide +kernel
theorem dX7_tick_4 : decode cX7_tick 4 = .ok (.ifCond .ne 5, 3) := by decide +kernel
theorem dX7_tick_7 : decode cX7_tick 7 = .ok (.iconst (-1), 1) := by decide +kernel
theorem dX7_tick_8 : decode cX7_tick 8 = .ok (.ireturn, 1) := by decide +kernel
theorem dX7_tick_9 : decode cX7_tick 9 = .ok (.aload_n 0, 1) := by decide +kernel
theorem dX7_tick_10 : decode cX7_tick 10 = .ok (.dup, 1) := by decide +kernel
theorem dX7_tick_11 : decode cX7_tick 11 = .ok (.getfield 92, 3) := by decide +kernel
theorem dX7_tick_14 : decode cX7_tick 14 = .ok (.iconst 1, 1) := by decide +kernel
theorem dX7_tick_15 : decode cX7_tick 15 = .ok (.iadd, 1) := by decide +kernel
theorem dX7_tick_16 : decode cX7_tick 16 = .ok (.putfield 92, 3) := by decide +kernel
theorem dX7_tick_19 : decode cX7_tick 19 = .ok (.aload_n 0, 1) := by decide +kernel
theorem dX7_tick_20 : decode cX7_tick 20 = .ok (.getfield 95, 3) := by decide +kernel
theorem dX7_tick_23 : decode cX7_tick 23 = .ok (.istore_n 1, 1) := by decide +kernel
theorem dX7_tick_24 : decode cX7_tick 24 = .ok (.iconst 0, 1) := by decide +kernel
theorem dX7_tick_25 : decode cX7_tick 25 = .ok (.istore_n 2, 1) := by decide +kernel
theorem dX7_tick_26 : decode cX7_tick 26 = .ok (.iload_n 2, 1) := by decide +kernel
theorem dX7_tick_27 : decode cX7_tick 27 = .ok (.bipush 8, 2) := by decide +kernel
theorem dX7_tick_29 : decode cX7_tick 29 = .ok (.if_icmp .ge 303, 3) := by decide +kernel
theorem dX7_tick_32 : decode cX7_tick 32 = .ok (.aload_n 0, 1) := by decide +kernel
theorem dX7_tick_33 : decode cX7_tick 33 = .ok (.getfield 104, 3) := by decide +kernel
theorem dX7_tick_36 : decode cX7_tick 36 = .ok (.iload_n 2, 1) := by decide +kernel
theorem dX7_tick_37 : decode cX7_tick 37 = .ok (.baload, 1) := by decide +kernel
theorem dX7_tick_38 : decode cX7_tick 38 = .ok (.ifCond .eq 12, 3) := by decide +kernel
theorem dX7_tick_41 : decode cX7_tick 41 = .ok (.aload_n 0, 1) := by decide +kernel
theorem dX7_tick_42 : decode cX7_tick 42 = .ok (.getfield 101, 3) := by decide +kernel
theorem dX7_tick_45 : decode cX7_tick 45 = .ok (.iload_n 2, 1) := by decide +kernel
theorem dX7_tick_46 : decode cX7_tick 46 = .ok (.iaload, 1) := by decide +kernel
theorem dX7_tick_47 : decode cX7_tick 47 = .ok (.goto 4, 3) := by decide +kernel
theorem dX7_tick_50 : decode cX7_tick 50 = .ok (.iconst (-1), 1) := by decide +kernel
theorem dX7_tick_51 : decode cX7_tick 51 = .ok (.istore_n 3, 1) := by decide +kernel
theorem dX7_tick_52 : decode cX7_tick 52 = .ok (.iconst 0, 1) := by decide +kernel
theorem dX7_tick_53 : decode cX7_tick 53 = .ok (.istore 4, 2) := by decide +kernel
theorem dX7_tick_55 : decode cX7_tick 55 = .ok (.iload 4, 2) := by decide +kernel
theorem dX7_tick_57 : decode cX7_tick 57 = .ok (.aload_n 0, 1) := by decide +kernel
theorem dX7_tick_58 : decode cX7_tick 58 = .ok (.getfield 62, 3) := by decide +kernel
theorem dX7_tick_61 : decode cX7_tick 61 = .ok (.if_icmp .ge 265, 3) := by decide +kernel
theorem dX7_tick_64 : decode cX7_tick 64 = .ok (.iload_n 3, 1) := by decide +kernel
theorem dX7_tick_65 : decode cX7_tick 65 = .ok (.ifCond .lt 261, 3) := by decide +kernel
theorem dX7_tick_68 : decode cX7_tick 68 = .ok (.aload_n 0, 1) := by decide +kernel
theorem dX7_tick_69 : decode cX7_tick 69 = .ok (.getfield 89, 3) := by decide +kernel
theorem dX7_tick_72 : decode cX7_tick 72 = .ok (.iload 4, 2) := by decide +kernel
theorem dX7_tick_74 : decode cX7_tick 74 = .ok (.iaload, 1) := by decide +kernel
theorem dX7_tick_75 : decode cX7_tick 75 = .ok (.iload_n 2, 1) := by decide +kernel
theorem dX7_tick_76 : decode cX7_tick 76 = .ok (.if_icmp .ne 244, 3) := by decide +kernel
theorem dX7_tick_79 : decode cX7_tick 79 = .ok (.aload_n 0, 1) := by decide +kernel
theorem dX7_tick_80 : decode cX7_tick 80 = .ok (.getfield 86, 3) := by decide +kernel
theorem dX7_tick_83 : decode cX7_tick 83 = .ok (.iload 4, 2) := by decide +kernel
theorem dX7_tick_85 : decode cX7_tick 85 = .ok (.baload, 1) := by decide +kernel
theorem dX7_tick_86 : decode cX7_tick 86 = .ok (.ifCond .eq 6, 3) := by decide +kernel
theorem dX7_tick_89 : decode cX7_tick 89 = .ok (.goto 231, 3) := by decide +kernel
theorem dX7_tick_92 : decode cX7_tick 92 = .ok (.aload_n 0, 1) := by decide +kernel
theorem dX7_tick_93 : decode cX7_tick 93 = .ok (.getfield 77, 3) := by decide +kernel
theorem dX7_tick_96 : decode cX7_tick 96 = .ok (.iload 4, 2) := by decide +kernel
theorem dX7_tick_98 : decode cX7_tick 98 = .ok (.iaload, 1) := by decide +kernel
theorem dX7_tick_99 : decode cX7_tick 99 = .ok (.aload_n 0, 1) := by decide +kernel
theorem dX7_tick_100 : decode cX7_tick 100 = .ok (.getfield 80, 3) := by decide +kernel
theorem dX7_tick_103 : decode cX7_tick 103 = .ok (.iload 4, 2) := by decide +kernel
theorem dX7_tick_105 : decode cX7_tick 105 = .ok (.iaload, 1) := by decide +kernel
theorem dX7_tick_106 : decode cX7_tick 106 = .ok (.isub, 1) := by decide +kernel
theorem dX7_tick_107 : decode cX7_tick 107 = .ok (.iload_n 3, 1) := by decide +kernel
theorem dX7_tick_108 : decode cX7_tick 108 = .ok (.if_icmp .ge 21, 3) := by decide +kernel
theorem dX7_tick_111 : decode cX7_tick 111 = .ok (.aload_n 0, 1) := by decide +kernel
theorem dX7_tick_112 : decode cX7_tick 112 = .ok (.getfield 77, 3) := by decide +kernel
theorem dX7_tick_115 : decode cX7_tick 115 = .ok (.iload 4, 2) := by decide +kernel
theorem dX7_tick_117 : decode cX7_tick 117 = .ok (.iaload, 1) := by decide +kernel
theorem dX7_tick_118 : decode cX7_tick 118 = .ok (.aload_n 0, 1) := by decide +kernel
theorem dX7_tick_119 : decode cX7_tick 119 = .ok (.getfield 80, 3) := by decide +kernel
theorem dX7_tick_122 : decode cX7_tick 122 = .ok (.iload 4, 2) := by decide +kernel
theorem dX7_tick_124 : decode cX7_tick 124 = .ok (.iaload, 1) := by decide +kernel
theorem dX7_tick_125 : decode cX7_tick 125 = .ok (.isub, 1) := by decide +kernel
theorem dX7_tick_126 : decode cX7_tick 126 = .ok (.goto 4, 3) := by decide +kernel
theorem dX7_tick_129 : decode cX7_tick 129 = .ok (.iload_n 3, 1) := by decide +kernel
theorem dX7_tick_130 : decode cX7_tick 130 = .ok (.istore 5, 2) := by decide +kernel
theorem dX7_tick_132 : decode cX7_tick 132 = .ok (.aload_n 0, 1) := by decide +kernel
theorem dX7_tick_133 : decode cX7_tick 133 = .ok (.getfield 86, 3) := by decide +kernel
theorem dX7_tick_136 : decode cX7_tick 136 = .ok (.iload 4, 2) := by decide +kernel
theorem dX7_tick_138 : decode cX7_tick 138 = .ok (.aload_n 0, 1) := by decide +kernel
theorem dX7_tick_139 : decode cX7_tick 139 = .ok (.getfield 80, 3) := by decide +kernel
theorem dX7_tick_142 : decode cX7_tick 142 = .ok (.iload 4, 2) := by decide +kernel
theorem dX7_tick_144 : decode cX7_tick 144 = .ok (.iaload, 1) := by decide +kernel
theorem dX7_tick_145 : decode cX7_tick 145 = .ok (.iload 5, 2) := by decide +kernel
theorem dX7_tick_147 : decode cX7_tick 147 = .ok (.iadd, 1) := by decide +kernel
theorem dX7_tick_148 : decode cX7_tick 148 = .ok (.aload_n 0, 1) := by decide +kernel
theorem dX7_tick_149 : decode cX7_tick 149 = .ok (.getfield 77, 3) := by decide +kernel
theorem dX7_tick_152 : decode cX7_tick 152 = .ok (.iload 4, 2) := by decide +kernel
theorem dX7_tick_154 : decode cX7_tick 154 = .ok (.iaload, 1) := by decide +kernel
theorem dX7_tick_155 : decode cX7_tick 155 = .ok (.if_icmp .ne 7, 3) := by decide +kernel
theorem dX7_tick_158 : decode cX7_tick 158 = .ok (.iconst 1, 1) := by decide +kernel
theorem dX7_tick_159 : decode cX7_tick 159 = .ok (.goto 4, 3) := by decide +kernel
theorem dX7_tick_162 : decode cX7_tick 162 = .ok (.iconst 0, 1) := by decide +kernel
theorem dX7_tick_163 : decode cX7_tick 163 = .ok (.bastore, 1) := by decide +kernel
theorem dX7_tick_164 : decode cX7_tick 164 = .ok (.aload_n 0, 1) := by decide +kernel
theorem dX7_tick_165 : decode cX7_tick 165 = .ok (.getfield 83, 3) := by decide +kernel
theorem dX7_tick_168 : decode cX7_tick 168 = .ok (.iload 4, 2) := by decide +kernel
theorem dX7_tick_170 : decode cX7_tick 170 = .ok (.iaload, 1) := by decide +kernel
theorem dX7_tick_171 : decode cX7_tick 171 = .ok (.aload_n 0, 1) := by decide +kernel
theorem dX7_tick_172 : decode cX7_tick 172 = .ok (.getfield 80, 3) := by decide +kernel
theorem dX7_tick_175 : decode cX7_tick 175 = .ok (.iload 4, 2) := by decide +kernel
theorem dX7_tick_177 : decode cX7_tick 177 = .ok (.iaload, 1) := by decide +kernel
theorem dX7_tick_178 : decode cX7_tick 178 = .ok (.isub, 1) := by decide +kernel
theorem dX7_tick_179 : decode cX7_tick 179 = .ok (.iload 5, 2) := by decide +kernel
theorem dX7_tick_181 : decode cX7_tick 181 = .ok (.if_icmp .ge 21, 3) := by decide +kernel
theorem dX7_tick_184 : decode cX7_tick 184 = .ok (.aload_n 0, 1) := by decide +kernel
theorem dX7_tick_185 : decode cX7_tick 185 = .ok (.getfield 83, 3) := by decide +kernel
theorem dX7_tick_188 : decode cX7_tick 188 = .ok (.iload 4, 2) := by decide +kernel
theorem dX7_tick_190 : decode cX7_tick 190 = .ok (.iaload, 1) := by decide +kernel
theorem dX7_tick_191 : decode cX7_tick 191 = .ok (.aload_n 0, 1) := by decide +kernel
theorem dX7_tick_192 : decode cX7_tick 192 = .ok (.getfield 80, 3) := by decide +kernel
theorem dX7_tick_195 : decode cX7_tick 195 = .ok (.iload 4, 2) := by decide +kernel
theorem dX7_tick_197 : decode cX7_tick 197 = .ok (.iaload, 1) := by decide +kernel
theorem dX7_tick_198 : decode cX7_tick 198 = .ok (.isub, 1) := by decide +kernel
theorem dX7_tick_199 : decode cX7_tick 199 = .ok (.goto 5, 3) := by decide +kernel
theorem dX7_tick_202 : decode cX7_tick 202 = .ok (.iload 5, 2) := by decide +kernel
theorem dX7_tick_204 : decode cX7_tick 204 = .ok (.istore 6, 2) := by decide +kernel
theorem dX7_tick_206 : decode cX7_tick 206 = .ok (.aload_n 0, 1) := by decide +kernel
theorem dX7_tick_207 : decode cX7_tick 207 = .ok (.dup, 1) := by decide +kernel
theorem dX7_tick_208 : decode cX7_tick 208 = .ok (.getfield 98, 3) := by decide +kernel
theorem dX7_tick_211 : decode cX7_tick 211 = .ok (.iload 6, 2) := by decide +kernel
theorem dX7_tick_213 : decode cX7_tick 213 = .ok (.ifCond .le 8, 3) := by decide +kernel
theorem dX7_tick_216 : decode cX7_tick 216 = .ok (.iload 6, 2) := by decide +kernel
theorem dX7_tick_218 : decode cX7_tick 218 = .ok (.goto 4, 3) := by decide +kernel
theorem dX7_tick_221 : decode cX7_tick 221 = .ok (.iconst 0, 1) := by decide +kernel
theorem dX7_tick_222 : decode cX7_tick 222 = .ok (.iadd, 1) := by decide +kernel
theorem dX7_tick_223 : decode cX7_tick 223 = .ok (.putfield 98, 3) := by decide +kernel
theorem dX7_tick_226 : decode cX7_tick 226 = .ok (.aload_n 0, 1) := by decide +kernel
theorem dX7_tick_227 : decode cX7_tick 227 = .ok (.getfield 80, 3) := by decide +kernel
theorem dX7_tick_230 : decode cX7_tick 230 = .ok (.iload 4, 2) := by decide +kernel
theorem dX7_tick_232 : decode cX7_tick 232 = .ok (.dup2, 1) := by decide +kernel
theorem dX7_tick_233 : decode cX7_tick 233 = .ok (.iaload, 1) := by decide +kernel
theorem dX7_tick_234 : decode cX7_tick 234 = .ok (.iload 5, 2) := by decide +kernel
theorem dX7_tick_236 : decode cX7_tick 236 = .ok (.iadd, 1) := by decide +kernel
theorem dX7_tick_237 : decode cX7_tick 237 = .ok (.iastore, 1) := by decide +kernel
theorem dX7_tick_238 : decode cX7_tick 238 = .ok (.aload_n 0, 1) := by decide +kernel
theorem dX7_tick_239 : decode cX7_tick 239 = .ok (.getfield 83, 3) := by decide +kernel
theorem dX7_tick_242 : decode cX7_tick 242 = .ok (.iload 4, 2) := by decide +kernel
theorem dX7_tick_244 : decode cX7_tick 244 = .ok (.aload_n 0, 1) := by decide +kernel
theorem dX7_tick_245 : decode cX7_tick 245 = .ok (.getfield 80, 3) := by decide +kernel
theorem dX7_tick_248 : decode cX7_tick 248 = .ok (.iload 4, 2) := by decide +kernel
theorem dX7_tick_250 : decode cX7_tick 250 = .ok (.iaload, 1) := by decide +kernel
theorem dX7_tick_251 : decode cX7_tick 251 = .ok (.aload_n 0, 1) := by decide +kernel
theorem dX7_tick_252 : decode cX7_tick 252 = .ok (.getfield 83, 3) := by decide +kernel
theorem dX7_tick_255 : decode cX7_tick 255 = .ok (.iload 4, 2) := by decide +kernel
theorem dX7_tick_257 : decode cX7_tick 257 = .ok (.iaload, 1) := by decide +kernel
theorem dX7_tick_258 : decode cX7_tick 258 = .ok (.if_icmp .le 13, 3) := by decide +kernel
theorem dX7_tick_261 : decode cX7_tick 261 = .ok (.aload_n 0, 1) := by decide +kernel
theorem dX7_tick_262 : decode cX7_tick 262 = .ok (.getfield 80, 3) := by decide +kernel
theorem dX7_tick_265 : decode cX7_tick 265 = .ok (.iload 4, 2) := by decide +kernel
theorem dX7_tick_267 : decode cX7_tick 267 = .ok (.iaload, 1) := by decide +kernel
theorem dX7_tick_268 : decode cX7_tick 268 = .ok (.goto 10, 3) := by decide +kernel
theorem dX7_tick_271 : decode cX7_tick 271 = .ok (.aload_n 0, 1) := by decide +kernel
theorem dX7_tick_272 : decode cX7_tick 272 = .ok (.getfield 83, 3) := by decide +kernel
theorem dX7_tick_275 : decode cX7_tick 275 = .ok (.iload 4, 2) := by decide +kernel
theorem dX7_tick_277 : decode cX7_tick 277 = .ok (.iaload, 1) := by decide +kernel
theorem dX7_tick_278 : decode cX7_tick 278 = .ok (.iastore, 1) := by decide +kernel
theorem dX7_tick_279 : decode cX7_tick 279 = .ok (.aload_n 0, 1) := by decide +kernel
theorem dX7_tick_280 : decode cX7_tick 280 = .ok (.dup, 1) := by decide +kernel
theorem dX7_tick_281 : decode cX7_tick 281 = .ok (.getfield 95, 3) := by decide +kernel
theorem dX7_tick_284 : decode cX7_tick 284 = .ok (.iload 5, 2) := by decide +kernel
theorem dX7_tick_286 : decode cX7_tick 286 = .ok (.iadd, 1) := by decide +kernel
theorem dX7_tick_287 : decode cX7_tick 287 = .ok (.putfield 95, 3) := by decide +kernel
theorem dX7_tick_290 : decode cX7_tick 290 = .ok (.aload_n 0, 1) := by decide +kernel
theorem dX7_tick_291 : decode cX7_tick 291 = .ok (.getfield 107, 3) := by decide +kernel
theorem dX7_tick_294 : decode cX7_tick 294 = .ok (.iload_n 2, 1) := by decide +kernel
theorem dX7_tick_295 : decode cX7_tick 295 = .ok (.dup2, 1) := by decide +kernel
theorem dX7_tick_296 : decode cX7_tick 296 = .ok (.iaload, 1) := by decide +kernel
theorem dX7_tick_297 : decode cX7_tick 297 = .ok (.iload 5, 2) := by decide +kernel
theorem dX7_tick_299 : decode cX7_tick 299 = .ok (.iadd, 1) := by decide +kernel
theorem dX7_tick_300 : decode cX7_tick 300 = .ok (.iastore, 1) := by decide +kernel
theorem dX7_tick_301 : decode cX7_tick 301 = .ok (.aload_n 0, 1) := by decide +kernel
theorem dX7_tick_302 : decode cX7_tick 302 = .ok (.getfield 86, 3) := by decide +kernel
theorem dX7_tick_305 : decode cX7_tick 305 = .ok (.iload 4, 2) := by decide +kernel
theorem dX7_tick_307 : decode cX7_tick 307 = .ok (.baload, 1) := by decide +kernel
theorem dX7_tick_308 : decode cX7_tick 308 = .ok (.ifCond .eq 10, 3) := by decide +kernel
theorem dX7_tick_311 : decode cX7_tick 311 = .ok (.iload_n 3, 1) := by decide +kernel
theorem dX7_tick_312 : decode cX7_tick 312 = .ok (.iload 5, 2) := by decide +kernel
theorem dX7_tick_314 : decode cX7_tick 314 = .ok (.isub, 1) := by decide +kernel
theorem dX7_tick_315 : decode cX7_tick 315 = .ok (.goto 4, 3) := by decide +kernel
theorem dX7_tick_318 : decode cX7_tick 318 = .ok (.iconst (-1), 1) := by decide +kernel
theorem dX7_tick_319 : decode cX7_tick 319 = .ok (.istore_n 3, 1) := by decide +kernel
theorem dX7_tick_320 : decode cX7_tick 320 = .ok (.iinc 4 1, 3) := by decide +kernel
theorem dX7_tick_323 : decode cX7_tick 323 = .ok (.goto (-268), 3) := by decide +kernel
theorem dX7_tick_326 : decode cX7_tick 326 = .ok (.iinc 2 1, 3) := by decide +kernel
theorem dX7_tick_329 : decode cX7_tick 329 = .ok (.goto (-303), 3) := by decide +kernel
theorem dX7_tick_332 : decode cX7_tick 332 = .ok (.aload_n 0, 1) := by decide +kernel
theorem dX7_tick_333 : decode cX7_tick 333 = .ok (.getfield 95, 3) := by decide +kernel
theorem dX7_tick_336 : decode cX7_tick 336 = .ok (.iload_n 1, 1) := by decide +kernel
theorem dX7_tick_337 : decode cX7_tick 337 = .ok (.isub, 1) := by decide +kernel
theorem dX7_tick_338 : decode cX7_tick 338 = .ok (.ireturn, 1) := by decide +kernel
theorem dX7_isThere_0 : decode cX7_isThere 0 = .ok (.aload_n 0, 1) := by decide +kernel
theorem dX7_isThere_1 : decode cX7_isThere 1 = .ok (.getfield 62, 3) := by decide +kernel
theorem dX7_isThere_4 : decode cX7_isThere 4 = .ok (.ifCond .le 7, 3) := by decide +kernel
theorem dX7_isThere_7 : decode cX7_isThere 7 = .ok (.iconst 1, 1) := by decide +kernel
theorem dX7_isThere_8 : decode cX7_isThere 8 = .ok (.goto 4, 3) := by decide +kernel
theorem dX7_isThere_11 : decode cX7_isThere 11 = .ok (.iconst 0, 1) := by decide +kernel
theorem dX7_isThere_12 : decode cX7_isThere 12 = .ok (.istore_n 1, 1) := by decide +kernel
theorem dX7_isThere_13 : decode cX7_isThere 13 = .ok (.iconst 0, 1) := by decide +kernel
theorem dX7_isThere_14 : decode cX7_isThere 14 = .ok (.istore_n 2, 1) := by decide +kernel
theorem dX7_isThere_15 : decode cX7_isThere 15 = .ok (.iload_n 2, 1) := by decide +kernel
theorem dX7_isThere_16 : decode cX7_isThere 16 = .ok (.aload_n 0, 1) := by decide +kernel
theorem dX7_isThere_17 : decode cX7_isThere 17 = .ok (.getfield 62, 3) := by decide +kernel
theorem dX7_isThere_20 : decode cX7_isThere 20 = .ok (.if_icmp .ge 28, 3) := by decide +kernel
theorem dX7_isThere_23 : decode cX7_isThere 23 = .ok (.iload_n 1, 1) := by decide +kernel
theorem dX7_isThere_24 : decode cX7_isThere 24 = .ok (.ifCond .eq 16, 3) := by decide +kernel
theorem dX7_isThere_27 : decode cX7_isThere 27 = .ok (.aload_n 0, 1) := by decide +kernel
theorem dX7_isThere_28 : decode cX7_isThere 28 = .ok (.getfield 86, 3) := by decide +kernel
theorem dX7_isThere_31 : decode cX7_isThere 31 = .ok (.iload_n 2, 1) := by decide +kernel
theorem dX7_isThere_32 : decode cX7_isThere 32 = .ok (.baload, 1) := by decide +kernel
theorem dX7_isThere_33 : decode cX7_isThere 33 = .ok (.ifCond .eq 7, 3) := by decide +kernel
theorem dX7_isThere_36 : decode cX7_isThere 36 = .ok (.iconst 1, 1) := by decide +kernel
theorem dX7_isThere_37 : decode cX7_isThere 37 = .ok (.goto 4, 3) := by decide +kernel
theorem dX7_isThere_40 : decode cX7_isThere 40 = .ok (.iconst 0, 1) := by decide +kernel
theorem dX7_isThere_41 : decode cX7_isThere 41 = .ok (.istore_n 1, 1) := by decide +kernel
theorem dX7_isThere_42 : decode cX7_isThere 42 = .ok (.iinc 2 1, 3) := by decide +kernel
theorem dX7_isThere_45 : decode cX7_isThere 45 = .ok (.goto (-30), 3) := by decide +kernel
theorem dX7_isThere_48 : decode cX7_isThere 48 = .ok (.iload_n 1, 1) := by decide +kernel
theorem dX7_isThere_49 : decode cX7_isThere 49 = .ok (.ireturn, 1) := by decide +kernel
set_option maxRecDepth 20000 in
theorem ggX7_work_X7_isThere : GoodIn wsX7_work wsX7_isThere := goodIn_r _ [10, 1, 5, 11, 12, 13, 14, 15, 16, 17, 18, 19, 20, 21, 22, 23, 24, 25, 26, 27, 28, 29, 30, 31, 32, 33, 34, 35, 36, 37, 38, 39, 40, 41, 42, 43, 44, 45, 46] (by decide +kernel) (by decide +kernel)
set_option maxRecDepth 20000 in
theorem gX7_work_X7_isThere : GoodIn wsX7_work (wsV RX7 155 RX7 yX7_isThere wsX7_isThere) := goodIn_app (goodIn_of _ (by decide +kernel)) ggX7_work_X7_isThere
theorem dX7_work_0 : decode cX7_work 0 = .ok (.aload_n 0, 1) := by decide +kernel
theorem dX7_work_1 : decode cX7_work 1 = .ok (.getfield 62, 3) := by decide +kernel
theorem dX7_work_4 : decode cX7_work 4 = .ok (.ifCond .ne 5, 3) := by decide +kernel
theorem dX7_work_7 : decode cX7_work 7 = .ok (.iconst (-1), 1) := by decide +kernel
theorem dX7_work_8 : decode cX7_work 8 = .ok (.ireturn, 1) := by decide +kernel
theorem dX7_work_9 : decode cX7_work 9 = .ok (.iconst 0, 1) := by decide +kernel
theorem dX7_work_10 : decode cX7_work 10 = .ok (.istore_n 2, 1) := by decide +kernel
theorem dX7_work_11 : decode cX7_work 11 = .ok (.iload_n 1, 1) := by decide +kernel
theorem dX7_work_12 : decode cX7_work 12 = .ok (.tableswitch 99 0 4 #[36, 41, 46, 51, 86], 36) := by decide +kernel
theorem dX7_work_48 : decode cX7_work 48 = .ok (.aload_n 0, 1) := by decide +kernel
theorem dX7_work_49 : decode cX7_work 49 = .ok (.getfield 92, 3) := by decide +kernel
theorem dX7_work_52 : decode cX7_work 52 = .ok (.ireturn, 1) := by decide +kernel
theorem dX7_work_53 : decode cX7_work 53 = .ok (.aload_n 0, 1) := by decide +kernel
theorem dX7_work_54 : decode cX7_work 54 = .ok (.getfield 95, 3) := by decide +kernel
theorem dX7_work_57 : decode cX7_work 57 = .ok (.ireturn, 1) := by decide +kernel
theorem dX7_work_58 : decode cX7_work 58 = .ok (.aload_n 0, 1) := by decide +kernel
theorem dX7_work_59 : decode cX7_work 59 = .ok (.getfield 98, 3) := by decide +kernel
theorem dX7_work_62 : decode cX7_work 62 = .ok (.ireturn, 1) := by decide +kernel
theorem dX7_work_63 : decode cX7_work 63 = .ok (.iconst 0, 1) := by decide +kernel
theorem dX7_work_64 : decode cX7_work 64 = .ok (.istore_n 3, 1) := by decide +kernel
theorem dX7_work_65 : decode cX7_work 65 = .ok (.iload_n 3, 1) := by decide +kernel
theorem dX7_work_66 : decode cX7_work 66 = .ok (.aload_n 0, 1) := by decide +kernel
theorem dX7_work_67 : decode cX7_work 67 = .ok (.getfield 62, 3) := by decide +kernel
theorem dX7_work_70 : decode cX7_work 70 = .ok (.if_icmp .ge 26, 3) := by decide +kernel
theorem dX7_work_73 : decode cX7_work 73 = .ok (.iload_n 2, 1) := by decide +kernel
theorem dX7_work_74 : decode cX7_work 74 = .ok (.aload_n 0, 1) := by decide +kernel
theorem dX7_work_75 : decode cX7_work 75 = .ok (.getfield 86, 3) := by decide +kernel
theorem dX7_work_78 : decode cX7_work 78 = .ok (.iload_n 3, 1) := by decide +kernel
theorem dX7_work_79 : decode cX7_work 79 = .ok (.baload, 1) := by decide +kernel
theorem dX7_work_80 : decode cX7_work 80 = .ok (.ifCond .eq 7, 3) := by decide +kernel
theorem dX7_work_83 : decode cX7_work 83 = .ok (.iconst 1, 1) := by decide +kernel
theorem dX7_work_84 : decode cX7_work 84 = .ok (.goto 4, 3) := by decide +kernel
theorem dX7_work_87 : decode cX7_work 87 = .ok (.iconst 0, 1) := by decide +kernel
theorem dX7_work_88 : decode cX7_work 88 = .ok (.iadd, 1) := by decide +kernel
theorem dX7_work_89 : decode cX7_work 89 = .ok (.istore_n 2, 1) := by decide +kernel
theorem dX7_work_90 : decode cX7_work 90 = .ok (.iinc 3 1, 3) := by decide +kernel
theorem dX7_work_93 : decode cX7_work 93 = .ok (.goto (-28), 3) := by decide +kernel
theorem dX7_work_96 : decode cX7_work 96 = .ok (.iload_n 2, 1) := by decide +kernel
theorem dX7_work_97 : decode cX7_work 97 = .ok (.ireturn, 1) := by decide +kernel
theorem dX7_work_98 : decode cX7_work 98 = .ok (.aload_n 0, 1) := by decide +kernel
theorem dX7_work_99 : decode cX7_work 99 = .ok (.invokevirtual 155, 3) := by decide +kernel
theorem dX7_work_102 : decode cX7_work 102 = .ok (.ifCond .eq 7, 3) := by decide +kernel
theorem dX7_work_105 : decode cX7_work 105 = .ok (.iconst 1, 1) := by decide +kernel
theorem dX7_work_106 : decode cX7_work 106 = .ok (.goto 4, 3) := by decide +kernel
theorem dX7_work_109 : decode cX7_work 109 = .ok (.iconst 0, 1) := by decide +kernel
theorem dX7_work_110 : decode cX7_work 110 = .ok (.ireturn, 1) := by decide +kernel
theorem dX7_work_111 : decode cX7_work 111 = .ok (.iconst (-1), 1) := by decide +kernel
theorem dX7_work_112 : decode cX7_work 112 = .ok (.ireturn, 1) := by decide +kernel
set_option maxRecDepth 20000 in
theorem ggX7_end_X7_isThere : GoodIn wsX7_end wsX7_isThere := goodIn_r _ [9, 10, 11, 20, 21, 22, 23, 24, 25, 26, 27, 28, 29, 30, 31, 32, 33, 34, 35, 36, 37, 38, 39, 40, 41, 42, 43, 44, 45, 46, 47, 48, 49, 50, 51, 52, 53, 54, 55] (by decide +kernel) (by decide +kernel)
set_option maxRecDepth 20000 in
theorem gX7_end_X7_isThere : GoodIn wsX7_end (wsV RX7 155 RX7 yX7_isThere wsX7_isThere) := goodIn_app (goodIn_of _ (by decide +kernel)) ggX7_end_X7_isThere
set_option maxRecDepth 20000 in
theorem ggX7_end_X7_ahead : GoodIn wsX7_end wsX7_ahead := goodIn_r _ [15, 16, 17, 18, 19, 20, 21, 22, 23, 24, 25, 26, 27, 28, 29, 30, 31, 32, 33, 34, 35, 36, 37, 38, 39, 40, 41, 42, 43, 44, 45, 46, 47, 48, 49, 50, 51, 52, 53, 54, 55] (by decide +kernel) (by decide +kernel)
set_option maxRecDepth 20000 in
theorem gX7_end_X7_ahead : GoodIn wsX7_end (wsV RX7 134 RX7 yX7_ahead wsX7_ahead) := goodIn_app (goodIn_of _ (by decide +kernel)) ggX7_end_X7_ahead
theorem dX7_end_0 : decode cX7_end 0 = .ok (.aload_n 0, 1) := by decide +kernel
theorem dX7_end_1 : decode cX7_end 1 = .ok (.invokevirtual 155, 3) := by decide +kernel
theorem dX7_end_4 : decode cX7_end 4 = .ok (.ifCond .ne 5, 3) := by decide +kernel
theorem dX7_end_7 : decode cX7_end 7 = .ok (.iconst (-1), 1) := by decide +kernel
theorem dX7_end_8 : decode cX7_end 8 = .ok (.ireturn, 1) := by decide +kernel
theorem dX7_end_9 : decode cX7_end 9 = .ok (.aload_n 0, 1) := by decide +kernel
theorem dX7_end_10 : decode cX7_end 10 = .ok (.getfield 31, 3) := by decide +kernel
theorem dX7_end_13 : decode cX7_end 13 = .ok (.ifCond .ne 7, 3) := by decide +kernel
theorem dX7_end_16 : decode cX7_end 16 = .ok (.iconst 0, 1) := by decide +kernel
theorem dX7_end_17 : decode cX7_end 17 = .ok (.goto 26, 3) := by decide +kernel
theorem dX7_end_20 : decode cX7_end 20 = .ok (.aload_n 0, 1) := by decide +kernel
theorem dX7_end_21 : decode cX7_end 21 = .ok (.getfield 37, 3) := by decide +kernel
theorem dX7_end_24 : decode cX7_end 24 = .ok (.aload_n 0, 1) := by decide +kernel
theorem dX7_end_25 : decode cX7_end 25 = .ok (.getfield 31, 3) := by decide +kernel
theorem dX7_end_28 : decode cX7_end 28 = .ok (.iconst 1, 1) := by decide +kernel
theorem dX7_end_29 : decode cX7_end 29 = .ok (.isub, 1) := by decide +kernel
theorem dX7_end_30 : decode cX7_end 30 = .ok (.iaload, 1) := by decide +kernel
theorem dX7_end_31 : decode cX7_end 31 = .ok (.aload_n 0, 1) := by decide +kernel
theorem dX7_end_32 : decode cX7_end 32 = .ok (.getfield 40, 3) := by decide +kernel
theorem dX7_end_35 : decode cX7_end 35 = .ok (.aload_n 0, 1) := by decide +kernel
theorem dX7_end_36 : decode cX7_end 36 = .ok (.getfield 31, 3) := by decide +kernel
theorem dX7_end_39 : decode cX7_end 39 = .ok (.iconst 1, 1) := by decide +kernel
theorem dX7_end_40 : decode cX7_end 40 = .ok (.isub, 1) := by decide +kernel
theorem dX7_end_41 : decode cX7_end 41 = .ok (.iaload, 1) := by decide +kernel
theorem dX7_end_42 : decode cX7_end 42 = .ok (.iadd, 1) := by decide +kernel
theorem dX7_end_43 : decode cX7_end 43 = .ok (.istore_n 2, 1) := by decide +kernel
theorem dX7_end_44 : decode cX7_end 44 = .ok (.iload_n 1, 1) := by decide +kernel
theorem dX7_end_45 : decode cX7_end 45 = .ok (.ifCond .lt 8, 3) := by decide +kernel
theorem dX7_end_48 : decode cX7_end 48 = .ok (.iload_n 1, 1) := by decide +kernel
theorem dX7_end_49 : decode cX7_end 49 = .ok (.iload_n 2, 1) := by decide +kernel
theorem dX7_end_50 : decode cX7_end 50 = .ok (.if_icmp .lt 5, 3) := by decide +kernel
theorem dX7_end_53 : decode cX7_end 53 = .ok (.iconst (-1), 1) := by decide +kernel
theorem dX7_end_54 : decode cX7_end 54 = .ok (.ireturn, 1) := by decide +kernel
theorem dX7_end_55 : decode cX7_end 55 = .ok (.iconst 0, 1) := by decide +kernel
theorem dX7_end_56 : decode cX7_end 56 = .ok (.istore_n 3, 1) := by decide +kernel
theorem dX7_end_57 : decode cX7_end 57 = .ok (.iload_n 3, 1) := by decide +kernel
theorem dX7_end_58 : decode cX7_end 58 = .ok (.iload_n 2, 1) := by decide +kernel
theorem dX7_end_59 : decode cX7_end 59 = .ok (.if_icmp .ge 76, 3) := by decide +kernel
theorem dX7_end_62 : decode cX7_end 62 = .ok (.iconst 0, 1) := by decide +kernel
theorem dX7_end_63 : decode cX7_end 63 = .ok (.istore 4, 2) := by decide +kernel
theorem dX7_end_65 : decode cX7_end 65 = .ok (.iconst 0, 1) := by decide +kernel
theorem dX7_end_66 : decode cX7_end 66 = .ok (.istore 5, 2) := by decide +kernel
theorem dX7_end_68 : decode cX7_end 68 = .ok (.iload 5, 2) := by decide +kernel
theorem dX7_end_70 : decode cX7_end 70 = .ok (.iload_n 2, 1) := by decide +kernel
theorem dX7_end_71 : decode cX7_end 71 = .ok (.if_icmp .ge 45, 3) := by decide +kernel
theorem dX7_end_74 : decode cX7_end 74 = .ok (.iload 4, 2) := by decide +kernel
theorem dX7_end_76 : decode cX7_end 76 = .ok (.iload 5, 2) := by decide +kernel
theorem dX7_end_78 : decode cX7_end 78 = .ok (.iload_n 3, 1) := by decide +kernel
theorem dX7_end_79 : decode cX7_end 79 = .ok (.if_icmp .eq 27, 3) := by decide +kernel
theorem dX7_end_82 : decode cX7_end 82 = .ok (.aload_n 0, 1) := by decide +kernel
theorem dX7_end_83 : decode cX7_end 83 = .ok (.aload_n 0, 1) := by decide +kernel
theorem dX7_end_84 : decode cX7_end 84 = .ok (.getfield 44, 3) := by decide +kernel
theorem dX7_end_87 : decode cX7_end 87 = .ok (.iload 5, 2) := by decide +kernel
theorem dX7_end_89 : decode cX7_end 89 = .ok (.iaload, 1) := by decide +kernel
theorem dX7_end_90 : decode cX7_end 90 = .ok (.aload_n 0, 1) := by decide +kernel
theorem dX7_end_91 : decode cX7_end 91 = .ok (.getfield 44, 3) := by decide +kernel
theorem dX7_end_94 : decode cX7_end 94 = .ok (.iload_n 3, 1) := by decide +kernel
theorem dX7_end_95 : decode cX7_end 95 = .ok (.iaload, 1) := by decide +kernel
theorem dX7_end_96 : decode cX7_end 96 = .ok (.invokevirtual 134, 3) := by decide +kernel
theorem dX7_end_99 : decode cX7_end 99 = .ok (.ifCond .eq 7, 3) := by decide +kernel
theorem dX7_end_102 : decode cX7_end 102 = .ok (.iconst 1, 1) := by decide +kernel
theorem dX7_end_103 : decode cX7_end 103 = .ok (.goto 4, 3) := by decide +kernel
theorem dX7_end_106 : decode cX7_end 106 = .ok (.iconst 0, 1) := by decide +kernel
theorem dX7_end_107 : decode cX7_end 107 = .ok (.iadd, 1) := by decide +kernel
theorem dX7_end_108 : decode cX7_end 108 = .ok (.istore 4, 2) := by decide +kernel
theorem dX7_end_110 : decode cX7_end 110 = .ok (.iinc 5 1, 3) := by decide +kernel
theorem dX7_end_113 : decode cX7_end 113 = .ok (.goto (-45), 3) := by decide +kernel
theorem dX7_end_116 : decode cX7_end 116 = .ok (.iload 4, 2) := by decide +kernel
theorem dX7_end_118 : decode cX7_end 118 = .ok (.iload_n 1, 1) := by decide +kernel
theorem dX7_end_119 : decode cX7_end 119 = .ok (.if_icmp .ne 10, 3) := by decide +kernel
theorem dX7_end_122 : decode cX7_end 122 = .ok (.aload_n 0, 1) := by decide +kernel
theorem dX7_end_123 : decode cX7_end 123 = .ok (.getfield 44, 3) := by decide +kernel
theorem dX7_end_126 : decode cX7_end 126 = .ok (.iload_n 3, 1) := by decide +kernel
theorem dX7_end_127 : decode cX7_end 127 = .ok (.iaload, 1) := by decide +kernel
theorem dX7_end_128 : decode cX7_end 128 = .ok (.ireturn, 1) := by decide +kernel
theorem dX7_end_129 : decode cX7_end 129 = .ok (.iinc 3 1, 3) := by decide +kernel
theorem dX7_end_132 : decode cX7_end 132 = .ok (.goto (-75), 3) := by decide +kernel
theorem dX7_end_135 : decode cX7_end 135 = .ok (.iconst (-1), 1) := by decide +kernel
theorem dX7_end_136 : decode cX7_end 136 = .ok (.ireturn, 1) := by decide +kernel
theorem dX7_count_0 : decode cX7_count 0 = .ok (.iload_n 1, 1) := by decide +kernel
theorem dX7_count_1 : decode cX7_count 1 = .ok (.tableswitch 51 0 3 #[31, 36, 41, 46], 31) := by decide +kernel
theorem dX7_count_32 : decode cX7_count 32 = .ok (.aload_n 0, 1) := by decide +kernel
theorem dX7_count_33 : decode cX7_count 33 = .ok (.getfield 16, 3) := by decide +kernel
theorem dX7_count_36 : decode cX7_count 36 = .ok (.ireturn, 1) := by decide +kernel
theorem dX7_count_37 : decode cX7_count 37 = .ok (.aload_n 0, 1) := by decide +kernel
theorem dX7_count_38 : decode cX7_count 38 = .ok (.getfield 31, 3) := by decide +kernel
theorem dX7_count_41 : decode cX7_count 41 = .ok (.ireturn, 1) := by decide +kernel
theorem dX7_count_42 : decode cX7_count 42 = .ok (.aload_n 0, 1) := by decide +kernel
theorem dX7_count_43 : decode cX7_count 43 = .ok (.getfield 68, 3) := by decide +kernel
theorem dX7_count_46 : decode cX7_count 46 = .ok (.ireturn, 1) := by decide +kernel
theorem dX7_count_47 : decode cX7_count 47 = .ok (.aload_n 0, 1) := by decide +kernel
theorem dX7_count_48 : decode cX7_count 48 = .ok (.getfield 62, 3) := by decide +kernel
theorem dX7_count_51 : decode cX7_count 51 = .ok (.ireturn, 1) := by decide +kernel
theorem dX7_count_52 : decode cX7_count 52 = .ok (.iconst (-1), 1) := by decide +kernel
theorem dX7_count_53 : decode cX7_count 53 = .ok (.ireturn, 1) := by decide +kernel
theorem dJ6_compare_7cf53_0 : decode cJ6_compare_7cf53 0 = .ok (.iload_n 0, 1) := by decide +kernel
theorem dJ6_compare_7cf53_1 : decode cJ6_compare_7cf53 1 = .ok (.iload_n 1, 1) := by decide +kernel
theorem dJ6_compare_7cf53_2 : decode cJ6_compare_7cf53 2 = .ok (.if_icmp .ge 7, 3) := by decide +kernel
theorem dJ6_compare_7cf53_5 : decode cJ6_compare_7cf53 5 = .ok (.iconst (-1), 1) := by decide +kernel
theorem dJ6_compare_7cf53_6 : decode cJ6_compare_7cf53 6 = .ok (.goto 13, 3) := by decide +kernel
theorem dJ6_compare_7cf53_9 : decode cJ6_compare_7cf53 9 = .ok (.iload_n 0, 1) := by decide +kernel
theorem dJ6_compare_7cf53_10 : decode cJ6_compare_7cf53 10 = .ok (.iload_n 1, 1) := by decide +kernel
theorem dJ6_compare_7cf53_11 : decode cJ6_compare_7cf53 11 = .ok (.if_icmp .ne 7, 3) := by decide +kernel
theorem dJ6_compare_7cf53_14 : decode cJ6_compare_7cf53 14 = .ok (.iconst 0, 1) := by decide +kernel
theorem dJ6_compare_7cf53_15 : decode cJ6_compare_7cf53 15 = .ok (.goto 4, 3) := by decide +kernel
theorem dJ6_compare_7cf53_18 : decode cJ6_compare_7cf53 18 = .ok (.iconst 1, 1) := by decide +kernel
theorem dJ6_compare_7cf53_19 : decode cJ6_compare_7cf53 19 = .ok (.ireturn, 1) := by decide +kernel
theorem dJ9_max_7cf53_0 : decode cJ9_max_7cf53 0 = .ok (.iload_n 0, 1) := by decide +kernel
theorem dJ9_max_7cf53_1 : decode cJ9_max_7cf53 1 = .ok (.iload_n 1, 1) := by decide +kernel
theorem dJ9_max_7cf53_2 : decode cJ9_max_7cf53 2 = .ok (.if_icmp .lt 7, 3) := by decide +kernel
theorem dJ9_max_7cf53_5 : decode cJ9_max_7cf53 5 = .ok (.iload_n 0, 1) := by decide +kernel
theorem dJ9_max_7cf53_6 : decode cJ9_max_7cf53 6 = .ok (.goto 4, 3) := by decide +kernel
theorem dJ9_max_7cf53_9 : decode cJ9_max_7cf53 9 = .ok (.iload_n 1, 1) := by decide +kernel
theorem dJ9_max_7cf53_10 : decode cJ9_max_7cf53 10 = .ok (.ireturn, 1) := by decide +kernel
theorem dJ9_min_7cf53_0 : decode cJ9_min_7cf53 0 = .ok (.iload_n 0, 1) := by decide +kernel
theorem dJ9_min_7cf53_1 : decode cJ9_min_7cf53 1 = .ok (.iload_n 1, 1) := by decide +kernel
theorem dJ9_min_7cf53_2 : decode cJ9_min_7cf53 2 = .ok (.if_icmp .gt 7, 3) := by decide +kernel
theorem dJ9_min_7cf53_5 : decode cJ9_min_7cf53 5 = .ok (.iload_n 0, 1) := by decide +kernel
theorem dJ9_min_7cf53_6 : decode cJ9_min_7cf53 6 = .ok (.goto 4, 3) := by decide +kernel
theorem dJ9_min_7cf53_9 : decode cJ9_min_7cf53 9 = .ok (.iload_n 1, 1) := by decide +kernel
theorem dJ9_min_7cf53_10 : decode cJ9_min_7cf53 10 = .ok (.ireturn, 1) := by decide +kernel
