theorem dX6_asks_137 : decode cX6_asks 137 = .ok (.ifCond .ne 6, 3) := by decide +kernel
theorem dX6_asks_140 : decode cX6_asks 140 = .ok (.goto 54, 3) := by decide +kernel
theorem dX6_asks_143 : decode cX6_asks 143 = .ok (.aload_n 0, 1) := by decide +kernel
theorem dX6_asks_144 : decode cX6_asks 144 = .ok (.iload 7, 2) := by decide +kernel
theorem dX6_asks_146 : decode cX6_asks 146 = .ok (.iload_n 2, 1) := by decide +kernel
theorem dX6_asks_147 : decode cX6_asks 147 = .ok (.iload 5, 2) := by decide +kernel
theorem dX6_asks_149 : decode cX6_asks 149 = .ok (.invokevirtual 289, 3) := by decide +kernel
theorem dX6_asks_152 : decode cX6_asks 152 = .ok (.istore 8, 2) := by decide +kernel
theorem dX6_asks_154 : decode cX6_asks 154 = .ok (.aload_n 0, 1) := by decide +kernel
theorem dX6_asks_155 : decode cX6_asks 155 = .ok (.getfield 134, 3) := by decide +kernel
theorem dX6_asks_158 : decode cX6_asks 158 = .ok (.iconst 1, 1) := by decide +kernel
theorem dX6_asks_159 : decode cX6_asks 159 = .ok (.dup2, 1) := by decide +kernel
theorem dX6_asks_160 : decode cX6_asks 160 = .ok (.iaload, 1) := by decide +kernel
theorem dX6_asks_161 : decode cX6_asks 161 = .ok (.iconst 1, 1) := by decide +kernel
theorem dX6_asks_162 : decode cX6_asks 162 = .ok (.iadd, 1) := by decide +kernel
theorem dX6_asks_163 : decode cX6_asks 163 = .ok (.iastore, 1) := by decide +kernel
theorem dX6_asks_164 : decode cX6_asks 164 = .ok (.aload_n 0, 1) := by decide +kernel
theorem dX6_asks_165 : decode cX6_asks 165 = .ok (.getfield 134, 3) := by decide +kernel
theorem dX6_asks_168 : decode cX6_asks 168 = .ok (.iconst 2, 1) := by decide +kernel
theorem dX6_asks_169 : decode cX6_asks 169 = .ok (.dup2, 1) := by decide +kernel
theorem dX6_asks_170 : decode cX6_asks 170 = .ok (.iaload, 1) := by decide +kernel
theorem dX6_asks_171 : decode cX6_asks 171 = .ok (.iload 8, 2) := by decide +kernel
theorem dX6_asks_173 : decode cX6_asks 173 = .ok (.iadd, 1) := by decide +kernel
theorem dX6_asks_174 : decode cX6_asks 174 = .ok (.iastore, 1) := by decide +kernel
theorem dX6_asks_175 : decode cX6_asks 175 = .ok (.iload 8, 2) := by decide +kernel
theorem dX6_asks_177 : decode cX6_asks 177 = .ok (.aload_n 0, 1) := by decide +kernel
theorem dX6_asks_178 : decode cX6_asks 178 = .ok (.getfield 134, 3) := by decide +kernel
theorem dX6_asks_181 : decode cX6_asks 181 = .ok (.iconst 3, 1) := by decide +kernel
theorem dX6_asks_182 : decode cX6_asks 182 = .ok (.iaload, 1) := by decide +kernel
theorem dX6_asks_183 : decode cX6_asks 183 = .ok (.if_icmp .le 11, 3) := by decide +kernel
theorem dX6_asks_186 : decode cX6_asks 186 = .ok (.aload_n 0, 1) := by decide +kernel
theorem dX6_asks_187 : decode cX6_asks 187 = .ok (.getfield 134, 3) := by decide +kernel
theorem dX6_asks_190 : decode cX6_asks 190 = .ok (.iconst 3, 1) := by decide +kernel
theorem dX6_asks_191 : decode cX6_asks 191 = .ok (.iload 8, 2) := by decide +kernel
theorem dX6_asks_193 : decode cX6_asks 193 = .ok (.iastore, 1) := by decide +kernel
theorem dX6_asks_194 : decode cX6_asks 194 = .ok (.iinc 7 1, 3) := by decide +kernel
theorem dX6_asks_197 : decode cX6_asks 197 = .ok (.goto (-76), 3) := by decide +kernel
theorem dX6_asks_200 : decode cX6_asks 200 = .ok (.aload_n 0, 1) := by decide +kernel
theorem dX6_asks_201 : decode cX6_asks 201 = .ok (.getfield 134, 3) := by decide +kernel
theorem dX6_asks_204 : decode cX6_asks 204 = .ok (.iconst 4, 1) := by decide +kernel
theorem dX6_asks_205 : decode cX6_asks 205 = .ok (.aload_n 0, 1) := by decide +kernel
theorem dX6_asks_206 : decode cX6_asks 206 = .ok (.iload_n 1, 1) := by decide +kernel
theorem dX6_asks_207 : decode cX6_asks 207 = .ok (.iload_n 3, 1) := by decide +kernel
theorem dX6_asks_208 : decode cX6_asks 208 = .ok (.invokevirtual 276, 3) := by decide +kernel
theorem dX6_asks_211 : decode cX6_asks 211 = .ok (.iastore, 1) := by decide +kernel
theorem dX6_asks_212 : decode cX6_asks 212 = .ok (.aload_n 0, 1) := by decide +kernel
theorem dX6_asks_213 : decode cX6_asks 213 = .ok (.getfield 134, 3) := by decide +kernel
theorem dX6_asks_216 : decode cX6_asks 216 = .ok (.iconst 5, 1) := by decide +kernel
theorem dX6_asks_217 : decode cX6_asks 217 = .ok (.aload_n 0, 1) := by decide +kernel
theorem dX6_asks_218 : decode cX6_asks 218 = .ok (.iload_n 1, 1) := by decide +kernel
theorem dX6_asks_219 : decode cX6_asks 219 = .ok (.iload_n 3, 1) := by decide +kernel
theorem dX6_asks_220 : decode cX6_asks 220 = .ok (.iload 5, 2) := by decide +kernel
theorem dX6_asks_222 : decode cX6_asks 222 = .ok (.invokevirtual 279, 3) := by decide +kernel
theorem dX6_asks_225 : decode cX6_asks 225 = .ok (.ifCond .eq 7, 3) := by decide +kernel
theorem dX6_asks_228 : decode cX6_asks 228 = .ok (.iconst 1, 1) := by decide +kernel
theorem dX6_asks_229 : decode cX6_asks 229 = .ok (.goto 4, 3) := by decide +kernel
theorem dX6_asks_232 : decode cX6_asks 232 = .ok (.iconst 0, 1) := by decide +kernel
theorem dX6_asks_233 : decode cX6_asks 233 = .ok (.iastore, 1) := by decide +kernel
theorem dX6_asks_234 : decode cX6_asks 234 = .ok (.aload_n 0, 1) := by decide +kernel
theorem dX6_asks_235 : decode cX6_asks 235 = .ok (.getfield 134, 3) := by decide +kernel
theorem dX6_asks_238 : decode cX6_asks 238 = .ok (.bipush 6, 2) := by decide +kernel
theorem dX6_asks_240 : decode cX6_asks 240 = .ok (.iconst 0, 1) := by decide +kernel
theorem dX6_asks_241 : decode cX6_asks 241 = .ok (.iastore, 1) := by decide +kernel
theorem dX6_asks_242 : decode cX6_asks 242 = .ok (.iconst 0, 1) := by decide +kernel
theorem dX6_asks_243 : decode cX6_asks 243 = .ok (.istore 7, 2) := by decide +kernel
theorem dX6_asks_245 : decode cX6_asks 245 = .ok (.iload 7, 2) := by decide +kernel
theorem dX6_asks_247 : decode cX6_asks 247 = .ok (.aload_n 0, 1) := by decide +kernel
theorem dX6_asks_248 : decode cX6_asks 248 = .ok (.getfield 250, 3) := by decide +kernel
theorem dX6_asks_251 : decode cX6_asks 251 = .ok (.if_icmp .ge 91, 3) := by decide +kernel
theorem dX6_asks_254 : decode cX6_asks 254 = .ok (.aload_n 0, 1) := by decide +kernel
theorem dX6_asks_255 : decode cX6_asks 255 = .ok (.getfield 98, 3) := by decide +kernel
theorem dX6_asks_258 : decode cX6_asks 258 = .ok (.bipush 6, 2) := by decide +kernel
theorem dX6_asks_260 : decode cX6_asks 260 = .ok (.iload 7, 2) := by decide +kernel
theorem dX6_asks_262 : decode cX6_asks 262 = .ok (.imul, 1) := by decide +kernel
theorem dX6_asks_263 : decode cX6_asks 263 = .ok (.iload_n 1, 1) := by decide +kernel
theorem dX6_asks_264 : decode cX6_asks 264 = .ok (.iadd, 1) := by decide +kernel
theorem dX6_asks_265 : decode cX6_asks 265 = .ok (.iaload, 1) := by decide +kernel
theorem dX6_asks_266 : decode cX6_asks 266 = .ok (.istore 8, 2) := by decide +kernel
theorem dX6_asks_268 : decode cX6_asks 268 = .ok (.iload 7, 2) := by decide +kernel
theorem dX6_asks_270 : decode cX6_asks 270 = .ok (.iload_n 1, 1) := by decide +kernel
theorem dX6_asks_271 : decode cX6_asks 271 = .ok (.if_icmp .eq 65, 3) := by decide +kernel
theorem dX6_asks_274 : decode cX6_asks 274 = .ok (.iload 8, 2) := by decide +kernel
theorem dX6_asks_276 : decode cX6_asks 276 = .ok (.iconst (-1), 1) := by decide +kernel
theorem dX6_asks_277 : decode cX6_asks 277 = .ok (.if_icmp .eq 59, 3) := by decide +kernel
theorem dX6_asks_280 : decode cX6_asks 280 = .ok (.aload_n 0, 1) := by decide +kernel
theorem dX6_asks_281 : decode cX6_asks 281 = .ok (.getfield 116, 3) := by decide +kernel
theorem dX6_asks_284 : decode cX6_asks 284 = .ok (.iload 7, 2) := by decide +kernel
theorem dX6_asks_286 : decode cX6_asks 286 = .ok (.iaload, 1) := by decide +kernel
theorem dX6_asks_287 : decode cX6_asks 287 = .ok (.iload 4, 2) := by decide +kernel
theorem dX6_asks_289 : decode cX6_asks 289 = .ok (.if_icmp .gt 6, 3) := by decide +kernel
theorem dX6_asks_292 : decode cX6_asks 292 = .ok (.goto 44, 3) := by decide +kernel
theorem dX6_asks_295 : decode cX6_asks 295 = .ok (.aload_n 0, 1) := by decide +kernel
theorem dX6_asks_296 : decode cX6_asks 296 = .ok (.getfield 119, 3) := by decide +kernel
theorem dX6_asks_299 : decode cX6_asks 299 = .ok (.bipush 16, 2) := by decide +kernel
theorem dX6_asks_301 : decode cX6_asks 301 = .ok (.iload 7, 2) := by decide +kernel
theorem dX6_asks_303 : decode cX6_asks 303 = .ok (.imul, 1) := by decide +kernel
theorem dX6_asks_304 : decode cX6_asks 304 = .ok (.iload 4, 2) := by decide +kernel
theorem dX6_asks_306 : decode cX6_asks 306 = .ok (.iadd, 1) := by decide +kernel
theorem dX6_asks_307 : decode cX6_asks 307 = .ok (.iaload, 1) := by decide +kernel
theorem dX6_asks_308 : decode cX6_asks 308 = .ok (.istore 9, 2) := by decide +kernel
theorem dX6_asks_310 : decode cX6_asks 310 = .ok (.iload 9, 2) := by decide +kernel
theorem dX6_asks_312 : decode cX6_asks 312 = .ok (.iload_n 3, 1) := by decide +kernel
theorem dX6_asks_313 : decode cX6_asks 313 = .ok (.if_icmp .gt 23, 3) := by decide +kernel
theorem dX6_asks_316 : decode cX6_asks 316 = .ok (.iload 9, 2) := by decide +kernel
theorem dX6_asks_318 : decode cX6_asks 318 = .ok (.iload 8, 2) := by decide +kernel
theorem dX6_asks_320 : decode cX6_asks 320 = .ok (.iadd, 1) := by decide +kernel
theorem dX6_asks_321 : decode cX6_asks 321 = .ok (.iload_n 2, 1) := by decide +kernel
theorem dX6_asks_322 : decode cX6_asks 322 = .ok (.if_icmp .gt 14, 3) := by decide +kernel
theorem dX6_asks_325 : decode cX6_asks 325 = .ok (.aload_n 0, 1) := by decide +kernel
theorem dX6_asks_326 : decode cX6_asks 326 = .ok (.getfield 134, 3) := by decide +kernel
theorem dX6_asks_329 : decode cX6_asks 329 = .ok (.bipush 6, 2) := by decide +kernel
theorem dX6_asks_331 : decode cX6_asks 331 = .ok (.dup2, 1) := by decide +kernel
theorem dX6_asks_332 : decode cX6_asks 332 = .ok (.iaload, 1) := by decide +kernel
theorem dX6_asks_333 : decode cX6_asks 333 = .ok (.iconst 1, 1) := by decide +kernel
theorem dX6_asks_334 : decode cX6_asks 334 = .ok (.iadd, 1) := by decide +kernel
theorem dX6_asks_335 : decode cX6_asks 335 = .ok (.iastore, 1) := by decide +kernel
theorem dX6_asks_336 : decode cX6_asks 336 = .ok (.iinc 7 1, 3) := by decide +kernel
theorem dX6_asks_339 : decode cX6_asks 339 = .ok (.goto (-94), 3) := by decide +kernel
theorem dX6_asks_342 : decode cX6_asks 342 = .ok (.aload_n 0, 1) := by decide +kernel
theorem dX6_asks_343 : decode cX6_asks 343 = .ok (.getfield 134, 3) := by decide +kernel
theorem dX6_asks_346 : decode cX6_asks 346 = .ok (.bipush 7, 2) := by decide +kernel
theorem dX6_asks_348 : decode cX6_asks 348 = .ok (.iload 4, 2) := by decide +kernel
theorem dX6_asks_350 : decode cX6_asks 350 = .ok (.iastore, 1) := by decide +kernel
theorem dX6_asks_351 : decode cX6_asks 351 = .ok (.return_, 1) := by decide +kernel
theorem dX6_value_0 : decode cX6_value 0 = .ok (.iconst 0, 1) := by decide +kernel
theorem dX6_value_1 : decode cX6_value 1 = .ok (.istore_n 3, 1) := by decide +kernel
theorem dX6_value_2 : decode cX6_value 2 = .ok (.iload_n 1, 1) := by decide +kernel
theorem dX6_value_3 : decode cX6_value 3 = .ok (.istore 4, 2) := by decide +kernel
theorem dX6_value_5 : decode cX6_value 5 = .ok (.iload 4, 2) := by decide +kernel
theorem dX6_value_7 : decode cX6_value 7 = .ok (.iload_n 2, 1) := by decide +kernel
theorem dX6_value_8 : decode cX6_value 8 = .ok (.if_icmp .ge 136, 3) := by decide +kernel
theorem dX6_value_11 : decode cX6_value 11 = .ok (.aload_n 0, 1) := by decide +kernel
theorem dX6_value_12 : decode cX6_value 12 = .ok (.getfield 74, 3) := by decide +kernel
theorem dX6_value_15 : decode cX6_value 15 = .ok (.iload 4, 2) := by decide +kernel
theorem dX6_value_17 : decode cX6_value 17 = .ok (.iaload, 1) := by decide +kernel
theorem dX6_value_18 : decode cX6_value 18 = .ok (.iconst 2, 1) := by decide +kernel
theorem dX6_value_19 : decode cX6_value 19 = .ok (.if_icmp .ge 47, 3) := by decide +kernel
theorem dX6_value_22 : decode cX6_value 22 = .ok (.aload_n 0, 1) := by decide +kernel
theorem dX6_value_23 : decode cX6_value 23 = .ok (.getfield 137, 3) := by decide +kernel
theorem dX6_value_26 : decode cX6_value 26 = .ok (.iload_n 3, 1) := by decide +kernel
theorem dX6_value_27 : decode cX6_value 27 = .ok (.aload_n 0, 1) := by decide +kernel
theorem dX6_value_28 : decode cX6_value 28 = .ok (.getfield 74, 3) := by decide +kernel
theorem dX6_value_31 : decode cX6_value 31 = .ok (.iload 4, 2) := by decide +kernel
theorem dX6_value_33 : decode cX6_value 33 = .ok (.iaload, 1) := by decide +kernel
theorem dX6_value_34 : decode cX6_value 34 = .ok (.ifCond .ne 13, 3) := by decide +kernel
theorem dX6_value_37 : decode cX6_value 37 = .ok (.aload_n 0, 1) := by decide +kernel
theorem dX6_value_38 : decode cX6_value 38 = .ok (.getfield 77, 3) := by decide +kernel
theorem dX6_value_41 : decode cX6_value 41 = .ok (.iload 4, 2) := by decide +kernel
theorem dX6_value_43 : decode cX6_value 43 = .ok (.iaload, 1) := by decide +kernel
theorem dX6_value_44 : decode cX6_value 44 = .ok (.goto 15, 3) := by decide +kernel
theorem dX6_value_47 : decode cX6_value 47 = .ok (.aload_n 0, 1) := by decide +kernel
theorem dX6_value_48 : decode cX6_value 48 = .ok (.getfield 134, 3) := by decide +kernel
theorem dX6_value_51 : decode cX6_value 51 = .ok (.aload_n 0, 1) := by decide +kernel
theorem dX6_value_52 : decode cX6_value 52 = .ok (.getfield 77, 3) := by decide +kernel
theorem dX6_value_55 : decode cX6_value 55 = .ok (.iload 4, 2) := by decide +kernel
theorem dX6_value_57 : decode cX6_value 57 = .ok (.iaload, 1) := by decide +kernel
theorem dX6_value_58 : decode cX6_value 58 = .ok (.iaload, 1) := by decide +kernel
theorem dX6_value_59 : decode cX6_value 59 = .ok (.iastore, 1) := by decide +kernel
theorem dX6_value_60 : decode cX6_value 60 = .ok (.iinc 3 1, 3) := by decide +kernel
theorem dX6_value_63 : decode cX6_value 63 = .ok (.goto 75, 3) := by decide +kernel
theorem dX6_value_66 : decode cX6_value 66 = .ok (.iinc 3 (-1), 3) := by decide +kernel
theorem dX6_value_69 : decode cX6_value 69 = .ok (.aload_n 0, 1) := by decide +kernel
theorem dX6_value_70 : decode cX6_value 70 = .ok (.getfield 137, 3) := by decide +kernel
theorem dX6_value_73 : decode cX6_value 73 = .ok (.iload_n 3, 1) := by decide +kernel
theorem dX6_value_74 : decode cX6_value 74 = .ok (.iconst 1, 1) := by decide +kernel
theorem dX6_value_75 : decode cX6_value 75 = .ok (.isub, 1) := by decide +kernel
theorem dX6_value_76 : decode cX6_value 76 = .ok (.iaload, 1) := by decide +kernel
theorem dX6_value_77 : decode cX6_value 77 = .ok (.istore 5, 2) := by decide +kernel
theorem dX6_value_79 : decode cX6_value 79 = .ok (.aload_n 0, 1) := by decide +kernel
theorem dX6_value_80 : decode cX6_value 80 = .ok (.getfield 137, 3) := by decide +kernel
theorem dX6_value_83 : decode cX6_value 83 = .ok (.iload_n 3, 1) := by decide +kernel
theorem dX6_value_84 : decode cX6_value 84 = .ok (.iaload, 1) := by decide +kernel
theorem dX6_value_85 : decode cX6_value 85 = .ok (.istore 6, 2) := by decide +kernel
theorem dX6_value_87 : decode cX6_value 87 = .ok (.aload_n 0, 1) := by decide +kernel
theorem dX6_value_88 : decode cX6_value 88 = .ok (.getfield 137, 3) := by decide +kernel
theorem dX6_value_91 : decode cX6_value 91 = .ok (.iload_n 3, 1) := by decide +kernel
theorem dX6_value_92 : decode cX6_value 92 = .ok (.iconst 1, 1) := by decide +kernel
theorem dX6_value_93 : decode cX6_value 93 = .ok (.isub, 1) := by decide +kernel
theorem dX6_value_94 : decode cX6_value 94 = .ok (.aload_n 0, 1) := by decide +kernel
theorem dX6_value_95 : decode cX6_value 95 = .ok (.getfield 74, 3) := by decide +kernel
theorem dX6_value_98 : decode cX6_value 98 = .ok (.iload 4, 2) := by decide +kernel
theorem dX6_value_100 : decode cX6_value 100 = .ok (.iaload, 1) := by decide +kernel
theorem dX6_value_101 : decode cX6_value 101 = .ok (.iconst 2, 1) := by decide +kernel
theorem dX6_value_102 : decode cX6_value 102 = .ok (.if_icmp .ne 11, 3) := by decide +kernel
theorem dX6_value_105 : decode cX6_value 105 = .ok (.iload 5, 2) := by decide +kernel
theorem dX6_value_107 : decode cX6_value 107 = .ok (.iload 6, 2) := by decide +kernel
theorem dX6_value_109 : decode cX6_value 109 = .ok (.iadd, 1) := by decide +kernel
theorem dX6_value_110 : decode cX6_value 110 = .ok (.goto 27, 3) := by decide +kernel
theorem dX6_value_113 : decode cX6_value 113 = .ok (.aload_n 0, 1) := by decide +kernel
theorem dX6_value_114 : decode cX6_value 114 = .ok (.getfield 74, 3) := by decide +kernel
theorem dX6_value_117 : decode cX6_value 117 = .ok (.iload 4, 2) := by decide +kernel
theorem dX6_value_119 : decode cX6_value 119 = .ok (.iaload, 1) := by decide +kernel
theorem dX6_value_120 : decode cX6_value 120 = .ok (.iconst 3, 1) := by decide +kernel
theorem dX6_value_121 : decode cX6_value 121 = .ok (.if_icmp .ne 11, 3) := by decide +kernel
theorem dX6_value_124 : decode cX6_value 124 = .ok (.iload 5, 2) := by decide +kernel
theorem dX6_value_126 : decode cX6_value 126 = .ok (.iload 6, 2) := by decide +kernel
theorem dX6_value_128 : decode cX6_value 128 = .ok (.isub, 1) := by decide +kernel
theorem dX6_value_129 : decode cX6_value 129 = .ok (.goto 8, 3) := by decide +kernel
theorem dX6_value_132 : decode cX6_value 132 = .ok (.iload 5, 2) := by decide +kernel
theorem dX6_value_134 : decode cX6_value 134 = .ok (.iload 6, 2) := by decide +kernel
theorem dX6_value_136 : decode cX6_value 136 = .ok (.imul, 1) := by decide +kernel
theorem dX6_value_137 : decode cX6_value 137 = .ok (.iastore, 1) := by decide +kernel
theorem dX6_value_138 : decode cX6_value 138 = .ok (.iinc 4 1, 3) := by decide +kernel
theorem dX6_value_141 : decode cX6_value 141 = .ok (.goto (-136), 3) := by decide +kernel
theorem dX6_value_144 : decode cX6_value 144 = .ok (.aload_n 0, 1) := by decide +kernel
theorem dX6_value_145 : decode cX6_value 145 = .ok (.getfield 137, 3) := by decide +kernel
theorem dX6_value_148 : decode cX6_value 148 = .ok (.iconst 0, 1) := by decide +kernel
theorem dX6_value_149 : decode cX6_value 149 = .ok (.iaload, 1) := by decide +kernel
theorem dX6_value_150 : decode cX6_value 150 = .ok (.ireturn, 1) := by decide +kernel
set_option maxRecDepth 20000 in
theorem ggX6_holds_X6_value : GoodIn wsX6_holds wsX6_value := goodIn_r _ [12, 13, 14, 15, 16, 17, 18, 19, 20, 21, 22, 23, 24, 25, 26, 27, 28, 29, 30, 31, 32, 33, 34, 35, 36, 37, 38, 39, 40, 41, 42, 43, 44, 45, 46, 47, 48, 49, 50, 51, 52, 53, 54, 55, 56, 57, 58, 59, 60, 61, 62, 63, 64, 65, 66, 67, 68, 69, 70, 71, 72, 73, 74, 75, 76] (by decide +kernel) (by decide +kernel)
set_option maxRecDepth 20000 in
theorem gX6_holds_X6_value : GoodIn wsX6_holds (wsV RX6 296 RX6 yX6_value wsX6_value) := goodIn_app (goodIn_of _ (by decide +kernel)) ggX6_holds_X6_value
theorem dX6_holds_0 : decode cX6_holds 0 = .ok (.iconst 0, 1) := by decide +kernel
theorem dX6_holds_1 : decode cX6_holds 1 = .ok (.istore_n 3, 1) := by decide +kernel
theorem dX6_holds_2 : decode cX6_holds 2 = .ok (.aload_n 0, 1) := by decide +kernel
theorem dX6_holds_3 : decode cX6_holds 3 = .ok (.getfield 49, 3) := by decide +kernel
theorem dX6_holds_6 : decode cX6_holds 6 = .ok (.iload_n 1, 1) := by decide +kernel
theorem dX6_holds_7 : decode cX6_holds 7 = .ok (.iaload, 1) := by decide +kernel
theorem dX6_holds_8 : decode cX6_holds 8 = .ok (.istore 4, 2) := by decide +kernel
theorem dX6_holds_10 : decode cX6_holds 10 = .ok (.iload 4, 2) := by decide +kernel
theorem dX6_holds_12 : decode cX6_holds 12 = .ok (.aload_n 0, 1) := by decide +kernel
theorem dX6_holds_13 : decode cX6_holds 13 = .ok (.getfield 52, 3) := by decide +kernel
theorem dX6_holds_16 : decode cX6_holds 16 = .ok (.iload_n 1, 1) := by decide +kernel
theorem dX6_holds_17 : decode cX6_holds 17 = .ok (.iaload, 1) := by decide +kernel
theorem dX6_holds_18 : decode cX6_holds 18 = .ok (.if_icmp .ge 184, 3) := by decide +kernel
theorem dX6_holds_21 : decode cX6_holds 21 = .ok (.sipush 200, 3) := by decide +kernel
theorem dX6_holds_24 : decode cX6_holds 24 = .ok (.iload_n 2, 1) := by decide +kernel
theorem dX6_holds_25 : decode cX6_holds 25 = .ok (.imul, 1) := by decide +kernel
theorem dX6_holds_26 : decode cX6_holds 26 = .ok (.iload 4, 2) := by decide +kernel
theorem dX6_holds_28 : decode cX6_holds 28 = .ok (.iadd, 1) := by decide +kernel
theorem dX6_holds_29 : decode cX6_holds 29 = .ok (.istore 5, 2) := by decide +kernel
theorem dX6_holds_31 : decode cX6_holds 31 = .ok (.aload_n 0, 1) := by decide +kernel
theorem dX6_holds_32 : decode cX6_holds 32 = .ok (.getfield 70, 3) := by decide +kernel
theorem dX6_holds_35 : decode cX6_holds 35 = .ok (.iload 5, 2) := by decide +kernel
theorem dX6_holds_37 : decode cX6_holds 37 = .ok (.baload, 1) := by decide +kernel
theorem dX6_holds_38 : decode cX6_holds 38 = .ok (.ifCond .eq 9, 3) := by decide +kernel
theorem dX6_holds_41 : decode cX6_holds 41 = .ok (.iload_n 3, 1) := by decide +kernel
theorem dX6_holds_42 : decode cX6_holds 42 = .ok (.ifCond .eq 5, 3) := by decide +kernel
theorem dX6_holds_45 : decode cX6_holds 45 = .ok (.iconst 1, 1) := by decide +kernel
theorem dX6_holds_46 : decode cX6_holds 46 = .ok (.ireturn, 1) := by decide +kernel
theorem dX6_holds_47 : decode cX6_holds 47 = .ok (.aload_n 0, 1) := by decide +kernel
theorem dX6_holds_48 : decode cX6_holds 48 = .ok (.getfield 70, 3) := by decide +kernel
theorem dX6_holds_51 : decode cX6_holds 51 = .ok (.iload 5, 2) := by decide +kernel
theorem dX6_holds_53 : decode cX6_holds 53 = .ok (.baload, 1) := by decide +kernel
theorem dX6_holds_54 : decode cX6_holds 54 = .ok (.ifCond .eq 5, 3) := by decide +kernel
theorem dX6_holds_57 : decode cX6_holds 57 = .ok (.iconst 1, 1) := by decide +kernel
theorem dX6_holds_58 : decode cX6_holds 58 = .ok (.istore_n 3, 1) := by decide +kernel
theorem dX6_holds_59 : decode cX6_holds 59 = .ok (.iload_n 3, 1) := by decide +kernel
theorem dX6_holds_60 : decode cX6_holds 60 = .ok (.ifCond .ne 6, 3) := by decide +kernel
theorem dX6_holds_63 : decode cX6_holds 63 = .ok (.goto 133, 3) := by decide +kernel
theorem dX6_holds_66 : decode cX6_holds 66 = .ok (.aload_n 0, 1) := by decide +kernel
theorem dX6_holds_67 : decode cX6_holds 67 = .ok (.aload_n 0, 1) := by decide +kernel
theorem dX6_holds_68 : decode cX6_holds 68 = .ok (.getfield 61, 3) := by decide +kernel
theorem dX6_holds_71 : decode cX6_holds 71 = .ok (.iload 5, 2) := by decide +kernel
theorem dX6_holds_73 : decode cX6_holds 73 = .ok (.iaload, 1) := by decide +kernel
theorem dX6_holds_74 : decode cX6_holds 74 = .ok (.aload_n 0, 1) := by decide +kernel
theorem dX6_holds_75 : decode cX6_holds 75 = .ok (.getfield 64, 3) := by decide +kernel
theorem dX6_holds_78 : decode cX6_holds 78 = .ok (.iload 5, 2) := by decide +kernel
theorem dX6_holds_80 : decode cX6_holds 80 = .ok (.iaload, 1) := by decide +kernel
theorem dX6_holds_81 : decode cX6_holds 81 = .ok (.invokevirtual 296, 3) := by decide +kernel
theorem dX6_holds_84 : decode cX6_holds 84 = .ok (.istore 6, 2) := by decide +kernel
theorem dX6_holds_86 : decode cX6_holds 86 = .ok (.aload_n 0, 1) := by decide +kernel
theorem dX6_holds_87 : decode cX6_holds 87 = .ok (.aload_n 0, 1) := by decide +kernel
theorem dX6_holds_88 : decode cX6_holds 88 = .ok (.getfield 64, 3) := by decide +kernel
theorem dX6_holds_91 : decode cX6_holds 91 = .ok (.iload 5, 2) := by decide +kernel
theorem dX6_holds_93 : decode cX6_holds 93 = .ok (.iaload, 1) := by decide +kernel
theorem dX6_holds_94 : decode cX6_holds 94 = .ok (.aload_n 0, 1) := by decide +kernel
theorem dX6_holds_95 : decode cX6_holds 95 = .ok (.getfield 67, 3) := by decide +kernel
theorem dX6_holds_98 : decode cX6_holds 98 = .ok (.iload 5, 2) := by decide +kernel
theorem dX6_holds_100 : decode cX6_holds 100 = .ok (.iaload, 1) := by decide +kernel
theorem dX6_holds_101 : decode cX6_holds 101 = .ok (.invokevirtual 296, 3) := by decide +kernel
theorem dX6_holds_104 : decode cX6_holds 104 = .ok (.istore 7, 2) := by decide +kernel
theorem dX6_holds_106 : decode cX6_holds 106 = .ok (.aload_n 0, 1) := by decide +kernel
theorem dX6_holds_107 : decode cX6_holds 107 = .ok (.getfield 58, 3) := by decide +kernel
theorem dX6_holds_110 : decode cX6_holds 110 = .ok (.iload 5, 2) := by decide +kernel
theorem dX6_holds_112 : decode cX6_holds 112 = .ok (.iaload, 1) := by decide +kernel
theorem dX6_holds_113 : decode cX6_holds 113 = .ok (.ifCond .ne 18, 3) := by decide +kernel
theorem dX6_holds_116 : decode cX6_holds 116 = .ok (.iload 6, 2) := by decide +kernel
theorem dX6_holds_118 : decode cX6_holds 118 = .ok (.iload 7, 2) := by decide +kernel
theorem dX6_holds_120 : decode cX6_holds 120 = .ok (.if_icmp .ne 7, 3) := by decide +kernel
theorem dX6_holds_123 : decode cX6_holds 123 = .ok (.iconst 1, 1) := by decide +kernel
theorem dX6_holds_124 : decode cX6_holds 124 = .ok (.goto 71, 3) := by decide +kernel
theorem dX6_holds_127 : decode cX6_holds 127 = .ok (.iconst 0, 1) := by decide +kernel
theorem dX6_holds_128 : decode cX6_holds 128 = .ok (.goto 67, 3) := by decide +kernel
theorem dX6_holds_131 : decode cX6_holds 131 = .ok (.aload_n 0, 1) := by decide +kernel
theorem dX6_holds_132 : decode cX6_holds 132 = .ok (.getfield 58, 3) := by decide +kernel
theorem dX6_holds_135 : decode cX6_holds 135 = .ok (.iload 5, 2) := by decide +kernel
theorem dX6_holds_137 : decode cX6_holds 137 = .ok (.iaload, 1) := by decide +kernel
theorem dX6_holds_138 : decode cX6_holds 138 = .ok (.iconst 1, 1) := by decide +kernel
theorem dX6_holds_139 : decode cX6_holds 139 = .ok (.if_icmp .ne 18, 3) := by decide +kernel
theorem dX6_holds_142 : decode cX6_holds 142 = .ok (.iload 6, 2) := by decide +kernel
theorem dX6_holds_144 : decode cX6_holds 144 = .ok (.iload 7, 2) := by decide +kernel
theorem dX6_holds_146 : decode cX6_holds 146 = .ok (.if_icmp .eq 7, 3) := by decide +kernel
theorem dX6_holds_149 : decode cX6_holds 149 = .ok (.iconst 1, 1) := by decide +kernel
theorem dX6_holds_150 : decode cX6_holds 150 = .ok (.goto 45, 3) := by decide +kernel
theorem dX6_holds_153 : decode cX6_holds 153 = .ok (.iconst 0, 1) := by decide +kernel
theorem dX6_holds_154 : decode cX6_holds 154 = .ok (.goto 41, 3) := by decide +kernel
theorem dX6_holds_157 : decode cX6_holds 157 = .ok (.aload_n 0, 1) := by decide +kernel
theorem dX6_holds_158 : decode cX6_holds 158 = .ok (.getfield 58, 3) := by decide +kernel
theorem dX6_holds_161 : decode cX6_holds 161 = .ok (.iload 5, 2) := by decide +kernel
theorem dX6_holds_163 : decode cX6_holds 163 = .ok (.iaload, 1) := by decide +kernel
theorem dX6_holds_164 : decode cX6_holds 164 = .ok (.iconst 2, 1) := by decide +kernel
theorem dX6_holds_165 : decode cX6_holds 165 = .ok (.if_icmp .ne 18, 3) := by decide +kernel
theorem dX6_holds_168 : decode cX6_holds 168 = .ok (.iload 6, 2) := by decide +kernel
theorem dX6_holds_170 : decode cX6_holds 170 = .ok (.iload 7, 2) := by decide +kernel
theorem dX6_holds_172 : decode cX6_holds 172 = .ok (.if_icmp .ge 7, 3) := by decide +kernel
theorem dX6_holds_175 : decode cX6_holds 175 = .ok (.iconst 1, 1) := by decide +kernel
theorem dX6_holds_176 : decode cX6_holds 176 = .ok (.goto 19, 3) := by decide +kernel
theorem dX6_holds_179 : decode cX6_holds 179 = .ok (.iconst 0, 1) := by decide +kernel
theorem dX6_holds_180 : decode cX6_holds 180 = .ok (.goto 15, 3) := by decide +kernel
theorem dX6_holds_183 : decode cX6_holds 183 = .ok (.iload 6, 2) := by decide +kernel
theorem dX6_holds_185 : decode cX6_holds 185 = .ok (.iload 7, 2) := by decide +kernel
theorem dX6_holds_187 : decode cX6_holds 187 = .ok (.if_icmp .gt 7, 3) := by decide +kernel
theorem dX6_holds_190 : decode cX6_holds 190 = .ok (.iconst 1, 1) := by decide +kernel
theorem dX6_holds_191 : decode cX6_holds 191 = .ok (.goto 4, 3) := by decide +kernel
theorem dX6_holds_194 : decode cX6_holds 194 = .ok (.iconst 0, 1) := by decide +kernel
theorem dX6_holds_195 : decode cX6_holds 195 = .ok (.istore_n 3, 1) := by decide +kernel
theorem dX6_holds_196 : decode cX6_holds 196 = .ok (.iinc 4 1, 3) := by decide +kernel
theorem dX6_holds_199 : decode cX6_holds 199 = .ok (.goto (-189), 3) := by decide +kernel
theorem dX6_holds_202 : decode cX6_holds 202 = .ok (.iload_n 3, 1) := by decide +kernel
theorem dX6_holds_203 : decode cX6_holds 203 = .ok (.ireturn, 1) := by decide +kernel
set_option maxRecDepth 20000 in
theorem ggX6_ruleOf_X6_holds : GoodIn wsX6_ruleOf wsX6_holds := goodIn_r _ [8, 9, 10, 11, 12, 13, 14, 15, 16, 17, 18, 7, 19, 20, 21, 22, 23, 24, 25, 26, 27, 28, 29, 30, 31, 32, 33, 34, 35, 36, 37, 38, 39, 40, 41, 42, 43, 44, 45, 46, 47, 48, 49, 50, 51, 52, 53, 54, 55, 56, 57, 58, 59, 60, 61, 62, 63, 64, 65, 66, 67, 68, 69, 70, 71, 72, 73, 74, 75, 76, 77, 78, 79, 80, 81, 82, 83] (by decide +kernel) (by decide +kernel)
set_option maxRecDepth 20000 in
theorem gX6_ruleOf_X6_holds : GoodIn wsX6_ruleOf (wsV RX6 299 RX6 yX6_holds wsX6_holds) := goodIn_app (goodIn_of _ (by decide +kernel)) ggX6_ruleOf_X6_holds
theorem dX6_ruleOf_0 : decode cX6_ruleOf 0 = .ok (.iconst 2, 1) := by decide +kernel
theorem dX6_ruleOf_1 : decode cX6_ruleOf 1 = .ok (.iload_n 1, 1) := by decide +kernel
theorem dX6_ruleOf_2 : decode cX6_ruleOf 2 = .ok (.imul, 1) := by decide +kernel
theorem dX6_ruleOf_3 : decode cX6_ruleOf 3 = .ok (.aload_n 0, 1) := by decide +kernel
theorem dX6_ruleOf_4 : decode cX6_ruleOf 4 = .ok (.getfield 40, 3) := by decide +kernel
theorem dX6_ruleOf_7 : decode cX6_ruleOf 7 = .ok (.iload_n 1, 1) := by decide +kernel
theorem dX6_ruleOf_8 : decode cX6_ruleOf 8 = .ok (.iaload, 1) := by decide +kernel
theorem dX6_ruleOf_9 : decode cX6_ruleOf 9 = .ok (.iadd, 1) := by decide +kernel
theorem dX6_ruleOf_10 : decode cX6_ruleOf 10 = .ok (.istore_n 3, 1) := by decide +kernel
theorem dX6_ruleOf_11 : decode cX6_ruleOf 11 = .ok (.iconst 0, 1) := by decide +kernel
theorem dX6_ruleOf_12 : decode cX6_ruleOf 12 = .ok (.istore 4, 2) := by decide +kernel
theorem dX6_ruleOf_14 : decode cX6_ruleOf 14 = .ok (.iload 4, 2) := by decide +kernel
theorem dX6_ruleOf_16 : decode cX6_ruleOf 16 = .ok (.aload_n 0, 1) := by decide +kernel
theorem dX6_ruleOf_17 : decode cX6_ruleOf 17 = .ok (.getfield 43, 3) := by decide +kernel
theorem dX6_ruleOf_20 : decode cX6_ruleOf 20 = .ok (.iload_n 3, 1) := by decide +kernel
theorem dX6_ruleOf_21 : decode cX6_ruleOf 21 = .ok (.iaload, 1) := by decide +kernel
theorem dX6_ruleOf_22 : decode cX6_ruleOf 22 = .ok (.if_icmp .ge 43, 3) := by decide +kernel
theorem dX6_ruleOf_25 : decode cX6_ruleOf 25 = .ok (.aload_n 0, 1) := by decide +kernel
theorem dX6_ruleOf_26 : decode cX6_ruleOf 26 = .ok (.getfield 46, 3) := by decide +kernel
theorem dX6_ruleOf_29 : decode cX6_ruleOf 29 = .ok (.bipush 12, 2) := by decide +kernel
theorem dX6_ruleOf_31 : decode cX6_ruleOf 31 = .ok (.iload_n 3, 1) := by decide +kernel
theorem dX6_ruleOf_32 : decode cX6_ruleOf 32 = .ok (.imul, 1) := by decide +kernel
theorem dX6_ruleOf_33 : decode cX6_ruleOf 33 = .ok (.iload 4, 2) := by decide +kernel
theorem dX6_ruleOf_35 : decode cX6_ruleOf 35 = .ok (.iadd, 1) := by decide +kernel
theorem dX6_ruleOf_36 : decode cX6_ruleOf 36 = .ok (.iaload, 1) := by decide +kernel
theorem dX6_ruleOf_37 : decode cX6_ruleOf 37 = .ok (.iload_n 2, 1) := by decide +kernel
theorem dX6_ruleOf_38 : decode cX6_ruleOf 38 = .ok (.if_icmp .ne 21, 3) := by decide +kernel
theorem dX6_ruleOf_41 : decode cX6_ruleOf 41 = .ok (.aload_n 0, 1) := by decide +kernel
theorem dX6_ruleOf_42 : decode cX6_ruleOf 42 = .ok (.bipush 12, 2) := by decide +kernel
theorem dX6_ruleOf_44 : decode cX6_ruleOf 44 = .ok (.iload_n 3, 1) := by decide +kernel
theorem dX6_ruleOf_45 : decode cX6_ruleOf 45 = .ok (.imul, 1) := by decide +kernel
theorem dX6_ruleOf_46 : decode cX6_ruleOf 46 = .ok (.iload 4, 2) := by decide +kernel
theorem dX6_ruleOf_48 : decode cX6_ruleOf 48 = .ok (.iadd, 1) := by decide +kernel
theorem dX6_ruleOf_49 : decode cX6_ruleOf 49 = .ok (.iload_n 3, 1) := by decide +kernel
theorem dX6_ruleOf_50 : decode cX6_ruleOf 50 = .ok (.invokevirtual 299, 3) := by decide +kernel
theorem dX6_ruleOf_53 : decode cX6_ruleOf 53 = .ok (.ifCond .eq 6, 3) := by decide +kernel
theorem dX6_ruleOf_56 : decode cX6_ruleOf 56 = .ok (.iload 4, 2) := by decide +kernel
theorem dX6_ruleOf_58 : decode cX6_ruleOf 58 = .ok (.ireturn, 1) := by decide +kernel
theorem dX6_ruleOf_59 : decode cX6_ruleOf 59 = .ok (.iinc 4 1, 3) := by decide +kernel
theorem dX6_ruleOf_62 : decode cX6_ruleOf 62 = .ok (.goto (-48), 3) := by decide +kernel
theorem dX6_ruleOf_65 : decode cX6_ruleOf 65 = .ok (.iconst (-1), 1) := by decide +kernel
theorem dX6_ruleOf_66 : decode cX6_ruleOf 66 = .ok (.ireturn, 1) := by decide +kernel
theorem dX6_adds_0 : decode cX6_adds 0 = .ok (.aload_n 0, 1) := by decide +kernel
theorem dX6_adds_1 : decode cX6_adds 1 = .ok (.getfield 116, 3) := by decide +kernel
theorem dX6_adds_4 : decode cX6_adds 4 = .ok (.iload_n 1, 1) := by decide +kernel
theorem dX6_adds_5 : decode cX6_adds 5 = .ok (.iaload, 1) := by decide +kernel
theorem dX6_adds_6 : decode cX6_adds 6 = .ok (.bipush 16, 2) := by decide +kernel
theorem dX6_adds_8 : decode cX6_adds 8 = .ok (.if_icmp .ne 4, 3) := by decide +kernel
theorem dX6_adds_11 : decode cX6_adds 11 = .ok (.return_, 1) := by decide +kernel
theorem dX6_adds_12 : decode cX6_adds 12 = .ok (.bipush 16, 2) := by decide +kernel
theorem dX6_adds_14 : decode cX6_adds 14 = .ok (.iload_n 1, 1) := by decide +kernel
theorem dX6_adds_15 : decode cX6_adds 15 = .ok (.imul, 1) := by decide +kernel
theorem dX6_adds_16 : decode cX6_adds 16 = .ok (.aload_n 0, 1) := by decide +kernel
theorem dX6_adds_17 : decode cX6_adds 17 = .ok (.getfield 116, 3) := by decide +kernel
theorem dX6_adds_20 : decode cX6_adds 20 = .ok (.iload_n 1, 1) := by decide +kernel
theorem dX6_adds_21 : decode cX6_adds 21 = .ok (.iaload, 1) := by decide +kernel
theorem dX6_adds_22 : decode cX6_adds 22 = .ok (.iadd, 1) := by decide +kernel
theorem dX6_adds_23 : decode cX6_adds 23 = .ok (.istore 4, 2) := by decide +kernel
theorem dX6_adds_25 : decode cX6_adds 25 = .ok (.aload_n 0, 1) := by decide +kernel
theorem dX6_adds_26 : decode cX6_adds 26 = .ok (.getfield 119, 3) := by decide +kernel
theorem dX6_adds_29 : decode cX6_adds 29 = .ok (.iload 4, 2) := by decide +kernel
theorem dX6_adds_31 : decode cX6_adds 31 = .ok (.iload_n 2, 1) := by decide +kernel
theorem dX6_adds_32 : decode cX6_adds 32 = .ok (.iastore, 1) := by decide +kernel
theorem dX6_adds_33 : decode cX6_adds 33 = .ok (.aload_n 0, 1) := by decide +kernel
theorem dX6_adds_34 : decode cX6_adds 34 = .ok (.getfield 122, 3) := by decide +kernel
theorem dX6_adds_37 : decode cX6_adds 37 = .ok (.iload 4, 2) := by decide +kernel
theorem dX6_adds_39 : decode cX6_adds 39 = .ok (.iload_n 3, 1) := by decide +kernel
theorem dX6_adds_40 : decode cX6_adds 40 = .ok (.iastore, 1) := by decide +kernel
theorem dX6_adds_41 : decode cX6_adds 41 = .ok (.aload_n 0, 1) := by decide +kernel
theorem dX6_adds_42 : decode cX6_adds 42 = .ok (.getfield 125, 3) := by decide +kernel
theorem dX6_adds_45 : decode cX6_adds 45 = .ok (.iload 4, 2) := by decide +kernel
theorem dX6_adds_47 : decode cX6_adds 47 = .ok (.iload_n 2, 1) := by decide +kernel
theorem dX6_adds_48 : decode cX6_adds 48 = .ok (.iastore, 1) := by decide +kernel
theorem dX6_adds_49 : decode cX6_adds 49 = .ok (.aload_n 0, 1) := by decide +kernel
theorem dX6_adds_50 : decode cX6_adds 50 = .ok (.getfield 128, 3) := by decide +kernel
theorem dX6_adds_53 : decode cX6_adds 53 = .ok (.iload 4, 2) := by decide +kernel
theorem dX6_adds_55 : decode cX6_adds 55 = .ok (.iload_n 2, 1) := by decide +kernel
theorem dX6_adds_56 : decode cX6_adds 56 = .ok (.iastore, 1) := by decide +kernel
theorem dX6_adds_57 : decode cX6_adds 57 = .ok (.aload_n 0, 1) := by decide +kernel
theorem dX6_adds_58 : decode cX6_adds 58 = .ok (.getfield 131, 3) := by decide +kernel
theorem dX6_adds_61 : decode cX6_adds 61 = .ok (.iload 4, 2) := by decide +kernel
theorem dX6_adds_63 : decode cX6_adds 63 = .ok (.iload_n 3, 1) := by decide +kernel
theorem dX6_adds_64 : decode cX6_adds 64 = .ok (.bipush (-2), 2) := by decide +kernel
theorem dX6_adds_66 : decode cX6_adds 66 = .ok (.if_icmp .ne 7, 3) := by decide +kernel
theorem dX6_adds_69 : decode cX6_adds 69 = .ok (.iconst 1, 1) := by decide +kernel
theorem dX6_adds_70 : decode cX6_adds 70 = .ok (.goto 4, 3) := by decide +kernel
theorem dX6_adds_73 : decode cX6_adds 73 = .ok (.iconst 0, 1) := by decide +kernel
theorem dX6_adds_74 : decode cX6_adds 74 = .ok (.bastore, 1) := by decide +kernel
theorem dX6_adds_75 : decode cX6_adds 75 = .ok (.aload_n 0, 1) := by decide +kernel
theorem dX6_adds_76 : decode cX6_adds 76 = .ok (.getfield 116, 3) := by decide +kernel
theorem dX6_adds_79 : decode cX6_adds 79 = .ok (.iload_n 1, 1) := by decide +kernel
theorem dX6_adds_80 : decode cX6_adds 80 = .ok (.dup2, 1) := by decide +kernel
theorem dX6_adds_81 : decode cX6_adds 81 = .ok (.iaload, 1) := by decide +kernel
theorem dX6_adds_82 : decode cX6_adds 82 = .ok (.iconst 1, 1) := by decide +kernel
theorem dX6_adds_83 : decode cX6_adds 83 = .ok (.iadd, 1) := by decide +kernel
theorem dX6_adds_84 : decode cX6_adds 84 = .ok (.iastore, 1) := by decide +kernel
theorem dX6_adds_85 : decode cX6_adds 85 = .ok (.return_, 1) := by decide +kernel
set_option maxRecDepth 20000 in
theorem ggX6_goes_X6_evening : GoodIn wsX6_goes wsX6_evening := goodIn_r _ [8, 2, 9, 10, 11, 12, 13, 14, 15, 16, 17, 7, 18, 19, 20, 21, 22, 23, 24, 25, 26, 3, 27, 28, 29, 30, 31, 32, 33, 34, 35, 36, 37, 38, 39, 40, 41, 42, 43, 44, 45, 46, 47, 48, 49, 50, 51, 52, 53, 54, 55, 56, 57, 58, 59, 60, 61, 62, 63, 64, 65, 66, 67, 68, 69, 70, 71, 72, 73, 74, 75, 76, 77, 78, 79, 80, 81, 82, 83, 84, 85, 86, 87, 88, 89, 90, 91, 92, 93, 94, 95, 96, 97, 98, 99, 100, 101, 102, 103, 104, 105, 106, 107, 108, 109, 110, 111, 112, 113, 114, 115, 116, 117, 118, 119, 120, 121, 122, 123, 124, 125, 126, 127, 128, 129, 130, 131, 132, 133, 134, 135, 136, 137, 138, 139, 140, 141, 142, 143, 144] (by decide +kernel) (by decide +kernel)
set_option maxRecDepth 20000 in
theorem gX6_goes_X6_evening : GoodIn wsX6_goes (wsV RX6 303 RX6 yX6_evening wsX6_evening) := goodIn_app (goodIn_of _ (by decide +kernel)) ggX6_goes_X6_evening
theorem dX6_goes_0 : decode cX6_goes 0 = .ok (.aload_n 0, 1) := by decide +kernel
theorem dX6_goes_1 : decode cX6_goes 1 = .ok (.getfield 113, 3) := by decide +kernel
theorem dX6_goes_4 : decode cX6_goes 4 = .ok (.iload_n 1, 1) := by decide +kernel
theorem dX6_goes_5 : decode cX6_goes 5 = .ok (.if_icmp .ne 4, 3) := by decide +kernel
theorem dX6_goes_8 : decode cX6_goes 8 = .ok (.return_, 1) := by decide +kernel
theorem dX6_goes_9 : decode cX6_goes 9 = .ok (.aload_n 0, 1) := by decide +kernel
theorem dX6_goes_10 : decode cX6_goes 10 = .ok (.iload_n 1, 1) := by decide +kernel
theorem dX6_goes_11 : decode cX6_goes 11 = .ok (.putfield 113, 3) := by decide +kernel
theorem dX6_goes_14 : decode cX6_goes 14 = .ok (.iconst 0, 1) := by decide +kernel
theorem dX6_goes_15 : decode cX6_goes 15 = .ok (.istore_n 2, 1) := by decide +kernel
theorem dX6_goes_16 : decode cX6_goes 16 = .ok (.iload_n 2, 1) := by decide +kernel
theorem dX6_goes_17 : decode cX6_goes 17 = .ok (.bipush 6, 2) := by decide +kernel
theorem dX6_goes_19 : decode cX6_goes 19 = .ok (.if_icmp .ge 16, 3) := by decide +kernel
theorem dX6_goes_22 : decode cX6_goes 22 = .ok (.aload_n 0, 1) := by decide +kernel
theorem dX6_goes_23 : decode cX6_goes 23 = .ok (.getfield 116, 3) := by decide +kernel
theorem dX6_goes_26 : decode cX6_goes 26 = .ok (.iload_n 2, 1) := by decide +kernel
theorem dX6_goes_27 : decode cX6_goes 27 = .ok (.iconst 0, 1) := by decide +kernel
theorem dX6_goes_28 : decode cX6_goes 28 = .ok (.iastore, 1) := by decide +kernel
theorem dX6_goes_29 : decode cX6_goes 29 = .ok (.iinc 2 1, 3) := by decide +kernel
theorem dX6_goes_32 : decode cX6_goes 32 = .ok (.goto (-16), 3) := by decide +kernel
theorem dX6_goes_35 : decode cX6_goes 35 = .ok (.iconst 0, 1) := by decide +kernel
theorem dX6_goes_36 : decode cX6_goes 36 = .ok (.istore_n 2, 1) := by decide +kernel
theorem dX6_goes_37 : decode cX6_goes 37 = .ok (.iload_n 2, 1) := by decide +kernel
theorem dX6_goes_38 : decode cX6_goes 38 = .ok (.sipush 400, 3) := by decide +kernel
theorem dX6_goes_41 : decode cX6_goes 41 = .ok (.if_icmp .ge 32, 3) := by decide +kernel
theorem dX6_goes_44 : decode cX6_goes 44 = .ok (.iconst 0, 1) := by decide +kernel
theorem dX6_goes_45 : decode cX6_goes 45 = .ok (.istore_n 3, 1) := by decide +kernel
theorem dX6_goes_46 : decode cX6_goes 46 = .ok (.iload_n 3, 1) := by decide +kernel
theorem dX6_goes_47 : decode cX6_goes 47 = .ok (.aload_n 0, 1) := by decide +kernel
theorem dX6_goes_48 : decode cX6_goes 48 = .ok (.getfield 250, 3) := by decide +kernel
theorem dX6_goes_51 : decode cX6_goes 51 = .ok (.if_icmp .ge 16, 3) := by decide +kernel
theorem dX6_goes_54 : decode cX6_goes 54 = .ok (.aload_n 0, 1) := by decide +kernel
theorem dX6_goes_55 : decode cX6_goes 55 = .ok (.iload_n 3, 1) := by decide +kernel
theorem dX6_goes_56 : decode cX6_goes 56 = .ok (.iload_n 2, 1) := by decide +kernel
theorem dX6_goes_57 : decode cX6_goes 57 = .ok (.iload_n 1, 1) := by decide +kernel
theorem dX6_goes_58 : decode cX6_goes 58 = .ok (.invokevirtual 303, 3) := by decide +kernel
theorem dX6_goes_61 : decode cX6_goes 61 = .ok (.iinc 3 1, 3) := by decide +kernel
theorem dX6_goes_64 : decode cX6_goes 64 = .ok (.goto (-18), 3) := by decide +kernel
theorem dX6_goes_67 : decode cX6_goes 67 = .ok (.iinc 2 1, 3) := by decide +kernel
theorem dX6_goes_70 : decode cX6_goes 70 = .ok (.goto (-33), 3) := by decide +kernel
theorem dX6_goes_73 : decode cX6_goes 73 = .ok (.return_, 1) := by decide +kernel
set_option maxRecDepth 20000 in
theorem ggX6_evening_X6_adds : GoodIn wsX6_evening wsX6_adds := goodIn_r _ [12, 1, 3, 5, 6, 7, 4, 80, 81, 82, 83, 84, 85, 86, 87, 88, 89, 90, 91, 92, 93, 94, 95, 96, 97, 98, 99, 100, 101, 102, 103, 104, 105, 106, 107, 108, 109, 110, 111, 112, 113, 114, 115, 116, 117, 118, 119, 120, 121, 122, 123, 124, 125, 126, 127, 128, 129, 130, 131, 132, 133, 134, 135, 136, 137, 138, 139] (by decide +kernel) (by decide +kernel)
set_option maxRecDepth 20000 in
theorem gX6_evening_X6_adds : GoodIn wsX6_evening (wsV RX6 307 RX6 yX6_adds wsX6_adds) := goodIn_app (goodIn_of _ (by decide +kernel)) ggX6_evening_X6_adds
set_option maxRecDepth 20000 in
theorem ggX6_evening_X6_asks : GoodIn wsX6_evening wsX6_asks := goodIn_r _ [16, 1, 17, 3, 18, 19, 20, 21, 22, 23, 24, 25, 11, 26, 27, 28, 29, 30, 31, 32, 33, 34, 35, 36, 37, 38, 39, 40, 41, 42, 43, 44, 45, 46, 47, 48, 49, 50, 51, 52, 53, 54, 80, 81, 82, 83, 84, 85, 86, 87, 88, 89, 90, 91, 92, 93, 94, 95, 96, 97, 98, 99, 100, 101, 102, 103, 104, 105, 106, 107, 108, 109, 110, 111, 112, 113, 114, 115, 116, 117, 118, 119, 120, 121, 122, 123, 124, 125, 126, 127, 128, 129, 130, 131, 132, 133, 134, 135, 136, 137, 138, 139] (by decide +kernel) (by decide +kernel)
set_option maxRecDepth 20000 in
theorem gX6_evening_X6_asks : GoodIn wsX6_evening (wsV RX6 310 RX6 yX6_asks wsX6_asks) := goodIn_app (goodIn_of _ (by decide +kernel)) ggX6_evening_X6_asks
set_option maxRecDepth 20000 in
theorem ggX6_evening_X6_ruleOf : GoodIn wsX6_evening wsX6_ruleOf := goodIn_r _ [58, 59, 60, 61, 62, 63, 64, 11, 65, 66, 67, 68, 69, 70, 71, 72, 73, 74, 75, 76, 77, 78, 79, 17, 80, 81, 82, 83, 84, 85, 86, 87, 88, 89, 90, 91, 92, 93, 94, 95, 96, 97, 98, 99, 100, 101, 102, 103, 104, 105, 106, 107, 108, 109, 110, 111, 112, 113, 114, 115, 116, 117, 118, 119, 120, 121, 122, 123, 124, 125, 126, 127, 128, 129, 130, 131, 132, 133, 134, 135, 136, 137, 138, 139] (by decide +kernel) (by decide +kernel)
set_option maxRecDepth 20000 in
theorem gX6_evening_X6_ruleOf : GoodIn wsX6_evening (wsV RX6 314 RX6 yX6_ruleOf wsX6_ruleOf) := goodIn_app (goodIn_of _ (by decide +kernel)) ggX6_evening_X6_ruleOf
theorem dX6_evening_0 : decode cX6_evening 0 = .ok (.aload_n 0, 1) := by decide +kernel
theorem dX6_evening_1 : decode cX6_evening 1 = .ok (.getfield 116, 3) := by decide +kernel
theorem dX6_evening_4 : decode cX6_evening 4 = .ok (.iload_n 1, 1) := by decide +kernel
theorem dX6_evening_5 : decode cX6_evening 5 = .ok (.iaload, 1) := by decide +kernel
theorem dX6_evening_6 : decode cX6_evening 6 = .ok (.ifCond .ne 21, 3) := by decide +kernel
theorem dX6_evening_9 : decode cX6_evening 9 = .ok (.iload_n 2, 1) := by decide +kernel
theorem dX6_evening_10 : decode cX6_evening 10 = .ok (.aload_n 0, 1) := by decide +kernel
theorem dX6_evening_11 : decode cX6_evening 11 = .ok (.getfield 89, 3) := by decide +kernel
theorem dX6_evening_14 : decode cX6_evening 14 = .ok (.iload_n 1, 1) := by decide +kernel
theorem dX6_evening_15 : decode cX6_evening 15 = .ok (.iaload, 1) := by decide +kernel
theorem dX6_evening_16 : decode cX6_evening 16 = .ok (.if_icmp .ne 10, 3) := by decide +kernel
theorem dX6_evening_19 : decode cX6_evening 19 = .ok (.aload_n 0, 1) := by decide +kernel
theorem dX6_evening_20 : decode cX6_evening 20 = .ok (.iload_n 1, 1) := by decide +kernel
theorem dX6_evening_21 : decode cX6_evening 21 = .ok (.iload_n 2, 1) := by decide +kernel
theorem dX6_evening_22 : decode cX6_evening 22 = .ok (.iconst (-1), 1) := by decide +kernel
theorem dX6_evening_23 : decode cX6_evening 23 = .ok (.invokevirtual 307, 3) := by decide +kernel
theorem dX6_evening_26 : decode cX6_evening 26 = .ok (.return_, 1) := by decide +kernel
theorem dX6_evening_27 : decode cX6_evening 27 = .ok (.bipush 16, 2) := by decide +kernel
theorem dX6_evening_29 : decode cX6_evening 29 = .ok (.iload_n 1, 1) := by decide +kernel
theorem dX6_evening_30 : decode cX6_evening 30 = .ok (.imul, 1) := by decide +kernel
theorem dX6_evening_31 : decode cX6_evening 31 = .ok (.aload_n 0, 1) := by decide +kernel
theorem dX6_evening_32 : decode cX6_evening 32 = .ok (.getfield 116, 3) := by decide +kernel
theorem dX6_evening_35 : decode cX6_evening 35 = .ok (.iload_n 1, 1) := by decide +kernel
theorem dX6_evening_36 : decode cX6_evening 36 = .ok (.iaload, 1) := by decide +kernel
theorem dX6_evening_37 : decode cX6_evening 37 = .ok (.iadd, 1) := by decide +kernel
theorem dX6_evening_38 : decode cX6_evening 38 = .ok (.iconst 1, 1) := by decide +kernel
theorem dX6_evening_39 : decode cX6_evening 39 = .ok (.isub, 1) := by decide +kernel
theorem dX6_evening_40 : decode cX6_evening 40 = .ok (.istore 4, 2) := by decide +kernel
theorem dX6_evening_42 : decode cX6_evening 42 = .ok (.iload_n 2, 1) := by decide +kernel
theorem dX6_evening_43 : decode cX6_evening 43 = .ok (.aload_n 0, 1) := by decide +kernel
theorem dX6_evening_44 : decode cX6_evening 44 = .ok (.getfield 119, 3) := by decide +kernel
theorem dX6_evening_47 : decode cX6_evening 47 = .ok (.iload 4, 2) := by decide +kernel
theorem dX6_evening_49 : decode cX6_evening 49 = .ok (.iaload, 1) := by decide +kernel
theorem dX6_evening_50 : decode cX6_evening 50 = .ok (.isub, 1) := by decide +kernel
theorem dX6_evening_51 : decode cX6_evening 51 = .ok (.istore 5, 2) := by decide +kernel
theorem dX6_evening_53 : decode cX6_evening 53 = .ok (.iload 5, 2) := by decide +kernel
theorem dX6_evening_55 : decode cX6_evening 55 = .ok (.bipush 30, 2) := by decide +kernel
theorem dX6_evening_57 : decode cX6_evening 57 = .ok (.if_icmp .ne 14, 3) := by decide +kernel
theorem dX6_evening_60 : decode cX6_evening 60 = .ok (.aload_n 0, 1) := by decide +kernel
theorem dX6_evening_61 : decode cX6_evening 61 = .ok (.iload_n 1, 1) := by decide +kernel
theorem dX6_evening_62 : decode cX6_evening 62 = .ok (.iload_n 2, 1) := by decide +kernel
theorem dX6_evening_63 : decode cX6_evening 63 = .ok (.bipush (-2), 2) := by decide +kernel
theorem dX6_evening_65 : decode cX6_evening 65 = .ok (.invokevirtual 307, 3) := by decide +kernel
theorem dX6_evening_68 : decode cX6_evening 68 = .ok (.goto 168, 3) := by decide +kernel
theorem dX6_evening_71 : decode cX6_evening 71 = .ok (.iload 5, 2) := by decide +kernel
theorem dX6_evening_73 : decode cX6_evening 73 = .ok (.bipush 29, 2) := by decide +kernel
theorem dX6_evening_75 : decode cX6_evening 75 = .ok (.if_icmp .ne 52, 3) := by decide +kernel
theorem dX6_evening_78 : decode cX6_evening 78 = .ok (.aload_n 0, 1) := by decide +kernel
theorem dX6_evening_79 : decode cX6_evening 79 = .ok (.iload_n 1, 1) := by decide +kernel
theorem dX6_evening_80 : decode cX6_evening 80 = .ok (.iload_n 2, 1) := by decide +kernel
theorem dX6_evening_81 : decode cX6_evening 81 = .ok (.iload_n 2, 1) := by decide +kernel
theorem dX6_evening_82 : decode cX6_evening 82 = .ok (.aload_n 0, 1) := by decide +kernel
theorem dX6_evening_83 : decode cX6_evening 83 = .ok (.getfield 116, 3) := by decide +kernel
theorem dX6_evening_86 : decode cX6_evening 86 = .ok (.iload_n 1, 1) := by decide +kernel
theorem dX6_evening_87 : decode cX6_evening 87 = .ok (.iaload, 1) := by decide +kernel
theorem dX6_evening_88 : decode cX6_evening 88 = .ok (.iload_n 3, 1) := by decide +kernel
theorem dX6_evening_89 : decode cX6_evening 89 = .ok (.invokevirtual 310, 3) := by decide +kernel
theorem dX6_evening_92 : decode cX6_evening 92 = .ok (.aload_n 0, 1) := by decide +kernel
theorem dX6_evening_93 : decode cX6_evening 93 = .ok (.iload_n 1, 1) := by decide +kernel
theorem dX6_evening_94 : decode cX6_evening 94 = .ok (.iconst 0, 1) := by decide +kernel
theorem dX6_evening_95 : decode cX6_evening 95 = .ok (.invokevirtual 314, 3) := by decide +kernel
theorem dX6_evening_98 : decode cX6_evening 98 = .ok (.istore 6, 2) := by decide +kernel
theorem dX6_evening_100 : decode cX6_evening 100 = .ok (.iload 6, 2) := by decide +kernel
theorem dX6_evening_102 : decode cX6_evening 102 = .ok (.iconst (-1), 1) := by decide +kernel
theorem dX6_evening_103 : decode cX6_evening 103 = .ok (.if_icmp .eq 21, 3) := by decide +kernel
theorem dX6_evening_106 : decode cX6_evening 106 = .ok (.aload_n 0, 1) := by decide +kernel
theorem dX6_evening_107 : decode cX6_evening 107 = .ok (.iload_n 1, 1) := by decide +kernel
theorem dX6_evening_108 : decode cX6_evening 108 = .ok (.iconst 1, 1) := by decide +kernel
theorem dX6_evening_109 : decode cX6_evening 109 = .ok (.invokevirtual 314, 3) := by decide +kernel
theorem dX6_evening_112 : decode cX6_evening 112 = .ok (.iconst (-1), 1) := by decide +kernel
theorem dX6_evening_113 : decode cX6_evening 113 = .ok (.if_icmp .ne 11, 3) := by decide +kernel
theorem dX6_evening_116 : decode cX6_evening 116 = .ok (.aload_n 0, 1) := by decide +kernel
theorem dX6_evening_117 : decode cX6_evening 117 = .ok (.iload_n 1, 1) := by decide +kernel
theorem dX6_evening_118 : decode cX6_evening 118 = .ok (.iload_n 2, 1) := by decide +kernel
theorem dX6_evening_119 : decode cX6_evening 119 = .ok (.iload 6, 2) := by decide +kernel
theorem dX6_evening_121 : decode cX6_evening 121 = .ok (.invokevirtual 307, 3) := by decide +kernel
theorem dX6_evening_124 : decode cX6_evening 124 = .ok (.goto 112, 3) := by decide +kernel
theorem dX6_evening_127 : decode cX6_evening 127 = .ok (.iload 5, 2) := by decide +kernel
theorem dX6_evening_129 : decode cX6_evening 129 = .ok (.iconst 1, 1) := by decide +kernel
theorem dX6_evening_130 : decode cX6_evening 130 = .ok (.if_icmp .lt 106, 3) := by decide +kernel
theorem dX6_evening_133 : decode cX6_evening 133 = .ok (.iload 5, 2) := by decide +kernel
theorem dX6_evening_135 : decode cX6_evening 135 = .ok (.bipush 10, 2) := by decide +kernel
theorem dX6_evening_137 : decode cX6_evening 137 = .ok (.if_icmp .gt 99, 3) := by decide +kernel
theorem dX6_evening_140 : decode cX6_evening 140 = .ok (.aload_n 0, 1) := by decide +kernel
theorem dX6_evening_141 : decode cX6_evening 141 = .ok (.getfield 131, 3) := by decide +kernel
theorem dX6_evening_144 : decode cX6_evening 144 = .ok (.iload 4, 2) := by decide +kernel
theorem dX6_evening_146 : decode cX6_evening 146 = .ok (.baload, 1) := by decide +kernel
theorem dX6_evening_147 : decode cX6_evening 147 = .ok (.ifCond .eq 89, 3) := by decide +kernel
theorem dX6_evening_150 : decode cX6_evening 150 = .ok (.aload_n 0, 1) := by decide +kernel
theorem dX6_evening_151 : decode cX6_evening 151 = .ok (.getfield 119, 3) := by decide +kernel
theorem dX6_evening_154 : decode cX6_evening 154 = .ok (.iload 4, 2) := by decide +kernel
theorem dX6_evening_156 : decode cX6_evening 156 = .ok (.iaload, 1) := by decide +kernel
theorem dX6_evening_157 : decode cX6_evening 157 = .ok (.iconst 1, 1) := by decide +kernel
theorem dX6_evening_158 : decode cX6_evening 158 = .ok (.isub, 1) := by decide +kernel
theorem dX6_evening_159 : decode cX6_evening 159 = .ok (.istore 6, 2) := by decide +kernel
theorem dX6_evening_161 : decode cX6_evening 161 = .ok (.aload_n 0, 1) := by decide +kernel
theorem dX6_evening_162 : decode cX6_evening 162 = .ok (.iload_n 1, 1) := by decide +kernel
theorem dX6_evening_163 : decode cX6_evening 163 = .ok (.iload_n 2, 1) := by decide +kernel
theorem dX6_evening_164 : decode cX6_evening 164 = .ok (.iload 6, 2) := by decide +kernel
theorem dX6_evening_166 : decode cX6_evening 166 = .ok (.aload_n 0, 1) := by decide +kernel
theorem dX6_evening_167 : decode cX6_evening 167 = .ok (.getfield 116, 3) := by decide +kernel
theorem dX6_evening_170 : decode cX6_evening 170 = .ok (.iload_n 1, 1) := by decide +kernel
theorem dX6_evening_171 : decode cX6_evening 171 = .ok (.iaload, 1) := by decide +kernel
theorem dX6_evening_172 : decode cX6_evening 172 = .ok (.iconst 1, 1) := by decide +kernel
theorem dX6_evening_173 : decode cX6_evening 173 = .ok (.isub, 1) := by decide +kernel
theorem dX6_evening_174 : decode cX6_evening 174 = .ok (.iload_n 3, 1) := by decide +kernel
theorem dX6_evening_175 : decode cX6_evening 175 = .ok (.invokevirtual 310, 3) := by decide +kernel
theorem dX6_evening_178 : decode cX6_evening 178 = .ok (.aload_n 0, 1) := by decide +kernel
theorem dX6_evening_179 : decode cX6_evening 179 = .ok (.iload_n 1, 1) := by decide +kernel
theorem dX6_evening_180 : decode cX6_evening 180 = .ok (.iconst 2, 1) := by decide +kernel
theorem dX6_evening_181 : decode cX6_evening 181 = .ok (.invokevirtual 314, 3) := by decide +kernel
theorem dX6_evening_184 : decode cX6_evening 184 = .ok (.istore 7, 2) := by decide +kernel
theorem dX6_evening_186 : decode cX6_evening 186 = .ok (.iload 7, 2) := by decide +kernel
theorem dX6_evening_188 : decode cX6_evening 188 = .ok (.iconst (-1), 1) := by decide +kernel
theorem dX6_evening_189 : decode cX6_evening 189 = .ok (.if_icmp .ne 4, 3) := by decide +kernel
theorem dX6_evening_192 : decode cX6_evening 192 = .ok (.return_, 1) := by decide +kernel
theorem dX6_evening_193 : decode cX6_evening 193 = .ok (.aload_n 0, 1) := by decide +kernel
theorem dX6_evening_194 : decode cX6_evening 194 = .ok (.getfield 119, 3) := by decide +kernel
theorem dX6_evening_197 : decode cX6_evening 197 = .ok (.iload 4, 2) := by decide +kernel
theorem dX6_evening_199 : decode cX6_evening 199 = .ok (.iload 6, 2) := by decide +kernel
theorem dX6_evening_201 : decode cX6_evening 201 = .ok (.iastore, 1) := by decide +kernel
theorem dX6_evening_202 : decode cX6_evening 202 = .ok (.aload_n 0, 1) := by decide +kernel
theorem dX6_evening_203 : decode cX6_evening 203 = .ok (.getfield 122, 3) := by decide +kernel
theorem dX6_evening_206 : decode cX6_evening 206 = .ok (.iload 4, 2) := by decide +kernel
theorem dX6_evening_208 : decode cX6_evening 208 = .ok (.iload 7, 2) := by decide +kernel
theorem dX6_evening_210 : decode cX6_evening 210 = .ok (.iastore, 1) := by decide +kernel
theorem dX6_evening_211 : decode cX6_evening 211 = .ok (.aload_n 0, 1) := by decide +kernel
theorem dX6_evening_212 : decode cX6_evening 212 = .ok (.getfield 125, 3) := by decide +kernel
theorem dX6_evening_215 : decode cX6_evening 215 = .ok (.iload 4, 2) := by decide +kernel
theorem dX6_evening_217 : decode cX6_evening 217 = .ok (.iload_n 2, 1) := by decide +kernel
theorem dX6_evening_218 : decode cX6_evening 218 = .ok (.iastore, 1) := by decide +kernel
theorem dX6_evening_219 : decode cX6_evening 219 = .ok (.aload_n 0, 1) := by decide +kernel
theorem dX6_evening_220 : decode cX6_evening 220 = .ok (.getfield 128, 3) := by decide +kernel
theorem dX6_evening_223 : decode cX6_evening 223 = .ok (.iload 4, 2) := by decide +kernel
theorem dX6_evening_225 : decode cX6_evening 225 = .ok (.iload 6, 2) := by decide +kernel
theorem dX6_evening_227 : decode cX6_evening 227 = .ok (.iastore, 1) := by decide +kernel
theorem dX6_evening_228 : decode cX6_evening 228 = .ok (.aload_n 0, 1) := by decide +kernel
theorem dX6_evening_229 : decode cX6_evening 229 = .ok (.getfield 131, 3) := by decide +kernel
theorem dX6_evening_232 : decode cX6_evening 232 = .ok (.iload 4, 2) := by decide +kernel
theorem dX6_evening_234 : decode cX6_evening 234 = .ok (.iconst 0, 1) := by decide +kernel
theorem dX6_evening_235 : decode cX6_evening 235 = .ok (.bastore, 1) := by decide +kernel
theorem dX6_evening_236 : decode cX6_evening 236 = .ok (.return_, 1) := by decide +kernel
theorem dX6_isMonth_0 : decode cX6_isMonth 0 = .ok (.iload_n 0, 1) := by decide +kernel
theorem dX6_isMonth_1 : decode cX6_isMonth 1 = .ok (.ifCond .lt 13, 3) := by decide +kernel
theorem dX6_isMonth_4 : decode cX6_isMonth 4 = .ok (.iload_n 0, 1) := by decide +kernel
theorem dX6_isMonth_5 : decode cX6_isMonth 5 = .ok (.bipush 14, 2) := by decide +kernel
theorem dX6_isMonth_7 : decode cX6_isMonth 7 = .ok (.if_icmp .gt 7, 3) := by decide +kernel
theorem dX6_isMonth_10 : decode cX6_isMonth 10 = .ok (.iconst 1, 1) := by decide +kernel
theorem dX6_isMonth_11 : decode cX6_isMonth 11 = .ok (.goto 4, 3) := by decide +kernel
theorem dX6_isMonth_14 : decode cX6_isMonth 14 = .ok (.iconst 0, 1) := by decide +kernel
theorem dX6_isMonth_15 : decode cX6_isMonth 15 = .ok (.ireturn, 1) := by decide +kernel
theorem dX6_beginOf_0 : decode cX6_beginOf 0 = .ok (.iload_n 2, 1) := by decide +kernel
theorem dX6_beginOf_1 : decode cX6_beginOf 1 = .ok (.aload_n 0, 1) := by decide +kernel
theorem dX6_beginOf_2 : decode cX6_beginOf 2 = .ok (.getfield 116, 3) := by decide +kernel
theorem dX6_beginOf_5 : decode cX6_beginOf 5 = .ok (.iload_n 1, 1) := by decide +kernel
theorem dX6_beginOf_6 : decode cX6_beginOf 6 = .ok (.iaload, 1) := by decide +kernel
theorem dX6_beginOf_7 : decode cX6_beginOf 7 = .ok (.if_icmp .ge 17, 3) := by decide +kernel
theorem dX6_beginOf_10 : decode cX6_beginOf 10 = .ok (.aload_n 0, 1) := by decide +kernel
theorem dX6_beginOf_11 : decode cX6_beginOf 11 = .ok (.getfield 119, 3) := by decide +kernel
theorem dX6_beginOf_14 : decode cX6_beginOf 14 = .ok (.bipush 16, 2) := by decide +kernel
theorem dX6_beginOf_16 : decode cX6_beginOf 16 = .ok (.iload_n 1, 1) := by decide +kernel
theorem dX6_beginOf_17 : decode cX6_beginOf 17 = .ok (.imul, 1) := by decide +kernel
theorem dX6_beginOf_18 : decode cX6_beginOf 18 = .ok (.iload_n 2, 1) := by decide +kernel
theorem dX6_beginOf_19 : decode cX6_beginOf 19 = .ok (.iadd, 1) := by decide +kernel
theorem dX6_beginOf_20 : decode cX6_beginOf 20 = .ok (.iaload, 1) := by decide +kernel
theorem dX6_beginOf_21 : decode cX6_beginOf 21 = .ok (.goto 4, 3) := by decide +kernel
theorem dX6_beginOf_24 : decode cX6_beginOf 24 = .ok (.iconst (-1), 1) := by decide +kernel
theorem dX6_beginOf_25 : decode cX6_beginOf 25 = .ok (.ireturn, 1) := by decide +kernel
set_option maxRecDepth 20000 in
theorem ggX6_begins_X6_isLand : GoodIn wsX6_begins wsX6_isLand := goodIn_r _ [5, 6, 105, 106, 107, 108, 109, 110, 111, 112, 113, 114, 115, 116, 117, 118, 119, 120, 121, 122, 123, 124, 125, 126, 127, 128, 129, 130, 131, 132, 133, 134, 135, 136, 137, 138, 139, 140, 141, 142, 143, 144, 145, 146, 147, 148, 149, 150, 151, 152, 153, 154, 155, 156, 157, 158, 159, 160, 161, 162, 163, 164] (by decide +kernel) (by decide +kernel)
set_option maxRecDepth 20000 in
theorem gX6_begins_X6_isLand : GoodIn wsX6_begins (wsV RX6 212 RX6 yX6_isLand wsX6_isLand) := goodIn_app (goodIn_of _ (by decide +kernel)) ggX6_begins_X6_isLand
set_option maxRecDepth 20000 in
theorem ggX6_begins_X6_isMonth : GoodIn wsX6_begins wsX6_isMonth := goodIn_r _ [9] (by decide +kernel) (by decide +kernel)
set_option maxRecDepth 20000 in
theorem gX6_begins_X6_isMonth : GoodIn wsX6_begins (va_wsS RX6 317 yX6_isMonth wsX6_isMonth) := goodIn_app (goodIn_of _ (by decide +kernel)) ggX6_begins_X6_isMonth
set_option maxRecDepth 20000 in
theorem ggX6_begins_X6_isKnown : GoodIn wsX6_begins wsX6_isKnown := goodIn_r _ [13, 14, 105, 106, 107, 108, 109, 110, 111, 112, 113, 114, 115, 116, 117, 118, 119, 120, 121, 122, 123, 124, 125, 126, 127, 128, 129, 130, 131, 132, 133, 134, 135, 136, 137, 138, 139, 140, 141, 142, 143, 144, 145, 146, 147, 148, 149, 150, 151, 152, 153, 154, 155, 156, 157, 158, 159, 160, 161, 162, 163, 164] (by decide +kernel) (by decide +kernel)
set_option maxRecDepth 20000 in
theorem gX6_begins_X6_isKnown : GoodIn wsX6_begins (wsV RX6 283 RX6 yX6_isKnown wsX6_isKnown) := goodIn_app (goodIn_of _ (by decide +kernel)) ggX6_begins_X6_isKnown
set_option maxRecDepth 20000 in
theorem ggX6_begins_X6_goes : GoodIn wsX6_begins wsX6_goes := goodIn_r _ [18, 19, 20, 6, 21, 22, 23, 4, 24, 25, 26, 27, 28, 29, 30, 31, 32, 33, 34, 35, 36, 37, 38, 39, 40, 41, 42, 43, 44, 45, 46, 47, 48, 49, 50, 51, 52, 53, 54, 55, 56, 57, 58, 59, 60, 61, 62, 63, 64, 65, 66, 67, 68, 69, 70, 71, 72, 73, 74, 75, 76, 77, 78, 79, 80, 81, 82, 83, 84, 85, 86, 87, 88, 89, 90, 91, 92, 93, 94, 95, 96, 97, 98, 99, 100, 105, 106, 107, 108, 109, 110, 111, 112, 113, 114, 115, 116, 117, 118, 119, 120, 121, 122, 123, 124, 125, 126, 127, 128, 129, 130, 131, 132, 133, 134, 135, 136, 137, 138, 139, 140, 141, 142, 143, 144, 145, 146, 147, 148, 149, 150, 151, 152, 153, 154, 155, 156, 157, 158, 159, 160, 161, 162, 163, 164] (by decide +kernel) (by decide +kernel)
set_option maxRecDepth 20000 in
theorem gX6_begins_X6_goes : GoodIn wsX6_begins (wsV RX6 320 RX6 yX6_goes wsX6_goes) := goodIn_app (goodIn_of _ (by decide +kernel)) ggX6_begins_X6_goes
set_option maxRecDepth 20000 in
theorem ggX6_begins_X6_beginOf : GoodIn wsX6_begins wsX6_beginOf := goodIn_r _ [104, 20, 26, 105, 106, 107, 108, 109, 110, 111, 112, 113, 114, 115, 116, 117, 118, 119, 120, 121, 122, 123, 124, 125, 126, 127, 128, 129, 130, 131, 132, 133, 134, 135, 136, 137, 138, 139, 140, 141, 142, 143, 144, 145, 146, 147, 148, 149, 150, 151, 152, 153, 154, 155, 156, 157, 158, 159, 160, 161, 162, 163, 164] (by decide +kernel) (by decide +kernel)
set_option maxRecDepth 20000 in
theorem gX6_begins_X6_beginOf : GoodIn wsX6_begins (wsV RX6 323 RX6 yX6_beginOf wsX6_beginOf) := goodIn_app (goodIn_of _ (by decide +kernel)) ggX6_begins_X6_beginOf
theorem dX6_begins_0 : decode cX6_begins 0 = .ok (.aload_n 0, 1) := by decide +kernel
theorem dX6_begins_1 : decode cX6_begins 1 = .ok (.iload_n 1, 1) := by decide +kernel
theorem dX6_begins_2 : decode cX6_begins 2 = .ok (.invokevirtual 212, 3) := by decide +kernel
theorem dX6_begins_5 : decode cX6_begins 5 = .ok (.ifCond .eq 18, 3) := by decide +kernel
theorem dX6_begins_8 : decode cX6_begins 8 = .ok (.iload_n 2, 1) := by decide +kernel
theorem dX6_begins_9 : decode cX6_begins 9 = .ok (.invokestatic 317, 3) := by decide +kernel
theorem dX6_begins_12 : decode cX6_begins 12 = .ok (.ifCond .eq 11, 3) := by decide +kernel
theorem dX6_begins_15 : decode cX6_begins 15 = .ok (.aload_n 0, 1) := by decide +kernel
theorem dX6_begins_16 : decode cX6_begins 16 = .ok (.iload_n 3, 1) := by decide +kernel
theorem dX6_begins_17 : decode cX6_begins 17 = .ok (.invokevirtual 283, 3) := by decide +kernel
theorem dX6_begins_20 : decode cX6_begins 20 = .ok (.ifCond .ne 5, 3) := by decide +kernel
theorem dX6_begins_23 : decode cX6_begins 23 = .ok (.iconst (-1), 1) := by decide +kernel
theorem dX6_begins_24 : decode cX6_begins 24 = .ok (.ireturn, 1) := by decide +kernel
theorem dX6_begins_25 : decode cX6_begins 25 = .ok (.aload_n 0, 1) := by decide +kernel
theorem dX6_begins_26 : decode cX6_begins 26 = .ok (.iload_n 3, 1) := by decide +kernel
theorem dX6_begins_27 : decode cX6_begins 27 = .ok (.invokevirtual 320, 3) := by decide +kernel
theorem dX6_begins_30 : decode cX6_begins 30 = .ok (.aload_n 0, 1) := by decide +kernel
theorem dX6_begins_31 : decode cX6_begins 31 = .ok (.iload_n 1, 1) := by decide +kernel
theorem dX6_begins_32 : decode cX6_begins 32 = .ok (.iload_n 2, 1) := by decide +kernel
theorem dX6_begins_33 : decode cX6_begins 33 = .ok (.invokevirtual 323, 3) := by decide +kernel
theorem dX6_begins_36 : decode cX6_begins 36 = .ok (.ireturn, 1) := by decide +kernel
set_option maxRecDepth 20000 in
theorem ggX6_by_X6_isLand : GoodIn wsX6_by wsX6_isLand := goodIn_r _ [7, 8, 101, 102, 103, 104, 105, 106, 107, 108, 109, 110, 111, 112, 113, 114, 115, 116, 117, 118, 119, 120, 121, 122, 123, 124, 125, 126, 127, 128, 129, 130, 131, 132, 133, 134, 135, 136, 137, 138, 139, 140, 141, 142, 143, 144, 145, 146, 147, 148, 149, 150, 151, 152, 153, 154, 155, 156, 157, 158, 159, 160] (by decide +kernel) (by decide +kernel)
set_option maxRecDepth 20000 in
theorem gX6_by_X6_isLand : GoodIn wsX6_by (wsV RX6 212 RX6 yX6_isLand wsX6_isLand) := goodIn_app (goodIn_of _ (by decide +kernel)) ggX6_by_X6_isLand
set_option maxRecDepth 20000 in
theorem ggX6_by_X6_isMonth : GoodIn wsX6_by wsX6_isMonth := goodIn_r _ [11] (by decide +kernel) (by decide +kernel)
set_option maxRecDepth 20000 in
theorem gX6_by_X6_isMonth : GoodIn wsX6_by (va_wsS RX6 317 yX6_isMonth wsX6_isMonth) := goodIn_app (goodIn_of _ (by decide +kernel)) ggX6_by_X6_isMonth
set_option maxRecDepth 20000 in
theorem ggX6_by_X6_isKnown : GoodIn wsX6_by wsX6_isKnown := goodIn_r _ [15, 16, 101, 102, 103, 104, 105, 106, 107, 108, 109, 110, 111, 112, 113, 114, 115, 116, 117, 118, 119, 120, 121, 122, 123, 124, 125, 126, 127, 128, 129, 130, 131, 132, 133, 134, 135, 136, 137, 138, 139, 140, 141, 142, 143, 144, 145, 146, 147, 148, 149, 150, 151, 152, 153, 154, 155, 156, 157, 158, 159, 160] (by decide +kernel) (by decide +kernel)
set_option maxRecDepth 20000 in
theorem gX6_by_X6_isKnown : GoodIn wsX6_by (wsV RX6 283 RX6 yX6_isKnown wsX6_isKnown) := goodIn_app (goodIn_of _ (by decide +kernel)) ggX6_by_X6_isKnown
set_option maxRecDepth 20000 in
theorem ggX6_by_X6_goes : GoodIn wsX6_by wsX6_goes := goodIn_r _ [20, 21, 1, 8, 22, 23, 24, 6, 25, 26, 27, 28, 2, 29, 30, 31, 32, 33, 34, 35, 36, 37, 38, 39, 40, 41, 42, 43, 44, 45, 46, 47, 48, 49, 50, 51, 52, 53, 54, 55, 56, 57, 58, 59, 60, 61, 62, 63, 64, 65, 66, 67, 68, 69, 70, 71, 72, 73, 74, 75, 76, 77, 78, 79, 80, 81, 82, 83, 84, 85, 86, 87, 88, 89, 90, 91, 92, 93, 94, 95, 96, 97, 98, 99, 100, 101, 102, 103, 104, 105, 106, 107, 108, 109, 110, 111, 112, 113, 114, 115, 116, 117, 118, 119, 120, 121, 122, 123, 124, 125, 126, 127, 128, 129, 130, 131, 132, 133, 134, 135, 136, 137, 138, 139, 140, 141, 142, 143, 144, 145, 146, 147, 148, 149, 150, 151, 152, 153, 154, 155, 156, 157, 158, 159, 160] (by decide +kernel) (by decide +kernel)
set_option maxRecDepth 20000 in
theorem gX6_by_X6_goes : GoodIn wsX6_by (wsV RX6 320 RX6 yX6_goes wsX6_goes) := goodIn_app (goodIn_of _ (by decide +kernel)) ggX6_by_X6_goes
theorem dX6_by_0 : decode cX6_by 0 = .ok (.aload_n 0, 1) := by decide +kernel
theorem dX6_by_1 : decode cX6_by 1 = .ok (.iload_n 1, 1) := by decide +kernel
theorem dX6_by_2 : decode cX6_by 2 = .ok (.invokevirtual 212, 3) := by decide +kernel
theorem dX6_by_5 : decode cX6_by 5 = .ok (.ifCond .eq 22, 3) := by decide +kernel
theorem dX6_by_8 : decode cX6_by 8 = .ok (.iload_n 2, 1) := by decide +kernel
theorem dX6_by_9 : decode cX6_by 9 = .ok (.invokestatic 317, 3) := by decide +kernel
theorem dX6_by_12 : decode cX6_by 12 = .ok (.ifCond .eq 15, 3) := by decide +kernel
theorem dX6_by_15 : decode cX6_by 15 = .ok (.iload_n 2, 1) := by decide +kernel
theorem dX6_by_16 : decode cX6_by 16 = .ok (.ifCond .eq 11, 3) := by decide +kernel
theorem dX6_by_19 : decode cX6_by 19 = .ok (.aload_n 0, 1) := by decide +kernel
theorem dX6_by_20 : decode cX6_by 20 = .ok (.iload_n 3, 1) := by decide +kernel
theorem dX6_by_21 : decode cX6_by 21 = .ok (.invokevirtual 283, 3) := by decide +kernel
theorem dX6_by_24 : decode cX6_by 24 = .ok (.ifCond .ne 5, 3) := by decide +kernel
theorem dX6_by_27 : decode cX6_by 27 = .ok (.iconst (-1), 1) := by decide +kernel
theorem dX6_by_28 : decode cX6_by 28 = .ok (.ireturn, 1) := by decide +kernel
theorem dX6_by_29 : decode cX6_by 29 = .ok (.aload_n 0, 1) := by decide +kernel
theorem dX6_by_30 : decode cX6_by 30 = .ok (.iload_n 3, 1) := by decide +kernel
theorem dX6_by_31 : decode cX6_by 31 = .ok (.invokevirtual 320, 3) := by decide +kernel
theorem dX6_by_34 : decode cX6_by 34 = .ok (.iload_n 2, 1) := by decide +kernel
theorem dX6_by_35 : decode cX6_by 35 = .ok (.aload_n 0, 1) := by decide +kernel
theorem dX6_by_36 : decode cX6_by 36 = .ok (.getfield 116, 3) := by decide +kernel
theorem dX6_by_39 : decode cX6_by 39 = .ok (.iload_n 1, 1) := by decide +kernel
theorem dX6_by_40 : decode cX6_by 40 = .ok (.iaload, 1) := by decide +kernel
theorem dX6_by_41 : decode cX6_by 41 = .ok (.if_icmp .ge 17, 3) := by decide +kernel
theorem dX6_by_44 : decode cX6_by 44 = .ok (.aload_n 0, 1) := by decide +kernel
theorem dX6_by_45 : decode cX6_by 45 = .ok (.getfield 122, 3) := by decide +kernel
theorem dX6_by_48 : decode cX6_by 48 = .ok (.bipush 16, 2) := by decide +kernel
theorem dX6_by_50 : decode cX6_by 50 = .ok (.iload_n 1, 1) := by decide +kernel
theorem dX6_by_51 : decode cX6_by 51 = .ok (.imul, 1) := by decide +kernel
theorem dX6_by_52 : decode cX6_by 52 = .ok (.iload_n 2, 1) := by decide +kernel
theorem dX6_by_53 : decode cX6_by 53 = .ok (.iadd, 1) := by decide +kernel
theorem dX6_by_54 : decode cX6_by 54 = .ok (.iaload, 1) := by decide +kernel
theorem dX6_by_55 : decode cX6_by 55 = .ok (.goto 4, 3) := by decide +kernel
theorem dX6_by_58 : decode cX6_by 58 = .ok (.iconst (-1), 1) := by decide +kernel
theorem dX6_by_59 : decode cX6_by 59 = .ok (.ireturn, 1) := by decide +kernel
set_option maxRecDepth 20000 in
theorem ggX6_heard_X6_isLand : GoodIn wsX6_heard wsX6_isLand := goodIn_r _ [8, 9, 101, 102, 103, 104, 105, 106, 107, 108, 109, 110, 111, 112, 113, 114, 115, 116, 117, 118, 119, 120, 121, 122, 123, 124, 125, 126, 127, 128, 129, 130, 131, 132, 133, 134, 135, 136, 137, 138, 139, 140, 141, 142, 143, 144, 145, 146, 147, 148, 149, 150, 151, 152, 153, 154, 155, 156, 157, 158, 159, 160] (by decide +kernel) (by decide +kernel)
set_option maxRecDepth 20000 in
theorem gX6_heard_X6_isLand : GoodIn wsX6_heard (wsV RX6 212 RX6 yX6_isLand wsX6_isLand) := goodIn_app (goodIn_of _ (by decide +kernel)) ggX6_heard_X6_isLand
set_option maxRecDepth 20000 in
theorem ggX6_heard_X6_isMonth : GoodIn wsX6_heard wsX6_isMonth := goodIn_r _ [12] (by decide +kernel) (by decide +kernel)
set_option maxRecDepth 20000 in
theorem gX6_heard_X6_isMonth : GoodIn wsX6_heard (va_wsS RX6 317 yX6_isMonth wsX6_isMonth) := goodIn_app (goodIn_of _ (by decide +kernel)) ggX6_heard_X6_isMonth
set_option maxRecDepth 20000 in
theorem ggX6_heard_X6_isKnown : GoodIn wsX6_heard wsX6_isKnown := goodIn_r _ [16, 17, 101, 102, 103, 104, 105, 106, 107, 108, 109, 110, 111, 112, 113, 114, 115, 116, 117, 118, 119, 120, 121, 122, 123, 124, 125, 126, 127, 128, 129, 130, 131, 132, 133, 134, 135, 136, 137, 138, 139, 140, 141, 142, 143, 144, 145, 146, 147, 148, 149, 150, 151, 152, 153, 154, 155, 156, 157, 158, 159, 160] (by decide +kernel) (by decide +kernel)
set_option maxRecDepth 20000 in
theorem gX6_heard_X6_isKnown : GoodIn wsX6_heard (wsV RX6 283 RX6 yX6_isKnown wsX6_isKnown) := goodIn_app (goodIn_of _ (by decide +kernel)) ggX6_heard_X6_isKnown
set_option maxRecDepth 20000 in
theorem ggX6_heard_X6_goes : GoodIn wsX6_heard wsX6_goes := goodIn_r _ [21, 22, 1, 9, 23, 24, 25, 7, 26, 27, 28, 29, 30, 2, 3, 31, 32, 33, 34, 35, 36, 37, 38, 39, 40, 41, 42, 43, 44, 45, 46, 47, 48, 49, 50, 51, 52, 53, 54, 55, 56, 57, 58, 59, 60, 61, 62, 63, 64, 65, 66, 67, 68, 69, 70, 71, 72, 73, 74, 75, 76, 77, 78, 79, 80, 81, 82, 83, 84, 85, 86, 87, 88, 89, 90, 91, 92, 93, 94, 95, 96, 97, 98, 99, 100, 101, 102, 103, 104, 105, 106, 107, 108, 109, 110, 111, 112, 113, 114, 115, 116, 117, 118, 119, 120, 121, 122, 123, 124, 125, 126, 127, 128, 129, 130, 131, 132, 133, 134, 135, 136, 137, 138, 139, 140, 141, 142, 143, 144, 145, 146, 147, 148, 149, 150, 151, 152, 153, 154, 155, 156, 157, 158, 159, 160] (by decide +kernel) (by decide +kernel)
set_option maxRecDepth 20000 in
theorem gX6_heard_X6_goes : GoodIn wsX6_heard (wsV RX6 320 RX6 yX6_goes wsX6_goes) := goodIn_app (goodIn_of _ (by decide +kernel)) ggX6_heard_X6_goes
set_option maxRecDepth 20000 in
theorem ggX6_heard_X6_isHeard : GoodIn wsX6_heard wsX6_isHeard := goodIn_r _ [47, 48, 49, 43, 50, 41, 51, 52, 53, 7, 54, 55, 56, 57, 58, 59, 60, 61, 62, 63, 64, 65, 66, 67, 68, 69, 70, 71, 101, 102, 103, 104, 105, 106, 107, 108, 109, 110, 111, 112, 113, 114, 115, 116, 117, 118, 119, 120, 121, 122, 123, 124, 125, 126, 127, 128, 129, 130, 131, 132, 133, 134, 135, 136, 137, 138, 139, 140, 141, 142, 143, 144, 145, 146, 147, 148, 149, 150, 151, 152, 153, 154, 155, 156, 157, 158, 159, 160] (by decide +kernel) (by decide +kernel)
set_option maxRecDepth 20000 in
theorem gX6_heard_X6_isHeard : GoodIn wsX6_heard (wsV RX6 292 RX6 yX6_isHeard wsX6_isHeard) := goodIn_app (goodIn_of _ (by decide +kernel)) ggX6_heard_X6_isHeard
theorem dX6_heard_0 : decode cX6_heard 0 = .ok (.aload_n 0, 1) := by decide +kernel
theorem dX6_heard_1 : decode cX6_heard 1 = .ok (.iload_n 1, 1) := by decide +kernel
theorem dX6_heard_2 : decode cX6_heard 2 = .ok (.invokevirtual 212, 3) := by decide +kernel
theorem dX6_heard_5 : decode cX6_heard 5 = .ok (.ifCond .eq 27, 3) := by decide +kernel
theorem dX6_heard_8 : decode cX6_heard 8 = .ok (.iload_n 2, 1) := by decide +kernel
theorem dX6_heard_9 : decode cX6_heard 9 = .ok (.invokestatic 317, 3) := by decide +kernel
theorem dX6_heard_12 : decode cX6_heard 12 = .ok (.ifCond .eq 20, 3) := by decide +kernel
theorem dX6_heard_15 : decode cX6_heard 15 = .ok (.iload_n 2, 1) := by decide +kernel
theorem dX6_heard_16 : decode cX6_heard 16 = .ok (.ifCond .eq 16, 3) := by decide +kernel
theorem dX6_heard_19 : decode cX6_heard 19 = .ok (.iload_n 3, 1) := by decide +kernel
theorem dX6_heard_20 : decode cX6_heard 20 = .ok (.ifCond .lt 12, 3) := by decide +kernel
theorem dX6_heard_23 : decode cX6_heard 23 = .ok (.aload_n 0, 1) := by decide +kernel
theorem dX6_heard_24 : decode cX6_heard 24 = .ok (.iload 4, 2) := by decide +kernel
theorem dX6_heard_26 : decode cX6_heard 26 = .ok (.invokevirtual 283, 3) := by decide +kernel
theorem dX6_heard_29 : decode cX6_heard 29 = .ok (.ifCond .ne 5, 3) := by decide +kernel
theorem dX6_heard_32 : decode cX6_heard 32 = .ok (.iconst (-1), 1) := by decide +kernel
theorem dX6_heard_33 : decode cX6_heard 33 = .ok (.ireturn, 1) := by decide +kernel
theorem dX6_heard_34 : decode cX6_heard 34 = .ok (.aload_n 0, 1) := by decide +kernel
theorem dX6_heard_35 : decode cX6_heard 35 = .ok (.iload 4, 2) := by decide +kernel
theorem dX6_heard_37 : decode cX6_heard 37 = .ok (.invokevirtual 320, 3) := by decide +kernel
theorem dX6_heard_40 : decode cX6_heard 40 = .ok (.iload_n 2, 1) := by decide +kernel
theorem dX6_heard_41 : decode cX6_heard 41 = .ok (.aload_n 0, 1) := by decide +kernel
theorem dX6_heard_42 : decode cX6_heard 42 = .ok (.getfield 116, 3) := by decide +kernel
theorem dX6_heard_45 : decode cX6_heard 45 = .ok (.iload_n 1, 1) := by decide +kernel
theorem dX6_heard_46 : decode cX6_heard 46 = .ok (.iaload, 1) := by decide +kernel
theorem dX6_heard_47 : decode cX6_heard 47 = .ok (.if_icmp .lt 5, 3) := by decide +kernel
theorem dX6_heard_50 : decode cX6_heard 50 = .ok (.iconst (-1), 1) := by decide +kernel
theorem dX6_heard_51 : decode cX6_heard 51 = .ok (.ireturn, 1) := by decide +kernel
theorem dX6_heard_52 : decode cX6_heard 52 = .ok (.iload_n 3, 1) := by decide +kernel
theorem dX6_heard_53 : decode cX6_heard 53 = .ok (.istore 5, 2) := by decide +kernel
theorem dX6_heard_55 : decode cX6_heard 55 = .ok (.iconst 0, 1) := by decide +kernel
theorem dX6_heard_56 : decode cX6_heard 56 = .ok (.istore 6, 2) := by decide +kernel
theorem dX6_heard_58 : decode cX6_heard 58 = .ok (.iload 6, 2) := by decide +kernel
theorem dX6_heard_60 : decode cX6_heard 60 = .ok (.iload 4, 2) := by decide +kernel
theorem dX6_heard_62 : decode cX6_heard 62 = .ok (.if_icmp .ge 57, 3) := by decide +kernel
theorem dX6_heard_65 : decode cX6_heard 65 = .ok (.aload_n 0, 1) := by decide +kernel
theorem dX6_heard_66 : decode cX6_heard 66 = .ok (.iload 6, 2) := by decide +kernel
theorem dX6_heard_68 : decode cX6_heard 68 = .ok (.iload_n 1, 1) := by decide +kernel
theorem dX6_heard_69 : decode cX6_heard 69 = .ok (.aload_n 0, 1) := by decide +kernel
theorem dX6_heard_70 : decode cX6_heard 70 = .ok (.getfield 125, 3) := by decide +kernel
theorem dX6_heard_73 : decode cX6_heard 73 = .ok (.bipush 16, 2) := by decide +kernel
theorem dX6_heard_75 : decode cX6_heard 75 = .ok (.iload_n 1, 1) := by decide +kernel
theorem dX6_heard_76 : decode cX6_heard 76 = .ok (.imul, 1) := by decide +kernel
theorem dX6_heard_77 : decode cX6_heard 77 = .ok (.iload_n 2, 1) := by decide +kernel
theorem dX6_heard_78 : decode cX6_heard 78 = .ok (.iadd, 1) := by decide +kernel
theorem dX6_heard_79 : decode cX6_heard 79 = .ok (.iaload, 1) := by decide +kernel
theorem dX6_heard_80 : decode cX6_heard 80 = .ok (.aload_n 0, 1) := by decide +kernel
theorem dX6_heard_81 : decode cX6_heard 81 = .ok (.getfield 128, 3) := by decide +kernel
theorem dX6_heard_84 : decode cX6_heard 84 = .ok (.bipush 16, 2) := by decide +kernel
theorem dX6_heard_86 : decode cX6_heard 86 = .ok (.iload_n 1, 1) := by decide +kernel
theorem dX6_heard_87 : decode cX6_heard 87 = .ok (.imul, 1) := by decide +kernel
theorem dX6_heard_88 : decode cX6_heard 88 = .ok (.iload_n 2, 1) := by decide +kernel
theorem dX6_heard_89 : decode cX6_heard 89 = .ok (.iadd, 1) := by decide +kernel
theorem dX6_heard_90 : decode cX6_heard 90 = .ok (.iaload, 1) := by decide +kernel
theorem dX6_heard_91 : decode cX6_heard 91 = .ok (.iload 4, 2) := by decide +kernel
theorem dX6_heard_93 : decode cX6_heard 93 = .ok (.invokevirtual 292, 3) := by decide +kernel
theorem dX6_heard_96 : decode cX6_heard 96 = .ok (.ifCond .ne 6, 3) := by decide +kernel
theorem dX6_heard_99 : decode cX6_heard 99 = .ok (.goto 14, 3) := by decide +kernel
theorem dX6_heard_102 : decode cX6_heard 102 = .ok (.iload 5, 2) := by decide +kernel
theorem dX6_heard_104 : decode cX6_heard 104 = .ok (.ifCond .ne 6, 3) := by decide +kernel
theorem dX6_heard_107 : decode cX6_heard 107 = .ok (.iload 6, 2) := by decide +kernel
theorem dX6_heard_109 : decode cX6_heard 109 = .ok (.ireturn, 1) := by decide +kernel
theorem dX6_heard_110 : decode cX6_heard 110 = .ok (.iinc 5 (-1), 3) := by decide +kernel
theorem dX6_heard_113 : decode cX6_heard 113 = .ok (.iinc 6 1, 3) := by decide +kernel
theorem dX6_heard_116 : decode cX6_heard 116 = .ok (.goto (-58), 3) := by decide +kernel
theorem dX6_heard_119 : decode cX6_heard 119 = .ok (.iconst (-1), 1) := by decide +kernel
theorem dX6_heard_120 : decode cX6_heard 120 = .ok (.ireturn, 1) := by decide +kernel
theorem dX6_dateOf_0 : decode cX6_dateOf 0 = .ok (.iconst (-1), 1) := by decide +kernel
theorem dX6_dateOf_1 : decode cX6_dateOf 1 = .ok (.istore_n 3, 1) := by decide +kernel
theorem dX6_dateOf_2 : decode cX6_dateOf 2 = .ok (.iload_n 3, 1) := by decide +kernel
theorem dX6_dateOf_3 : decode cX6_dateOf 3 = .ok (.iconst 1, 1) := by decide +kernel
theorem dX6_dateOf_4 : decode cX6_dateOf 4 = .ok (.iadd, 1) := by decide +kernel
theorem dX6_dateOf_5 : decode cX6_dateOf 5 = .ok (.aload_n 0, 1) := by decide +kernel
theorem dX6_dateOf_6 : decode cX6_dateOf 6 = .ok (.getfield 116, 3) := by decide +kernel
theorem dX6_dateOf_9 : decode cX6_dateOf 9 = .ok (.iload_n 1, 1) := by decide +kernel
theorem dX6_dateOf_10 : decode cX6_dateOf 10 = .ok (.iaload, 1) := by decide +kernel
theorem dX6_dateOf_11 : decode cX6_dateOf 11 = .ok (.if_icmp .ge 26, 3) := by decide +kernel
theorem dX6_dateOf_14 : decode cX6_dateOf 14 = .ok (.aload_n 0, 1) := by decide +kernel
theorem dX6_dateOf_15 : decode cX6_dateOf 15 = .ok (.getfield 119, 3) := by decide +kernel
theorem dX6_dateOf_18 : decode cX6_dateOf 18 = .ok (.bipush 16, 2) := by decide +kernel
theorem dX6_dateOf_20 : decode cX6_dateOf 20 = .ok (.iload_n 1, 1) := by decide +kernel
theorem dX6_dateOf_21 : decode cX6_dateOf 21 = .ok (.imul, 1) := by decide +kernel
theorem dX6_dateOf_22 : decode cX6_dateOf 22 = .ok (.iload_n 3, 1) := by decide +kernel
theorem dX6_dateOf_23 : decode cX6_dateOf 23 = .ok (.iadd, 1) := by decide +kernel
theorem dX6_dateOf_24 : decode cX6_dateOf 24 = .ok (.iconst 1, 1) := by decide +kernel
theorem dX6_dateOf_25 : decode cX6_dateOf 25 = .ok (.iadd, 1) := by decide +kernel
theorem dX6_dateOf_26 : decode cX6_dateOf 26 = .ok (.iaload, 1) := by decide +kernel
theorem dX6_dateOf_27 : decode cX6_dateOf 27 = .ok (.iload_n 2, 1) := by decide +kernel
theorem dX6_dateOf_28 : decode cX6_dateOf 28 = .ok (.if_icmp .gt 9, 3) := by decide +kernel
theorem dX6_dateOf_31 : decode cX6_dateOf 31 = .ok (.iinc 3 1, 3) := by decide +kernel
theorem dX6_dateOf_34 : decode cX6_dateOf 34 = .ok (.goto (-32), 3) := by decide +kernel
theorem dX6_dateOf_37 : decode cX6_dateOf 37 = .ok (.iload_n 3, 1) := by decide +kernel
theorem dX6_dateOf_38 : decode cX6_dateOf 38 = .ok (.iconst (-1), 1) := by decide +kernel
theorem dX6_dateOf_39 : decode cX6_dateOf 39 = .ok (.if_icmp .ne 7, 3) := by decide +kernel
theorem dX6_dateOf_42 : decode cX6_dateOf 42 = .ok (.iconst (-1), 1) := by decide +kernel
theorem dX6_dateOf_43 : decode cX6_dateOf 43 = .ok (.goto 23, 3) := by decide +kernel
theorem dX6_dateOf_46 : decode cX6_dateOf 46 = .ok (.bipush 100, 2) := by decide +kernel
theorem dX6_dateOf_48 : decode cX6_dateOf 48 = .ok (.iload_n 3, 1) := by decide +kernel
theorem dX6_dateOf_49 : decode cX6_dateOf 49 = .ok (.imul, 1) := by decide +kernel
theorem dX6_dateOf_50 : decode cX6_dateOf 50 = .ok (.iload_n 2, 1) := by decide +kernel
theorem dX6_dateOf_51 : decode cX6_dateOf 51 = .ok (.iadd, 1) := by decide +kernel
theorem dX6_dateOf_52 : decode cX6_dateOf 52 = .ok (.aload_n 0, 1) := by decide +kernel
theorem dX6_dateOf_53 : decode cX6_dateOf 53 = .ok (.getfield 119, 3) := by decide +kernel
theorem dX6_dateOf_56 : decode cX6_dateOf 56 = .ok (.bipush 16, 2) := by decide +kernel
theorem dX6_dateOf_58 : decode cX6_dateOf 58 = .ok (.iload_n 1, 1) := by decide +kernel
theorem dX6_dateOf_59 : decode cX6_dateOf 59 = .ok (.imul, 1) := by decide +kernel
theorem dX6_dateOf_60 : decode cX6_dateOf 60 = .ok (.iload_n 3, 1) := by decide +kernel
theorem dX6_dateOf_61 : decode cX6_dateOf 61 = .ok (.iadd, 1) := by decide +kernel
theorem dX6_dateOf_62 : decode cX6_dateOf 62 = .ok (.iaload, 1) := by decide +kernel
theorem dX6_dateOf_63 : decode cX6_dateOf 63 = .ok (.isub, 1) := by decide +kernel
theorem dX6_dateOf_64 : decode cX6_dateOf 64 = .ok (.iconst 1, 1) := by decide +kernel
theorem dX6_dateOf_65 : decode cX6_dateOf 65 = .ok (.iadd, 1) := by decide +kernel
theorem dX6_dateOf_66 : decode cX6_dateOf 66 = .ok (.ireturn, 1) := by decide +kernel
set_option maxRecDepth 20000 in
theorem ggX6_date_X6_isLand : GoodIn wsX6_date wsX6_isLand := goodIn_r _ [5, 6, 105, 106, 107, 108, 109, 110, 111, 112, 113, 114, 115, 116, 117, 118, 119, 120, 121, 122, 123, 124, 125, 126, 127, 128, 129, 130, 131, 132, 133, 134, 135, 136, 137, 138, 139, 140, 141, 142, 143, 144, 145, 146, 147, 148, 149, 150, 151, 152, 153, 154, 155, 156, 157, 158, 159, 160, 161, 162, 163, 164] (by decide +kernel) (by decide +kernel)
set_option maxRecDepth 20000 in
theorem gX6_date_X6_isLand : GoodIn wsX6_date (wsV RX6 212 RX6 yX6_isLand wsX6_isLand) := goodIn_app (goodIn_of _ (by decide +kernel)) ggX6_date_X6_isLand
set_option maxRecDepth 20000 in
theorem ggX6_date_X6_isEvening : GoodIn wsX6_date wsX6_isEvening := goodIn_r _ [9] (by decide +kernel) (by decide +kernel)
set_option maxRecDepth 20000 in
theorem gX6_date_X6_isEvening : GoodIn wsX6_date (va_wsS RX6 262 yX6_isEvening wsX6_isEvening) := goodIn_app (goodIn_of _ (by decide +kernel)) ggX6_date_X6_isEvening
set_option maxRecDepth 20000 in
theorem ggX6_date_X6_isKnown : GoodIn wsX6_date wsX6_isKnown := goodIn_r _ [13, 14, 105, 106, 107, 108, 109, 110, 111, 112, 113, 114, 115, 116, 117, 118, 119, 120, 121, 122, 123, 124, 125, 126, 127, 128, 129, 130, 131, 132, 133, 134, 135, 136, 137, 138, 139, 140, 141, 142, 143, 144, 145, 146, 147, 148, 149, 150, 151, 152, 153, 154, 155, 156, 157, 158, 159, 160, 161, 162, 163, 164] (by decide +kernel) (by decide +kernel)
set_option maxRecDepth 20000 in
theorem gX6_date_X6_isKnown : GoodIn wsX6_date (wsV RX6 283 RX6 yX6_isKnown wsX6_isKnown) := goodIn_app (goodIn_of _ (by decide +kernel)) ggX6_date_X6_isKnown
set_option maxRecDepth 20000 in
theorem ggX6_date_X6_goes : GoodIn wsX6_date wsX6_goes := goodIn_r _ [18, 19, 20, 6, 21, 22, 23, 4, 24, 25, 26, 27, 28, 29, 30, 31, 32, 33, 34, 35, 36, 37, 38, 39, 40, 41, 42, 43, 44, 45, 46, 47, 48, 49, 50, 51, 52, 53, 54, 55, 56, 57, 58, 59, 60, 61, 62, 63, 64, 65, 66, 67, 68, 69, 70, 71, 72, 73, 74, 75, 76, 77, 78, 79, 80, 81, 82, 83, 84, 85, 86, 87, 88, 89, 90, 91, 92, 93, 94, 95, 96, 97, 98, 99, 100, 105, 106, 107, 108, 109, 110, 111, 112, 113, 114, 115, 116, 117, 118, 119, 120, 121, 122, 123, 124, 125, 126, 127, 128, 129, 130, 131, 132, 133, 134, 135, 136, 137, 138, 139, 140, 141, 142, 143, 144, 145, 146, 147, 148, 149, 150, 151, 152, 153, 154, 155, 156, 157, 158, 159, 160, 161, 162, 163, 164] (by decide +kernel) (by decide +kernel)
set_option maxRecDepth 20000 in
theorem gX6_date_X6_goes : GoodIn wsX6_date (wsV RX6 320 RX6 yX6_goes wsX6_goes) := goodIn_app (goodIn_of _ (by decide +kernel)) ggX6_date_X6_goes
set_option maxRecDepth 20000 in
theorem ggX6_date_X6_dateOf : GoodIn wsX6_date wsX6_dateOf := goodIn_r _ [104, 20, 26, 105, 106, 107, 108, 109, 110, 111, 112, 113, 114, 115, 116, 117, 118, 119, 120, 121, 122, 123, 124, 125, 126, 127, 128, 129, 130, 131, 132, 133, 134, 135, 136, 137, 138, 139, 140, 141, 142, 143, 144, 145, 146, 147, 148, 149, 150, 151, 152, 153, 154, 155, 156, 157, 158, 159, 160, 161, 162, 163, 164] (by decide +kernel) (by decide +kernel)
set_option maxRecDepth 20000 in
theorem gX6_date_X6_dateOf : GoodIn wsX6_date (wsV RX6 326 RX6 yX6_dateOf wsX6_dateOf) := goodIn_app (goodIn_of _ (by decide +kernel)) ggX6_date_X6_dateOf
theorem dX6_date_0 : decode cX6_date 0 = .ok (.aload_n 0, 1) := by decide +kernel
theorem dX6_date_1 : decode cX6_date 1 = .ok (.iload_n 1, 1) := by decide +kernel
theorem dX6_date_2 : decode cX6_date 2 = .ok (.invokevirtual 212, 3) := by decide +kernel
theorem dX6_date_5 : decode cX6_date 5 = .ok (.ifCond .eq 18, 3) := by decide +kernel
theorem dX6_date_8 : decode cX6_date 8 = .ok (.iload_n 2, 1) := by decide +kernel
theorem dX6_date_9 : decode cX6_date 9 = .ok (.invokestatic 262, 3) := by decide +kernel
theorem dX6_date_12 : decode cX6_date 12 = .ok (.ifCond .eq 11, 3) := by decide +kernel
theorem dX6_date_15 : decode cX6_date 15 = .ok (.aload_n 0, 1) := by decide +kernel
theorem dX6_date_16 : decode cX6_date 16 = .ok (.iload_n 3, 1) := by decide +kernel
theorem dX6_date_17 : decode cX6_date 17 = .ok (.invokevirtual 283, 3) := by decide +kernel
theorem dX6_date_20 : decode cX6_date 20 = .ok (.ifCond .ne 5, 3) := by decide +kernel
theorem dX6_date_23 : decode cX6_date 23 = .ok (.iconst (-1), 1) := by decide +kernel
theorem dX6_date_24 : decode cX6_date 24 = .ok (.ireturn, 1) := by decide +kernel
theorem dX6_date_25 : decode cX6_date 25 = .ok (.aload_n 0, 1) := by decide +kernel
theorem dX6_date_26 : decode cX6_date 26 = .ok (.iload_n 3, 1) := by decide +kernel
theorem dX6_date_27 : decode cX6_date 27 = .ok (.invokevirtual 320, 3) := by decide +kernel
theorem dX6_date_30 : decode cX6_date 30 = .ok (.aload_n 0, 1) := by decide +kernel
theorem dX6_date_31 : decode cX6_date 31 = .ok (.iload_n 1, 1) := by decide +kernel
theorem dX6_date_32 : decode cX6_date 32 = .ok (.iload_n 2, 1) := by decide +kernel
theorem dX6_date_33 : decode cX6_date 33 = .ok (.invokevirtual 326, 3) := by decide +kernel
theorem dX6_date_36 : decode cX6_date 36 = .ok (.ireturn, 1) := by decide +kernel
set_option maxRecDepth 20000 in
theorem ggX6_turn_X6_isLand : GoodIn wsX6_turn wsX6_isLand := goodIn_r _ [7, 8, 105, 106, 107, 108, 109, 110, 111, 112, 113, 114, 115, 116, 117, 118, 119, 120, 121, 122, 123, 124, 125, 126, 127, 128, 129, 130, 131, 132, 133, 134, 135, 136, 137, 138, 139, 140, 141, 142, 143, 144, 145, 146, 147, 148, 149, 150, 151, 152, 153, 154, 155, 156, 157, 158, 159, 160, 161, 162, 163, 164] (by decide +kernel) (by decide +kernel)
set_option maxRecDepth 20000 in
theorem gX6_turn_X6_isLand : GoodIn wsX6_turn (wsV RX6 212 RX6 yX6_isLand wsX6_isLand) := goodIn_app (goodIn_of _ (by decide +kernel)) ggX6_turn_X6_isLand
set_option maxRecDepth 20000 in
theorem ggX6_turn_X6_isMonth : GoodIn wsX6_turn wsX6_isMonth := goodIn_r _ [11] (by decide +kernel) (by decide +kernel)
set_option maxRecDepth 20000 in
theorem gX6_turn_X6_isMonth : GoodIn wsX6_turn (va_wsS RX6 317 yX6_isMonth wsX6_isMonth) := goodIn_app (goodIn_of _ (by decide +kernel)) ggX6_turn_X6_isMonth
set_option maxRecDepth 20000 in
theorem ggX6_turn_X6_isKnown : GoodIn wsX6_turn wsX6_isKnown := goodIn_r _ [15, 16, 105, 106, 107, 108, 109, 110, 111, 112, 113, 114, 115, 116, 117, 118, 119, 120, 121, 122, 123, 124, 125, 126, 127, 128, 129, 130, 131, 132, 133, 134, 135, 136, 137, 138, 139, 140, 141, 142, 143, 144, 145, 146, 147, 148, 149, 150, 151, 152, 153, 154, 155, 156, 157, 158, 159, 160, 161, 162, 163, 164] (by decide +kernel) (by decide +kernel)
set_option maxRecDepth 20000 in
theorem gX6_turn_X6_isKnown : GoodIn wsX6_turn (wsV RX6 283 RX6 yX6_isKnown wsX6_isKnown) := goodIn_app (goodIn_of _ (by decide +kernel)) ggX6_turn_X6_isKnown
set_option maxRecDepth 20000 in
theorem ggX6_turn_X6_goes : GoodIn wsX6_turn wsX6_goes := goodIn_r _ [20, 21, 1, 8, 22, 23, 24, 6, 25, 26, 2, 27, 28, 29, 30, 31, 32, 33, 34, 35, 36, 37, 38, 39, 40, 41, 42, 43, 44, 45, 46, 47, 48, 49, 50, 51, 52, 53, 54, 55, 56, 57, 58, 59, 60, 61, 62, 63, 64, 65, 66, 67, 68, 69, 70, 71, 72, 73, 74, 75, 76, 77, 78, 79, 80, 81, 82, 83, 84, 85, 86, 87, 88, 89, 90, 91, 92, 93, 94, 95, 96, 97, 98, 99, 100, 105, 106, 107, 108, 109, 110, 111, 112, 113, 114, 115, 116, 117, 118, 119, 120, 121, 122, 123, 124, 125, 126, 127, 128, 129, 130, 131, 132, 133, 134, 135, 136, 137, 138, 139, 140, 141, 142, 143, 144, 145, 146, 147, 148, 149, 150, 151, 152, 153, 154, 155, 156, 157, 158, 159, 160, 161, 162, 163, 164] (by decide +kernel) (by decide +kernel)
set_option maxRecDepth 20000 in
theorem gX6_turn_X6_goes : GoodIn wsX6_turn (wsV RX6 320 RX6 yX6_goes wsX6_goes) := goodIn_app (goodIn_of _ (by decide +kernel)) ggX6_turn_X6_goes
set_option maxRecDepth 20000 in
theorem ggX6_turn_X6_dateOf : GoodIn wsX6_turn wsX6_dateOf := goodIn_r _ [104, 1, 2, 105, 106, 107, 108, 109, 110, 111, 112, 113, 114, 115, 116, 117, 118, 119, 120, 121, 122, 123, 124, 125, 126, 127, 128, 129, 130, 131, 132, 133, 134, 135, 136, 137, 138, 139, 140, 141, 142, 143, 144, 145, 146, 147, 148, 149, 150, 151, 152, 153, 154, 155, 156, 157, 158, 159, 160, 161, 162, 163, 164] (by decide +kernel) (by decide +kernel)
set_option maxRecDepth 20000 in
theorem gX6_turn_X6_dateOf : GoodIn wsX6_turn (wsV RX6 326 RX6 yX6_dateOf wsX6_dateOf) := goodIn_app (goodIn_of _ (by decide +kernel)) ggX6_turn_X6_dateOf
theorem dX6_turn_0 : decode cX6_turn 0 = .ok (.aload_n 0, 1) := by decide +kernel
theorem dX6_turn_1 : decode cX6_turn 1 = .ok (.iload_n 1, 1) := by decide +kernel
theorem dX6_turn_2 : decode cX6_turn 2 = .ok (.invokevirtual 212, 3) := by decide +kernel
theorem dX6_turn_5 : decode cX6_turn 5 = .ok (.ifCond .eq 39, 3) := by decide +kernel
theorem dX6_turn_8 : decode cX6_turn 8 = .ok (.aload_n 0, 1) := by decide +kernel
theorem dX6_turn_9 : decode cX6_turn 9 = .ok (.iload 4, 2) := by decide +kernel
theorem dX6_turn_11 : decode cX6_turn 11 = .ok (.invokevirtual 212, 3) := by decide +kernel
theorem dX6_turn_14 : decode cX6_turn 14 = .ok (.ifCond .eq 30, 3) := by decide +kernel
theorem dX6_turn_17 : decode cX6_turn 17 = .ok (.iload_n 2, 1) := by decide +kernel
theorem dX6_turn_18 : decode cX6_turn 18 = .ok (.invokestatic 317, 3) := by decide +kernel
theorem dX6_turn_21 : decode cX6_turn 21 = .ok (.ifCond .eq 23, 3) := by decide +kernel
theorem dX6_turn_24 : decode cX6_turn 24 = .ok (.iload_n 3, 1) := by decide +kernel
theorem dX6_turn_25 : decode cX6_turn 25 = .ok (.iconst 1, 1) := by decide +kernel
theorem dX6_turn_26 : decode cX6_turn 26 = .ok (.if_icmp .lt 18, 3) := by decide +kernel
theorem dX6_turn_29 : decode cX6_turn 29 = .ok (.iload_n 3, 1) := by decide +kernel
theorem dX6_turn_30 : decode cX6_turn 30 = .ok (.bipush 30, 2) := by decide +kernel
theorem dX6_turn_32 : decode cX6_turn 32 = .ok (.if_icmp .gt 12, 3) := by decide +kernel
theorem dX6_turn_35 : decode cX6_turn 35 = .ok (.aload_n 0, 1) := by decide +kernel
theorem dX6_turn_36 : decode cX6_turn 36 = .ok (.iload 5, 2) := by decide +kernel
theorem dX6_turn_38 : decode cX6_turn 38 = .ok (.invokevirtual 283, 3) := by decide +kernel
theorem dX6_turn_41 : decode cX6_turn 41 = .ok (.ifCond .ne 5, 3) := by decide +kernel
theorem dX6_turn_44 : decode cX6_turn 44 = .ok (.iconst (-1), 1) := by decide +kernel
theorem dX6_turn_45 : decode cX6_turn 45 = .ok (.ireturn, 1) := by decide +kernel
theorem dX6_turn_46 : decode cX6_turn 46 = .ok (.aload_n 0, 1) := by decide +kernel
theorem dX6_turn_47 : decode cX6_turn 47 = .ok (.iload 5, 2) := by decide +kernel
theorem dX6_turn_49 : decode cX6_turn 49 = .ok (.invokevirtual 320, 3) := by decide +kernel
theorem dX6_turn_52 : decode cX6_turn 52 = .ok (.iload_n 2, 1) := by decide +kernel
theorem dX6_turn_53 : decode cX6_turn 53 = .ok (.aload_n 0, 1) := by decide +kernel
theorem dX6_turn_54 : decode cX6_turn 54 = .ok (.getfield 116, 3) := by decide +kernel
theorem dX6_turn_57 : decode cX6_turn 57 = .ok (.iload_n 1, 1) := by decide +kernel
theorem dX6_turn_58 : decode cX6_turn 58 = .ok (.iaload, 1) := by decide +kernel
theorem dX6_turn_59 : decode cX6_turn 59 = .ok (.if_icmp .lt 5, 3) := by decide +kernel
theorem dX6_turn_62 : decode cX6_turn 62 = .ok (.iconst (-1), 1) := by decide +kernel
theorem dX6_turn_63 : decode cX6_turn 63 = .ok (.ireturn, 1) := by decide +kernel
theorem dX6_turn_64 : decode cX6_turn 64 = .ok (.aload_n 0, 1) := by decide +kernel
theorem dX6_turn_65 : decode cX6_turn 65 = .ok (.getfield 119, 3) := by decide +kernel
theorem dX6_turn_68 : decode cX6_turn 68 = .ok (.bipush 16, 2) := by decide +kernel
theorem dX6_turn_70 : decode cX6_turn 70 = .ok (.iload_n 1, 1) := by decide +kernel
theorem dX6_turn_71 : decode cX6_turn 71 = .ok (.imul, 1) := by decide +kernel
theorem dX6_turn_72 : decode cX6_turn 72 = .ok (.iload_n 2, 1) := by decide +kernel
theorem dX6_turn_73 : decode cX6_turn 73 = .ok (.iadd, 1) := by decide +kernel
theorem dX6_turn_74 : decode cX6_turn 74 = .ok (.iaload, 1) := by decide +kernel
theorem dX6_turn_75 : decode cX6_turn 75 = .ok (.iload_n 3, 1) := by decide +kernel
theorem dX6_turn_76 : decode cX6_turn 76 = .ok (.iadd, 1) := by decide +kernel
theorem dX6_turn_77 : decode cX6_turn 77 = .ok (.iconst 1, 1) := by decide +kernel
theorem dX6_turn_78 : decode cX6_turn 78 = .ok (.isub, 1) := by decide +kernel
theorem dX6_turn_79 : decode cX6_turn 79 = .ok (.istore 6, 2) := by decide +kernel
theorem dX6_turn_81 : decode cX6_turn 81 = .ok (.iload 6, 2) := by decide +kernel
theorem dX6_turn_83 : decode cX6_turn 83 = .ok (.sipush 400, 3) := by decide +kernel
theorem dX6_turn_86 : decode cX6_turn 86 = .ok (.if_icmp .ge 33, 3) := by decide +kernel
theorem dX6_turn_89 : decode cX6_turn 89 = .ok (.iload_n 2, 1) := by decide +kernel
theorem dX6_turn_90 : decode cX6_turn 90 = .ok (.iconst 1, 1) := by decide +kernel
theorem dX6_turn_91 : decode cX6_turn 91 = .ok (.iadd, 1) := by decide +kernel
theorem dX6_turn_92 : decode cX6_turn 92 = .ok (.aload_n 0, 1) := by decide +kernel
theorem dX6_turn_93 : decode cX6_turn 93 = .ok (.getfield 116, 3) := by decide +kernel
theorem dX6_turn_96 : decode cX6_turn 96 = .ok (.iload_n 1, 1) := by decide +kernel
theorem dX6_turn_97 : decode cX6_turn 97 = .ok (.iaload, 1) := by decide +kernel
theorem dX6_turn_98 : decode cX6_turn 98 = .ok (.if_icmp .ge 23, 3) := by decide +kernel
theorem dX6_turn_101 : decode cX6_turn 101 = .ok (.iload 6, 2) := by decide +kernel
theorem dX6_turn_103 : decode cX6_turn 103 = .ok (.aload_n 0, 1) := by decide +kernel
theorem dX6_turn_104 : decode cX6_turn 104 = .ok (.getfield 119, 3) := by decide +kernel
theorem dX6_turn_107 : decode cX6_turn 107 = .ok (.bipush 16, 2) := by decide +kernel
theorem dX6_turn_109 : decode cX6_turn 109 = .ok (.iload_n 1, 1) := by decide +kernel
theorem dX6_turn_110 : decode cX6_turn 110 = .ok (.imul, 1) := by decide +kernel
theorem dX6_turn_111 : decode cX6_turn 111 = .ok (.iload_n 2, 1) := by decide +kernel
theorem dX6_turn_112 : decode cX6_turn 112 = .ok (.iadd, 1) := by decide +kernel
theorem dX6_turn_113 : decode cX6_turn 113 = .ok (.iconst 1, 1) := by decide +kernel
theorem dX6_turn_114 : decode cX6_turn 114 = .ok (.iadd, 1) := by decide +kernel
theorem dX6_turn_115 : decode cX6_turn 115 = .ok (.iaload, 1) := by decide +kernel
theorem dX6_turn_116 : decode cX6_turn 116 = .ok (.if_icmp .lt 5, 3) := by decide +kernel
theorem dX6_turn_119 : decode cX6_turn 119 = .ok (.iconst (-1), 1) := by decide +kernel
theorem dX6_turn_120 : decode cX6_turn 120 = .ok (.ireturn, 1) := by decide +kernel
theorem dX6_turn_121 : decode cX6_turn 121 = .ok (.aload_n 0, 1) := by decide +kernel
theorem dX6_turn_122 : decode cX6_turn 122 = .ok (.iload 4, 2) := by decide +kernel
theorem dX6_turn_124 : decode cX6_turn 124 = .ok (.iload 6, 2) := by decide +kernel
theorem dX6_turn_126 : decode cX6_turn 126 = .ok (.invokevirtual 326, 3) := by decide +kernel
theorem dX6_turn_129 : decode cX6_turn 129 = .ok (.ireturn, 1) := by decide +kernel
set_option maxRecDepth 20000 in
theorem ggX6_unlike_X6_isLand : GoodIn wsX6_unlike wsX6_isLand := goodIn_r _ [5, 6, 105, 106, 107, 108, 109, 110, 111, 112, 113, 114, 115, 116, 117, 118, 119, 120, 121, 122, 123, 124, 125, 126, 127, 128, 129, 130, 131, 132, 133, 134, 135, 136, 137, 138, 139, 140, 141, 142, 143, 144, 145, 146, 147, 148, 149, 150, 151, 152, 153, 154, 155, 156, 157, 158, 159, 160, 161, 162, 163, 164] (by decide +kernel) (by decide +kernel)
set_option maxRecDepth 20000 in
theorem gX6_unlike_X6_isLand : GoodIn wsX6_unlike (wsV RX6 212 RX6 yX6_isLand wsX6_isLand) := goodIn_app (goodIn_of _ (by decide +kernel)) ggX6_unlike_X6_isLand
set_option maxRecDepth 20000 in
theorem ggX6_unlike_X6_isEvening : GoodIn wsX6_unlike wsX6_isEvening := goodIn_r _ [9] (by decide +kernel) (by decide +kernel)
set_option maxRecDepth 20000 in
theorem gX6_unlike_X6_isEvening : GoodIn wsX6_unlike (va_wsS RX6 262 yX6_isEvening wsX6_isEvening) := goodIn_app (goodIn_of _ (by decide +kernel)) ggX6_unlike_X6_isEvening
set_option maxRecDepth 20000 in
theorem ggX6_unlike_X6_isKnown : GoodIn wsX6_unlike wsX6_isKnown := goodIn_r _ [13, 14, 105, 106, 107, 108, 109, 110, 111, 112, 113, 114, 115, 116, 117, 118, 119, 120, 121, 122, 123, 124, 125, 126, 127, 128, 129, 130, 131, 132, 133, 134, 135, 136, 137, 138, 139, 140, 141, 142, 143, 144, 145, 146, 147, 148, 149, 150, 151, 152, 153, 154, 155, 156, 157, 158, 159, 160, 161, 162, 163, 164] (by decide +kernel) (by decide +kernel)
set_option maxRecDepth 20000 in
theorem gX6_unlike_X6_isKnown : GoodIn wsX6_unlike (wsV RX6 283 RX6 yX6_isKnown wsX6_isKnown) := goodIn_app (goodIn_of _ (by decide +kernel)) ggX6_unlike_X6_isKnown
set_option maxRecDepth 20000 in
theorem ggX6_unlike_X6_goes : GoodIn wsX6_unlike wsX6_goes := goodIn_r _ [18, 19, 20, 6, 21, 22, 23, 4, 24, 25, 26, 27, 28, 29, 30, 31, 32, 33, 34, 35, 36, 37, 38, 39, 40, 41, 42, 43, 44, 45, 46, 47, 48, 49, 50, 51, 52, 53, 54, 55, 56, 57, 58, 59, 60, 61, 62, 63, 64, 65, 66, 67, 68, 69, 70, 71, 72, 73, 74, 75, 76, 77, 78, 79, 80, 81, 82, 83, 84, 85, 86, 87, 88, 89, 90, 91, 92, 93, 94, 95, 96, 97, 98, 99, 100, 105, 106, 107, 108, 109, 110, 111, 112, 113, 114, 115, 116, 117, 118, 119, 120, 121, 122, 123, 124, 125, 126, 127, 128, 129, 130, 131, 132, 133, 134, 135, 136, 137, 138, 139, 140, 141, 142, 143, 144, 145, 146, 147, 148, 149, 150, 151, 152, 153, 154, 155, 156, 157, 158, 159, 160, 161, 162, 163, 164] (by decide +kernel) (by decide +kernel)
set_option maxRecDepth 20000 in
theorem gX6_unlike_X6_goes : GoodIn wsX6_unlike (wsV RX6 320 RX6 yX6_goes wsX6_goes) := goodIn_app (goodIn_of _ (by decide +kernel)) ggX6_unlike_X6_goes
set_option maxRecDepth 20000 in
theorem ggX6_unlike_X6_dateOf : GoodIn wsX6_unlike wsX6_dateOf := goodIn_r _ [104, 20, 26, 105, 106, 107, 108, 109, 110, 111, 112, 113, 114, 115, 116, 117, 118, 119, 120, 121, 122, 123, 124, 125, 126, 127, 128, 129, 130, 131, 132, 133, 134, 135, 136, 137, 138, 139, 140, 141, 142, 143, 144, 145, 146, 147, 148, 149, 150, 151, 152, 153, 154, 155, 156, 157, 158, 159, 160, 161, 162, 163, 164] (by decide +kernel) (by decide +kernel)
set_option maxRecDepth 20000 in
theorem gX6_unlike_X6_dateOf : GoodIn wsX6_unlike (wsV RX6 326 RX6 yX6_dateOf wsX6_dateOf) := goodIn_app (goodIn_of _ (by decide +kernel)) ggX6_unlike_X6_dateOf
theorem dX6_unlike_0 : decode cX6_unlike 0 = .ok (.aload_n 0, 1) := by decide +kernel
theorem dX6_unlike_1 : decode cX6_unlike 1 = .ok (.iload_n 1, 1) := by decide +kernel
theorem dX6_unlike_2 : decode cX6_unlike 2 = .ok (.invokevirtual 212, 3) := by decide +kernel
theorem dX6_unlike_5 : decode cX6_unlike 5 = .ok (.ifCond .eq 41, 3) := by decide +kernel
theorem dX6_unlike_8 : decode cX6_unlike 8 = .ok (.aload_n 0, 1) := by decide +kernel
theorem dX6_unlike_9 : decode cX6_unlike 9 = .ok (.iload_n 2, 1) := by decide +kernel
theorem dX6_unlike_10 : decode cX6_unlike 10 = .ok (.invokevirtual 212, 3) := by decide +kernel
theorem dX6_unlike_13 : decode cX6_unlike 13 = .ok (.ifCond .eq 33, 3) := by decide +kernel
theorem dX6_unlike_16 : decode cX6_unlike 16 = .ok (.iload_n 3, 1) := by decide +kernel
theorem dX6_unlike_17 : decode cX6_unlike 17 = .ok (.invokestatic 262, 3) := by decide +kernel
theorem dX6_unlike_20 : decode cX6_unlike 20 = .ok (.ifCond .eq 26, 3) := by decide +kernel
theorem dX6_unlike_23 : decode cX6_unlike 23 = .ok (.iload 4, 2) := by decide +kernel
theorem dX6_unlike_25 : decode cX6_unlike 25 = .ok (.invokestatic 262, 3) := by decide +kernel
theorem dX6_unlike_28 : decode cX6_unlike 28 = .ok (.ifCond .eq 18, 3) := by decide +kernel
theorem dX6_unlike_31 : decode cX6_unlike 31 = .ok (.iload_n 3, 1) := by decide +kernel
theorem dX6_unlike_32 : decode cX6_unlike 32 = .ok (.iload 4, 2) := by decide +kernel
theorem dX6_unlike_34 : decode cX6_unlike 34 = .ok (.if_icmp .gt 12, 3) := by decide +kernel
theorem dX6_unlike_37 : decode cX6_unlike 37 = .ok (.aload_n 0, 1) := by decide +kernel
theorem dX6_unlike_38 : decode cX6_unlike 38 = .ok (.iload 5, 2) := by decide +kernel
theorem dX6_unlike_40 : decode cX6_unlike 40 = .ok (.invokevirtual 283, 3) := by decide +kernel
theorem dX6_unlike_43 : decode cX6_unlike 43 = .ok (.ifCond .ne 5, 3) := by decide +kernel
theorem dX6_unlike_46 : decode cX6_unlike 46 = .ok (.iconst (-1), 1) := by decide +kernel
theorem dX6_unlike_47 : decode cX6_unlike 47 = .ok (.ireturn, 1) := by decide +kernel
theorem dX6_unlike_48 : decode cX6_unlike 48 = .ok (.aload_n 0, 1) := by decide +kernel
theorem dX6_unlike_49 : decode cX6_unlike 49 = .ok (.iload 5, 2) := by decide +kernel
theorem dX6_unlike_51 : decode cX6_unlike 51 = .ok (.invokevirtual 320, 3) := by decide +kernel
theorem dX6_unlike_54 : decode cX6_unlike 54 = .ok (.iconst 0, 1) := by decide +kernel
theorem dX6_unlike_55 : decode cX6_unlike 55 = .ok (.istore 6, 2) := by decide +kernel
theorem dX6_unlike_57 : decode cX6_unlike 57 = .ok (.iload_n 3, 1) := by decide +kernel
theorem dX6_unlike_58 : decode cX6_unlike 58 = .ok (.istore 7, 2) := by decide +kernel
theorem dX6_unlike_60 : decode cX6_unlike 60 = .ok (.iload 7, 2) := by decide +kernel
theorem dX6_unlike_62 : decode cX6_unlike 62 = .ok (.iload 4, 2) := by decide +kernel
theorem dX6_unlike_64 : decode cX6_unlike 64 = .ok (.if_icmp .gt 29, 3) := by decide +kernel
theorem dX6_unlike_67 : decode cX6_unlike 67 = .ok (.aload_n 0, 1) := by decide +kernel
theorem dX6_unlike_68 : decode cX6_unlike 68 = .ok (.iload_n 1, 1) := by decide +kernel
theorem dX6_unlike_69 : decode cX6_unlike 69 = .ok (.iload 7, 2) := by decide +kernel
theorem dX6_unlike_71 : decode cX6_unlike 71 = .ok (.invokevirtual 326, 3) := by decide +kernel
theorem dX6_unlike_74 : decode cX6_unlike 74 = .ok (.aload_n 0, 1) := by decide +kernel
theorem dX6_unlike_75 : decode cX6_unlike 75 = .ok (.iload_n 2, 1) := by decide +kernel
theorem dX6_unlike_76 : decode cX6_unlike 76 = .ok (.iload 7, 2) := by decide +kernel
theorem dX6_unlike_78 : decode cX6_unlike 78 = .ok (.invokevirtual 326, 3) := by decide +kernel
theorem dX6_unlike_81 : decode cX6_unlike 81 = .ok (.if_icmp .eq 6, 3) := by decide +kernel
theorem dX6_unlike_84 : decode cX6_unlike 84 = .ok (.iinc 6 1, 3) := by decide +kernel
theorem dX6_unlike_87 : decode cX6_unlike 87 = .ok (.iinc 7 1, 3) := by decide +kernel
theorem dX6_unlike_90 : decode cX6_unlike 90 = .ok (.goto (-30), 3) := by decide +kernel
theorem dX6_unlike_93 : decode cX6_unlike 93 = .ok (.iload 6, 2) := by decide +kernel
theorem dX6_unlike_95 : decode cX6_unlike 95 = .ok (.ireturn, 1) := by decide +kernel
set_option maxRecDepth 20000 in
theorem ggX6_changed_X6_isLand : GoodIn wsX6_changed wsX6_isLand := goodIn_r _ [6, 7, 103, 104, 105, 106, 107, 108, 109, 110, 111, 112, 113, 114, 115, 116, 117, 118, 119, 120, 121, 122, 123, 124, 125, 126, 127, 128, 129, 130, 131, 132, 133, 134, 135, 136, 137, 138, 139, 140, 141, 142, 143, 144, 145, 146, 147, 148, 149, 150, 151, 152, 153, 154, 155, 156, 157, 158, 159, 160, 161, 162] (by decide +kernel) (by decide +kernel)
set_option maxRecDepth 20000 in
theorem gX6_changed_X6_isLand : GoodIn wsX6_changed (wsV RX6 212 RX6 yX6_isLand wsX6_isLand) := goodIn_app (goodIn_of _ (by decide +kernel)) ggX6_changed_X6_isLand
set_option maxRecDepth 20000 in
theorem ggX6_changed_X6_isKnown : GoodIn wsX6_changed wsX6_isKnown := goodIn_r _ [11, 12, 103, 104, 105, 106, 107, 108, 109, 110, 111, 112, 113, 114, 115, 116, 117, 118, 119, 120, 121, 122, 123, 124, 125, 126, 127, 128, 129, 130, 131, 132, 133, 134, 135, 136, 137, 138, 139, 140, 141, 142, 143, 144, 145, 146, 147, 148, 149, 150, 151, 152, 153, 154, 155, 156, 157, 158, 159, 160, 161, 162] (by decide +kernel) (by decide +kernel)
set_option maxRecDepth 20000 in
theorem gX6_changed_X6_isKnown : GoodIn wsX6_changed (wsV RX6 283 RX6 yX6_isKnown wsX6_isKnown) := goodIn_app (goodIn_of _ (by decide +kernel)) ggX6_changed_X6_isKnown
set_option maxRecDepth 20000 in
theorem ggX6_changed_X6_goes : GoodIn wsX6_changed wsX6_goes := goodIn_r _ [16, 17, 18, 7, 19, 20, 21, 5, 22, 23, 24, 25, 26, 27, 28, 29, 30, 31, 32, 33, 34, 35, 36, 37, 38, 39, 40, 41, 42, 43, 44, 45, 46, 47, 48, 49, 50, 51, 52, 53, 54, 55, 56, 57, 58, 59, 60, 61, 62, 63, 64, 65, 66, 67, 68, 69, 70, 71, 72, 73, 74, 75, 76, 77, 78, 79, 80, 81, 82, 83, 84, 85, 86, 87, 88, 89, 90, 91, 92, 93, 94, 95, 96, 97, 98, 103, 104, 105, 106, 107, 108, 109, 110, 111, 112, 113, 114, 115, 116, 117, 118, 119, 120, 121, 122, 123, 124, 125, 126, 127, 128, 129, 130, 131, 132, 133, 134, 135, 136, 137, 138, 139, 140, 141, 142, 143, 144, 145, 146, 147, 148, 149, 150, 151, 152, 153, 154, 155, 156, 157, 158, 159, 160, 161, 162] (by decide +kernel) (by decide +kernel)
set_option maxRecDepth 20000 in
theorem gX6_changed_X6_goes : GoodIn wsX6_changed (wsV RX6 320 RX6 yX6_goes wsX6_goes) := goodIn_app (goodIn_of _ (by decide +kernel)) ggX6_changed_X6_goes
set_option maxRecDepth 20000 in
theorem ggX6_changed_X6_beginOf : GoodIn wsX6_changed wsX6_beginOf := goodIn_r _ [102, 18, 24, 103, 104, 105, 106, 107, 108, 109, 110, 111, 112, 113, 114, 115, 116, 117, 118, 119, 120, 121, 122, 123, 124, 125, 126, 127, 128, 129, 130, 131, 132, 133, 134, 135, 136, 137, 138, 139, 140, 141, 142, 143, 144, 145, 146, 147, 148, 149, 150, 151, 152, 153, 154, 155, 156, 157, 158, 159, 160, 161, 162] (by decide +kernel) (by decide +kernel)
set_option maxRecDepth 20000 in
theorem gX6_changed_X6_beginOf : GoodIn wsX6_changed (wsV RX6 323 RX6 yX6_beginOf wsX6_beginOf) := goodIn_app (goodIn_of _ (by decide +kernel)) ggX6_changed_X6_beginOf
theorem dX6_changed_0 : decode cX6_changed 0 = .ok (.aload_n 0, 1) := by decide +kernel
theorem dX6_changed_1 : decode cX6_changed 1 = .ok (.iload_n 1, 1) := by decide +kernel
theorem dX6_changed_2 : decode cX6_changed 2 = .ok (.invokevirtual 212, 3) := by decide +kernel
theorem dX6_changed_5 : decode cX6_changed 5 = .ok (.ifCond .eq 19, 3) := by decide +kernel
theorem dX6_changed_8 : decode cX6_changed 8 = .ok (.aload_n 0, 1) := by decide +kernel
theorem dX6_changed_9 : decode cX6_changed 9 = .ok (.iload_n 2, 1) := by decide +kernel
theorem dX6_changed_10 : decode cX6_changed 10 = .ok (.invokevirtual 283, 3) := by decide +kernel
theorem dX6_changed_13 : decode cX6_changed 13 = .ok (.ifCond .eq 11, 3) := by decide +kernel
theorem dX6_changed_16 : decode cX6_changed 16 = .ok (.aload_n 0, 1) := by decide +kernel
theorem dX6_changed_17 : decode cX6_changed 17 = .ok (.iload_n 3, 1) := by decide +kernel
theorem dX6_changed_18 : decode cX6_changed 18 = .ok (.invokevirtual 283, 3) := by decide +kernel
theorem dX6_changed_21 : decode cX6_changed 21 = .ok (.ifCond .ne 5, 3) := by decide +kernel
theorem dX6_changed_24 : decode cX6_changed 24 = .ok (.iconst (-1), 1) := by decide +kernel
theorem dX6_changed_25 : decode cX6_changed 25 = .ok (.ireturn, 1) := by decide +kernel
theorem dX6_changed_26 : decode cX6_changed 26 = .ok (.aload_n 0, 1) := by decide +kernel
theorem dX6_changed_27 : decode cX6_changed 27 = .ok (.iload_n 2, 1) := by decide +kernel
theorem dX6_changed_28 : decode cX6_changed 28 = .ok (.invokevirtual 320, 3) := by decide +kernel
theorem dX6_changed_31 : decode cX6_changed 31 = .ok (.iconst 1, 1) := by decide +kernel
theorem dX6_changed_32 : decode cX6_changed 32 = .ok (.istore 4, 2) := by decide +kernel
theorem dX6_changed_34 : decode cX6_changed 34 = .ok (.iload 4, 2) := by decide +kernel
theorem dX6_changed_36 : decode cX6_changed 36 = .ok (.bipush 15, 2) := by decide +kernel
theorem dX6_changed_38 : decode cX6_changed 38 = .ok (.if_icmp .ge 23, 3) := by decide +kernel
theorem dX6_changed_41 : decode cX6_changed 41 = .ok (.aload_n 0, 1) := by decide +kernel
theorem dX6_changed_42 : decode cX6_changed 42 = .ok (.getfield 143, 3) := by decide +kernel
theorem dX6_changed_45 : decode cX6_changed 45 = .ok (.iload 4, 2) := by decide +kernel
theorem dX6_changed_47 : decode cX6_changed 47 = .ok (.aload_n 0, 1) := by decide +kernel
theorem dX6_changed_48 : decode cX6_changed 48 = .ok (.iload_n 1, 1) := by decide +kernel
theorem dX6_changed_49 : decode cX6_changed 49 = .ok (.iload 4, 2) := by decide +kernel
theorem dX6_changed_51 : decode cX6_changed 51 = .ok (.invokevirtual 323, 3) := by decide +kernel
theorem dX6_changed_54 : decode cX6_changed 54 = .ok (.iastore, 1) := by decide +kernel
theorem dX6_changed_55 : decode cX6_changed 55 = .ok (.iinc 4 1, 3) := by decide +kernel
theorem dX6_changed_58 : decode cX6_changed 58 = .ok (.goto (-24), 3) := by decide +kernel
theorem dX6_changed_61 : decode cX6_changed 61 = .ok (.aload_n 0, 1) := by decide +kernel
theorem dX6_changed_62 : decode cX6_changed 62 = .ok (.iload_n 3, 1) := by decide +kernel
theorem dX6_changed_63 : decode cX6_changed 63 = .ok (.invokevirtual 320, 3) := by decide +kernel
theorem dX6_changed_66 : decode cX6_changed 66 = .ok (.iconst 1, 1) := by decide +kernel
theorem dX6_changed_67 : decode cX6_changed 67 = .ok (.istore 4, 2) := by decide +kernel
theorem dX6_changed_69 : decode cX6_changed 69 = .ok (.iload 4, 2) := by decide +kernel
theorem dX6_changed_71 : decode cX6_changed 71 = .ok (.bipush 15, 2) := by decide +kernel
theorem dX6_changed_73 : decode cX6_changed 73 = .ok (.if_icmp .ge 29, 3) := by decide +kernel
theorem dX6_changed_76 : decode cX6_changed 76 = .ok (.aload_n 0, 1) := by decide +kernel
theorem dX6_changed_77 : decode cX6_changed 77 = .ok (.iload_n 1, 1) := by decide +kernel
theorem dX6_changed_78 : decode cX6_changed 78 = .ok (.iload 4, 2) := by decide +kernel
theorem dX6_changed_80 : decode cX6_changed 80 = .ok (.invokevirtual 323, 3) := by decide +kernel
theorem dX6_changed_83 : decode cX6_changed 83 = .ok (.aload_n 0, 1) := by decide +kernel
theorem dX6_changed_84 : decode cX6_changed 84 = .ok (.getfield 143, 3) := by decide +kernel
theorem dX6_changed_87 : decode cX6_changed 87 = .ok (.iload 4, 2) := by decide +kernel
theorem dX6_changed_89 : decode cX6_changed 89 = .ok (.iaload, 1) := by decide +kernel
theorem dX6_changed_90 : decode cX6_changed 90 = .ok (.if_icmp .eq 6, 3) := by decide +kernel
theorem dX6_changed_93 : decode cX6_changed 93 = .ok (.iload 4, 2) := by decide +kernel
theorem dX6_changed_95 : decode cX6_changed 95 = .ok (.ireturn, 1) := by decide +kernel
theorem dX6_changed_96 : decode cX6_changed 96 = .ok (.iinc 4 1, 3) := by decide +kernel
theorem dX6_changed_99 : decode cX6_changed 99 = .ok (.goto (-30), 3) := by decide +kernel
theorem dX6_changed_102 : decode cX6_changed 102 = .ok (.iconst (-1), 1) := by decide +kernel
theorem dX6_changed_103 : decode cX6_changed 103 = .ok (.ireturn, 1) := by decide +kernel
theorem dX6_count_0 : decode cX6_count 0 = .ok (.iload_n 1, 1) := by decide +kernel
theorem dX6_count_1 : decode cX6_count 1 = .ok (.tableswitch 102 0 5 #[39, 44, 49, 54, 59, 97], 39) := by decide +kernel
theorem dX6_count_40 : decode cX6_count 40 = .ok (.aload_n 0, 1) := by decide +kernel
theorem dX6_count_41 : decode cX6_count 41 = .ok (.getfield 250, 3) := by decide +kernel
theorem dX6_count_44 : decode cX6_count 44 = .ok (.ireturn, 1) := by decide +kernel
theorem dX6_count_45 : decode cX6_count 45 = .ok (.aload_n 0, 1) := by decide +kernel
theorem dX6_count_46 : decode cX6_count 46 = .ok (.getfield 259, 3) := by decide +kernel
theorem dX6_count_49 : decode cX6_count 49 = .ok (.ireturn, 1) := by decide +kernel
theorem dX6_count_50 : decode cX6_count 50 = .ok (.aload_n 0, 1) := by decide +kernel
theorem dX6_count_51 : decode cX6_count 51 = .ok (.getfield 253, 3) := by decide +kernel
theorem dX6_count_54 : decode cX6_count 54 = .ok (.ireturn, 1) := by decide +kernel
theorem dX6_count_55 : decode cX6_count 55 = .ok (.aload_n 0, 1) := by decide +kernel
theorem dX6_count_56 : decode cX6_count 56 = .ok (.getfield 256, 3) := by decide +kernel
theorem dX6_count_59 : decode cX6_count 59 = .ok (.ireturn, 1) := by decide +kernel
theorem dX6_count_60 : decode cX6_count 60 = .ok (.iconst 0, 1) := by decide +kernel
theorem dX6_count_61 : decode cX6_count 61 = .ok (.istore_n 2, 1) := by decide +kernel
theorem dX6_count_62 : decode cX6_count 62 = .ok (.iconst 0, 1) := by decide +kernel
theorem dX6_count_63 : decode cX6_count 63 = .ok (.istore_n 3, 1) := by decide +kernel
theorem dX6_count_64 : decode cX6_count 64 = .ok (.iload_n 3, 1) := by decide +kernel
theorem dX6_count_65 : decode cX6_count 65 = .ok (.aload_n 0, 1) := by decide +kernel
theorem dX6_count_66 : decode cX6_count 66 = .ok (.getfield 250, 3) := by decide +kernel
theorem dX6_count_69 : decode cX6_count 69 = .ok (.if_icmp .ge 27, 3) := by decide +kernel
theorem dX6_count_72 : decode cX6_count 72 = .ok (.iload_n 2, 1) := by decide +kernel
theorem dX6_count_73 : decode cX6_count 73 = .ok (.aload_n 0, 1) := by decide +kernel
theorem dX6_count_74 : decode cX6_count 74 = .ok (.getfield 43, 3) := by decide +kernel
theorem dX6_count_77 : decode cX6_count 77 = .ok (.iconst 2, 1) := by decide +kernel
theorem dX6_count_78 : decode cX6_count 78 = .ok (.iload_n 3, 1) := by decide +kernel
theorem dX6_count_79 : decode cX6_count 79 = .ok (.imul, 1) := by decide +kernel
theorem dX6_count_80 : decode cX6_count 80 = .ok (.aload_n 0, 1) := by decide +kernel
theorem dX6_count_81 : decode cX6_count 81 = .ok (.getfield 40, 3) := by decide +kernel
theorem dX6_count_84 : decode cX6_count 84 = .ok (.iload_n 3, 1) := by decide +kernel
theorem dX6_count_85 : decode cX6_count 85 = .ok (.iaload, 1) := by decide +kernel
theorem dX6_count_86 : decode cX6_count 86 = .ok (.iadd, 1) := by decide +kernel
theorem dX6_count_87 : decode cX6_count 87 = .ok (.iaload, 1) := by decide +kernel
theorem dX6_count_88 : decode cX6_count 88 = .ok (.iadd, 1) := by decide +kernel
theorem dX6_count_89 : decode cX6_count 89 = .ok (.istore_n 2, 1) := by decide +kernel
theorem dX6_count_90 : decode cX6_count 90 = .ok (.iinc 3 1, 3) := by decide +kernel
theorem dX6_count_93 : decode cX6_count 93 = .ok (.goto (-29), 3) := by decide +kernel
theorem dX6_count_96 : decode cX6_count 96 = .ok (.iload_n 2, 1) := by decide +kernel
theorem dX6_count_97 : decode cX6_count 97 = .ok (.ireturn, 1) := by decide +kernel
theorem dX6_count_98 : decode cX6_count 98 = .ok (.aload_n 0, 1) := by decide +kernel
theorem dX6_count_99 : decode cX6_count 99 = .ok (.getfield 150, 3) := by decide +kernel
theorem dX6_count_102 : decode cX6_count 102 = .ok (.ireturn, 1) := by decide +kernel
theorem dX6_count_103 : decode cX6_count 103 = .ok (.iconst (-1), 1) := by decide +kernel
theorem dX6_count_104 : decode cX6_count 104 = .ok (.ireturn, 1) := by decide +kernel
